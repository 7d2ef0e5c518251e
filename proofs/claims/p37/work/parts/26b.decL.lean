theorem dL_act_0 : decode cL_act 0 = .ok (.aload_n 0, 1) := by decide +kernel
theorem dL_act_1 : decode cL_act 1 = .ok (.iconst 0, 1) := by decide +kernel
theorem dL_act_2 : decode cL_act 2 = .ok (.invokevirtual 13, 3) := by decide +kernel
theorem dL_act_5 : decode cL_act 5 = .ok (.ifCond .eq 11, 3) := by decide +kernel
theorem dL_act_8 : decode cL_act 8 = .ok (.aload_n 0, 1) := by decide +kernel
theorem dL_act_9 : decode cL_act 9 = .ok (.iconst 1, 1) := by decide +kernel
theorem dL_act_10 : decode cL_act 10 = .ok (.invokevirtual 13, 3) := by decide +kernel
theorem dL_act_13 : decode cL_act 13 = .ok (.ifCond .ne 36, 3) := by decide +kernel
theorem dL_act_16 : decode cL_act 16 = .ok (.iconst 1, 1) := by decide +kernel
theorem dL_act_17 : decode cL_act 17 = .ok (.aload_n 0, 1) := by decide +kernel
theorem dL_act_18 : decode cL_act 18 = .ok (.iconst 0, 1) := by decide +kernel
theorem dL_act_19 : decode cL_act 19 = .ok (.invokevirtual 13, 3) := by decide +kernel
theorem dL_act_22 : decode cL_act 22 = .ok (.ifCond .ne 20, 3) := by decide +kernel
theorem dL_act_25 : decode cL_act 25 = .ok (.aload_n 0, 1) := by decide +kernel
theorem dL_act_26 : decode cL_act 26 = .ok (.bipush 20, 2) := by decide +kernel
theorem dL_act_28 : decode cL_act 28 = .ok (.iload_n 2, 1) := by decide +kernel
theorem dL_act_29 : decode cL_act 29 = .ok (.sipush 281, 3) := by decide +kernel
theorem dL_act_32 : decode cL_act 32 = .ok (.invokestatic 39, 3) := by decide +kernel
theorem dL_act_35 : decode cL_act 35 = .ok (.iadd, 1) := by decide +kernel
theorem dL_act_36 : decode cL_act 36 = .ok (.invokevirtual 44, 3) := by decide +kernel
theorem dL_act_39 : decode cL_act 39 = .ok (.goto 8, 3) := by decide +kernel
theorem dL_act_42 : decode cL_act 42 = .ok (.aload_n 0, 1) := by decide +kernel
theorem dL_act_43 : decode cL_act 43 = .ok (.iconst 0, 1) := by decide +kernel
theorem dL_act_44 : decode cL_act 44 = .ok (.invokevirtual 47, 3) := by decide +kernel
theorem dL_act_47 : decode cL_act 47 = .ok (.iadd, 1) := by decide +kernel
theorem dL_act_48 : decode cL_act 48 = .ok (.ireturn, 1) := by decide +kernel
theorem dL_act_49 : decode cL_act 49 = .ok (.iload_n 2, 1) := by decide +kernel
theorem dL_act_50 : decode cL_act 50 = .ok (.aload_n 0, 1) := by decide +kernel
theorem dL_act_51 : decode cL_act 51 = .ok (.iconst 0, 1) := by decide +kernel
theorem dL_act_52 : decode cL_act 52 = .ok (.invokevirtual 13, 3) := by decide +kernel
theorem dL_act_55 : decode cL_act 55 = .ok (.invokestatic 39, 3) := by decide +kernel
theorem dL_act_58 : decode cL_act 58 = .ok (.istore_n 3, 1) := by decide +kernel
theorem dL_act_59 : decode cL_act 59 = .ok (.iload_n 2, 1) := by decide +kernel
theorem dL_act_60 : decode cL_act 60 = .ok (.iconst 3, 1) := by decide +kernel
theorem dL_act_61 : decode cL_act 61 = .ok (.ishr, 1) := by decide +kernel
theorem dL_act_62 : decode cL_act 62 = .ok (.aload_n 0, 1) := by decide +kernel
theorem dL_act_63 : decode cL_act 63 = .ok (.iconst 1, 1) := by decide +kernel
theorem dL_act_64 : decode cL_act 64 = .ok (.invokevirtual 13, 3) := by decide +kernel
theorem dL_act_67 : decode cL_act 67 = .ok (.invokestatic 39, 3) := by decide +kernel
theorem dL_act_70 : decode cL_act 70 = .ok (.istore 4, 2) := by decide +kernel
theorem dL_act_72 : decode cL_act 72 = .ok (.iload_n 2, 1) := by decide +kernel
theorem dL_act_73 : decode cL_act 73 = .ok (.bipush 6, 2) := by decide +kernel
theorem dL_act_75 : decode cL_act 75 = .ok (.ishr, 1) := by decide +kernel
theorem dL_act_76 : decode cL_act 76 = .ok (.iconst 3, 1) := by decide +kernel
theorem dL_act_77 : decode cL_act 77 = .ok (.invokestatic 39, 3) := by decide +kernel
theorem dL_act_80 : decode cL_act 80 = .ok (.istore 5, 2) := by decide +kernel
theorem dL_act_82 : decode cL_act 82 = .ok (.iload_n 1, 1) := by decide +kernel
theorem dL_act_83 : decode cL_act 83 = .ok (.bipush 20, 2) := by decide +kernel
theorem dL_act_85 : decode cL_act 85 = .ok (.invokestatic 39, 3) := by decide +kernel
theorem dL_act_88 : decode cL_act 88 = .ok (.tableswitch 445 0 14 #[76, 118, 133, 133, 160, 184, 224, 224, 224, 295, 295, 324, 353, 378, 423], 76) := by decide +kernel
theorem dL_act_164 : decode cL_act 164 = .ok (.iconst 1, 1) := by decide +kernel
theorem dL_act_165 : decode cL_act 165 = .ok (.aload_n 0, 1) := by decide +kernel
theorem dL_act_166 : decode cL_act 166 = .ok (.iconst 0, 1) := by decide +kernel
theorem dL_act_167 : decode cL_act 167 = .ok (.invokevirtual 13, 3) := by decide +kernel
theorem dL_act_170 : decode cL_act 170 = .ok (.bipush 6, 2) := by decide +kernel
theorem dL_act_172 : decode cL_act 172 = .ok (.if_icmp .ne 18, 3) := by decide +kernel
theorem dL_act_175 : decode cL_act 175 = .ok (.aload_n 0, 1) := by decide +kernel
theorem dL_act_176 : decode cL_act 176 = .ok (.iconst 1, 1) := by decide +kernel
theorem dL_act_177 : decode cL_act 177 = .ok (.iload_n 2, 1) := by decide +kernel
theorem dL_act_178 : decode cL_act 178 = .ok (.bipush 99, 2) := by decide +kernel
theorem dL_act_180 : decode cL_act 180 = .ok (.invokestatic 39, 3) := by decide +kernel
theorem dL_act_183 : decode cL_act 183 = .ok (.iadd, 1) := by decide +kernel
theorem dL_act_184 : decode cL_act 184 = .ok (.invokevirtual 50, 3) := by decide +kernel
theorem dL_act_187 : decode cL_act 187 = .ok (.goto 17, 3) := by decide +kernel
theorem dL_act_190 : decode cL_act 190 = .ok (.aload_n 0, 1) := by decide +kernel
theorem dL_act_191 : decode cL_act 191 = .ok (.bipush 20, 2) := by decide +kernel
theorem dL_act_193 : decode cL_act 193 = .ok (.iload_n 2, 1) := by decide +kernel
theorem dL_act_194 : decode cL_act 194 = .ok (.sipush 281, 3) := by decide +kernel
theorem dL_act_197 : decode cL_act 197 = .ok (.invokestatic 39, 3) := by decide +kernel
theorem dL_act_200 : decode cL_act 200 = .ok (.iadd, 1) := by decide +kernel
theorem dL_act_201 : decode cL_act 201 = .ok (.invokevirtual 44, 3) := by decide +kernel
theorem dL_act_204 : decode cL_act 204 = .ok (.iadd, 1) := by decide +kernel
theorem dL_act_205 : decode cL_act 205 = .ok (.ireturn, 1) := by decide +kernel
theorem dL_act_206 : decode cL_act 206 = .ok (.iconst 1, 1) := by decide +kernel
theorem dL_act_207 : decode cL_act 207 = .ok (.aload_n 0, 1) := by decide +kernel
theorem dL_act_208 : decode cL_act 208 = .ok (.iconst 1, 1) := by decide +kernel
theorem dL_act_209 : decode cL_act 209 = .ok (.iload_n 2, 1) := by decide +kernel
theorem dL_act_210 : decode cL_act 210 = .ok (.bipush 99, 2) := by decide +kernel
theorem dL_act_212 : decode cL_act 212 = .ok (.invokestatic 39, 3) := by decide +kernel
theorem dL_act_215 : decode cL_act 215 = .ok (.iadd, 1) := by decide +kernel
theorem dL_act_216 : decode cL_act 216 = .ok (.invokevirtual 50, 3) := by decide +kernel
theorem dL_act_219 : decode cL_act 219 = .ok (.iadd, 1) := by decide +kernel
theorem dL_act_220 : decode cL_act 220 = .ok (.ireturn, 1) := by decide +kernel
theorem dL_act_221 : decode cL_act 221 = .ok (.iconst 1, 1) := by decide +kernel
theorem dL_act_222 : decode cL_act 222 = .ok (.aload_n 0, 1) := by decide +kernel
theorem dL_act_223 : decode cL_act 223 = .ok (.iconst 1, 1) := by decide +kernel
theorem dL_act_224 : decode cL_act 224 = .ok (.invokevirtual 13, 3) := by decide +kernel
theorem dL_act_227 : decode cL_act 227 = .ok (.bipush 8, 2) := by decide +kernel
theorem dL_act_229 : decode cL_act 229 = .ok (.if_icmp .ne 12, 3) := by decide +kernel
theorem dL_act_232 : decode cL_act 232 = .ok (.aload_n 0, 1) := by decide +kernel
theorem dL_act_233 : decode cL_act 233 = .ok (.iload 4, 2) := by decide +kernel
theorem dL_act_235 : decode cL_act 235 = .ok (.invokevirtual 53, 3) := by decide +kernel
theorem dL_act_238 : decode cL_act 238 = .ok (.goto 8, 3) := by decide +kernel
theorem dL_act_241 : decode cL_act 241 = .ok (.aload_n 0, 1) := by decide +kernel
theorem dL_act_242 : decode cL_act 242 = .ok (.iload_n 3, 1) := by decide +kernel
theorem dL_act_243 : decode cL_act 243 = .ok (.invokevirtual 47, 3) := by decide +kernel
theorem dL_act_246 : decode cL_act 246 = .ok (.iadd, 1) := by decide +kernel
theorem dL_act_247 : decode cL_act 247 = .ok (.ireturn, 1) := by decide +kernel
theorem dL_act_248 : decode cL_act 248 = .ok (.iconst 1, 1) := by decide +kernel
theorem dL_act_249 : decode cL_act 249 = .ok (.iload_n 2, 1) := by decide +kernel
theorem dL_act_250 : decode cL_act 250 = .ok (.iconst 3, 1) := by decide +kernel
theorem dL_act_251 : decode cL_act 251 = .ok (.iand, 1) := by decide +kernel
theorem dL_act_252 : decode cL_act 252 = .ok (.ifCond .ne 12, 3) := by decide +kernel
theorem dL_act_255 : decode cL_act 255 = .ok (.aload_n 0, 1) := by decide +kernel
theorem dL_act_256 : decode cL_act 256 = .ok (.iload 4, 2) := by decide +kernel
theorem dL_act_258 : decode cL_act 258 = .ok (.invokevirtual 53, 3) := by decide +kernel
theorem dL_act_261 : decode cL_act 261 = .ok (.goto 9, 3) := by decide +kernel
theorem dL_act_264 : decode cL_act 264 = .ok (.aload_n 0, 1) := by decide +kernel
theorem dL_act_265 : decode cL_act 265 = .ok (.iload 5, 2) := by decide +kernel
theorem dL_act_267 : decode cL_act 267 = .ok (.invokevirtual 56, 3) := by decide +kernel
theorem dL_act_270 : decode cL_act 270 = .ok (.iadd, 1) := by decide +kernel
theorem dL_act_271 : decode cL_act 271 = .ok (.ireturn, 1) := by decide +kernel
theorem dL_act_272 : decode cL_act 272 = .ok (.iconst 1, 1) := by decide +kernel
theorem dL_act_273 : decode cL_act 273 = .ok (.aload_n 0, 1) := by decide +kernel
theorem dL_act_274 : decode cL_act 274 = .ok (.iload 5, 2) := by decide +kernel
theorem dL_act_276 : decode cL_act 276 = .ok (.iload_n 2, 1) := by decide +kernel
theorem dL_act_277 : decode cL_act 277 = .ok (.iconst 1, 1) := by decide +kernel
theorem dL_act_278 : decode cL_act 278 = .ok (.iand, 1) := by decide +kernel
theorem dL_act_279 : decode cL_act 279 = .ok (.ifCond .ne 15, 3) := by decide +kernel
theorem dL_act_282 : decode cL_act 282 = .ok (.iload_n 2, 1) := by decide +kernel
theorem dL_act_283 : decode cL_act 283 = .ok (.iconst 1, 1) := by decide +kernel
theorem dL_act_284 : decode cL_act 284 = .ok (.ishr, 1) := by decide +kernel
theorem dL_act_285 : decode cL_act 285 = .ok (.sipush 901, 3) := by decide +kernel
theorem dL_act_288 : decode cL_act 288 = .ok (.invokestatic 39, 3) := by decide +kernel
theorem dL_act_291 : decode cL_act 291 = .ok (.goto 16, 3) := by decide +kernel
theorem dL_act_294 : decode cL_act 294 = .ok (.sipush 180, 3) := by decide +kernel
theorem dL_act_297 : decode cL_act 297 = .ok (.iload_n 2, 1) := by decide +kernel
theorem dL_act_298 : decode cL_act 298 = .ok (.iconst 1, 1) := by decide +kernel
theorem dL_act_299 : decode cL_act 299 = .ok (.ishr, 1) := by decide +kernel
theorem dL_act_300 : decode cL_act 300 = .ok (.sipush 150, 3) := by decide +kernel
theorem dL_act_303 : decode cL_act 303 = .ok (.invokestatic 39, 3) := by decide +kernel
theorem dL_act_306 : decode cL_act 306 = .ok (.iadd, 1) := by decide +kernel
theorem dL_act_307 : decode cL_act 307 = .ok (.invokevirtual 59, 3) := by decide +kernel
theorem dL_act_310 : decode cL_act 310 = .ok (.iadd, 1) := by decide +kernel
theorem dL_act_311 : decode cL_act 311 = .ok (.ireturn, 1) := by decide +kernel
theorem dL_act_312 : decode cL_act 312 = .ok (.iload_n 2, 1) := by decide +kernel
theorem dL_act_313 : decode cL_act 313 = .ok (.bipush 8, 2) := by decide +kernel
theorem dL_act_315 : decode cL_act 315 = .ok (.ishr, 1) := by decide +kernel
theorem dL_act_316 : decode cL_act 316 = .ok (.iconst 4, 1) := by decide +kernel
theorem dL_act_317 : decode cL_act 317 = .ok (.invokestatic 39, 3) := by decide +kernel
theorem dL_act_320 : decode cL_act 320 = .ok (.iconst 1, 1) := by decide +kernel
theorem dL_act_321 : decode cL_act 321 = .ok (.isub, 1) := by decide +kernel
theorem dL_act_322 : decode cL_act 322 = .ok (.istore 6, 2) := by decide +kernel
theorem dL_act_324 : decode cL_act 324 = .ok (.iload 6, 2) := by decide +kernel
theorem dL_act_326 : decode cL_act 326 = .ok (.ifCond .lt 26, 3) := by decide +kernel
theorem dL_act_329 : decode cL_act 329 = .ok (.aload_n 0, 1) := by decide +kernel
theorem dL_act_330 : decode cL_act 330 = .ok (.iload 4, 2) := by decide +kernel
theorem dL_act_332 : decode cL_act 332 = .ok (.iconst 3, 1) := by decide +kernel
theorem dL_act_333 : decode cL_act 333 = .ok (.invokevirtual 23, 3) := by decide +kernel
theorem dL_act_336 : decode cL_act 336 = .ok (.iload 6, 2) := by decide +kernel
theorem dL_act_338 : decode cL_act 338 = .ok (.if_icmp .eq 14, 3) := by decide +kernel
theorem dL_act_341 : decode cL_act 341 = .ok (.aload_n 0, 1) := by decide +kernel
theorem dL_act_342 : decode cL_act 342 = .ok (.iload 6, 2) := by decide +kernel
theorem dL_act_344 : decode cL_act 344 = .ok (.iconst 1, 1) := by decide +kernel
theorem dL_act_345 : decode cL_act 345 = .ok (.invokevirtual 33, 3) := by decide +kernel
theorem dL_act_348 : decode cL_act 348 = .ok (.iconst 3, 1) := by decide +kernel
theorem dL_act_349 : decode cL_act 349 = .ok (.if_icmp .ge 7, 3) := by decide +kernel
theorem dL_act_352 : decode cL_act 352 = .ok (.iconst 1, 1) := by decide +kernel
theorem dL_act_353 : decode cL_act 353 = .ok (.goto 4, 3) := by decide +kernel
theorem dL_act_356 : decode cL_act 356 = .ok (.iconst 0, 1) := by decide +kernel
theorem dL_act_357 : decode cL_act 357 = .ok (.istore 7, 2) := by decide +kernel
theorem dL_act_359 : decode cL_act 359 = .ok (.iconst 1, 1) := by decide +kernel
theorem dL_act_360 : decode cL_act 360 = .ok (.iload 7, 2) := by decide +kernel
theorem dL_act_362 : decode cL_act 362 = .ok (.ifCond .eq 14, 3) := by decide +kernel
theorem dL_act_365 : decode cL_act 365 = .ok (.aload_n 0, 1) := by decide +kernel
theorem dL_act_366 : decode cL_act 366 = .ok (.iload 4, 2) := by decide +kernel
theorem dL_act_368 : decode cL_act 368 = .ok (.iload 6, 2) := by decide +kernel
theorem dL_act_370 : decode cL_act 370 = .ok (.invokevirtual 62, 3) := by decide +kernel
theorem dL_act_373 : decode cL_act 373 = .ok (.goto 8, 3) := by decide +kernel
theorem dL_act_376 : decode cL_act 376 = .ok (.aload_n 0, 1) := by decide +kernel
theorem dL_act_377 : decode cL_act 377 = .ok (.iconst 2, 1) := by decide +kernel
theorem dL_act_378 : decode cL_act 378 = .ok (.invokevirtual 65, 3) := by decide +kernel
theorem dL_act_381 : decode cL_act 381 = .ok (.iadd, 1) := by decide +kernel
theorem dL_act_382 : decode cL_act 382 = .ok (.ireturn, 1) := by decide +kernel
theorem dL_act_383 : decode cL_act 383 = .ok (.iconst 1, 1) := by decide +kernel
theorem dL_act_384 : decode cL_act 384 = .ok (.aload_n 0, 1) := by decide +kernel
theorem dL_act_385 : decode cL_act 385 = .ok (.iconst 1, 1) := by decide +kernel
theorem dL_act_386 : decode cL_act 386 = .ok (.iload_n 2, 1) := by decide +kernel
theorem dL_act_387 : decode cL_act 387 = .ok (.iload_n 2, 1) := by decide +kernel
theorem dL_act_388 : decode cL_act 388 = .ok (.bipush 9, 2) := by decide +kernel
theorem dL_act_390 : decode cL_act 390 = .ok (.ishr, 1) := by decide +kernel
theorem dL_act_391 : decode cL_act 391 = .ok (.iconst 1, 1) := by decide +kernel
theorem dL_act_392 : decode cL_act 392 = .ok (.iand, 1) := by decide +kernel
theorem dL_act_393 : decode cL_act 393 = .ok (.ifCond .ne 8, 3) := by decide +kernel
theorem dL_act_396 : decode cL_act 396 = .ok (.bipush 99, 2) := by decide +kernel
theorem dL_act_398 : decode cL_act 398 = .ok (.goto 5, 3) := by decide +kernel
theorem dL_act_401 : decode cL_act 401 = .ok (.bipush 12, 2) := by decide +kernel
theorem dL_act_403 : decode cL_act 403 = .ok (.invokestatic 39, 3) := by decide +kernel
theorem dL_act_406 : decode cL_act 406 = .ok (.iadd, 1) := by decide +kernel
theorem dL_act_407 : decode cL_act 407 = .ok (.invokevirtual 65, 3) := by decide +kernel
theorem dL_act_410 : decode cL_act 410 = .ok (.iadd, 1) := by decide +kernel
theorem dL_act_411 : decode cL_act 411 = .ok (.ireturn, 1) := by decide +kernel
theorem dL_act_412 : decode cL_act 412 = .ok (.iconst 1, 1) := by decide +kernel
theorem dL_act_413 : decode cL_act 413 = .ok (.aload_n 0, 1) := by decide +kernel
theorem dL_act_414 : decode cL_act 414 = .ok (.iload 4, 2) := by decide +kernel
theorem dL_act_416 : decode cL_act 416 = .ok (.iconst 3, 1) := by decide +kernel
theorem dL_act_417 : decode cL_act 417 = .ok (.invokevirtual 23, 3) := by decide +kernel
theorem dL_act_420 : decode cL_act 420 = .ok (.ifCond .lt 13, 3) := by decide +kernel
theorem dL_act_423 : decode cL_act 423 = .ok (.aload_n 0, 1) := by decide +kernel
theorem dL_act_424 : decode cL_act 424 = .ok (.iload 4, 2) := by decide +kernel
theorem dL_act_426 : decode cL_act 426 = .ok (.iconst (-1), 1) := by decide +kernel
theorem dL_act_427 : decode cL_act 427 = .ok (.invokevirtual 62, 3) := by decide +kernel
theorem dL_act_430 : decode cL_act 430 = .ok (.goto 9, 3) := by decide +kernel
theorem dL_act_433 : decode cL_act 433 = .ok (.aload_n 0, 1) := by decide +kernel
theorem dL_act_434 : decode cL_act 434 = .ok (.iload 4, 2) := by decide +kernel
theorem dL_act_436 : decode cL_act 436 = .ok (.invokevirtual 68, 3) := by decide +kernel
theorem dL_act_439 : decode cL_act 439 = .ok (.iadd, 1) := by decide +kernel
theorem dL_act_440 : decode cL_act 440 = .ok (.ireturn, 1) := by decide +kernel
theorem dL_act_441 : decode cL_act 441 = .ok (.iconst 1, 1) := by decide +kernel
theorem dL_act_442 : decode cL_act 442 = .ok (.aload_n 0, 1) := by decide +kernel
theorem dL_act_443 : decode cL_act 443 = .ok (.iload_n 3, 1) := by decide +kernel
theorem dL_act_444 : decode cL_act 444 = .ok (.invokevirtual 71, 3) := by decide +kernel
theorem dL_act_447 : decode cL_act 447 = .ok (.ifCond .ne 11, 3) := by decide +kernel
theorem dL_act_450 : decode cL_act 450 = .ok (.aload_n 0, 1) := by decide +kernel
theorem dL_act_451 : decode cL_act 451 = .ok (.iload_n 3, 1) := by decide +kernel
theorem dL_act_452 : decode cL_act 452 = .ok (.invokevirtual 74, 3) := by decide +kernel
theorem dL_act_455 : decode cL_act 455 = .ok (.goto 9, 3) := by decide +kernel
theorem dL_act_458 : decode cL_act 458 = .ok (.aload_n 0, 1) := by decide +kernel
theorem dL_act_459 : decode cL_act 459 = .ok (.iload 5, 2) := by decide +kernel
theorem dL_act_461 : decode cL_act 461 = .ok (.invokevirtual 56, 3) := by decide +kernel
theorem dL_act_464 : decode cL_act 464 = .ok (.iadd, 1) := by decide +kernel
theorem dL_act_465 : decode cL_act 465 = .ok (.ireturn, 1) := by decide +kernel
theorem dL_act_466 : decode cL_act 466 = .ok (.iload_n 2, 1) := by decide +kernel
theorem dL_act_467 : decode cL_act 467 = .ok (.iconst 3, 1) := by decide +kernel
theorem dL_act_468 : decode cL_act 468 = .ok (.invokestatic 39, 3) := by decide +kernel
theorem dL_act_471 : decode cL_act 471 = .ok (.istore 8, 2) := by decide +kernel
theorem dL_act_473 : decode cL_act 473 = .ok (.iconst 1, 1) := by decide +kernel
theorem dL_act_474 : decode cL_act 474 = .ok (.aload_n 0, 1) := by decide +kernel
theorem dL_act_475 : decode cL_act 475 = .ok (.iload 8, 2) := by decide +kernel
theorem dL_act_477 : decode cL_act 477 = .ok (.iload_n 2, 1) := by decide +kernel
theorem dL_act_478 : decode cL_act 478 = .ok (.iconst 2, 1) := by decide +kernel
theorem dL_act_479 : decode cL_act 479 = .ok (.ishr, 1) := by decide +kernel
theorem dL_act_480 : decode cL_act 480 = .ok (.iload 8, 2) := by decide +kernel
theorem dL_act_482 : decode cL_act 482 = .ok (.ifCond .ne 8, 3) := by decide +kernel
theorem dL_act_485 : decode cL_act 485 = .ok (.bipush 51, 2) := by decide +kernel
theorem dL_act_487 : decode cL_act 487 = .ok (.goto 16, 3) := by decide +kernel
theorem dL_act_490 : decode cL_act 490 = .ok (.iload 8, 2) := by decide +kernel
theorem dL_act_492 : decode cL_act 492 = .ok (.iconst 1, 1) := by decide +kernel
theorem dL_act_493 : decode cL_act 493 = .ok (.if_icmp .ne 8, 3) := by decide +kernel
theorem dL_act_496 : decode cL_act 496 = .ok (.bipush 101, 2) := by decide +kernel
theorem dL_act_498 : decode cL_act 498 = .ok (.goto 5, 3) := by decide +kernel
theorem dL_act_501 : decode cL_act 501 = .ok (.bipush 61, 2) := by decide +kernel
theorem dL_act_503 : decode cL_act 503 = .ok (.invokestatic 39, 3) := by decide +kernel
theorem dL_act_506 : decode cL_act 506 = .ok (.invokevirtual 77, 3) := by decide +kernel
theorem dL_act_509 : decode cL_act 509 = .ok (.iadd, 1) := by decide +kernel
theorem dL_act_510 : decode cL_act 510 = .ok (.ireturn, 1) := by decide +kernel
theorem dL_act_511 : decode cL_act 511 = .ok (.iconst 1, 1) := by decide +kernel
theorem dL_act_512 : decode cL_act 512 = .ok (.iload_n 2, 1) := by decide +kernel
theorem dL_act_513 : decode cL_act 513 = .ok (.bipush 7, 2) := by decide +kernel
theorem dL_act_515 : decode cL_act 515 = .ok (.iand, 1) := by decide +kernel
theorem dL_act_516 : decode cL_act 516 = .ok (.ifCond .ne 10, 3) := by decide +kernel
theorem dL_act_519 : decode cL_act 519 = .ok (.aload_n 0, 1) := by decide +kernel
theorem dL_act_520 : decode cL_act 520 = .ok (.invokevirtual 80, 3) := by decide +kernel
theorem dL_act_523 : decode cL_act 523 = .ok (.goto 8, 3) := by decide +kernel
theorem dL_act_526 : decode cL_act 526 = .ok (.aload_n 0, 1) := by decide +kernel
theorem dL_act_527 : decode cL_act 527 = .ok (.iconst 3, 1) := by decide +kernel
theorem dL_act_528 : decode cL_act 528 = .ok (.invokevirtual 65, 3) := by decide +kernel
theorem dL_act_531 : decode cL_act 531 = .ok (.iadd, 1) := by decide +kernel
theorem dL_act_532 : decode cL_act 532 = .ok (.ireturn, 1) := by decide +kernel
theorem dL_act_533 : decode cL_act 533 = .ok (.iload_n 2, 1) := by decide +kernel
theorem dL_act_534 : decode cL_act 534 = .ok (.bipush 9, 2) := by decide +kernel
theorem dL_act_536 : decode cL_act 536 = .ok (.ishr, 1) := by decide +kernel
theorem dL_act_537 : decode cL_act 537 = .ok (.iconst 3, 1) := by decide +kernel
theorem dL_act_538 : decode cL_act 538 = .ok (.iand, 1) := by decide +kernel
theorem dL_act_539 : decode cL_act 539 = .ok (.ifCond .le 8, 3) := by decide +kernel
theorem dL_act_542 : decode cL_act 542 = .ok (.bipush 100, 2) := by decide +kernel
theorem dL_act_544 : decode cL_act 544 = .ok (.goto 16, 3) := by decide +kernel
theorem dL_act_547 : decode cL_act 547 = .ok (.bipush 50, 2) := by decide +kernel
theorem dL_act_549 : decode cL_act 549 = .ok (.iload_n 2, 1) := by decide +kernel
theorem dL_act_550 : decode cL_act 550 = .ok (.bipush 11, 2) := by decide +kernel
theorem dL_act_552 : decode cL_act 552 = .ok (.ishr, 1) := by decide +kernel
theorem dL_act_553 : decode cL_act 553 = .ok (.sipush 151, 3) := by decide +kernel
theorem dL_act_556 : decode cL_act 556 = .ok (.invokestatic 39, 3) := by decide +kernel
theorem dL_act_559 : decode cL_act 559 = .ok (.iadd, 1) := by decide +kernel
theorem dL_act_560 : decode cL_act 560 = .ok (.istore 9, 2) := by decide +kernel
theorem dL_act_562 : decode cL_act 562 = .ok (.iload_n 2, 1) := by decide +kernel
theorem dL_act_563 : decode cL_act 563 = .ok (.bipush 9, 2) := by decide +kernel
theorem dL_act_565 : decode cL_act 565 = .ok (.ishr, 1) := by decide +kernel
theorem dL_act_566 : decode cL_act 566 = .ok (.iconst 3, 1) := by decide +kernel
theorem dL_act_567 : decode cL_act 567 = .ok (.iand, 1) := by decide +kernel
theorem dL_act_568 : decode cL_act 568 = .ok (.ifCond .le 7, 3) := by decide +kernel
theorem dL_act_571 : decode cL_act 571 = .ok (.iconst 5, 1) := by decide +kernel
theorem dL_act_572 : decode cL_act 572 = .ok (.goto 14, 3) := by decide +kernel
theorem dL_act_575 : decode cL_act 575 = .ok (.iconst 1, 1) := by decide +kernel
theorem dL_act_576 : decode cL_act 576 = .ok (.iload_n 2, 1) := by decide +kernel
theorem dL_act_577 : decode cL_act 577 = .ok (.bipush 13, 2) := by decide +kernel
theorem dL_act_579 : decode cL_act 579 = .ok (.ishr, 1) := by decide +kernel
theorem dL_act_580 : decode cL_act 580 = .ok (.bipush 60, 2) := by decide +kernel
theorem dL_act_582 : decode cL_act 582 = .ok (.invokestatic 39, 3) := by decide +kernel
theorem dL_act_585 : decode cL_act 585 = .ok (.iadd, 1) := by decide +kernel
theorem dL_act_586 : decode cL_act 586 = .ok (.istore 10, 2) := by decide +kernel
theorem dL_act_588 : decode cL_act 588 = .ok (.iconst 1, 1) := by decide +kernel
theorem dL_act_589 : decode cL_act 589 = .ok (.aload_n 0, 1) := by decide +kernel
theorem dL_act_590 : decode cL_act 590 = .ok (.iload 5, 2) := by decide +kernel
theorem dL_act_592 : decode cL_act 592 = .ok (.iload 4, 2) := by decide +kernel
theorem dL_act_594 : decode cL_act 594 = .ok (.invokevirtual 84, 3) := by decide +kernel
theorem dL_act_597 : decode cL_act 597 = .ok (.ifCond .ne 18, 3) := by decide +kernel
theorem dL_act_600 : decode cL_act 600 = .ok (.aload_n 0, 1) := by decide +kernel
theorem dL_act_601 : decode cL_act 601 = .ok (.iload 5, 2) := by decide +kernel
theorem dL_act_603 : decode cL_act 603 = .ok (.iload 4, 2) := by decide +kernel
theorem dL_act_605 : decode cL_act 605 = .ok (.iload 9, 2) := by decide +kernel
theorem dL_act_607 : decode cL_act 607 = .ok (.iload 10, 2) := by decide +kernel
theorem dL_act_609 : decode cL_act 609 = .ok (.invokevirtual 87, 3) := by decide +kernel
theorem dL_act_612 : decode cL_act 612 = .ok (.goto 8, 3) := by decide +kernel
theorem dL_act_615 : decode cL_act 615 = .ok (.aload_n 0, 1) := by decide +kernel
theorem dL_act_616 : decode cL_act 616 = .ok (.iconst 1, 1) := by decide +kernel
theorem dL_act_617 : decode cL_act 617 = .ok (.invokevirtual 65, 3) := by decide +kernel
theorem dL_act_620 : decode cL_act 620 = .ok (.iadd, 1) := by decide +kernel
theorem dL_act_621 : decode cL_act 621 = .ok (.ireturn, 1) := by decide +kernel
