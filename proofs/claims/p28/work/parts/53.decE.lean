theorem dL_act_91 : decode cL_act 91 = .ok (.iconst 1, 1) := by decide +kernel
theorem dL_act_92 : decode cL_act 92 = .ok (.ireturn, 1) := by decide +kernel
theorem dL_act_93 : decode cL_act 93 = .ok (.iconst 1, 1) := by decide +kernel
theorem dL_act_94 : decode cL_act 94 = .ok (.iconst 4, 1) := by decide +kernel
theorem dL_act_95 : decode cL_act 95 = .ok (.aload 10, 2) := by decide +kernel
theorem dL_act_97 : decode cL_act 97 = .ok (.iconst 0, 1) := by decide +kernel
theorem dL_act_98 : decode cL_act 98 = .ok (.iaload, 1) := by decide +kernel
theorem dL_act_99 : decode cL_act 99 = .ok (.imul, 1) := by decide +kernel
theorem dL_act_100 : decode cL_act 100 = .ok (.iadd, 1) := by decide +kernel
theorem dL_act_101 : decode cL_act 101 = .ok (.istore 12, 2) := by decide +kernel
theorem dL_act_103 : decode cL_act 103 = .ok (.aload 10, 2) := by decide +kernel
theorem dL_act_105 : decode cL_act 105 = .ok (.iload 12, 2) := by decide +kernel
theorem dL_act_107 : decode cL_act 107 = .ok (.iconst 1, 1) := by decide +kernel
theorem dL_act_108 : decode cL_act 108 = .ok (.iload_n 3, 1) := by decide +kernel
theorem dL_act_109 : decode cL_act 109 = .ok (.bipush 80, 2) := by decide +kernel
theorem dL_act_111 : decode cL_act 111 = .ok (.invokestatic 71, 3) := by decide +kernel
theorem dL_act_114 : decode cL_act 114 = .ok (.iadd, 1) := by decide +kernel
theorem dL_act_115 : decode cL_act 115 = .ok (.iastore, 1) := by decide +kernel
theorem dL_act_116 : decode cL_act 116 = .ok (.aload 10, 2) := by decide +kernel
theorem dL_act_118 : decode cL_act 118 = .ok (.iload 12, 2) := by decide +kernel
theorem dL_act_120 : decode cL_act 120 = .ok (.iconst 1, 1) := by decide +kernel
theorem dL_act_121 : decode cL_act 121 = .ok (.iadd, 1) := by decide +kernel
theorem dL_act_122 : decode cL_act 122 = .ok (.ldc 21, 2) := by decide +kernel
theorem dL_act_124 : decode cL_act 124 = .ok (.iastore, 1) := by decide +kernel
theorem dL_act_125 : decode cL_act 125 = .ok (.aload 10, 2) := by decide +kernel
theorem dL_act_127 : decode cL_act 127 = .ok (.iconst 0, 1) := by decide +kernel
theorem dL_act_128 : decode cL_act 128 = .ok (.dup2, 1) := by decide +kernel
theorem dL_act_129 : decode cL_act 129 = .ok (.iaload, 1) := by decide +kernel
theorem dL_act_130 : decode cL_act 130 = .ok (.iconst 1, 1) := by decide +kernel
theorem dL_act_131 : decode cL_act 131 = .ok (.iadd, 1) := by decide +kernel
theorem dL_act_132 : decode cL_act 132 = .ok (.iastore, 1) := by decide +kernel
theorem dL_act_133 : decode cL_act 133 = .ok (.aload_n 0, 1) := by decide +kernel
theorem dL_act_134 : decode cL_act 134 = .ok (.iload 9, 2) := by decide +kernel
theorem dL_act_136 : decode cL_act 136 = .ok (.aload 10, 2) := by decide +kernel
theorem dL_act_138 : decode cL_act 138 = .ok (.iload 12, 2) := by decide +kernel
theorem dL_act_140 : decode cL_act 140 = .ok (.iaload, 1) := by decide +kernel
theorem dL_act_141 : decode cL_act 141 = .ok (.invokevirtual 115, 3) := by decide +kernel
theorem dL_act_144 : decode cL_act 144 = .ok (.aload 10, 2) := by decide +kernel
theorem dL_act_146 : decode cL_act 146 = .ok (.iconst 0, 1) := by decide +kernel
theorem dL_act_147 : decode cL_act 147 = .ok (.iaload, 1) := by decide +kernel
theorem dL_act_148 : decode cL_act 148 = .ok (.iconst 1, 1) := by decide +kernel
theorem dL_act_149 : decode cL_act 149 = .ok (.isub, 1) := by decide +kernel
theorem dL_act_150 : decode cL_act 150 = .ok (.if_icmp .ne 7, 3) := by decide +kernel
theorem dL_act_153 : decode cL_act 153 = .ok (.iconst 1, 1) := by decide +kernel
theorem dL_act_154 : decode cL_act 154 = .ok (.goto 4, 3) := by decide +kernel
theorem dL_act_157 : decode cL_act 157 = .ok (.iconst 0, 1) := by decide +kernel
theorem dL_act_158 : decode cL_act 158 = .ok (.ireturn, 1) := by decide +kernel
theorem dL_act_159 : decode cL_act 159 = .ok (.iload_n 1, 1) := by decide +kernel
theorem dL_act_160 : decode cL_act 160 = .ok (.iconst 4, 1) := by decide +kernel
theorem dL_act_161 : decode cL_act 161 = .ok (.if_icmp .ne 58, 3) := by decide +kernel
theorem dL_act_164 : decode cL_act 164 = .ok (.bipush 30, 2) := by decide +kernel
theorem dL_act_166 : decode cL_act 166 = .ok (.iload 11, 2) := by decide +kernel
theorem dL_act_168 : decode cL_act 168 = .ok (.aload 10, 2) := by decide +kernel
theorem dL_act_170 : decode cL_act 170 = .ok (.invokestatic 118, 3) := by decide +kernel
theorem dL_act_173 : decode cL_act 173 = .ok (.ifCond .eq 5, 3) := by decide +kernel
theorem dL_act_176 : decode cL_act 176 = .ok (.iconst 1, 1) := by decide +kernel
theorem dL_act_177 : decode cL_act 177 = .ok (.ireturn, 1) := by decide +kernel
theorem dL_act_178 : decode cL_act 178 = .ok (.bipush 10, 2) := by decide +kernel
theorem dL_act_180 : decode cL_act 180 = .ok (.iload_n 3, 1) := by decide +kernel
theorem dL_act_181 : decode cL_act 181 = .ok (.bipush 21, 2) := by decide +kernel
theorem dL_act_183 : decode cL_act 183 = .ok (.invokestatic 71, 3) := by decide +kernel
theorem dL_act_186 : decode cL_act 186 = .ok (.iadd, 1) := by decide +kernel
theorem dL_act_187 : decode cL_act 187 = .ok (.istore 12, 2) := by decide +kernel
theorem dL_act_189 : decode cL_act 189 = .ok (.bipush 30, 2) := by decide +kernel
theorem dL_act_191 : decode cL_act 191 = .ok (.iload 11, 2) := by decide +kernel
theorem dL_act_193 : decode cL_act 193 = .ok (.iload 12, 2) := by decide +kernel
theorem dL_act_195 : decode cL_act 195 = .ok (.aload 10, 2) := by decide +kernel
theorem dL_act_197 : decode cL_act 197 = .ok (.invokestatic 122, 3) := by decide +kernel
theorem dL_act_200 : decode cL_act 200 = .ok (.aload_n 0, 1) := by decide +kernel
theorem dL_act_201 : decode cL_act 201 = .ok (.iload 9, 2) := by decide +kernel
theorem dL_act_203 : decode cL_act 203 = .ok (.iload 11, 2) := by decide +kernel
theorem dL_act_205 : decode cL_act 205 = .ok (.iload 12, 2) := by decide +kernel
theorem dL_act_207 : decode cL_act 207 = .ok (.invokevirtual 125, 3) := by decide +kernel
theorem dL_act_210 : decode cL_act 210 = .ok (.if_icmp .ne 7, 3) := by decide +kernel
theorem dL_act_213 : decode cL_act 213 = .ok (.iconst 1, 1) := by decide +kernel
theorem dL_act_214 : decode cL_act 214 = .ok (.goto 4, 3) := by decide +kernel
theorem dL_act_217 : decode cL_act 217 = .ok (.iconst 0, 1) := by decide +kernel
theorem dL_act_218 : decode cL_act 218 = .ok (.ireturn, 1) := by decide +kernel
theorem dL_act_219 : decode cL_act 219 = .ok (.iload_n 1, 1) := by decide +kernel
theorem dL_act_220 : decode cL_act 220 = .ok (.iconst 5, 1) := by decide +kernel
theorem dL_act_221 : decode cL_act 221 = .ok (.if_icmp .ne 171, 3) := by decide +kernel
theorem dL_act_224 : decode cL_act 224 = .ok (.iload_n 3, 1) := by decide +kernel
theorem dL_act_225 : decode cL_act 225 = .ok (.bipush 51, 2) := by decide +kernel
theorem dL_act_227 : decode cL_act 227 = .ok (.invokestatic 71, 3) := by decide +kernel
theorem dL_act_230 : decode cL_act 230 = .ok (.istore 12, 2) := by decide +kernel
theorem dL_act_232 : decode cL_act 232 = .ok (.iload 12, 2) := by decide +kernel
theorem dL_act_234 : decode cL_act 234 = .ok (.ifCond .ne 114, 3) := by decide +kernel
theorem dL_act_237 : decode cL_act 237 = .ok (.iconst 0, 1) := by decide +kernel
theorem dL_act_238 : decode cL_act 238 = .ok (.istore 13, 2) := by decide +kernel
theorem dL_act_240 : decode cL_act 240 = .ok (.iload 13, 2) := by decide +kernel
theorem dL_act_242 : decode cL_act 242 = .ok (.aload 10, 2) := by decide +kernel
theorem dL_act_244 : decode cL_act 244 = .ok (.bipush 45, 2) := by decide +kernel
theorem dL_act_246 : decode cL_act 246 = .ok (.iaload, 1) := by decide +kernel
theorem dL_act_247 : decode cL_act 247 = .ok (.if_icmp .ge 78, 3) := by decide +kernel
theorem dL_act_250 : decode cL_act 250 = .ok (.aload 10, 2) := by decide +kernel
theorem dL_act_252 : decode cL_act 252 = .ok (.bipush 46, 2) := by decide +kernel
theorem dL_act_254 : decode cL_act 254 = .ok (.iconst 2, 1) := by decide +kernel
theorem dL_act_255 : decode cL_act 255 = .ok (.iload 13, 2) := by decide +kernel
theorem dL_act_257 : decode cL_act 257 = .ok (.imul, 1) := by decide +kernel
theorem dL_act_258 : decode cL_act 258 = .ok (.iadd, 1) := by decide +kernel
theorem dL_act_259 : decode cL_act 259 = .ok (.iaload, 1) := by decide +kernel
theorem dL_act_260 : decode cL_act 260 = .ok (.iload 11, 2) := by decide +kernel
theorem dL_act_262 : decode cL_act 262 = .ok (.if_icmp .eq 6, 3) := by decide +kernel
theorem dL_act_265 : decode cL_act 265 = .ok (.goto 54, 3) := by decide +kernel
theorem dL_act_268 : decode cL_act 268 = .ok (.aload 10, 2) := by decide +kernel
theorem dL_act_270 : decode cL_act 270 = .ok (.bipush 45, 2) := by decide +kernel
theorem dL_act_272 : decode cL_act 272 = .ok (.dup2, 1) := by decide +kernel
theorem dL_act_273 : decode cL_act 273 = .ok (.iaload, 1) := by decide +kernel
theorem dL_act_274 : decode cL_act 274 = .ok (.iconst 1, 1) := by decide +kernel
theorem dL_act_275 : decode cL_act 275 = .ok (.isub, 1) := by decide +kernel
theorem dL_act_276 : decode cL_act 276 = .ok (.iastore, 1) := by decide +kernel
theorem dL_act_277 : decode cL_act 277 = .ok (.bipush 46, 2) := by decide +kernel
theorem dL_act_279 : decode cL_act 279 = .ok (.iconst 2, 1) := by decide +kernel
theorem dL_act_280 : decode cL_act 280 = .ok (.iload 13, 2) := by decide +kernel
theorem dL_act_282 : decode cL_act 282 = .ok (.imul, 1) := by decide +kernel
theorem dL_act_283 : decode cL_act 283 = .ok (.iadd, 1) := by decide +kernel
theorem dL_act_284 : decode cL_act 284 = .ok (.istore 14, 2) := by decide +kernel
theorem dL_act_286 : decode cL_act 286 = .ok (.iload 14, 2) := by decide +kernel
theorem dL_act_288 : decode cL_act 288 = .ok (.bipush 46, 2) := by decide +kernel
theorem dL_act_290 : decode cL_act 290 = .ok (.iconst 2, 1) := by decide +kernel
theorem dL_act_291 : decode cL_act 291 = .ok (.aload 10, 2) := by decide +kernel
theorem dL_act_293 : decode cL_act 293 = .ok (.bipush 45, 2) := by decide +kernel
theorem dL_act_295 : decode cL_act 295 = .ok (.iaload, 1) := by decide +kernel
theorem dL_act_296 : decode cL_act 296 = .ok (.imul, 1) := by decide +kernel
theorem dL_act_297 : decode cL_act 297 = .ok (.iadd, 1) := by decide +kernel
theorem dL_act_298 : decode cL_act 298 = .ok (.if_icmp .ge 21, 3) := by decide +kernel
theorem dL_act_301 : decode cL_act 301 = .ok (.aload 10, 2) := by decide +kernel
theorem dL_act_303 : decode cL_act 303 = .ok (.iload 14, 2) := by decide +kernel
theorem dL_act_305 : decode cL_act 305 = .ok (.aload 10, 2) := by decide +kernel
theorem dL_act_307 : decode cL_act 307 = .ok (.iload 14, 2) := by decide +kernel
theorem dL_act_309 : decode cL_act 309 = .ok (.iconst 2, 1) := by decide +kernel
theorem dL_act_310 : decode cL_act 310 = .ok (.iadd, 1) := by decide +kernel
theorem dL_act_311 : decode cL_act 311 = .ok (.iaload, 1) := by decide +kernel
theorem dL_act_312 : decode cL_act 312 = .ok (.iastore, 1) := by decide +kernel
theorem dL_act_313 : decode cL_act 313 = .ok (.iinc 14 1, 3) := by decide +kernel
theorem dL_act_316 : decode cL_act 316 = .ok (.goto (-30), 3) := by decide +kernel
theorem dL_act_319 : decode cL_act 319 = .ok (.iinc 13 1, 3) := by decide +kernel
theorem dL_act_322 : decode cL_act 322 = .ok (.goto (-82), 3) := by decide +kernel
theorem dL_act_325 : decode cL_act 325 = .ok (.aload_n 0, 1) := by decide +kernel
theorem dL_act_326 : decode cL_act 326 = .ok (.iload 9, 2) := by decide +kernel
theorem dL_act_328 : decode cL_act 328 = .ok (.iload 11, 2) := by decide +kernel
theorem dL_act_330 : decode cL_act 330 = .ok (.iconst 0, 1) := by decide +kernel
theorem dL_act_331 : decode cL_act 331 = .ok (.invokevirtual 128, 3) := by decide +kernel
theorem dL_act_334 : decode cL_act 334 = .ok (.aload 10, 2) := by decide +kernel
theorem dL_act_336 : decode cL_act 336 = .ok (.bipush 45, 2) := by decide +kernel
theorem dL_act_338 : decode cL_act 338 = .ok (.iaload, 1) := by decide +kernel
theorem dL_act_339 : decode cL_act 339 = .ok (.if_icmp .ne 7, 3) := by decide +kernel
theorem dL_act_342 : decode cL_act 342 = .ok (.iconst 1, 1) := by decide +kernel
theorem dL_act_343 : decode cL_act 343 = .ok (.goto 4, 3) := by decide +kernel
theorem dL_act_346 : decode cL_act 346 = .ok (.iconst 0, 1) := by decide +kernel
theorem dL_act_347 : decode cL_act 347 = .ok (.ireturn, 1) := by decide +kernel
theorem dL_act_348 : decode cL_act 348 = .ok (.bipush 45, 2) := by decide +kernel
theorem dL_act_350 : decode cL_act 350 = .ok (.iload 11, 2) := by decide +kernel
theorem dL_act_352 : decode cL_act 352 = .ok (.aload 10, 2) := by decide +kernel
theorem dL_act_354 : decode cL_act 354 = .ok (.invokestatic 118, 3) := by decide +kernel
theorem dL_act_357 : decode cL_act 357 = .ok (.ifCond .eq 5, 3) := by decide +kernel
theorem dL_act_360 : decode cL_act 360 = .ok (.iconst 1, 1) := by decide +kernel
theorem dL_act_361 : decode cL_act 361 = .ok (.ireturn, 1) := by decide +kernel
theorem dL_act_362 : decode cL_act 362 = .ok (.bipush 45, 2) := by decide +kernel
theorem dL_act_364 : decode cL_act 364 = .ok (.iload 11, 2) := by decide +kernel
theorem dL_act_366 : decode cL_act 366 = .ok (.iload 12, 2) := by decide +kernel
theorem dL_act_368 : decode cL_act 368 = .ok (.aload 10, 2) := by decide +kernel
theorem dL_act_370 : decode cL_act 370 = .ok (.invokestatic 122, 3) := by decide +kernel
theorem dL_act_373 : decode cL_act 373 = .ok (.aload_n 0, 1) := by decide +kernel
theorem dL_act_374 : decode cL_act 374 = .ok (.iload 9, 2) := by decide +kernel
theorem dL_act_376 : decode cL_act 376 = .ok (.iload 11, 2) := by decide +kernel
theorem dL_act_378 : decode cL_act 378 = .ok (.iload 12, 2) := by decide +kernel
theorem dL_act_380 : decode cL_act 380 = .ok (.invokevirtual 128, 3) := by decide +kernel
theorem dL_act_383 : decode cL_act 383 = .ok (.if_icmp .ne 7, 3) := by decide +kernel
theorem dL_act_386 : decode cL_act 386 = .ok (.iconst 1, 1) := by decide +kernel
theorem dL_act_387 : decode cL_act 387 = .ok (.goto 4, 3) := by decide +kernel
theorem dL_act_390 : decode cL_act 390 = .ok (.iconst 0, 1) := by decide +kernel
theorem dL_act_391 : decode cL_act 391 = .ok (.ireturn, 1) := by decide +kernel
theorem dL_act_392 : decode cL_act 392 = .ok (.iload_n 1, 1) := by decide +kernel
theorem dL_act_393 : decode cL_act 393 = .ok (.bipush 6, 2) := by decide +kernel
theorem dL_act_395 : decode cL_act 395 = .ok (.if_icmp .ne 128, 3) := by decide +kernel
theorem dL_act_398 : decode cL_act 398 = .ok (.aload 8, 2) := by decide +kernel
theorem dL_act_400 : decode cL_act 400 = .ok (.iconst 0, 1) := by decide +kernel
theorem dL_act_401 : decode cL_act 401 = .ok (.iaload, 1) := by decide +kernel
theorem dL_act_402 : decode cL_act 402 = .ok (.iconst 4, 1) := by decide +kernel
theorem dL_act_403 : decode cL_act 403 = .ok (.if_icmp .ne 5, 3) := by decide +kernel
theorem dL_act_406 : decode cL_act 406 = .ok (.iconst 1, 1) := by decide +kernel
theorem dL_act_407 : decode cL_act 407 = .ok (.ireturn, 1) := by decide +kernel
theorem dL_act_408 : decode cL_act 408 = .ok (.iconst 3, 1) := by decide +kernel
theorem dL_act_409 : decode cL_act 409 = .ok (.aload 8, 2) := by decide +kernel
theorem dL_act_411 : decode cL_act 411 = .ok (.iconst 0, 1) := by decide +kernel
theorem dL_act_412 : decode cL_act 412 = .ok (.iaload, 1) := by decide +kernel
theorem dL_act_413 : decode cL_act 413 = .ok (.imul, 1) := by decide +kernel
theorem dL_act_414 : decode cL_act 414 = .ok (.istore 12, 2) := by decide +kernel
theorem dL_act_416 : decode cL_act 416 = .ok (.aload 7, 2) := by decide +kernel
theorem dL_act_418 : decode cL_act 418 = .ok (.iload 12, 2) := by decide +kernel
theorem dL_act_420 : decode cL_act 420 = .ok (.iload_n 2, 1) := by decide +kernel
theorem dL_act_421 : decode cL_act 421 = .ok (.iconst 3, 1) := by decide +kernel
theorem dL_act_422 : decode cL_act 422 = .ok (.ishr, 1) := by decide +kernel
theorem dL_act_423 : decode cL_act 423 = .ok (.sipush 601, 3) := by decide +kernel
theorem dL_act_426 : decode cL_act 426 = .ok (.invokestatic 71, 3) := by decide +kernel
theorem dL_act_429 : decode cL_act 429 = .ok (.iastore, 1) := by decide +kernel
theorem dL_act_430 : decode cL_act 430 = .ok (.aload 7, 2) := by decide +kernel
theorem dL_act_432 : decode cL_act 432 = .ok (.iload 12, 2) := by decide +kernel
theorem dL_act_434 : decode cL_act 434 = .ok (.iconst 1, 1) := by decide +kernel
theorem dL_act_435 : decode cL_act 435 = .ok (.iadd, 1) := by decide +kernel
theorem dL_act_436 : decode cL_act 436 = .ok (.bipush 10, 2) := by decide +kernel
theorem dL_act_438 : decode cL_act 438 = .ok (.iload_n 3, 1) := by decide +kernel
theorem dL_act_439 : decode cL_act 439 = .ok (.iload_n 2, 1) := by decide +kernel
theorem dL_act_440 : decode cL_act 440 = .ok (.iconst 2, 1) := by decide +kernel
theorem dL_act_441 : decode cL_act 441 = .ok (.invokestatic 71, 3) := by decide +kernel
theorem dL_act_444 : decode cL_act 444 = .ok (.ifCond .ne 9, 3) := by decide +kernel
theorem dL_act_447 : decode cL_act 447 = .ok (.sipush 1191, 3) := by decide +kernel
theorem dL_act_450 : decode cL_act 450 = .ok (.goto 5, 3) := by decide +kernel
theorem dL_act_453 : decode cL_act 453 = .ok (.bipush 90, 2) := by decide +kernel
theorem dL_act_455 : decode cL_act 455 = .ok (.invokestatic 71, 3) := by decide +kernel
theorem dL_act_458 : decode cL_act 458 = .ok (.iadd, 1) := by decide +kernel
theorem dL_act_459 : decode cL_act 459 = .ok (.iastore, 1) := by decide +kernel
theorem dL_act_460 : decode cL_act 460 = .ok (.aload 7, 2) := by decide +kernel
theorem dL_act_462 : decode cL_act 462 = .ok (.iload 12, 2) := by decide +kernel
theorem dL_act_464 : decode cL_act 464 = .ok (.iconst 2, 1) := by decide +kernel
theorem dL_act_465 : decode cL_act 465 = .ok (.iadd, 1) := by decide +kernel
theorem dL_act_466 : decode cL_act 466 = .ok (.iload_n 3, 1) := by decide +kernel
theorem dL_act_467 : decode cL_act 467 = .ok (.bipush 7, 2) := by decide +kernel
theorem dL_act_469 : decode cL_act 469 = .ok (.ishr, 1) := by decide +kernel
theorem dL_act_470 : decode cL_act 470 = .ok (.sipush 200, 3) := by decide +kernel
theorem dL_act_473 : decode cL_act 473 = .ok (.invokestatic 71, 3) := by decide +kernel
theorem dL_act_476 : decode cL_act 476 = .ok (.iastore, 1) := by decide +kernel
theorem dL_act_477 : decode cL_act 477 = .ok (.aload 8, 2) := by decide +kernel
theorem dL_act_479 : decode cL_act 479 = .ok (.iconst 0, 1) := by decide +kernel
theorem dL_act_480 : decode cL_act 480 = .ok (.dup2, 1) := by decide +kernel
theorem dL_act_481 : decode cL_act 481 = .ok (.iaload, 1) := by decide +kernel
theorem dL_act_482 : decode cL_act 482 = .ok (.iconst 1, 1) := by decide +kernel
theorem dL_act_483 : decode cL_act 483 = .ok (.iadd, 1) := by decide +kernel
theorem dL_act_484 : decode cL_act 484 = .ok (.iastore, 1) := by decide +kernel
theorem dL_act_485 : decode cL_act 485 = .ok (.aload_n 0, 1) := by decide +kernel
theorem dL_act_486 : decode cL_act 486 = .ok (.aload 7, 2) := by decide +kernel
theorem dL_act_488 : decode cL_act 488 = .ok (.iload 12, 2) := by decide +kernel
theorem dL_act_490 : decode cL_act 490 = .ok (.iaload, 1) := by decide +kernel
theorem dL_act_491 : decode cL_act 491 = .ok (.aload 7, 2) := by decide +kernel
theorem dL_act_493 : decode cL_act 493 = .ok (.iload 12, 2) := by decide +kernel
theorem dL_act_495 : decode cL_act 495 = .ok (.iconst 1, 1) := by decide +kernel
theorem dL_act_496 : decode cL_act 496 = .ok (.iadd, 1) := by decide +kernel
theorem dL_act_497 : decode cL_act 497 = .ok (.iaload, 1) := by decide +kernel
theorem dL_act_498 : decode cL_act 498 = .ok (.aload 7, 2) := by decide +kernel
theorem dL_act_500 : decode cL_act 500 = .ok (.iload 12, 2) := by decide +kernel
theorem dL_act_502 : decode cL_act 502 = .ok (.iconst 2, 1) := by decide +kernel
theorem dL_act_503 : decode cL_act 503 = .ok (.iadd, 1) := by decide +kernel
theorem dL_act_504 : decode cL_act 504 = .ok (.iaload, 1) := by decide +kernel
theorem dL_act_505 : decode cL_act 505 = .ok (.invokevirtual 131, 3) := by decide +kernel
theorem dL_act_508 : decode cL_act 508 = .ok (.aload 8, 2) := by decide +kernel
theorem dL_act_510 : decode cL_act 510 = .ok (.iconst 0, 1) := by decide +kernel
theorem dL_act_511 : decode cL_act 511 = .ok (.iaload, 1) := by decide +kernel
theorem dL_act_512 : decode cL_act 512 = .ok (.iconst 1, 1) := by decide +kernel
theorem dL_act_513 : decode cL_act 513 = .ok (.isub, 1) := by decide +kernel
theorem dL_act_514 : decode cL_act 514 = .ok (.if_icmp .ne 7, 3) := by decide +kernel
theorem dL_act_517 : decode cL_act 517 = .ok (.iconst 1, 1) := by decide +kernel
theorem dL_act_518 : decode cL_act 518 = .ok (.goto 4, 3) := by decide +kernel
theorem dL_act_521 : decode cL_act 521 = .ok (.iconst 0, 1) := by decide +kernel
theorem dL_act_522 : decode cL_act 522 = .ok (.ireturn, 1) := by decide +kernel
theorem dL_act_523 : decode cL_act 523 = .ok (.aload 10, 2) := by decide +kernel
theorem dL_act_525 : decode cL_act 525 = .ok (.iconst 0, 1) := by decide +kernel
theorem dL_act_526 : decode cL_act 526 = .ok (.iaload, 1) := by decide +kernel
theorem dL_act_527 : decode cL_act 527 = .ok (.ifCond .ne 7, 3) := by decide +kernel
theorem dL_act_530 : decode cL_act 530 = .ok (.iconst 0, 1) := by decide +kernel
theorem dL_act_531 : decode cL_act 531 = .ok (.goto 13, 3) := by decide +kernel
theorem dL_act_534 : decode cL_act 534 = .ok (.iload_n 2, 1) := by decide +kernel
theorem dL_act_535 : decode cL_act 535 = .ok (.iconst 4, 1) := by decide +kernel
theorem dL_act_536 : decode cL_act 536 = .ok (.ishr, 1) := by decide +kernel
theorem dL_act_537 : decode cL_act 537 = .ok (.aload 10, 2) := by decide +kernel
theorem dL_act_539 : decode cL_act 539 = .ok (.iconst 0, 1) := by decide +kernel
theorem dL_act_540 : decode cL_act 540 = .ok (.iaload, 1) := by decide +kernel
theorem dL_act_541 : decode cL_act 541 = .ok (.invokestatic 71, 3) := by decide +kernel
theorem dL_act_544 : decode cL_act 544 = .ok (.istore 12, 2) := by decide +kernel
theorem dL_act_546 : decode cL_act 546 = .ok (.bipush 10, 2) := by decide +kernel
theorem dL_act_548 : decode cL_act 548 = .ok (.newarray .int, 2) := by decide +kernel
theorem dL_act_550 : decode cL_act 550 = .ok (.astore 13, 2) := by decide +kernel
theorem dL_act_552 : decode cL_act 552 = .ok (.iconst 5, 1) := by decide +kernel
theorem dL_act_553 : decode cL_act 553 = .ok (.newarray .int, 2) := by decide +kernel
theorem dL_act_555 : decode cL_act 555 = .ok (.astore 14, 2) := by decide +kernel
theorem dL_act_557 : decode cL_act 557 = .ok (.iload_n 1, 1) := by decide +kernel
theorem dL_act_558 : decode cL_act 558 = .ok (.bipush 11, 2) := by decide +kernel
theorem dL_act_560 : decode cL_act 560 = .ok (.if_icmp .ge 142, 3) := by decide +kernel
theorem dL_act_563 : decode cL_act 563 = .ok (.aload 8, 2) := by decide +kernel
theorem dL_act_565 : decode cL_act 565 = .ok (.iconst 0, 1) := by decide +kernel
theorem dL_act_566 : decode cL_act 566 = .ok (.iaload, 1) := by decide +kernel
theorem dL_act_567 : decode cL_act 567 = .ok (.ifCond .eq 12, 3) := by decide +kernel
theorem dL_act_570 : decode cL_act 570 = .ok (.iload_n 3, 1) := by decide +kernel
theorem dL_act_571 : decode cL_act 571 = .ok (.bipush 7, 2) := by decide +kernel
theorem dL_act_573 : decode cL_act 573 = .ok (.invokestatic 71, 3) := by decide +kernel
theorem dL_act_576 : decode cL_act 576 = .ok (.ifCond .ne 8, 3) := by decide +kernel
theorem dL_act_579 : decode cL_act 579 = .ok (.ldc 21, 2) := by decide +kernel
theorem dL_act_581 : decode cL_act 581 = .ok (.goto 13, 3) := by decide +kernel
theorem dL_act_584 : decode cL_act 584 = .ok (.iload_n 3, 1) := by decide +kernel
theorem dL_act_585 : decode cL_act 585 = .ok (.iconst 3, 1) := by decide +kernel
theorem dL_act_586 : decode cL_act 586 = .ok (.ishr, 1) := by decide +kernel
theorem dL_act_587 : decode cL_act 587 = .ok (.aload 8, 2) := by decide +kernel
theorem dL_act_589 : decode cL_act 589 = .ok (.iconst 0, 1) := by decide +kernel
theorem dL_act_590 : decode cL_act 590 = .ok (.iaload, 1) := by decide +kernel
theorem dL_act_591 : decode cL_act 591 = .ok (.invokestatic 71, 3) := by decide +kernel
theorem dL_act_594 : decode cL_act 594 = .ok (.istore 15, 2) := by decide +kernel
theorem dL_act_596 : decode cL_act 596 = .ok (.iconst 1, 1) := by decide +kernel
theorem dL_act_597 : decode cL_act 597 = .ok (.iload_n 2, 1) := by decide +kernel
theorem dL_act_598 : decode cL_act 598 = .ok (.bipush 7, 2) := by decide +kernel
theorem dL_act_600 : decode cL_act 600 = .ok (.ishr, 1) := by decide +kernel
theorem dL_act_601 : decode cL_act 601 = .ok (.bipush 9, 2) := by decide +kernel
theorem dL_act_603 : decode cL_act 603 = .ok (.invokestatic 71, 3) := by decide +kernel
theorem dL_act_606 : decode cL_act 606 = .ok (.iadd, 1) := by decide +kernel
theorem dL_act_607 : decode cL_act 607 = .ok (.istore 16, 2) := by decide +kernel
theorem dL_act_609 : decode cL_act 609 = .ok (.bipush 80, 2) := by decide +kernel
theorem dL_act_611 : decode cL_act 611 = .ok (.iload_n 3, 1) := by decide +kernel
theorem dL_act_612 : decode cL_act 612 = .ok (.bipush 6, 2) := by decide +kernel
theorem dL_act_614 : decode cL_act 614 = .ok (.ishr, 1) := by decide +kernel
theorem dL_act_615 : decode cL_act 615 = .ok (.bipush 41, 2) := by decide +kernel
theorem dL_act_617 : decode cL_act 617 = .ok (.invokestatic 71, 3) := by decide +kernel
theorem dL_act_620 : decode cL_act 620 = .ok (.iadd, 1) := by decide +kernel
theorem dL_act_621 : decode cL_act 621 = .ok (.istore 17, 2) := by decide +kernel
theorem dL_act_623 : decode cL_act 623 = .ok (.aload 10, 2) := by decide +kernel
theorem dL_act_625 : decode cL_act 625 = .ok (.iconst 2, 1) := by decide +kernel
theorem dL_act_626 : decode cL_act 626 = .ok (.iconst 4, 1) := by decide +kernel
theorem dL_act_627 : decode cL_act 627 = .ok (.iload 12, 2) := by decide +kernel
theorem dL_act_629 : decode cL_act 629 = .ok (.imul, 1) := by decide +kernel
theorem dL_act_630 : decode cL_act 630 = .ok (.iadd, 1) := by decide +kernel
theorem dL_act_631 : decode cL_act 631 = .ok (.iload 15, 2) := by decide +kernel
theorem dL_act_633 : decode cL_act 633 = .ok (.iastore, 1) := by decide +kernel
theorem dL_act_634 : decode cL_act 634 = .ok (.aload 10, 2) := by decide +kernel
theorem dL_act_636 : decode cL_act 636 = .ok (.iconst 3, 1) := by decide +kernel
theorem dL_act_637 : decode cL_act 637 = .ok (.iconst 4, 1) := by decide +kernel
theorem dL_act_638 : decode cL_act 638 = .ok (.iload 12, 2) := by decide +kernel
theorem dL_act_640 : decode cL_act 640 = .ok (.imul, 1) := by decide +kernel
theorem dL_act_641 : decode cL_act 641 = .ok (.iadd, 1) := by decide +kernel
theorem dL_act_642 : decode cL_act 642 = .ok (.iload 16, 2) := by decide +kernel
theorem dL_act_644 : decode cL_act 644 = .ok (.iastore, 1) := by decide +kernel
theorem dL_act_645 : decode cL_act 645 = .ok (.aload 10, 2) := by decide +kernel
theorem dL_act_647 : decode cL_act 647 = .ok (.iconst 4, 1) := by decide +kernel
theorem dL_act_648 : decode cL_act 648 = .ok (.iconst 4, 1) := by decide +kernel
theorem dL_act_649 : decode cL_act 649 = .ok (.iload 12, 2) := by decide +kernel
theorem dL_act_651 : decode cL_act 651 = .ok (.imul, 1) := by decide +kernel
theorem dL_act_652 : decode cL_act 652 = .ok (.iadd, 1) := by decide +kernel
theorem dL_act_653 : decode cL_act 653 = .ok (.iload 17, 2) := by decide +kernel
theorem dL_act_655 : decode cL_act 655 = .ok (.iastore, 1) := by decide +kernel
theorem dL_act_656 : decode cL_act 656 = .ok (.iconst 0, 1) := by decide +kernel
theorem dL_act_657 : decode cL_act 657 = .ok (.aload 10, 2) := by decide +kernel
theorem dL_act_659 : decode cL_act 659 = .ok (.aload 7, 2) := by decide +kernel
theorem dL_act_661 : decode cL_act 661 = .ok (.aload 13, 2) := by decide +kernel
theorem dL_act_663 : decode cL_act 663 = .ok (.aload 14, 2) := by decide +kernel
theorem dL_act_665 : decode cL_act 665 = .ok (.invokestatic 49, 3) := by decide +kernel
theorem dL_act_668 : decode cL_act 668 = .ok (.aload_n 0, 1) := by decide +kernel
theorem dL_act_669 : decode cL_act 669 = .ok (.iload 9, 2) := by decide +kernel
theorem dL_act_671 : decode cL_act 671 = .ok (.iload 12, 2) := by decide +kernel
theorem dL_act_673 : decode cL_act 673 = .ok (.iload 15, 2) := by decide +kernel
theorem dL_act_675 : decode cL_act 675 = .ok (.iload 16, 2) := by decide +kernel
theorem dL_act_677 : decode cL_act 677 = .ok (.iload 17, 2) := by decide +kernel
theorem dL_act_679 : decode cL_act 679 = .ok (.invokevirtual 134, 3) := by decide +kernel
theorem dL_act_682 : decode cL_act 682 = .ok (.iload 12, 2) := by decide +kernel
theorem dL_act_684 : decode cL_act 684 = .ok (.aload 10, 2) := by decide +kernel
theorem dL_act_686 : decode cL_act 686 = .ok (.aload 13, 2) := by decide +kernel
theorem dL_act_688 : decode cL_act 688 = .ok (.aload 14, 2) := by decide +kernel
theorem dL_act_690 : decode cL_act 690 = .ok (.invokestatic 33, 3) := by decide +kernel
theorem dL_act_693 : decode cL_act 693 = .ok (.if_icmp .ne 7, 3) := by decide +kernel
theorem dL_act_696 : decode cL_act 696 = .ok (.iconst 1, 1) := by decide +kernel
theorem dL_act_697 : decode cL_act 697 = .ok (.goto 4, 3) := by decide +kernel
theorem dL_act_700 : decode cL_act 700 = .ok (.iconst 0, 1) := by decide +kernel
theorem dL_act_701 : decode cL_act 701 = .ok (.ireturn, 1) := by decide +kernel
theorem dL_act_702 : decode cL_act 702 = .ok (.iload_n 1, 1) := by decide +kernel
theorem dL_act_703 : decode cL_act 703 = .ok (.bipush 11, 2) := by decide +kernel
theorem dL_act_705 : decode cL_act 705 = .ok (.if_icmp .ne 71, 3) := by decide +kernel
theorem dL_act_708 : decode cL_act 708 = .ok (.aload 10, 2) := by decide +kernel
theorem dL_act_710 : decode cL_act 710 = .ok (.iconst 0, 1) := by decide +kernel
theorem dL_act_711 : decode cL_act 711 = .ok (.dup2, 1) := by decide +kernel
theorem dL_act_712 : decode cL_act 712 = .ok (.iaload, 1) := by decide +kernel
theorem dL_act_713 : decode cL_act 713 = .ok (.iconst 1, 1) := by decide +kernel
theorem dL_act_714 : decode cL_act 714 = .ok (.isub, 1) := by decide +kernel
theorem dL_act_715 : decode cL_act 715 = .ok (.iastore, 1) := by decide +kernel
theorem dL_act_716 : decode cL_act 716 = .ok (.iconst 1, 1) := by decide +kernel
theorem dL_act_717 : decode cL_act 717 = .ok (.iconst 4, 1) := by decide +kernel
theorem dL_act_718 : decode cL_act 718 = .ok (.iload 12, 2) := by decide +kernel
theorem dL_act_720 : decode cL_act 720 = .ok (.imul, 1) := by decide +kernel
theorem dL_act_721 : decode cL_act 721 = .ok (.iadd, 1) := by decide +kernel
theorem dL_act_722 : decode cL_act 722 = .ok (.istore 15, 2) := by decide +kernel
theorem dL_act_724 : decode cL_act 724 = .ok (.iload 15, 2) := by decide +kernel
theorem dL_act_726 : decode cL_act 726 = .ok (.iconst 1, 1) := by decide +kernel
theorem dL_act_727 : decode cL_act 727 = .ok (.iconst 4, 1) := by decide +kernel
theorem dL_act_728 : decode cL_act 728 = .ok (.aload 10, 2) := by decide +kernel
theorem dL_act_730 : decode cL_act 730 = .ok (.iconst 0, 1) := by decide +kernel
theorem dL_act_731 : decode cL_act 731 = .ok (.iaload, 1) := by decide +kernel
theorem dL_act_732 : decode cL_act 732 = .ok (.imul, 1) := by decide +kernel
theorem dL_act_733 : decode cL_act 733 = .ok (.iadd, 1) := by decide +kernel
theorem dL_act_734 : decode cL_act 734 = .ok (.if_icmp .ge 21, 3) := by decide +kernel
theorem dL_act_737 : decode cL_act 737 = .ok (.aload 10, 2) := by decide +kernel
theorem dL_act_739 : decode cL_act 739 = .ok (.iload 15, 2) := by decide +kernel
theorem dL_act_741 : decode cL_act 741 = .ok (.aload 10, 2) := by decide +kernel
theorem dL_act_743 : decode cL_act 743 = .ok (.iload 15, 2) := by decide +kernel
theorem dL_act_745 : decode cL_act 745 = .ok (.iconst 4, 1) := by decide +kernel
theorem dL_act_746 : decode cL_act 746 = .ok (.iadd, 1) := by decide +kernel
theorem dL_act_747 : decode cL_act 747 = .ok (.iaload, 1) := by decide +kernel
theorem dL_act_748 : decode cL_act 748 = .ok (.iastore, 1) := by decide +kernel
theorem dL_act_749 : decode cL_act 749 = .ok (.iinc 15 1, 3) := by decide +kernel
theorem dL_act_752 : decode cL_act 752 = .ok (.goto (-28), 3) := by decide +kernel
theorem dL_act_755 : decode cL_act 755 = .ok (.aload_n 0, 1) := by decide +kernel
theorem dL_act_756 : decode cL_act 756 = .ok (.iload 9, 2) := by decide +kernel
theorem dL_act_758 : decode cL_act 758 = .ok (.iload 12, 2) := by decide +kernel
theorem dL_act_760 : decode cL_act 760 = .ok (.invokevirtual 138, 3) := by decide +kernel
theorem dL_act_763 : decode cL_act 763 = .ok (.aload 10, 2) := by decide +kernel
theorem dL_act_765 : decode cL_act 765 = .ok (.iconst 0, 1) := by decide +kernel
theorem dL_act_766 : decode cL_act 766 = .ok (.iaload, 1) := by decide +kernel
theorem dL_act_767 : decode cL_act 767 = .ok (.if_icmp .ne 7, 3) := by decide +kernel
theorem dL_act_770 : decode cL_act 770 = .ok (.iconst 1, 1) := by decide +kernel
theorem dL_act_771 : decode cL_act 771 = .ok (.goto 4, 3) := by decide +kernel
theorem dL_act_774 : decode cL_act 774 = .ok (.iconst 0, 1) := by decide +kernel
theorem dL_act_775 : decode cL_act 775 = .ok (.ireturn, 1) := by decide +kernel
theorem dL_act_776 : decode cL_act 776 = .ok (.iload_n 1, 1) := by decide +kernel
theorem dL_act_777 : decode cL_act 777 = .ok (.bipush 12, 2) := by decide +kernel
theorem dL_act_779 : decode cL_act 779 = .ok (.if_icmp .ne 76, 3) := by decide +kernel
theorem dL_act_782 : decode cL_act 782 = .ok (.bipush 100, 2) := by decide +kernel
theorem dL_act_784 : decode cL_act 784 = .ok (.aload 8, 2) := by decide +kernel
theorem dL_act_786 : decode cL_act 786 = .ok (.iconst 1, 1) := by decide +kernel
theorem dL_act_787 : decode cL_act 787 = .ok (.iaload, 1) := by decide +kernel
theorem dL_act_788 : decode cL_act 788 = .ok (.imul, 1) := by decide +kernel
theorem dL_act_789 : decode cL_act 789 = .ok (.aload 8, 2) := by decide +kernel
theorem dL_act_791 : decode cL_act 791 = .ok (.iconst 2, 1) := by decide +kernel
theorem dL_act_792 : decode cL_act 792 = .ok (.iaload, 1) := by decide +kernel
theorem dL_act_793 : decode cL_act 793 = .ok (.iadd, 1) := by decide +kernel
theorem dL_act_794 : decode cL_act 794 = .ok (.istore 15, 2) := by decide +kernel
theorem dL_act_796 : decode cL_act 796 = .ok (.aload 8, 2) := by decide +kernel
theorem dL_act_798 : decode cL_act 798 = .ok (.iconst 1, 1) := by decide +kernel
theorem dL_act_799 : decode cL_act 799 = .ok (.iload_n 2, 1) := by decide +kernel
theorem dL_act_800 : decode cL_act 800 = .ok (.iconst 3, 1) := by decide +kernel
theorem dL_act_801 : decode cL_act 801 = .ok (.ishr, 1) := by decide +kernel
theorem dL_act_802 : decode cL_act 802 = .ok (.iload_n 2, 1) := by decide +kernel
theorem dL_act_803 : decode cL_act 803 = .ok (.iconst 2, 1) := by decide +kernel
theorem dL_act_804 : decode cL_act 804 = .ok (.invokestatic 71, 3) := by decide +kernel
theorem dL_act_807 : decode cL_act 807 = .ok (.ifCond .ne 9, 3) := by decide +kernel
theorem dL_act_810 : decode cL_act 810 = .ok (.sipush 601, 3) := by decide +kernel
theorem dL_act_813 : decode cL_act 813 = .ok (.goto 5, 3) := by decide +kernel
theorem dL_act_816 : decode cL_act 816 = .ok (.bipush 60, 2) := by decide +kernel
theorem dL_act_818 : decode cL_act 818 = .ok (.invokestatic 71, 3) := by decide +kernel
theorem dL_act_821 : decode cL_act 821 = .ok (.iastore, 1) := by decide +kernel
theorem dL_act_822 : decode cL_act 822 = .ok (.aload 8, 2) := by decide +kernel
theorem dL_act_824 : decode cL_act 824 = .ok (.iconst 2, 1) := by decide +kernel
theorem dL_act_825 : decode cL_act 825 = .ok (.iload_n 3, 1) := by decide +kernel
theorem dL_act_826 : decode cL_act 826 = .ok (.bipush 21, 2) := by decide +kernel
theorem dL_act_828 : decode cL_act 828 = .ok (.invokestatic 71, 3) := by decide +kernel
theorem dL_act_831 : decode cL_act 831 = .ok (.iastore, 1) := by decide +kernel
theorem dL_act_832 : decode cL_act 832 = .ok (.aload_n 0, 1) := by decide +kernel
theorem dL_act_833 : decode cL_act 833 = .ok (.aload 8, 2) := by decide +kernel
theorem dL_act_835 : decode cL_act 835 = .ok (.iconst 1, 1) := by decide +kernel
theorem dL_act_836 : decode cL_act 836 = .ok (.iaload, 1) := by decide +kernel
theorem dL_act_837 : decode cL_act 837 = .ok (.aload 8, 2) := by decide +kernel
theorem dL_act_839 : decode cL_act 839 = .ok (.iconst 2, 1) := by decide +kernel
theorem dL_act_840 : decode cL_act 840 = .ok (.iaload, 1) := by decide +kernel
theorem dL_act_841 : decode cL_act 841 = .ok (.invokevirtual 141, 3) := by decide +kernel
theorem dL_act_844 : decode cL_act 844 = .ok (.iload 15, 2) := by decide +kernel
theorem dL_act_846 : decode cL_act 846 = .ok (.if_icmp .ne 7, 3) := by decide +kernel
theorem dL_act_849 : decode cL_act 849 = .ok (.iconst 1, 1) := by decide +kernel
theorem dL_act_850 : decode cL_act 850 = .ok (.goto 4, 3) := by decide +kernel
theorem dL_act_853 : decode cL_act 853 = .ok (.iconst 0, 1) := by decide +kernel
theorem dL_act_854 : decode cL_act 854 = .ok (.ireturn, 1) := by decide +kernel
theorem dL_act_855 : decode cL_act 855 = .ok (.iconst 0, 1) := by decide +kernel
theorem dL_act_856 : decode cL_act 856 = .ok (.istore 15, 2) := by decide +kernel
theorem dL_act_858 : decode cL_act 858 = .ok (.iconst 0, 1) := by decide +kernel
theorem dL_act_859 : decode cL_act 859 = .ok (.istore 16, 2) := by decide +kernel
theorem dL_act_861 : decode cL_act 861 = .ok (.iload 16, 2) := by decide +kernel
theorem dL_act_863 : decode cL_act 863 = .ok (.aload 10, 2) := by decide +kernel
theorem dL_act_865 : decode cL_act 865 = .ok (.iconst 0, 1) := by decide +kernel
theorem dL_act_866 : decode cL_act 866 = .ok (.iaload, 1) := by decide +kernel
theorem dL_act_867 : decode cL_act 867 = .ok (.if_icmp .ge 132, 3) := by decide +kernel
theorem dL_act_870 : decode cL_act 870 = .ok (.aload 10, 2) := by decide +kernel
theorem dL_act_872 : decode cL_act 872 = .ok (.iconst 2, 1) := by decide +kernel
theorem dL_act_873 : decode cL_act 873 = .ok (.iconst 4, 1) := by decide +kernel
theorem dL_act_874 : decode cL_act 874 = .ok (.iload 16, 2) := by decide +kernel
theorem dL_act_876 : decode cL_act 876 = .ok (.imul, 1) := by decide +kernel
theorem dL_act_877 : decode cL_act 877 = .ok (.iadd, 1) := by decide +kernel
theorem dL_act_878 : decode cL_act 878 = .ok (.iaload, 1) := by decide +kernel
theorem dL_act_879 : decode cL_act 879 = .ok (.ldc 21, 2) := by decide +kernel
theorem dL_act_881 : decode cL_act 881 = .ok (.if_icmp .ne 6, 3) := by decide +kernel
theorem dL_act_884 : decode cL_act 884 = .ok (.goto 109, 3) := by decide +kernel
theorem dL_act_887 : decode cL_act 887 = .ok (.iconst 0, 1) := by decide +kernel
theorem dL_act_888 : decode cL_act 888 = .ok (.aload 10, 2) := by decide +kernel
theorem dL_act_890 : decode cL_act 890 = .ok (.aload 7, 2) := by decide +kernel
theorem dL_act_892 : decode cL_act 892 = .ok (.aload 13, 2) := by decide +kernel
theorem dL_act_894 : decode cL_act 894 = .ok (.aload 14, 2) := by decide +kernel
theorem dL_act_896 : decode cL_act 896 = .ok (.invokestatic 49, 3) := by decide +kernel
theorem dL_act_899 : decode cL_act 899 = .ok (.iload 16, 2) := by decide +kernel
theorem dL_act_901 : decode cL_act 901 = .ok (.aload 10, 2) := by decide +kernel
theorem dL_act_903 : decode cL_act 903 = .ok (.iconst 2, 1) := by decide +kernel
theorem dL_act_904 : decode cL_act 904 = .ok (.iconst 4, 1) := by decide +kernel
theorem dL_act_905 : decode cL_act 905 = .ok (.iload 16, 2) := by decide +kernel
theorem dL_act_907 : decode cL_act 907 = .ok (.imul, 1) := by decide +kernel
theorem dL_act_908 : decode cL_act 908 = .ok (.iadd, 1) := by decide +kernel
theorem dL_act_909 : decode cL_act 909 = .ok (.iaload, 1) := by decide +kernel
theorem dL_act_910 : decode cL_act 910 = .ok (.aload 10, 2) := by decide +kernel
theorem dL_act_912 : decode cL_act 912 = .ok (.aload 7, 2) := by decide +kernel
theorem dL_act_914 : decode cL_act 914 = .ok (.aload 13, 2) := by decide +kernel
theorem dL_act_916 : decode cL_act 916 = .ok (.aload 14, 2) := by decide +kernel
theorem dL_act_918 : decode cL_act 918 = .ok (.aload 8, 2) := by decide +kernel
theorem dL_act_920 : decode cL_act 920 = .ok (.invokestatic 105, 3) := by decide +kernel
theorem dL_act_923 : decode cL_act 923 = .ok (.istore 17, 2) := by decide +kernel
theorem dL_act_925 : decode cL_act 925 = .ok (.iload 15, 2) := by decide +kernel
theorem dL_act_927 : decode cL_act 927 = .ok (.iload 17, 2) := by decide +kernel
theorem dL_act_929 : decode cL_act 929 = .ok (.sipush 1000, 3) := by decide +kernel
theorem dL_act_932 : decode cL_act 932 = .ok (.aload 10, 2) := by decide +kernel
theorem dL_act_934 : decode cL_act 934 = .ok (.iconst 3, 1) := by decide +kernel
theorem dL_act_935 : decode cL_act 935 = .ok (.iconst 4, 1) := by decide +kernel
theorem dL_act_936 : decode cL_act 936 = .ok (.iload 16, 2) := by decide +kernel
theorem dL_act_938 : decode cL_act 938 = .ok (.imul, 1) := by decide +kernel
theorem dL_act_939 : decode cL_act 939 = .ok (.iadd, 1) := by decide +kernel
theorem dL_act_940 : decode cL_act 940 = .ok (.iaload, 1) := by decide +kernel
theorem dL_act_941 : decode cL_act 941 = .ok (.imul, 1) := by decide +kernel
theorem dL_act_942 : decode cL_act 942 = .ok (.aload 10, 2) := by decide +kernel
theorem dL_act_944 : decode cL_act 944 = .ok (.iconst 4, 1) := by decide +kernel
theorem dL_act_945 : decode cL_act 945 = .ok (.iconst 4, 1) := by decide +kernel
theorem dL_act_946 : decode cL_act 946 = .ok (.iload 16, 2) := by decide +kernel
theorem dL_act_948 : decode cL_act 948 = .ok (.imul, 1) := by decide +kernel
theorem dL_act_949 : decode cL_act 949 = .ok (.iadd, 1) := by decide +kernel
theorem dL_act_950 : decode cL_act 950 = .ok (.iaload, 1) := by decide +kernel
theorem dL_act_951 : decode cL_act 951 = .ok (.iadd, 1) := by decide +kernel
theorem dL_act_952 : decode cL_act 952 = .ok (.if_icmp .eq 7, 3) := by decide +kernel
theorem dL_act_955 : decode cL_act 955 = .ok (.iconst 1, 1) := by decide +kernel
theorem dL_act_956 : decode cL_act 956 = .ok (.goto 4, 3) := by decide +kernel
theorem dL_act_959 : decode cL_act 959 = .ok (.iconst 0, 1) := by decide +kernel
theorem dL_act_960 : decode cL_act 960 = .ok (.iadd, 1) := by decide +kernel
theorem dL_act_961 : decode cL_act 961 = .ok (.istore 15, 2) := by decide +kernel
theorem dL_act_963 : decode cL_act 963 = .ok (.aload 10, 2) := by decide +kernel
theorem dL_act_965 : decode cL_act 965 = .ok (.iconst 3, 1) := by decide +kernel
theorem dL_act_966 : decode cL_act 966 = .ok (.iconst 4, 1) := by decide +kernel
theorem dL_act_967 : decode cL_act 967 = .ok (.iload 16, 2) := by decide +kernel
theorem dL_act_969 : decode cL_act 969 = .ok (.imul, 1) := by decide +kernel
theorem dL_act_970 : decode cL_act 970 = .ok (.iadd, 1) := by decide +kernel
theorem dL_act_971 : decode cL_act 971 = .ok (.iload 17, 2) := by decide +kernel
theorem dL_act_973 : decode cL_act 973 = .ok (.sipush 1000, 3) := by decide +kernel
theorem dL_act_976 : decode cL_act 976 = .ok (.idiv, 1) := by decide +kernel
theorem dL_act_977 : decode cL_act 977 = .ok (.iastore, 1) := by decide +kernel
theorem dL_act_978 : decode cL_act 978 = .ok (.aload 10, 2) := by decide +kernel
theorem dL_act_980 : decode cL_act 980 = .ok (.iconst 4, 1) := by decide +kernel
theorem dL_act_981 : decode cL_act 981 = .ok (.iconst 4, 1) := by decide +kernel
theorem dL_act_982 : decode cL_act 982 = .ok (.iload 16, 2) := by decide +kernel
theorem dL_act_984 : decode cL_act 984 = .ok (.imul, 1) := by decide +kernel
theorem dL_act_985 : decode cL_act 985 = .ok (.iadd, 1) := by decide +kernel
theorem dL_act_986 : decode cL_act 986 = .ok (.iload 17, 2) := by decide +kernel
theorem dL_act_988 : decode cL_act 988 = .ok (.sipush 1000, 3) := by decide +kernel
theorem dL_act_991 : decode cL_act 991 = .ok (.irem, 1) := by decide +kernel
theorem dL_act_992 : decode cL_act 992 = .ok (.iastore, 1) := by decide +kernel
theorem dL_act_993 : decode cL_act 993 = .ok (.iinc 16 1, 3) := by decide +kernel
theorem dL_act_996 : decode cL_act 996 = .ok (.goto (-135), 3) := by decide +kernel
theorem dL_act_999 : decode cL_act 999 = .ok (.aload_n 0, 1) := by decide +kernel
theorem dL_act_1000 : decode cL_act 1000 = .ok (.iload 9, 2) := by decide +kernel
theorem dL_act_1002 : decode cL_act 1002 = .ok (.invokevirtual 144, 3) := by decide +kernel
theorem dL_act_1005 : decode cL_act 1005 = .ok (.iload 15, 2) := by decide +kernel
theorem dL_act_1007 : decode cL_act 1007 = .ok (.if_icmp .ne 7, 3) := by decide +kernel
theorem dL_act_1010 : decode cL_act 1010 = .ok (.iconst 1, 1) := by decide +kernel
theorem dL_act_1011 : decode cL_act 1011 = .ok (.goto 4, 3) := by decide +kernel
theorem dL_act_1014 : decode cL_act 1014 = .ok (.iconst 0, 1) := by decide +kernel
theorem dL_act_1015 : decode cL_act 1015 = .ok (.ireturn, 1) := by decide +kernel
theorem dL_law_0 : decode cL_law 0 = .ok (.new 54, 3) := by decide +kernel
theorem dL_law_3 : decode cL_law 3 = .ok (.dup, 1) := by decide +kernel
theorem dL_law_4 : decode cL_law 4 = .ok (.invokespecial 147, 3) := by decide +kernel
theorem dL_law_7 : decode cL_law 7 = .ok (.astore_n 1, 1) := by decide +kernel
theorem dL_law_8 : decode cL_law 8 = .ok (.bipush 60, 2) := by decide +kernel
theorem dL_law_10 : decode cL_law 10 = .ok (.newarray .int, 2) := by decide +kernel
theorem dL_law_12 : decode cL_law 12 = .ok (.astore_n 2, 1) := by decide +kernel
theorem dL_law_13 : decode cL_law 13 = .ok (.bipush 60, 2) := by decide +kernel
theorem dL_law_15 : decode cL_law 15 = .ok (.newarray .int, 2) := by decide +kernel
theorem dL_law_17 : decode cL_law 17 = .ok (.astore_n 3, 1) := by decide +kernel
theorem dL_law_18 : decode cL_law 18 = .ok (.bipush 60, 2) := by decide +kernel
theorem dL_law_20 : decode cL_law 20 = .ok (.newarray .int, 2) := by decide +kernel
theorem dL_law_22 : decode cL_law 22 = .ok (.astore 4, 2) := by decide +kernel
theorem dL_law_24 : decode cL_law 24 = .ok (.bipush 12, 2) := by decide +kernel
theorem dL_law_26 : decode cL_law 26 = .ok (.newarray .int, 2) := by decide +kernel
theorem dL_law_28 : decode cL_law 28 = .ok (.astore 5, 2) := by decide +kernel
theorem dL_law_30 : decode cL_law 30 = .ok (.iconst 3, 1) := by decide +kernel
theorem dL_law_31 : decode cL_law 31 = .ok (.newarray .int, 2) := by decide +kernel
theorem dL_law_33 : decode cL_law 33 = .ok (.astore 6, 2) := by decide +kernel
theorem dL_law_35 : decode cL_law 35 = .ok (.aload 6, 2) := by decide +kernel
theorem dL_law_37 : decode cL_law 37 = .ok (.iconst 1, 1) := by decide +kernel
theorem dL_law_38 : decode cL_law 38 = .ok (.bipush 20, 2) := by decide +kernel
theorem dL_law_40 : decode cL_law 40 = .ok (.iastore, 1) := by decide +kernel
theorem dL_law_41 : decode cL_law 41 = .ok (.aload 6, 2) := by decide +kernel
theorem dL_law_43 : decode cL_law 43 = .ok (.iconst 2, 1) := by decide +kernel
theorem dL_law_44 : decode cL_law 44 = .ok (.iconst 5, 1) := by decide +kernel
theorem dL_law_45 : decode cL_law 45 = .ok (.iastore, 1) := by decide +kernel
theorem dL_law_46 : decode cL_law 46 = .ok (.aload_n 2, 1) := by decide +kernel
theorem dL_law_47 : decode cL_law 47 = .ok (.bipush 30, 2) := by decide +kernel
theorem dL_law_49 : decode cL_law 49 = .ok (.iconst 1, 1) := by decide +kernel
theorem dL_law_50 : decode cL_law 50 = .ok (.iastore, 1) := by decide +kernel
theorem dL_law_51 : decode cL_law 51 = .ok (.aload_n 3, 1) := by decide +kernel
theorem dL_law_52 : decode cL_law 52 = .ok (.bipush 30, 2) := by decide +kernel
theorem dL_law_54 : decode cL_law 54 = .ok (.iconst 1, 1) := by decide +kernel
theorem dL_law_55 : decode cL_law 55 = .ok (.iastore, 1) := by decide +kernel
theorem dL_law_56 : decode cL_law 56 = .ok (.aload 4, 2) := by decide +kernel
theorem dL_law_58 : decode cL_law 58 = .ok (.bipush 30, 2) := by decide +kernel
theorem dL_law_60 : decode cL_law 60 = .ok (.iconst 1, 1) := by decide +kernel
theorem dL_law_61 : decode cL_law 61 = .ok (.iastore, 1) := by decide +kernel
theorem dL_law_62 : decode cL_law 62 = .ok (.aload_n 2, 1) := by decide +kernel
theorem dL_law_63 : decode cL_law 63 = .ok (.bipush 32, 2) := by decide +kernel
theorem dL_law_65 : decode cL_law 65 = .ok (.bipush 16, 2) := by decide +kernel
theorem dL_law_67 : decode cL_law 67 = .ok (.iastore, 1) := by decide +kernel
theorem dL_law_68 : decode cL_law 68 = .ok (.aload_n 3, 1) := by decide +kernel
theorem dL_law_69 : decode cL_law 69 = .ok (.bipush 32, 2) := by decide +kernel
theorem dL_law_71 : decode cL_law 71 = .ok (.bipush 16, 2) := by decide +kernel
theorem dL_law_73 : decode cL_law 73 = .ok (.iastore, 1) := by decide +kernel
theorem dL_law_74 : decode cL_law 74 = .ok (.aload 4, 2) := by decide +kernel
theorem dL_law_76 : decode cL_law 76 = .ok (.bipush 32, 2) := by decide +kernel
theorem dL_law_78 : decode cL_law 78 = .ok (.bipush 16, 2) := by decide +kernel
theorem dL_law_80 : decode cL_law 80 = .ok (.iastore, 1) := by decide +kernel
theorem dL_law_81 : decode cL_law 81 = .ok (.aload_n 1, 1) := by decide +kernel
theorem dL_law_82 : decode cL_law 82 = .ok (.iconst 1, 1) := by decide +kernel
theorem dL_law_83 : decode cL_law 83 = .ok (.aload_n 2, 1) := by decide +kernel
theorem dL_law_84 : decode cL_law 84 = .ok (.aload_n 3, 1) := by decide +kernel
theorem dL_law_85 : decode cL_law 85 = .ok (.aload 4, 2) := by decide +kernel
theorem dL_law_87 : decode cL_law 87 = .ok (.aload 5, 2) := by decide +kernel
theorem dL_law_89 : decode cL_law 89 = .ok (.aload 6, 2) := by decide +kernel
theorem dL_law_91 : decode cL_law 91 = .ok (.invokestatic 148, 3) := by decide +kernel
theorem dL_law_94 : decode cL_law 94 = .ok (.ifCond .eq 12, 3) := by decide +kernel
theorem dL_law_97 : decode cL_law 97 = .ok (.aload_n 1, 1) := by decide +kernel
theorem dL_law_98 : decode cL_law 98 = .ok (.bipush 7, 2) := by decide +kernel
theorem dL_law_100 : decode cL_law 100 = .ok (.invokevirtual 96, 3) := by decide +kernel
theorem dL_law_103 : decode cL_law 103 = .ok (.ifCond .eq 5, 3) := by decide +kernel
theorem dL_law_106 : decode cL_law 106 = .ok (.iconst 0, 1) := by decide +kernel
theorem dL_law_107 : decode cL_law 107 = .ok (.ireturn, 1) := by decide +kernel
theorem dL_law_108 : decode cL_law 108 = .ok (.iconst 0, 1) := by decide +kernel
theorem dL_law_109 : decode cL_law 109 = .ok (.istore 7, 2) := by decide +kernel
theorem dL_law_111 : decode cL_law 111 = .ok (.iload 7, 2) := by decide +kernel
theorem dL_law_113 : decode cL_law 113 = .ok (.bipush 22, 2) := by decide +kernel
theorem dL_law_115 : decode cL_law 115 = .ok (.if_icmp .ge 171, 3) := by decide +kernel
theorem dL_law_118 : decode cL_law 118 = .ok (.aload_n 0, 1) := by decide +kernel
theorem dL_law_119 : decode cL_law 119 = .ok (.iconst 2, 1) := by decide +kernel
theorem dL_law_120 : decode cL_law 120 = .ok (.iload 7, 2) := by decide +kernel
theorem dL_law_122 : decode cL_law 122 = .ok (.imul, 1) := by decide +kernel
theorem dL_law_123 : decode cL_law 123 = .ok (.invokestatic 152, 3) := by decide +kernel
theorem dL_law_126 : decode cL_law 126 = .ok (.ldc 156, 2) := by decide +kernel
theorem dL_law_128 : decode cL_law 128 = .ok (.iand, 1) := by decide +kernel
theorem dL_law_129 : decode cL_law 129 = .ok (.istore 8, 2) := by decide +kernel
theorem dL_law_131 : decode cL_law 131 = .ok (.aload_n 0, 1) := by decide +kernel
theorem dL_law_132 : decode cL_law 132 = .ok (.iconst 2, 1) := by decide +kernel
theorem dL_law_133 : decode cL_law 133 = .ok (.iload 7, 2) := by decide +kernel
theorem dL_law_135 : decode cL_law 135 = .ok (.imul, 1) := by decide +kernel
theorem dL_law_136 : decode cL_law 136 = .ok (.iconst 1, 1) := by decide +kernel
theorem dL_law_137 : decode cL_law 137 = .ok (.iadd, 1) := by decide +kernel
theorem dL_law_138 : decode cL_law 138 = .ok (.invokestatic 152, 3) := by decide +kernel
theorem dL_law_141 : decode cL_law 141 = .ok (.ldc 156, 2) := by decide +kernel
theorem dL_law_143 : decode cL_law 143 = .ok (.iand, 1) := by decide +kernel
theorem dL_law_144 : decode cL_law 144 = .ok (.istore 9, 2) := by decide +kernel
theorem dL_law_146 : decode cL_law 146 = .ok (.aload_n 1, 1) := by decide +kernel
theorem dL_law_147 : decode cL_law 147 = .ok (.iload 7, 2) := by decide +kernel
theorem dL_law_149 : decode cL_law 149 = .ok (.iconst 2, 1) := by decide +kernel
theorem dL_law_150 : decode cL_law 150 = .ok (.if_icmp .ge 8, 3) := by decide +kernel
theorem dL_law_153 : decode cL_law 153 = .ok (.bipush 6, 2) := by decide +kernel
theorem dL_law_155 : decode cL_law 155 = .ok (.goto 23, 3) := by decide +kernel
theorem dL_law_158 : decode cL_law 158 = .ok (.iload 7, 2) := by decide +kernel
theorem dL_law_160 : decode cL_law 160 = .ok (.iconst 4, 1) := by decide +kernel
theorem dL_law_161 : decode cL_law 161 = .ok (.if_icmp .ge 7, 3) := by decide +kernel
theorem dL_law_164 : decode cL_law 164 = .ok (.iconst 0, 1) := by decide +kernel
theorem dL_law_165 : decode cL_law 165 = .ok (.goto 13, 3) := by decide +kernel
theorem dL_law_168 : decode cL_law 168 = .ok (.iload 8, 2) := by decide +kernel
theorem dL_law_170 : decode cL_law 170 = .ok (.bipush 12, 2) := by decide +kernel
theorem dL_law_172 : decode cL_law 172 = .ok (.ishr, 1) := by decide +kernel
theorem dL_law_173 : decode cL_law 173 = .ok (.bipush 15, 2) := by decide +kernel
theorem dL_law_175 : decode cL_law 175 = .ok (.invokestatic 71, 3) := by decide +kernel
theorem dL_law_178 : decode cL_law 178 = .ok (.iload 8, 2) := by decide +kernel
theorem dL_law_180 : decode cL_law 180 = .ok (.iload 9, 2) := by decide +kernel
theorem dL_law_182 : decode cL_law 182 = .ok (.aload_n 2, 1) := by decide +kernel
theorem dL_law_183 : decode cL_law 183 = .ok (.aload_n 3, 1) := by decide +kernel
theorem dL_law_184 : decode cL_law 184 = .ok (.aload 4, 2) := by decide +kernel
theorem dL_law_186 : decode cL_law 186 = .ok (.aload 5, 2) := by decide +kernel
theorem dL_law_188 : decode cL_law 188 = .ok (.aload 6, 2) := by decide +kernel
theorem dL_law_190 : decode cL_law 190 = .ok (.invokestatic 157, 3) := by decide +kernel
theorem dL_law_193 : decode cL_law 193 = .ok (.ifCond .eq 22, 3) := by decide +kernel
theorem dL_law_196 : decode cL_law 196 = .ok (.aload_n 1, 1) := by decide +kernel
theorem dL_law_197 : decode cL_law 197 = .ok (.iload 9, 2) := by decide +kernel
theorem dL_law_199 : decode cL_law 199 = .ok (.iconst 2, 1) := by decide +kernel
theorem dL_law_200 : decode cL_law 200 = .ok (.ishr, 1) := by decide +kernel
theorem dL_law_201 : decode cL_law 201 = .ok (.aload_n 2, 1) := by decide +kernel
theorem dL_law_202 : decode cL_law 202 = .ok (.aload_n 3, 1) := by decide +kernel
theorem dL_law_203 : decode cL_law 203 = .ok (.aload 4, 2) := by decide +kernel
theorem dL_law_205 : decode cL_law 205 = .ok (.aload 5, 2) := by decide +kernel
theorem dL_law_207 : decode cL_law 207 = .ok (.aload 6, 2) := by decide +kernel
theorem dL_law_209 : decode cL_law 209 = .ok (.invokestatic 148, 3) := by decide +kernel
theorem dL_law_212 : decode cL_law 212 = .ok (.ifCond .ne 5, 3) := by decide +kernel
theorem dL_law_215 : decode cL_law 215 = .ok (.iconst 0, 1) := by decide +kernel
theorem dL_law_216 : decode cL_law 216 = .ok (.ireturn, 1) := by decide +kernel
theorem dL_law_217 : decode cL_law 217 = .ok (.iload 9, 2) := by decide +kernel
theorem dL_law_219 : decode cL_law 219 = .ok (.iconst 5, 1) := by decide +kernel
theorem dL_law_220 : decode cL_law 220 = .ok (.ishr, 1) := by decide +kernel
theorem dL_law_221 : decode cL_law 221 = .ok (.iconst 3, 1) := by decide +kernel
theorem dL_law_222 : decode cL_law 222 = .ok (.invokestatic 71, 3) := by decide +kernel
theorem dL_law_225 : decode cL_law 225 = .ok (.istore 10, 2) := by decide +kernel
theorem dL_law_227 : decode cL_law 227 = .ok (.iload 7, 2) := by decide +kernel
theorem dL_law_229 : decode cL_law 229 = .ok (.bipush 6, 2) := by decide +kernel
theorem dL_law_231 : decode cL_law 231 = .ok (.irem, 1) := by decide +kernel
theorem dL_law_232 : decode cL_law 232 = .ok (.iconst 5, 1) := by decide +kernel
theorem dL_law_233 : decode cL_law 233 = .ok (.if_icmp .ne 47, 3) := by decide +kernel
theorem dL_law_236 : decode cL_law 236 = .ok (.aload_n 1, 1) := by decide +kernel
theorem dL_law_237 : decode cL_law 237 = .ok (.iload 10, 2) := by decide +kernel
theorem dL_law_239 : decode cL_law 239 = .ok (.iload 9, 2) := by decide +kernel
theorem dL_law_241 : decode cL_law 241 = .ok (.iconst 2, 1) := by decide +kernel
theorem dL_law_242 : decode cL_law 242 = .ok (.ishr, 1) := by decide +kernel
theorem dL_law_243 : decode cL_law 243 = .ok (.iload 8, 2) := by decide +kernel
theorem dL_law_245 : decode cL_law 245 = .ok (.iconst 2, 1) := by decide +kernel
theorem dL_law_246 : decode cL_law 246 = .ok (.ishr, 1) := by decide +kernel
theorem dL_law_247 : decode cL_law 247 = .ok (.iload 10, 2) := by decide +kernel
theorem dL_law_249 : decode cL_law 249 = .ok (.ifCond .ne 7, 3) := by decide +kernel
theorem dL_law_252 : decode cL_law 252 = .ok (.aload_n 2, 1) := by decide +kernel
theorem dL_law_253 : decode cL_law 253 = .ok (.goto 15, 3) := by decide +kernel
theorem dL_law_256 : decode cL_law 256 = .ok (.iload 10, 2) := by decide +kernel
theorem dL_law_258 : decode cL_law 258 = .ok (.iconst 1, 1) := by decide +kernel
theorem dL_law_259 : decode cL_law 259 = .ok (.if_icmp .ne 7, 3) := by decide +kernel
theorem dL_law_262 : decode cL_law 262 = .ok (.aload_n 3, 1) := by decide +kernel
theorem dL_law_263 : decode cL_law 263 = .ok (.goto 5, 3) := by decide +kernel
theorem dL_law_266 : decode cL_law 266 = .ok (.aload 4, 2) := by decide +kernel
theorem dL_law_268 : decode cL_law 268 = .ok (.aload 5, 2) := by decide +kernel
theorem dL_law_270 : decode cL_law 270 = .ok (.aload 6, 2) := by decide +kernel
theorem dL_law_272 : decode cL_law 272 = .ok (.invokestatic 161, 3) := by decide +kernel
theorem dL_law_275 : decode cL_law 275 = .ok (.ifCond .ne 5, 3) := by decide +kernel
theorem dL_law_278 : decode cL_law 278 = .ok (.iconst 0, 1) := by decide +kernel
theorem dL_law_279 : decode cL_law 279 = .ok (.ireturn, 1) := by decide +kernel
theorem dL_law_280 : decode cL_law 280 = .ok (.iinc 7 1, 3) := by decide +kernel
theorem dL_law_283 : decode cL_law 283 = .ok (.goto (-172), 3) := by decide +kernel
theorem dL_law_286 : decode cL_law 286 = .ok (.aload_n 1, 1) := by decide +kernel
theorem dL_law_287 : decode cL_law 287 = .ok (.bipush 7, 2) := by decide +kernel
theorem dL_law_289 : decode cL_law 289 = .ok (.invokevirtual 96, 3) := by decide +kernel
theorem dL_law_292 : decode cL_law 292 = .ok (.ifCond .le 7, 3) := by decide +kernel
theorem dL_law_295 : decode cL_law 295 = .ok (.iconst 1, 1) := by decide +kernel
theorem dL_law_296 : decode cL_law 296 = .ok (.goto 4, 3) := by decide +kernel
theorem dL_law_299 : decode cL_law 299 = .ok (.iconst 0, 1) := by decide +kernel
theorem dL_law_300 : decode cL_law 300 = .ok (.ireturn, 1) := by decide +kernel
