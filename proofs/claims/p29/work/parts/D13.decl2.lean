theorem dL_world_104 : decode cL_world 104 = .ok (.iconst 0, 1) := by decide +kernel
theorem dL_world_105 : decode cL_world 105 = .ok (.istore 13, 2) := by decide +kernel
theorem dL_world_107 : decode cL_world 107 = .ok (.iload 13, 2) := by decide +kernel
theorem dL_world_109 : decode cL_world 109 = .ok (.iload 12, 2) := by decide +kernel
theorem dL_world_111 : decode cL_world 111 = .ok (.if_icmp .ge 708, 3) := by decide +kernel
theorem dL_world_114 : decode cL_world 114 = .ok (.aload_n 1, 1) := by decide +kernel
theorem dL_world_115 : decode cL_world 115 = .ok (.iload_n 2, 1) := by decide +kernel
theorem dL_world_116 : decode cL_world 116 = .ok (.iconst 1, 1) := by decide +kernel
theorem dL_world_117 : decode cL_world 117 = .ok (.iadd, 1) := by decide +kernel
theorem dL_world_118 : decode cL_world 118 = .ok (.iload 13, 2) := by decide +kernel
theorem dL_world_120 : decode cL_world 120 = .ok (.iadd, 1) := by decide +kernel
theorem dL_world_121 : decode cL_world 121 = .ok (.invokestatic 44, 3) := by decide +kernel
theorem dL_world_124 : decode cL_world 124 = .ok (.istore 14, 2) := by decide +kernel
theorem dL_world_126 : decode cL_world 126 = .ok (.iload 13, 2) := by decide +kernel
theorem dL_world_128 : decode cL_world 128 = .ok (.ifCond .ne 17, 3) := by decide +kernel
theorem dL_world_131 : decode cL_world 131 = .ok (.iload 5, 2) := by decide +kernel
theorem dL_world_133 : decode cL_world 133 = .ok (.bipush 8, 2) := by decide +kernel
theorem dL_world_135 : decode cL_world 135 = .ok (.ishr, 1) := by decide +kernel
theorem dL_world_136 : decode cL_world 136 = .ok (.iconst 3, 1) := by decide +kernel
theorem dL_world_137 : decode cL_world 137 = .ok (.iand, 1) := by decide +kernel
theorem dL_world_138 : decode cL_world 138 = .ok (.ifCond .le 7, 3) := by decide +kernel
theorem dL_world_141 : decode cL_world 141 = .ok (.iconst 0, 1) := by decide +kernel
theorem dL_world_142 : decode cL_world 142 = .ok (.goto 10, 3) := by decide +kernel
theorem dL_world_145 : decode cL_world 145 = .ok (.iload 14, 2) := by decide +kernel
theorem dL_world_147 : decode cL_world 147 = .ok (.iconst 0, 1) := by decide +kernel
theorem dL_world_148 : decode cL_world 148 = .ok (.iconst 3, 1) := by decide +kernel
theorem dL_world_149 : decode cL_world 149 = .ok (.invokestatic 54, 3) := by decide +kernel
theorem dL_world_152 : decode cL_world 152 = .ok (.istore 15, 2) := by decide +kernel
theorem dL_world_154 : decode cL_world 154 = .ok (.iload 15, 2) := by decide +kernel
theorem dL_world_156 : decode cL_world 156 = .ok (.iconst 1, 1) := by decide +kernel
theorem dL_world_157 : decode cL_world 157 = .ok (.if_icmp .ne 11, 3) := by decide +kernel
theorem dL_world_160 : decode cL_world 160 = .ok (.aload 11, 2) := by decide +kernel
theorem dL_world_162 : decode cL_world 162 = .ok (.ifnonnull 6, 3) := by decide +kernel
theorem dL_world_165 : decode cL_world 165 = .ok (.iconst 0, 1) := by decide +kernel
theorem dL_world_166 : decode cL_world 166 = .ok (.istore 15, 2) := by decide +kernel
theorem dL_world_168 : decode cL_world 168 = .ok (.iload 15, 2) := by decide +kernel
theorem dL_world_170 : decode cL_world 170 = .ok (.ifCond .ne 160, 3) := by decide +kernel
theorem dL_world_173 : decode cL_world 173 = .ok (.iload 7, 2) := by decide +kernel
theorem dL_world_175 : decode cL_world 175 = .ok (.iload 8, 2) := by decide +kernel
theorem dL_world_177 : decode cL_world 177 = .ok (.invokestatic 78, 3) := by decide +kernel
theorem dL_world_180 : decode cL_world 180 = .ok (.astore 16, 2) := by decide +kernel
theorem dL_world_182 : decode cL_world 182 = .ok (.iload 14, 2) := by decide +kernel
theorem dL_world_184 : decode cL_world 184 = .ok (.iconst 3, 1) := by decide +kernel
theorem dL_world_185 : decode cL_world 185 = .ok (.ishr, 1) := by decide +kernel
theorem dL_world_186 : decode cL_world 186 = .ok (.bipush 7, 2) := by decide +kernel
theorem dL_world_188 : decode cL_world 188 = .ok (.iand, 1) := by decide +kernel
theorem dL_world_189 : decode cL_world 189 = .ok (.ifCond .ne 39, 3) := by decide +kernel
theorem dL_world_192 : decode cL_world 192 = .ok (.iconst 0, 1) := by decide +kernel
theorem dL_world_193 : decode cL_world 193 = .ok (.istore 17, 2) := by decide +kernel
theorem dL_world_195 : decode cL_world 195 = .ok (.iload 17, 2) := by decide +kernel
theorem dL_world_197 : decode cL_world 197 = .ok (.iload 8, 2) := by decide +kernel
theorem dL_world_199 : decode cL_world 199 = .ok (.if_icmp .ge 29, 3) := by decide +kernel
theorem dL_world_202 : decode cL_world 202 = .ok (.aload 16, 2) := by decide +kernel
theorem dL_world_204 : decode cL_world 204 = .ok (.iload 17, 2) := by decide +kernel
theorem dL_world_206 : decode cL_world 206 = .ok (.iload 14, 2) := by decide +kernel
theorem dL_world_208 : decode cL_world 208 = .ok (.iconst 4, 1) := by decide +kernel
theorem dL_world_209 : decode cL_world 209 = .ok (.iload 17, 2) := by decide +kernel
theorem dL_world_211 : decode cL_world 211 = .ok (.iadd, 1) := by decide +kernel
theorem dL_world_212 : decode cL_world 212 = .ok (.ishr, 1) := by decide +kernel
theorem dL_world_213 : decode cL_world 213 = .ok (.iconst 0, 1) := by decide +kernel
theorem dL_world_214 : decode cL_world 214 = .ok (.iload 7, 2) := by decide +kernel
theorem dL_world_216 : decode cL_world 216 = .ok (.iconst 1, 1) := by decide +kernel
theorem dL_world_217 : decode cL_world 217 = .ok (.isub, 1) := by decide +kernel
theorem dL_world_218 : decode cL_world 218 = .ok (.invokestatic 54, 3) := by decide +kernel
theorem dL_world_221 : decode cL_world 221 = .ok (.iastore, 1) := by decide +kernel
theorem dL_world_222 : decode cL_world 222 = .ok (.iinc 17 1, 3) := by decide +kernel
theorem dL_world_225 : decode cL_world 225 = .ok (.goto (-30), 3) := by decide +kernel
theorem dL_world_228 : decode cL_world 228 = .ok (.new 58, 3) := by decide +kernel
theorem dL_world_231 : decode cL_world 231 = .ok (.dup, 1) := by decide +kernel
theorem dL_world_232 : decode cL_world 232 = .ok (.invokespecial 60, 3) := by decide +kernel
theorem dL_world_235 : decode cL_world 235 = .ok (.aload 10, 2) := by decide +kernel
theorem dL_world_237 : decode cL_world 237 = .ok (.invokevirtual 63, 3) := by decide +kernel
theorem dL_world_240 : decode cL_world 240 = .ok (.ldc 82, 2) := by decide +kernel
theorem dL_world_242 : decode cL_world 242 = .ok (.invokevirtual 63, 3) := by decide +kernel
theorem dL_world_245 : decode cL_world 245 = .ok (.invokevirtual 74, 3) := by decide +kernel
theorem dL_world_248 : decode cL_world 248 = .ok (.astore 10, 2) := by decide +kernel
theorem dL_world_250 : decode cL_world 250 = .ok (.aload 16, 2) := by decide +kernel
theorem dL_world_252 : decode cL_world 252 = .ok (.astore 17, 2) := by decide +kernel
theorem dL_world_254 : decode cL_world 254 = .ok (.aload 17, 2) := by decide +kernel
theorem dL_world_256 : decode cL_world 256 = .ok (.arraylength, 1) := by decide +kernel
theorem dL_world_257 : decode cL_world 257 = .ok (.istore 18, 2) := by decide +kernel
theorem dL_world_259 : decode cL_world 259 = .ok (.iconst 0, 1) := by decide +kernel
theorem dL_world_260 : decode cL_world 260 = .ok (.istore 19, 2) := by decide +kernel
theorem dL_world_262 : decode cL_world 262 = .ok (.iload 19, 2) := by decide +kernel
theorem dL_world_264 : decode cL_world 264 = .ok (.iload 18, 2) := by decide +kernel
theorem dL_world_266 : decode cL_world 266 = .ok (.if_icmp .ge 43, 3) := by decide +kernel
theorem dL_world_269 : decode cL_world 269 = .ok (.aload 17, 2) := by decide +kernel
theorem dL_world_271 : decode cL_world 271 = .ok (.iload 19, 2) := by decide +kernel
theorem dL_world_273 : decode cL_world 273 = .ok (.iaload, 1) := by decide +kernel
theorem dL_world_274 : decode cL_world 274 = .ok (.istore 20, 2) := by decide +kernel
theorem dL_world_276 : decode cL_world 276 = .ok (.new 58, 3) := by decide +kernel
theorem dL_world_279 : decode cL_world 279 = .ok (.dup, 1) := by decide +kernel
theorem dL_world_280 : decode cL_world 280 = .ok (.invokespecial 60, 3) := by decide +kernel
theorem dL_world_283 : decode cL_world 283 = .ok (.aload 10, 2) := by decide +kernel
theorem dL_world_285 : decode cL_world 285 = .ok (.invokevirtual 63, 3) := by decide +kernel
theorem dL_world_288 : decode cL_world 288 = .ok (.ldc 70, 2) := by decide +kernel
theorem dL_world_290 : decode cL_world 290 = .ok (.invokevirtual 63, 3) := by decide +kernel
theorem dL_world_293 : decode cL_world 293 = .ok (.iload 20, 2) := by decide +kernel
theorem dL_world_295 : decode cL_world 295 = .ok (.invokevirtual 67, 3) := by decide +kernel
theorem dL_world_298 : decode cL_world 298 = .ok (.invokevirtual 74, 3) := by decide +kernel
theorem dL_world_301 : decode cL_world 301 = .ok (.astore 10, 2) := by decide +kernel
theorem dL_world_303 : decode cL_world 303 = .ok (.iinc 19 1, 3) := by decide +kernel
theorem dL_world_306 : decode cL_world 306 = .ok (.goto (-44), 3) := by decide +kernel
theorem dL_world_309 : decode cL_world 309 = .ok (.iload 7, 2) := by decide +kernel
theorem dL_world_311 : decode cL_world 311 = .ok (.iload 8, 2) := by decide +kernel
theorem dL_world_313 : decode cL_world 313 = .ok (.aload 16, 2) := by decide +kernel
theorem dL_world_315 : decode cL_world 315 = .ok (.invokestatic 84, 3) := by decide +kernel
theorem dL_world_318 : decode cL_world 318 = .ok (.astore 11, 2) := by decide +kernel
theorem dL_world_320 : decode cL_world 320 = .ok (.aload 11, 2) := by decide +kernel
theorem dL_world_322 : decode cL_world 322 = .ok (.invokevirtual 87, 3) := by decide +kernel
theorem dL_world_325 : decode cL_world 325 = .ok (.astore 9, 2) := by decide +kernel
theorem dL_world_327 : decode cL_world 327 = .ok (.goto 464, 3) := by decide +kernel
theorem dL_world_330 : decode cL_world 330 = .ok (.iload 15, 2) := by decide +kernel
theorem dL_world_332 : decode cL_world 332 = .ok (.iconst 1, 1) := by decide +kernel
theorem dL_world_333 : decode cL_world 333 = .ok (.if_icmp .ne 252, 3) := by decide +kernel
theorem dL_world_336 : decode cL_world 336 = .ok (.iload 14, 2) := by decide +kernel
theorem dL_world_338 : decode cL_world 338 = .ok (.iconst 3, 1) := by decide +kernel
theorem dL_world_339 : decode cL_world 339 = .ok (.ishr, 1) := by decide +kernel
theorem dL_world_340 : decode cL_world 340 = .ok (.iconst 0, 1) := by decide +kernel
theorem dL_world_341 : decode cL_world 341 = .ok (.aload 9, 2) := by decide +kernel
theorem dL_world_343 : decode cL_world 343 = .ok (.getfield 91, 3) := by decide +kernel
theorem dL_world_346 : decode cL_world 346 = .ok (.iconst 1, 1) := by decide +kernel
theorem dL_world_347 : decode cL_world 347 = .ok (.isub, 1) := by decide +kernel
theorem dL_world_348 : decode cL_world 348 = .ok (.invokestatic 54, 3) := by decide +kernel
theorem dL_world_351 : decode cL_world 351 = .ok (.istore 16, 2) := by decide +kernel
theorem dL_world_353 : decode cL_world 353 = .ok (.iload 14, 2) := by decide +kernel
theorem dL_world_355 : decode cL_world 355 = .ok (.bipush 6, 2) := by decide +kernel
theorem dL_world_357 : decode cL_world 357 = .ok (.ishr, 1) := by decide +kernel
theorem dL_world_358 : decode cL_world 358 = .ok (.iconst 0, 1) := by decide +kernel
theorem dL_world_359 : decode cL_world 359 = .ok (.iconst 4, 1) := by decide +kernel
theorem dL_world_360 : decode cL_world 360 = .ok (.invokestatic 54, 3) := by decide +kernel
theorem dL_world_363 : decode cL_world 363 = .ok (.istore 17, 2) := by decide +kernel
theorem dL_world_365 : decode cL_world 365 = .ok (.iload 14, 2) := by decide +kernel
theorem dL_world_367 : decode cL_world 367 = .ok (.bipush 8, 2) := by decide +kernel
theorem dL_world_369 : decode cL_world 369 = .ok (.ishr, 1) := by decide +kernel
theorem dL_world_370 : decode cL_world 370 = .ok (.iconst 0, 1) := by decide +kernel
theorem dL_world_371 : decode cL_world 371 = .ok (.iconst 4, 1) := by decide +kernel
theorem dL_world_372 : decode cL_world 372 = .ok (.invokestatic 54, 3) := by decide +kernel
theorem dL_world_375 : decode cL_world 375 = .ok (.istore 18, 2) := by decide +kernel
theorem dL_world_377 : decode cL_world 377 = .ok (.new 58, 3) := by decide +kernel
theorem dL_world_380 : decode cL_world 380 = .ok (.dup, 1) := by decide +kernel
theorem dL_world_381 : decode cL_world 381 = .ok (.invokespecial 60, 3) := by decide +kernel
theorem dL_world_384 : decode cL_world 384 = .ok (.aload 10, 2) := by decide +kernel
theorem dL_world_386 : decode cL_world 386 = .ok (.invokevirtual 63, 3) := by decide +kernel
theorem dL_world_389 : decode cL_world 389 = .ok (.ldc 95, 2) := by decide +kernel
theorem dL_world_391 : decode cL_world 391 = .ok (.invokevirtual 63, 3) := by decide +kernel
theorem dL_world_394 : decode cL_world 394 = .ok (.iload 16, 2) := by decide +kernel
theorem dL_world_396 : decode cL_world 396 = .ok (.invokevirtual 67, 3) := by decide +kernel
theorem dL_world_399 : decode cL_world 399 = .ok (.ldc 70, 2) := by decide +kernel
theorem dL_world_401 : decode cL_world 401 = .ok (.invokevirtual 63, 3) := by decide +kernel
theorem dL_world_404 : decode cL_world 404 = .ok (.iload 17, 2) := by decide +kernel
theorem dL_world_406 : decode cL_world 406 = .ok (.invokevirtual 67, 3) := by decide +kernel
theorem dL_world_409 : decode cL_world 409 = .ok (.ldc 70, 2) := by decide +kernel
theorem dL_world_411 : decode cL_world 411 = .ok (.invokevirtual 63, 3) := by decide +kernel
theorem dL_world_414 : decode cL_world 414 = .ok (.iload 18, 2) := by decide +kernel
theorem dL_world_416 : decode cL_world 416 = .ok (.invokevirtual 67, 3) := by decide +kernel
theorem dL_world_419 : decode cL_world 419 = .ok (.invokevirtual 74, 3) := by decide +kernel
theorem dL_world_422 : decode cL_world 422 = .ok (.astore 10, 2) := by decide +kernel
theorem dL_world_424 : decode cL_world 424 = .ok (.aload 11, 2) := by decide +kernel
theorem dL_world_426 : decode cL_world 426 = .ok (.invokevirtual 87, 3) := by decide +kernel
theorem dL_world_429 : decode cL_world 429 = .ok (.astore 9, 2) := by decide +kernel
theorem dL_world_431 : decode cL_world 431 = .ok (.iconst 0, 1) := by decide +kernel
theorem dL_world_432 : decode cL_world 432 = .ok (.istore 19, 2) := by decide +kernel
theorem dL_world_434 : decode cL_world 434 = .ok (.iload 19, 2) := by decide +kernel
theorem dL_world_436 : decode cL_world 436 = .ok (.iload 8, 2) := by decide +kernel
theorem dL_world_438 : decode cL_world 438 = .ok (.if_icmp .ge 144, 3) := by decide +kernel
theorem dL_world_441 : decode cL_world 441 = .ok (.iconst 0, 1) := by decide +kernel
theorem dL_world_442 : decode cL_world 442 = .ok (.istore 20, 2) := by decide +kernel
theorem dL_world_444 : decode cL_world 444 = .ok (.iload 20, 2) := by decide +kernel
theorem dL_world_446 : decode cL_world 446 = .ok (.iload 8, 2) := by decide +kernel
theorem dL_world_448 : decode cL_world 448 = .ok (.if_icmp .ge 128, 3) := by decide +kernel
theorem dL_world_451 : decode cL_world 451 = .ok (.iload 7, 2) := by decide +kernel
theorem dL_world_453 : decode cL_world 453 = .ok (.iload 19, 2) := by decide +kernel
theorem dL_world_455 : decode cL_world 455 = .ok (.invokestatic 97, 3) := by decide +kernel
theorem dL_world_458 : decode cL_world 458 = .ok (.istore 21, 2) := by decide +kernel
theorem dL_world_460 : decode cL_world 460 = .ok (.iload 7, 2) := by decide +kernel
theorem dL_world_462 : decode cL_world 462 = .ok (.iload 20, 2) := by decide +kernel
theorem dL_world_464 : decode cL_world 464 = .ok (.invokestatic 97, 3) := by decide +kernel
theorem dL_world_467 : decode cL_world 467 = .ok (.istore 22, 2) := by decide +kernel
theorem dL_world_469 : decode cL_world 469 = .ok (.aload 11, 2) := by decide +kernel
theorem dL_world_471 : decode cL_world 471 = .ok (.aload 11, 2) := by decide +kernel
theorem dL_world_473 : decode cL_world 473 = .ok (.getfield 101, 3) := by decide +kernel
theorem dL_world_476 : decode cL_world 476 = .ok (.iload 21, 2) := by decide +kernel
theorem dL_world_478 : decode cL_world 478 = .ok (.aaload, 1) := by decide +kernel
theorem dL_world_479 : decode cL_world 479 = .ok (.iload 22, 2) := by decide +kernel
theorem dL_world_481 : decode cL_world 481 = .ok (.iaload, 1) := by decide +kernel
theorem dL_world_482 : decode cL_world 482 = .ok (.aload 11, 2) := by decide +kernel
theorem dL_world_484 : decode cL_world 484 = .ok (.getfield 101, 3) := by decide +kernel
theorem dL_world_487 : decode cL_world 487 = .ok (.aload 11, 2) := by decide +kernel
theorem dL_world_489 : decode cL_world 489 = .ok (.getfield 101, 3) := by decide +kernel
theorem dL_world_492 : decode cL_world 492 = .ok (.iload 16, 2) := by decide +kernel
theorem dL_world_494 : decode cL_world 494 = .ok (.aaload, 1) := by decide +kernel
theorem dL_world_495 : decode cL_world 495 = .ok (.aload 11, 2) := by decide +kernel
theorem dL_world_497 : decode cL_world 497 = .ok (.iload 21, 2) := by decide +kernel
theorem dL_world_499 : decode cL_world 499 = .ok (.iload 7, 2) := by decide +kernel
theorem dL_world_501 : decode cL_world 501 = .ok (.iload 17, 2) := by decide +kernel
theorem dL_world_503 : decode cL_world 503 = .ok (.invokestatic 97, 3) := by decide +kernel
theorem dL_world_506 : decode cL_world 506 = .ok (.invokestatic 105, 3) := by decide +kernel
theorem dL_world_509 : decode cL_world 509 = .ok (.iaload, 1) := by decide +kernel
theorem dL_world_510 : decode cL_world 510 = .ok (.aaload, 1) := by decide +kernel
theorem dL_world_511 : decode cL_world 511 = .ok (.aload 11, 2) := by decide +kernel
theorem dL_world_513 : decode cL_world 513 = .ok (.iload 22, 2) := by decide +kernel
theorem dL_world_515 : decode cL_world 515 = .ok (.iload 7, 2) := by decide +kernel
theorem dL_world_517 : decode cL_world 517 = .ok (.iload 18, 2) := by decide +kernel
theorem dL_world_519 : decode cL_world 519 = .ok (.invokestatic 97, 3) := by decide +kernel
theorem dL_world_522 : decode cL_world 522 = .ok (.invokestatic 105, 3) := by decide +kernel
theorem dL_world_525 : decode cL_world 525 = .ok (.iaload, 1) := by decide +kernel
theorem dL_world_526 : decode cL_world 526 = .ok (.invokevirtual 109, 3) := by decide +kernel
theorem dL_world_529 : decode cL_world 529 = .ok (.istore 23, 2) := by decide +kernel
theorem dL_world_531 : decode cL_world 531 = .ok (.iconst 0, 1) := by decide +kernel
theorem dL_world_532 : decode cL_world 532 = .ok (.istore 24, 2) := by decide +kernel
theorem dL_world_534 : decode cL_world 534 = .ok (.iload 24, 2) := by decide +kernel
theorem dL_world_536 : decode cL_world 536 = .ok (.iload 8, 2) := by decide +kernel
theorem dL_world_538 : decode cL_world 538 = .ok (.if_icmp .ge 32, 3) := by decide +kernel
theorem dL_world_541 : decode cL_world 541 = .ok (.aload 9, 2) := by decide +kernel
theorem dL_world_543 : decode cL_world 543 = .ok (.getfield 35, 3) := by decide +kernel
theorem dL_world_546 : decode cL_world 546 = .ok (.iload 19, 2) := by decide +kernel
theorem dL_world_548 : decode cL_world 548 = .ok (.aaload, 1) := by decide +kernel
theorem dL_world_549 : decode cL_world 549 = .ok (.iload 20, 2) := by decide +kernel
theorem dL_world_551 : decode cL_world 551 = .ok (.aaload, 1) := by decide +kernel
theorem dL_world_552 : decode cL_world 552 = .ok (.iload 24, 2) := by decide +kernel
theorem dL_world_554 : decode cL_world 554 = .ok (.aload 9, 2) := by decide +kernel
theorem dL_world_556 : decode cL_world 556 = .ok (.iload 23, 2) := by decide +kernel
theorem dL_world_558 : decode cL_world 558 = .ok (.iload 24, 2) := by decide +kernel
theorem dL_world_560 : decode cL_world 560 = .ok (.invokevirtual 112, 3) := by decide +kernel
theorem dL_world_563 : decode cL_world 563 = .ok (.iastore, 1) := by decide +kernel
theorem dL_world_564 : decode cL_world 564 = .ok (.iinc 24 1, 3) := by decide +kernel
theorem dL_world_567 : decode cL_world 567 = .ok (.goto (-33), 3) := by decide +kernel
theorem dL_world_570 : decode cL_world 570 = .ok (.iinc 20 1, 3) := by decide +kernel
theorem dL_world_573 : decode cL_world 573 = .ok (.goto (-129), 3) := by decide +kernel
theorem dL_world_576 : decode cL_world 576 = .ok (.iinc 19 1, 3) := by decide +kernel
theorem dL_world_579 : decode cL_world 579 = .ok (.goto (-145), 3) := by decide +kernel
theorem dL_world_582 : decode cL_world 582 = .ok (.goto 209, 3) := by decide +kernel
theorem dL_world_585 : decode cL_world 585 = .ok (.iload 15, 2) := by decide +kernel
theorem dL_world_587 : decode cL_world 587 = .ok (.iconst 2, 1) := by decide +kernel
theorem dL_world_588 : decode cL_world 588 = .ok (.if_icmp .ne 156, 3) := by decide +kernel
theorem dL_world_591 : decode cL_world 591 = .ok (.iload 14, 2) := by decide +kernel
theorem dL_world_593 : decode cL_world 593 = .ok (.iconst 3, 1) := by decide +kernel
theorem dL_world_594 : decode cL_world 594 = .ok (.ishr, 1) := by decide +kernel
theorem dL_world_595 : decode cL_world 595 = .ok (.iconst 0, 1) := by decide +kernel
theorem dL_world_596 : decode cL_world 596 = .ok (.iload 8, 2) := by decide +kernel
theorem dL_world_598 : decode cL_world 598 = .ok (.iconst 1, 1) := by decide +kernel
theorem dL_world_599 : decode cL_world 599 = .ok (.isub, 1) := by decide +kernel
theorem dL_world_600 : decode cL_world 600 = .ok (.invokestatic 54, 3) := by decide +kernel
theorem dL_world_603 : decode cL_world 603 = .ok (.istore 16, 2) := by decide +kernel
theorem dL_world_605 : decode cL_world 605 = .ok (.iload 14, 2) := by decide +kernel
theorem dL_world_607 : decode cL_world 607 = .ok (.iconst 5, 1) := by decide +kernel
theorem dL_world_608 : decode cL_world 608 = .ok (.ishr, 1) := by decide +kernel
theorem dL_world_609 : decode cL_world 609 = .ok (.iconst 0, 1) := by decide +kernel
theorem dL_world_610 : decode cL_world 610 = .ok (.iload 8, 2) := by decide +kernel
theorem dL_world_612 : decode cL_world 612 = .ok (.iconst 1, 1) := by decide +kernel
theorem dL_world_613 : decode cL_world 613 = .ok (.isub, 1) := by decide +kernel
theorem dL_world_614 : decode cL_world 614 = .ok (.invokestatic 54, 3) := by decide +kernel
theorem dL_world_617 : decode cL_world 617 = .ok (.istore 17, 2) := by decide +kernel
theorem dL_world_619 : decode cL_world 619 = .ok (.new 58, 3) := by decide +kernel
theorem dL_world_622 : decode cL_world 622 = .ok (.dup, 1) := by decide +kernel
theorem dL_world_623 : decode cL_world 623 = .ok (.invokespecial 60, 3) := by decide +kernel
theorem dL_world_626 : decode cL_world 626 = .ok (.aload 10, 2) := by decide +kernel
theorem dL_world_628 : decode cL_world 628 = .ok (.invokevirtual 63, 3) := by decide +kernel
theorem dL_world_631 : decode cL_world 631 = .ok (.ldc 115, 2) := by decide +kernel
theorem dL_world_633 : decode cL_world 633 = .ok (.invokevirtual 63, 3) := by decide +kernel
theorem dL_world_636 : decode cL_world 636 = .ok (.iload 16, 2) := by decide +kernel
theorem dL_world_638 : decode cL_world 638 = .ok (.invokevirtual 67, 3) := by decide +kernel
theorem dL_world_641 : decode cL_world 641 = .ok (.ldc 70, 2) := by decide +kernel
theorem dL_world_643 : decode cL_world 643 = .ok (.invokevirtual 63, 3) := by decide +kernel
theorem dL_world_646 : decode cL_world 646 = .ok (.iload 17, 2) := by decide +kernel
theorem dL_world_648 : decode cL_world 648 = .ok (.invokevirtual 67, 3) := by decide +kernel
theorem dL_world_651 : decode cL_world 651 = .ok (.invokevirtual 74, 3) := by decide +kernel
theorem dL_world_654 : decode cL_world 654 = .ok (.astore 10, 2) := by decide +kernel
theorem dL_world_656 : decode cL_world 656 = .ok (.iconst 0, 1) := by decide +kernel
theorem dL_world_657 : decode cL_world 657 = .ok (.istore 18, 2) := by decide +kernel
theorem dL_world_659 : decode cL_world 659 = .ok (.iload 18, 2) := by decide +kernel
theorem dL_world_661 : decode cL_world 661 = .ok (.iload 8, 2) := by decide +kernel
theorem dL_world_663 : decode cL_world 663 = .ok (.if_icmp .ge 78, 3) := by decide +kernel
theorem dL_world_666 : decode cL_world 666 = .ok (.aload 9, 2) := by decide +kernel
theorem dL_world_668 : decode cL_world 668 = .ok (.getfield 35, 3) := by decide +kernel
theorem dL_world_671 : decode cL_world 671 = .ok (.iload 16, 2) := by decide +kernel
theorem dL_world_673 : decode cL_world 673 = .ok (.aaload, 1) := by decide +kernel
theorem dL_world_674 : decode cL_world 674 = .ok (.iload 17, 2) := by decide +kernel
theorem dL_world_676 : decode cL_world 676 = .ok (.aaload, 1) := by decide +kernel
theorem dL_world_677 : decode cL_world 677 = .ok (.iload 18, 2) := by decide +kernel
theorem dL_world_679 : decode cL_world 679 = .ok (.iload 14, 2) := by decide +kernel
theorem dL_world_681 : decode cL_world 681 = .ok (.bipush 6, 2) := by decide +kernel
theorem dL_world_683 : decode cL_world 683 = .ok (.iload 18, 2) := by decide +kernel
theorem dL_world_685 : decode cL_world 685 = .ok (.iadd, 1) := by decide +kernel
theorem dL_world_686 : decode cL_world 686 = .ok (.ishr, 1) := by decide +kernel
theorem dL_world_687 : decode cL_world 687 = .ok (.iconst 0, 1) := by decide +kernel
theorem dL_world_688 : decode cL_world 688 = .ok (.iload 7, 2) := by decide +kernel
theorem dL_world_690 : decode cL_world 690 = .ok (.iconst 1, 1) := by decide +kernel
theorem dL_world_691 : decode cL_world 691 = .ok (.isub, 1) := by decide +kernel
theorem dL_world_692 : decode cL_world 692 = .ok (.invokestatic 54, 3) := by decide +kernel
theorem dL_world_695 : decode cL_world 695 = .ok (.iastore, 1) := by decide +kernel
theorem dL_world_696 : decode cL_world 696 = .ok (.new 58, 3) := by decide +kernel
theorem dL_world_699 : decode cL_world 699 = .ok (.dup, 1) := by decide +kernel
theorem dL_world_700 : decode cL_world 700 = .ok (.invokespecial 60, 3) := by decide +kernel
theorem dL_world_703 : decode cL_world 703 = .ok (.aload 10, 2) := by decide +kernel
theorem dL_world_705 : decode cL_world 705 = .ok (.invokevirtual 63, 3) := by decide +kernel
theorem dL_world_708 : decode cL_world 708 = .ok (.ldc 70, 2) := by decide +kernel
theorem dL_world_710 : decode cL_world 710 = .ok (.invokevirtual 63, 3) := by decide +kernel
theorem dL_world_713 : decode cL_world 713 = .ok (.aload 9, 2) := by decide +kernel
theorem dL_world_715 : decode cL_world 715 = .ok (.getfield 35, 3) := by decide +kernel
theorem dL_world_718 : decode cL_world 718 = .ok (.iload 16, 2) := by decide +kernel
theorem dL_world_720 : decode cL_world 720 = .ok (.aaload, 1) := by decide +kernel
theorem dL_world_721 : decode cL_world 721 = .ok (.iload 17, 2) := by decide +kernel
theorem dL_world_723 : decode cL_world 723 = .ok (.aaload, 1) := by decide +kernel
theorem dL_world_724 : decode cL_world 724 = .ok (.iload 18, 2) := by decide +kernel
theorem dL_world_726 : decode cL_world 726 = .ok (.iaload, 1) := by decide +kernel
theorem dL_world_727 : decode cL_world 727 = .ok (.invokevirtual 67, 3) := by decide +kernel
theorem dL_world_730 : decode cL_world 730 = .ok (.invokevirtual 74, 3) := by decide +kernel
theorem dL_world_733 : decode cL_world 733 = .ok (.astore 10, 2) := by decide +kernel
theorem dL_world_735 : decode cL_world 735 = .ok (.iinc 18 1, 3) := by decide +kernel
theorem dL_world_738 : decode cL_world 738 = .ok (.goto (-79), 3) := by decide +kernel
theorem dL_world_741 : decode cL_world 741 = .ok (.goto 50, 3) := by decide +kernel
theorem dL_world_744 : decode cL_world 744 = .ok (.iload 14, 2) := by decide +kernel
theorem dL_world_746 : decode cL_world 746 = .ok (.iconst 4, 1) := by decide +kernel
theorem dL_world_747 : decode cL_world 747 = .ok (.ishr, 1) := by decide +kernel
theorem dL_world_748 : decode cL_world 748 = .ok (.iconst 0, 1) := by decide +kernel
theorem dL_world_749 : decode cL_world 749 = .ok (.iconst 5, 1) := by decide +kernel
theorem dL_world_750 : decode cL_world 750 = .ok (.invokestatic 54, 3) := by decide +kernel
theorem dL_world_753 : decode cL_world 753 = .ok (.istore 16, 2) := by decide +kernel
theorem dL_world_755 : decode cL_world 755 = .ok (.new 58, 3) := by decide +kernel
theorem dL_world_758 : decode cL_world 758 = .ok (.dup, 1) := by decide +kernel
theorem dL_world_759 : decode cL_world 759 = .ok (.invokespecial 60, 3) := by decide +kernel
theorem dL_world_762 : decode cL_world 762 = .ok (.aload 10, 2) := by decide +kernel
theorem dL_world_764 : decode cL_world 764 = .ok (.invokevirtual 63, 3) := by decide +kernel
theorem dL_world_767 : decode cL_world 767 = .ok (.ldc 117, 2) := by decide +kernel
theorem dL_world_769 : decode cL_world 769 = .ok (.invokevirtual 63, 3) := by decide +kernel
theorem dL_world_772 : decode cL_world 772 = .ok (.iload 16, 2) := by decide +kernel
theorem dL_world_774 : decode cL_world 774 = .ok (.invokevirtual 67, 3) := by decide +kernel
theorem dL_world_777 : decode cL_world 777 = .ok (.invokevirtual 74, 3) := by decide +kernel
theorem dL_world_780 : decode cL_world 780 = .ok (.astore 10, 2) := by decide +kernel
theorem dL_world_782 : decode cL_world 782 = .ok (.aload 9, 2) := by decide +kernel
theorem dL_world_784 : decode cL_world 784 = .ok (.iload 16, 2) := by decide +kernel
theorem dL_world_786 : decode cL_world 786 = .ok (.invokevirtual 119, 3) := by decide +kernel
theorem dL_world_789 : decode cL_world 789 = .ok (.astore 9, 2) := by decide +kernel
theorem dL_world_791 : decode cL_world 791 = .ok (.new 58, 3) := by decide +kernel
theorem dL_world_794 : decode cL_world 794 = .ok (.dup, 1) := by decide +kernel
theorem dL_world_795 : decode cL_world 795 = .ok (.invokespecial 60, 3) := by decide +kernel
theorem dL_world_798 : decode cL_world 798 = .ok (.aload 10, 2) := by decide +kernel
theorem dL_world_800 : decode cL_world 800 = .ok (.invokevirtual 63, 3) := by decide +kernel
theorem dL_world_803 : decode cL_world 803 = .ok (.ldc 123, 2) := by decide +kernel
theorem dL_world_805 : decode cL_world 805 = .ok (.invokevirtual 63, 3) := by decide +kernel
theorem dL_world_808 : decode cL_world 808 = .ok (.invokevirtual 74, 3) := by decide +kernel
theorem dL_world_811 : decode cL_world 811 = .ok (.astore 10, 2) := by decide +kernel
theorem dL_world_813 : decode cL_world 813 = .ok (.iinc 13 1, 3) := by decide +kernel
theorem dL_world_816 : decode cL_world 816 = .ok (.goto (-709), 3) := by decide +kernel
theorem dL_world_819 : decode cL_world 819 = .ok (.aload_n 0, 1) := by decide +kernel
theorem dL_world_820 : decode cL_world 820 = .ok (.aload 10, 2) := by decide +kernel
theorem dL_world_822 : decode cL_world 822 = .ok (.invokestatic 125, 3) := by decide +kernel
theorem dL_world_825 : decode cL_world 825 = .ok (.aload_n 0, 1) := by decide +kernel
theorem dL_world_826 : decode cL_world 826 = .ok (.iload_n 3, 1) := by decide +kernel
theorem dL_world_827 : decode cL_world 827 = .ok (.invokevirtual 129, 3) := by decide +kernel
theorem dL_world_830 : decode cL_world 830 = .ok (.aload 9, 2) := by decide +kernel
theorem dL_world_832 : decode cL_world 832 = .ok (.getfield 91, 3) := by decide +kernel
theorem dL_world_835 : decode cL_world 835 = .ok (.if_icmp .eq 5, 3) := by decide +kernel
theorem dL_world_838 : decode cL_world 838 = .ok (.aconst_null, 1) := by decide +kernel
theorem dL_world_839 : decode cL_world 839 = .ok (.areturn, 1) := by decide +kernel
theorem dL_world_840 : decode cL_world 840 = .ok (.aload 9, 2) := by decide +kernel
theorem dL_world_842 : decode cL_world 842 = .ok (.invokevirtual 39, 3) := by decide +kernel
theorem dL_world_845 : decode cL_world 845 = .ok (.aload 9, 2) := by decide +kernel
theorem dL_world_847 : decode cL_world 847 = .ok (.areturn, 1) := by decide +kernel
theorem dL_power_0 : decode cL_power 0 = .ok (.iconst 1, 1) := by decide +kernel
theorem dL_power_1 : decode cL_power 1 = .ok (.istore_n 2, 1) := by decide +kernel
theorem dL_power_2 : decode cL_power 2 = .ok (.iconst 0, 1) := by decide +kernel
theorem dL_power_3 : decode cL_power 3 = .ok (.istore_n 3, 1) := by decide +kernel
theorem dL_power_4 : decode cL_power 4 = .ok (.iload_n 3, 1) := by decide +kernel
theorem dL_power_5 : decode cL_power 5 = .ok (.iload_n 1, 1) := by decide +kernel
theorem dL_power_6 : decode cL_power 6 = .ok (.if_icmp .ge 13, 3) := by decide +kernel
theorem dL_power_9 : decode cL_power 9 = .ok (.iload_n 2, 1) := by decide +kernel
theorem dL_power_10 : decode cL_power 10 = .ok (.iload_n 0, 1) := by decide +kernel
theorem dL_power_11 : decode cL_power 11 = .ok (.imul, 1) := by decide +kernel
theorem dL_power_12 : decode cL_power 12 = .ok (.istore_n 2, 1) := by decide +kernel
theorem dL_power_13 : decode cL_power 13 = .ok (.iinc 3 1, 3) := by decide +kernel
theorem dL_power_16 : decode cL_power 16 = .ok (.goto (-12), 3) := by decide +kernel
theorem dL_power_19 : decode cL_power 19 = .ok (.iload_n 2, 1) := by decide +kernel
theorem dL_power_20 : decode cL_power 20 = .ok (.ireturn, 1) := by decide +kernel
theorem dL_raised_0 : decode cL_raised 0 = .ok (.iload_n 1, 1) := by decide +kernel
theorem dL_raised_1 : decode cL_raised 1 = .ok (.istore_n 3, 1) := by decide +kernel
theorem dL_raised_2 : decode cL_raised 2 = .ok (.iconst 1, 1) := by decide +kernel
theorem dL_raised_3 : decode cL_raised 3 = .ok (.istore 4, 2) := by decide +kernel
theorem dL_raised_5 : decode cL_raised 5 = .ok (.iload 4, 2) := by decide +kernel
theorem dL_raised_7 : decode cL_raised 7 = .ok (.iload_n 2, 1) := by decide +kernel
theorem dL_raised_8 : decode cL_raised 8 = .ok (.if_icmp .ge 18, 3) := by decide +kernel
theorem dL_raised_11 : decode cL_raised 11 = .ok (.aload_n 0, 1) := by decide +kernel
theorem dL_raised_12 : decode cL_raised 12 = .ok (.getfield 101, 3) := by decide +kernel
theorem dL_raised_15 : decode cL_raised 15 = .ok (.iload_n 3, 1) := by decide +kernel
theorem dL_raised_16 : decode cL_raised 16 = .ok (.aaload, 1) := by decide +kernel
theorem dL_raised_17 : decode cL_raised 17 = .ok (.iload_n 1, 1) := by decide +kernel
theorem dL_raised_18 : decode cL_raised 18 = .ok (.iaload, 1) := by decide +kernel
theorem dL_raised_19 : decode cL_raised 19 = .ok (.istore_n 3, 1) := by decide +kernel
theorem dL_raised_20 : decode cL_raised 20 = .ok (.iinc 4 1, 3) := by decide +kernel
theorem dL_raised_23 : decode cL_raised 23 = .ok (.goto (-18), 3) := by decide +kernel
theorem dL_raised_26 : decode cL_raised 26 = .ok (.iload_n 3, 1) := by decide +kernel
theorem dL_raised_27 : decode cL_raised 27 = .ok (.ireturn, 1) := by decide +kernel
theorem dL_law_0 : decode cL_law 0 = .ok (.new 19, 3) := by decide +kernel
theorem dL_law_3 : decode cL_law 3 = .ok (.dup, 1) := by decide +kernel
theorem dL_law_4 : decode cL_law 4 = .ok (.invokespecial 133, 3) := by decide +kernel
theorem dL_law_7 : decode cL_law 7 = .ok (.astore_n 1, 1) := by decide +kernel
theorem dL_law_8 : decode cL_law 8 = .ok (.iconst 0, 1) := by decide +kernel
theorem dL_law_9 : decode cL_law 9 = .ok (.istore_n 2, 1) := by decide +kernel
theorem dL_law_10 : decode cL_law 10 = .ok (.iload_n 2, 1) := by decide +kernel
theorem dL_law_11 : decode cL_law 11 = .ok (.iconst 4, 1) := by decide +kernel
theorem dL_law_12 : decode cL_law 12 = .ok (.if_icmp .ge 911, 3) := by decide +kernel
theorem dL_law_15 : decode cL_law 15 = .ok (.aload_n 1, 1) := by decide +kernel
theorem dL_law_16 : decode cL_law 16 = .ok (.aload_n 0, 1) := by decide +kernel
theorem dL_law_17 : decode cL_law 17 = .ok (.bipush 6, 2) := by decide +kernel
theorem dL_law_19 : decode cL_law 19 = .ok (.iload_n 2, 1) := by decide +kernel
theorem dL_law_20 : decode cL_law 20 = .ok (.imul, 1) := by decide +kernel
theorem dL_law_21 : decode cL_law 21 = .ok (.iload_n 2, 1) := by decide +kernel
theorem dL_law_22 : decode cL_law 22 = .ok (.bipush 9, 2) := by decide +kernel
theorem dL_law_24 : decode cL_law 24 = .ok (.invokestatic 134, 3) := by decide +kernel
theorem dL_law_27 : decode cL_law 27 = .ok (.astore_n 3, 1) := by decide +kernel
theorem dL_law_28 : decode cL_law 28 = .ok (.aload_n 3, 1) := by decide +kernel
theorem dL_law_29 : decode cL_law 29 = .ok (.ifnull 12, 3) := by decide +kernel
theorem dL_law_32 : decode cL_law 32 = .ok (.aload_n 3, 1) := by decide +kernel
theorem dL_law_33 : decode cL_law 33 = .ok (.aload_n 1, 1) := by decide +kernel
theorem dL_law_34 : decode cL_law 34 = .ok (.iload_n 2, 1) := by decide +kernel
theorem dL_law_35 : decode cL_law 35 = .ok (.invokevirtual 138, 3) := by decide +kernel
theorem dL_law_38 : decode cL_law 38 = .ok (.ifCond .ne 5, 3) := by decide +kernel
theorem dL_law_41 : decode cL_law 41 = .ok (.iconst 0, 1) := by decide +kernel
theorem dL_law_42 : decode cL_law 42 = .ok (.ireturn, 1) := by decide +kernel
theorem dL_law_43 : decode cL_law 43 = .ok (.aload_n 3, 1) := by decide +kernel
theorem dL_law_44 : decode cL_law 44 = .ok (.getfield 91, 3) := by decide +kernel
theorem dL_law_47 : decode cL_law 47 = .ok (.istore 4, 2) := by decide +kernel
theorem dL_law_49 : decode cL_law 49 = .ok (.aload_n 3, 1) := by decide +kernel
theorem dL_law_50 : decode cL_law 50 = .ok (.getfield 101, 3) := by decide +kernel
theorem dL_law_53 : decode cL_law 53 = .ok (.astore 5, 2) := by decide +kernel
theorem dL_law_55 : decode cL_law 55 = .ok (.iconst 0, 1) := by decide +kernel
theorem dL_law_56 : decode cL_law 56 = .ok (.istore 6, 2) := by decide +kernel
theorem dL_law_58 : decode cL_law 58 = .ok (.iload 6, 2) := by decide +kernel
theorem dL_law_60 : decode cL_law 60 = .ok (.iload 4, 2) := by decide +kernel
theorem dL_law_62 : decode cL_law 62 = .ok (.if_icmp .ge 47, 3) := by decide +kernel
theorem dL_law_65 : decode cL_law 65 = .ok (.iconst 0, 1) := by decide +kernel
theorem dL_law_66 : decode cL_law 66 = .ok (.istore 7, 2) := by decide +kernel
theorem dL_law_68 : decode cL_law 68 = .ok (.iload 7, 2) := by decide +kernel
theorem dL_law_70 : decode cL_law 70 = .ok (.iload 4, 2) := by decide +kernel
theorem dL_law_72 : decode cL_law 72 = .ok (.if_icmp .ge 31, 3) := by decide +kernel
theorem dL_law_75 : decode cL_law 75 = .ok (.aload_n 1, 1) := by decide +kernel
theorem dL_law_76 : decode cL_law 76 = .ok (.iload_n 2, 1) := by decide +kernel
theorem dL_law_77 : decode cL_law 77 = .ok (.iload 6, 2) := by decide +kernel
theorem dL_law_79 : decode cL_law 79 = .ok (.iload 7, 2) := by decide +kernel
theorem dL_law_81 : decode cL_law 81 = .ok (.invokevirtual 142, 3) := by decide +kernel
theorem dL_law_84 : decode cL_law 84 = .ok (.aload 5, 2) := by decide +kernel
theorem dL_law_86 : decode cL_law 86 = .ok (.iload 6, 2) := by decide +kernel
theorem dL_law_88 : decode cL_law 88 = .ok (.aaload, 1) := by decide +kernel
theorem dL_law_89 : decode cL_law 89 = .ok (.iload 7, 2) := by decide +kernel
theorem dL_law_91 : decode cL_law 91 = .ok (.iaload, 1) := by decide +kernel
theorem dL_law_92 : decode cL_law 92 = .ok (.if_icmp .eq 5, 3) := by decide +kernel
theorem dL_law_95 : decode cL_law 95 = .ok (.iconst 0, 1) := by decide +kernel
theorem dL_law_96 : decode cL_law 96 = .ok (.ireturn, 1) := by decide +kernel
theorem dL_law_97 : decode cL_law 97 = .ok (.iinc 7 1, 3) := by decide +kernel
theorem dL_law_100 : decode cL_law 100 = .ok (.goto (-32), 3) := by decide +kernel
theorem dL_law_103 : decode cL_law 103 = .ok (.iinc 6 1, 3) := by decide +kernel
theorem dL_law_106 : decode cL_law 106 = .ok (.goto (-48), 3) := by decide +kernel
theorem dL_law_109 : decode cL_law 109 = .ok (.iconst 1, 1) := by decide +kernel
theorem dL_law_110 : decode cL_law 110 = .ok (.istore 6, 2) := by decide +kernel
theorem dL_law_112 : decode cL_law 112 = .ok (.iconst 0, 1) := by decide +kernel
theorem dL_law_113 : decode cL_law 113 = .ok (.istore 7, 2) := by decide +kernel
theorem dL_law_115 : decode cL_law 115 = .ok (.iconst 4, 1) := by decide +kernel
theorem dL_law_116 : decode cL_law 116 = .ok (.newarray .int, 2) := by decide +kernel
theorem dL_law_118 : decode cL_law 118 = .ok (.astore 8, 2) := by decide +kernel
theorem dL_law_120 : decode cL_law 120 = .ok (.iconst 0, 1) := by decide +kernel
theorem dL_law_121 : decode cL_law 121 = .ok (.istore 9, 2) := by decide +kernel
theorem dL_law_123 : decode cL_law 123 = .ok (.iload 9, 2) := by decide +kernel
theorem dL_law_125 : decode cL_law 125 = .ok (.iload 4, 2) := by decide +kernel
theorem dL_law_127 : decode cL_law 127 = .ok (.if_icmp .ge 314, 3) := by decide +kernel
theorem dL_law_130 : decode cL_law 130 = .ok (.aload 5, 2) := by decide +kernel
theorem dL_law_132 : decode cL_law 132 = .ok (.iload 9, 2) := by decide +kernel
theorem dL_law_134 : decode cL_law 134 = .ok (.aaload, 1) := by decide +kernel
theorem dL_law_135 : decode cL_law 135 = .ok (.iload 9, 2) := by decide +kernel
theorem dL_law_137 : decode cL_law 137 = .ok (.iaload, 1) := by decide +kernel
theorem dL_law_138 : decode cL_law 138 = .ok (.iload 9, 2) := by decide +kernel
theorem dL_law_140 : decode cL_law 140 = .ok (.if_icmp .ne 6, 3) := by decide +kernel
theorem dL_law_143 : decode cL_law 143 = .ok (.iinc 7 1, 3) := by decide +kernel
theorem dL_law_146 : decode cL_law 146 = .ok (.iconst 4, 1) := by decide +kernel
theorem dL_law_147 : decode cL_law 147 = .ok (.newarray .boolean, 2) := by decide +kernel
theorem dL_law_149 : decode cL_law 149 = .ok (.dup, 1) := by decide +kernel
theorem dL_law_150 : decode cL_law 150 = .ok (.iconst 0, 1) := by decide +kernel
