theorem dL_areMovements_196 : decode cL_areMovements 196 = .ok (.if_icmp .ne 7, 3) := by decide +kernel
theorem dL_areMovements_199 : decode cL_areMovements 199 = .ok (.iconst 1, 1) := by decide +kernel
theorem dL_areMovements_200 : decode cL_areMovements 200 = .ok (.goto 4, 3) := by decide +kernel
theorem dL_areMovements_203 : decode cL_areMovements 203 = .ok (.iconst 0, 1) := by decide +kernel
theorem dL_areMovements_204 : decode cL_areMovements 204 = .ok (.istore 10, 2) := by decide +kernel
theorem dL_areMovements_206 : decode cL_areMovements 206 = .ok (.iinc 13 1, 3) := by decide +kernel
theorem dL_areMovements_209 : decode cL_areMovements 209 = .ok (.goto (-75), 3) := by decide +kernel
theorem dL_areMovements_212 : decode cL_areMovements 212 = .ok (.aload_n 0, 1) := by decide +kernel
theorem dL_areMovements_213 : decode cL_areMovements 213 = .ok (.iload 11, 2) := by decide +kernel
theorem dL_areMovements_215 : decode cL_areMovements 215 = .ok (.invokevirtual 44, 3) := by decide +kernel
theorem dL_areMovements_218 : decode cL_areMovements 218 = .ok (.iconst 1, 1) := by decide +kernel
theorem dL_areMovements_219 : decode cL_areMovements 219 = .ok (.if_icmp .ne 12, 3) := by decide +kernel
theorem dL_areMovements_222 : decode cL_areMovements 222 = .ok (.iload 12, 2) := by decide +kernel
theorem dL_areMovements_224 : decode cL_areMovements 224 = .ok (.ifCond .lt 7, 3) := by decide +kernel
theorem dL_areMovements_227 : decode cL_areMovements 227 = .ok (.iconst 1, 1) := by decide +kernel
theorem dL_areMovements_228 : decode cL_areMovements 228 = .ok (.goto 4, 3) := by decide +kernel
theorem dL_areMovements_231 : decode cL_areMovements 231 = .ok (.iconst 0, 1) := by decide +kernel
theorem dL_areMovements_232 : decode cL_areMovements 232 = .ok (.istore 13, 2) := by decide +kernel
theorem dL_areMovements_234 : decode cL_areMovements 234 = .ok (.iload 10, 2) := by decide +kernel
theorem dL_areMovements_236 : decode cL_areMovements 236 = .ok (.ifCond .eq 53, 3) := by decide +kernel
theorem dL_areMovements_239 : decode cL_areMovements 239 = .ok (.iload 13, 2) := by decide +kernel
theorem dL_areMovements_241 : decode cL_areMovements 241 = .ok (.ifCond .eq 30, 3) := by decide +kernel
theorem dL_areMovements_244 : decode cL_areMovements 244 = .ok (.aload_n 0, 1) := by decide +kernel
theorem dL_areMovements_245 : decode cL_areMovements 245 = .ok (.iload 11, 2) := by decide +kernel
theorem dL_areMovements_247 : decode cL_areMovements 247 = .ok (.iconst 0, 1) := by decide +kernel
theorem dL_areMovements_248 : decode cL_areMovements 248 = .ok (.invokestatic 136, 3) := by decide +kernel
theorem dL_areMovements_251 : decode cL_areMovements 251 = .ok (.lconst 0, 1) := by decide +kernel
theorem dL_areMovements_252 : decode cL_areMovements 252 = .ok (.lcmp, 1) := by decide +kernel
theorem dL_areMovements_253 : decode cL_areMovements 253 = .ok (.ifCond .lt 36, 3) := by decide +kernel
theorem dL_areMovements_256 : decode cL_areMovements 256 = .ok (.aload_n 0, 1) := by decide +kernel
theorem dL_areMovements_257 : decode cL_areMovements 257 = .ok (.iload 11, 2) := by decide +kernel
theorem dL_areMovements_259 : decode cL_areMovements 259 = .ok (.iconst 1, 1) := by decide +kernel
theorem dL_areMovements_260 : decode cL_areMovements 260 = .ok (.invokestatic 136, 3) := by decide +kernel
theorem dL_areMovements_263 : decode cL_areMovements 263 = .ok (.lconst 0, 1) := by decide +kernel
theorem dL_areMovements_264 : decode cL_areMovements 264 = .ok (.lcmp, 1) := by decide +kernel
theorem dL_areMovements_265 : decode cL_areMovements 265 = .ok (.ifCond .lt 24, 3) := by decide +kernel
theorem dL_areMovements_268 : decode cL_areMovements 268 = .ok (.goto 17, 3) := by decide +kernel
theorem dL_areMovements_271 : decode cL_areMovements 271 = .ok (.aload_n 0, 1) := by decide +kernel
theorem dL_areMovements_272 : decode cL_areMovements 272 = .ok (.iload 11, 2) := by decide +kernel
theorem dL_areMovements_274 : decode cL_areMovements 274 = .ok (.iconst 1, 1) := by decide +kernel
theorem dL_areMovements_275 : decode cL_areMovements 275 = .ok (.invokestatic 136, 3) := by decide +kernel
theorem dL_areMovements_278 : decode cL_areMovements 278 = .ok (.ldc2_w 66, 3) := by decide +kernel
theorem dL_areMovements_281 : decode cL_areMovements 281 = .ok (.lcmp, 1) := by decide +kernel
theorem dL_areMovements_282 : decode cL_areMovements 282 = .ok (.ifCond .ne 7, 3) := by decide +kernel
theorem dL_areMovements_285 : decode cL_areMovements 285 = .ok (.iconst 1, 1) := by decide +kernel
theorem dL_areMovements_286 : decode cL_areMovements 286 = .ok (.goto 4, 3) := by decide +kernel
theorem dL_areMovements_289 : decode cL_areMovements 289 = .ok (.iconst 0, 1) := by decide +kernel
theorem dL_areMovements_290 : decode cL_areMovements 290 = .ok (.istore 10, 2) := by decide +kernel
theorem dL_areMovements_292 : decode cL_areMovements 292 = .ok (.lload 6, 2) := by decide +kernel
theorem dL_areMovements_294 : decode cL_areMovements 294 = .ok (.iload 13, 2) := by decide +kernel
theorem dL_areMovements_296 : decode cL_areMovements 296 = .ok (.ifCond .eq 13, 3) := by decide +kernel
theorem dL_areMovements_299 : decode cL_areMovements 299 = .ok (.aload_n 0, 1) := by decide +kernel
theorem dL_areMovements_300 : decode cL_areMovements 300 = .ok (.iload 11, 2) := by decide +kernel
theorem dL_areMovements_302 : decode cL_areMovements 302 = .ok (.iconst 0, 1) := by decide +kernel
theorem dL_areMovements_303 : decode cL_areMovements 303 = .ok (.invokestatic 136, 3) := by decide +kernel
theorem dL_areMovements_306 : decode cL_areMovements 306 = .ok (.goto 4, 3) := by decide +kernel
theorem dL_areMovements_309 : decode cL_areMovements 309 = .ok (.lconst 0, 1) := by decide +kernel
theorem dL_areMovements_310 : decode cL_areMovements 310 = .ok (.ladd, 1) := by decide +kernel
theorem dL_areMovements_311 : decode cL_areMovements 311 = .ok (.lstore 6, 2) := by decide +kernel
theorem dL_areMovements_313 : decode cL_areMovements 313 = .ok (.lload 8, 2) := by decide +kernel
theorem dL_areMovements_315 : decode cL_areMovements 315 = .ok (.iload 13, 2) := by decide +kernel
theorem dL_areMovements_317 : decode cL_areMovements 317 = .ok (.ifCond .eq 13, 3) := by decide +kernel
theorem dL_areMovements_320 : decode cL_areMovements 320 = .ok (.aload_n 0, 1) := by decide +kernel
theorem dL_areMovements_321 : decode cL_areMovements 321 = .ok (.iload 11, 2) := by decide +kernel
theorem dL_areMovements_323 : decode cL_areMovements 323 = .ok (.iconst 1, 1) := by decide +kernel
theorem dL_areMovements_324 : decode cL_areMovements 324 = .ok (.invokestatic 136, 3) := by decide +kernel
theorem dL_areMovements_327 : decode cL_areMovements 327 = .ok (.goto 4, 3) := by decide +kernel
theorem dL_areMovements_330 : decode cL_areMovements 330 = .ok (.lconst 0, 1) := by decide +kernel
theorem dL_areMovements_331 : decode cL_areMovements 331 = .ok (.ladd, 1) := by decide +kernel
theorem dL_areMovements_332 : decode cL_areMovements 332 = .ok (.lstore 8, 2) := by decide +kernel
theorem dL_areMovements_334 : decode cL_areMovements 334 = .ok (.aload_n 1, 1) := by decide +kernel
theorem dL_areMovements_335 : decode cL_areMovements 335 = .ok (.iload 11, 2) := by decide +kernel
theorem dL_areMovements_337 : decode cL_areMovements 337 = .ok (.iaload, 1) := by decide +kernel
theorem dL_areMovements_338 : decode cL_areMovements 338 = .ok (.istore 14, 2) := by decide +kernel
theorem dL_areMovements_340 : decode cL_areMovements 340 = .ok (.iconst 0, 1) := by decide +kernel
theorem dL_areMovements_341 : decode cL_areMovements 341 = .ok (.istore 15, 2) := by decide +kernel
theorem dL_areMovements_343 : decode cL_areMovements 343 = .ok (.iload 15, 2) := by decide +kernel
theorem dL_areMovements_345 : decode cL_areMovements 345 = .ok (.iload 4, 2) := by decide +kernel
theorem dL_areMovements_347 : decode cL_areMovements 347 = .ok (.if_icmp .ge 118, 3) := by decide +kernel
theorem dL_areMovements_350 : decode cL_areMovements 350 = .ok (.iload 10, 2) := by decide +kernel
theorem dL_areMovements_352 : decode cL_areMovements 352 = .ok (.ifCond .eq 113, 3) := by decide +kernel
theorem dL_areMovements_355 : decode cL_areMovements 355 = .ok (.aload_n 0, 1) := by decide +kernel
theorem dL_areMovements_356 : decode cL_areMovements 356 = .ok (.iload 11, 2) := by decide +kernel
theorem dL_areMovements_358 : decode cL_areMovements 358 = .ok (.iload 15, 2) := by decide +kernel
theorem dL_areMovements_360 : decode cL_areMovements 360 = .ok (.invokestatic 139, 3) := by decide +kernel
theorem dL_areMovements_363 : decode cL_areMovements 363 = .ok (.istore 16, 2) := by decide +kernel
theorem dL_areMovements_365 : decode cL_areMovements 365 = .ok (.aload_n 0, 1) := by decide +kernel
theorem dL_areMovements_366 : decode cL_areMovements 366 = .ok (.iload 11, 2) := by decide +kernel
theorem dL_areMovements_368 : decode cL_areMovements 368 = .ok (.invokevirtual 44, 3) := by decide +kernel
theorem dL_areMovements_371 : decode cL_areMovements 371 = .ok (.iconst 3, 1) := by decide +kernel
theorem dL_areMovements_372 : decode cL_areMovements 372 = .ok (.if_icmp .ne 52, 3) := by decide +kernel
theorem dL_areMovements_375 : decode cL_areMovements 375 = .ok (.iload 16, 2) := by decide +kernel
theorem dL_areMovements_377 : decode cL_areMovements 377 = .ok (.ifCond .lt 43, 3) := by decide +kernel
theorem dL_areMovements_380 : decode cL_areMovements 380 = .ok (.iload 16, 2) := by decide +kernel
theorem dL_areMovements_382 : decode cL_areMovements 382 = .ok (.ifCond .eq 34, 3) := by decide +kernel
theorem dL_areMovements_385 : decode cL_areMovements 385 = .ok (.aload_n 0, 1) := by decide +kernel
theorem dL_areMovements_386 : decode cL_areMovements 386 = .ok (.iload 15, 2) := by decide +kernel
theorem dL_areMovements_388 : decode cL_areMovements 388 = .ok (.invokevirtual 44, 3) := by decide +kernel
theorem dL_areMovements_391 : decode cL_areMovements 391 = .ok (.ifCond .ne 29, 3) := by decide +kernel
theorem dL_areMovements_394 : decode cL_areMovements 394 = .ok (.iload 15, 2) := by decide +kernel
theorem dL_areMovements_396 : decode cL_areMovements 396 = .ok (.iload 11, 2) := by decide +kernel
theorem dL_areMovements_398 : decode cL_areMovements 398 = .ok (.if_icmp .ge 22, 3) := by decide +kernel
theorem dL_areMovements_401 : decode cL_areMovements 401 = .ok (.aload_n 0, 1) := by decide +kernel
theorem dL_areMovements_402 : decode cL_areMovements 402 = .ok (.iload 15, 2) := by decide +kernel
theorem dL_areMovements_404 : decode cL_areMovements 404 = .ok (.invokevirtual 47, 3) := by decide +kernel
theorem dL_areMovements_407 : decode cL_areMovements 407 = .ok (.aload_n 0, 1) := by decide +kernel
theorem dL_areMovements_408 : decode cL_areMovements 408 = .ok (.iload 11, 2) := by decide +kernel
theorem dL_areMovements_410 : decode cL_areMovements 410 = .ok (.invokevirtual 47, 3) := by decide +kernel
theorem dL_areMovements_413 : decode cL_areMovements 413 = .ok (.if_icmp .gt 7, 3) := by decide +kernel
theorem dL_areMovements_416 : decode cL_areMovements 416 = .ok (.iconst 1, 1) := by decide +kernel
theorem dL_areMovements_417 : decode cL_areMovements 417 = .ok (.goto 19, 3) := by decide +kernel
theorem dL_areMovements_420 : decode cL_areMovements 420 = .ok (.iconst 0, 1) := by decide +kernel
theorem dL_areMovements_421 : decode cL_areMovements 421 = .ok (.goto 15, 3) := by decide +kernel
theorem dL_areMovements_424 : decode cL_areMovements 424 = .ok (.iload 16, 2) := by decide +kernel
theorem dL_areMovements_426 : decode cL_areMovements 426 = .ok (.bipush (-7), 2) := by decide +kernel
theorem dL_areMovements_428 : decode cL_areMovements 428 = .ok (.if_icmp .ne 7, 3) := by decide +kernel
theorem dL_areMovements_431 : decode cL_areMovements 431 = .ok (.iconst 1, 1) := by decide +kernel
theorem dL_areMovements_432 : decode cL_areMovements 432 = .ok (.goto 4, 3) := by decide +kernel
theorem dL_areMovements_435 : decode cL_areMovements 435 = .ok (.iconst 0, 1) := by decide +kernel
theorem dL_areMovements_436 : decode cL_areMovements 436 = .ok (.istore 10, 2) := by decide +kernel
theorem dL_areMovements_438 : decode cL_areMovements 438 = .ok (.iload 14, 2) := by decide +kernel
theorem dL_areMovements_440 : decode cL_areMovements 440 = .ok (.iload 10, 2) := by decide +kernel
theorem dL_areMovements_442 : decode cL_areMovements 442 = .ok (.ifCond .eq 13, 3) := by decide +kernel
theorem dL_areMovements_445 : decode cL_areMovements 445 = .ok (.iload 16, 2) := by decide +kernel
theorem dL_areMovements_447 : decode cL_areMovements 447 = .ok (.ifCond .le 8, 3) := by decide +kernel
theorem dL_areMovements_450 : decode cL_areMovements 450 = .ok (.iload 16, 2) := by decide +kernel
theorem dL_areMovements_452 : decode cL_areMovements 452 = .ok (.goto 4, 3) := by decide +kernel
theorem dL_areMovements_455 : decode cL_areMovements 455 = .ok (.iconst 0, 1) := by decide +kernel
theorem dL_areMovements_456 : decode cL_areMovements 456 = .ok (.isub, 1) := by decide +kernel
theorem dL_areMovements_457 : decode cL_areMovements 457 = .ok (.istore 14, 2) := by decide +kernel
theorem dL_areMovements_459 : decode cL_areMovements 459 = .ok (.iinc 15 1, 3) := by decide +kernel
theorem dL_areMovements_462 : decode cL_areMovements 462 = .ok (.goto (-119), 3) := by decide +kernel
theorem dL_areMovements_465 : decode cL_areMovements 465 = .ok (.iload 10, 2) := by decide +kernel
theorem dL_areMovements_467 : decode cL_areMovements 467 = .ok (.ifCond .eq 12, 3) := by decide +kernel
theorem dL_areMovements_470 : decode cL_areMovements 470 = .ok (.iload 14, 2) := by decide +kernel
theorem dL_areMovements_472 : decode cL_areMovements 472 = .ok (.ifCond .ne 7, 3) := by decide +kernel
theorem dL_areMovements_475 : decode cL_areMovements 475 = .ok (.iconst 1, 1) := by decide +kernel
theorem dL_areMovements_476 : decode cL_areMovements 476 = .ok (.goto 4, 3) := by decide +kernel
theorem dL_areMovements_479 : decode cL_areMovements 479 = .ok (.iconst 0, 1) := by decide +kernel
theorem dL_areMovements_480 : decode cL_areMovements 480 = .ok (.istore 10, 2) := by decide +kernel
theorem dL_areMovements_482 : decode cL_areMovements 482 = .ok (.iinc 11 1, 3) := by decide +kernel
theorem dL_areMovements_485 : decode cL_areMovements 485 = .ok (.goto (-462), 3) := by decide +kernel
theorem dL_areMovements_488 : decode cL_areMovements 488 = .ok (.iload 10, 2) := by decide +kernel
theorem dL_areMovements_490 : decode cL_areMovements 490 = .ok (.ifCond .eq 18, 3) := by decide +kernel
theorem dL_areMovements_493 : decode cL_areMovements 493 = .ok (.lload_n 2, 1) := by decide +kernel
theorem dL_areMovements_494 : decode cL_areMovements 494 = .ok (.lconst 1, 1) := by decide +kernel
theorem dL_areMovements_495 : decode cL_areMovements 495 = .ok (.iload 5, 2) := by decide +kernel
theorem dL_areMovements_497 : decode cL_areMovements 497 = .ok (.lshl, 1) := by decide +kernel
theorem dL_areMovements_498 : decode cL_areMovements 498 = .ok (.lconst 1, 1) := by decide +kernel
theorem dL_areMovements_499 : decode cL_areMovements 499 = .ok (.lsub, 1) := by decide +kernel
theorem dL_areMovements_500 : decode cL_areMovements 500 = .ok (.lcmp, 1) := by decide +kernel
theorem dL_areMovements_501 : decode cL_areMovements 501 = .ok (.ifCond .ne 7, 3) := by decide +kernel
theorem dL_areMovements_504 : decode cL_areMovements 504 = .ok (.iconst 1, 1) := by decide +kernel
theorem dL_areMovements_505 : decode cL_areMovements 505 = .ok (.goto 4, 3) := by decide +kernel
theorem dL_areMovements_508 : decode cL_areMovements 508 = .ok (.iconst 0, 1) := by decide +kernel
theorem dL_areMovements_509 : decode cL_areMovements 509 = .ok (.istore 10, 2) := by decide +kernel
theorem dL_areMovements_511 : decode cL_areMovements 511 = .ok (.iconst 0, 1) := by decide +kernel
theorem dL_areMovements_512 : decode cL_areMovements 512 = .ok (.istore 11, 2) := by decide +kernel
theorem dL_areMovements_514 : decode cL_areMovements 514 = .ok (.iload 11, 2) := by decide +kernel
theorem dL_areMovements_516 : decode cL_areMovements 516 = .ok (.bipush 6, 2) := by decide +kernel
theorem dL_areMovements_518 : decode cL_areMovements 518 = .ok (.if_icmp .ge 39, 3) := by decide +kernel
theorem dL_areMovements_521 : decode cL_areMovements 521 = .ok (.lload 6, 2) := by decide +kernel
theorem dL_areMovements_523 : decode cL_areMovements 523 = .ok (.aload_n 0, 1) := by decide +kernel
theorem dL_areMovements_524 : decode cL_areMovements 524 = .ok (.iload 11, 2) := by decide +kernel
theorem dL_areMovements_526 : decode cL_areMovements 526 = .ok (.sipush 364, 3) := by decide +kernel
theorem dL_areMovements_529 : decode cL_areMovements 529 = .ok (.iconst 0, 1) := by decide +kernel
theorem dL_areMovements_530 : decode cL_areMovements 530 = .ok (.invokevirtual 97, 3) := by decide +kernel
theorem dL_areMovements_533 : decode cL_areMovements 533 = .ok (.lsub, 1) := by decide +kernel
theorem dL_areMovements_534 : decode cL_areMovements 534 = .ok (.lstore 6, 2) := by decide +kernel
theorem dL_areMovements_536 : decode cL_areMovements 536 = .ok (.lload 8, 2) := by decide +kernel
theorem dL_areMovements_538 : decode cL_areMovements 538 = .ok (.aload_n 0, 1) := by decide +kernel
theorem dL_areMovements_539 : decode cL_areMovements 539 = .ok (.iload 11, 2) := by decide +kernel
theorem dL_areMovements_541 : decode cL_areMovements 541 = .ok (.sipush 364, 3) := by decide +kernel
theorem dL_areMovements_544 : decode cL_areMovements 544 = .ok (.iconst 1, 1) := by decide +kernel
theorem dL_areMovements_545 : decode cL_areMovements 545 = .ok (.invokevirtual 97, 3) := by decide +kernel
theorem dL_areMovements_548 : decode cL_areMovements 548 = .ok (.lsub, 1) := by decide +kernel
theorem dL_areMovements_549 : decode cL_areMovements 549 = .ok (.lstore 8, 2) := by decide +kernel
theorem dL_areMovements_551 : decode cL_areMovements 551 = .ok (.iinc 11 1, 3) := by decide +kernel
theorem dL_areMovements_554 : decode cL_areMovements 554 = .ok (.goto (-40), 3) := by decide +kernel
theorem dL_areMovements_557 : decode cL_areMovements 557 = .ok (.iload 10, 2) := by decide +kernel
theorem dL_areMovements_559 : decode cL_areMovements 559 = .ok (.ifCond .eq 75, 3) := by decide +kernel
theorem dL_areMovements_562 : decode cL_areMovements 562 = .ok (.lload 6, 2) := by decide +kernel
theorem dL_areMovements_564 : decode cL_areMovements 564 = .ok (.lconst 0, 1) := by decide +kernel
theorem dL_areMovements_565 : decode cL_areMovements 565 = .ok (.lcmp, 1) := by decide +kernel
theorem dL_areMovements_566 : decode cL_areMovements 566 = .ok (.ifCond .ne 68, 3) := by decide +kernel
theorem dL_areMovements_569 : decode cL_areMovements 569 = .ok (.lload 8, 2) := by decide +kernel
theorem dL_areMovements_571 : decode cL_areMovements 571 = .ok (.lconst 0, 1) := by decide +kernel
theorem dL_areMovements_572 : decode cL_areMovements 572 = .ok (.lcmp, 1) := by decide +kernel
theorem dL_areMovements_573 : decode cL_areMovements 573 = .ok (.ifCond .ne 61, 3) := by decide +kernel
theorem dL_areMovements_576 : decode cL_areMovements 576 = .ok (.aload_n 0, 1) := by decide +kernel
theorem dL_areMovements_577 : decode cL_areMovements 577 = .ok (.iload 4, 2) := by decide +kernel
theorem dL_areMovements_579 : decode cL_areMovements 579 = .ok (.iload 4, 2) := by decide +kernel
theorem dL_areMovements_581 : decode cL_areMovements 581 = .ok (.iconst 4, 1) := by decide +kernel
theorem dL_areMovements_582 : decode cL_areMovements 582 = .ok (.irem, 1) := by decide +kernel
theorem dL_areMovements_583 : decode cL_areMovements 583 = .ok (.invokestatic 142, 3) := by decide +kernel
theorem dL_areMovements_586 : decode cL_areMovements 586 = .ok (.bipush (-5), 2) := by decide +kernel
theorem dL_areMovements_588 : decode cL_areMovements 588 = .ok (.if_icmp .ne 46, 3) := by decide +kernel
theorem dL_areMovements_591 : decode cL_areMovements 591 = .ok (.aload_n 0, 1) := by decide +kernel
theorem dL_areMovements_592 : decode cL_areMovements 592 = .ok (.iconst (-1), 1) := by decide +kernel
theorem dL_areMovements_593 : decode cL_areMovements 593 = .ok (.iload 4, 2) := by decide +kernel
theorem dL_areMovements_595 : decode cL_areMovements 595 = .ok (.iconst 4, 1) := by decide +kernel
theorem dL_areMovements_596 : decode cL_areMovements 596 = .ok (.irem, 1) := by decide +kernel
theorem dL_areMovements_597 : decode cL_areMovements 597 = .ok (.invokestatic 142, 3) := by decide +kernel
theorem dL_areMovements_600 : decode cL_areMovements 600 = .ok (.bipush (-5), 2) := by decide +kernel
theorem dL_areMovements_602 : decode cL_areMovements 602 = .ok (.if_icmp .ne 32, 3) := by decide +kernel
theorem dL_areMovements_605 : decode cL_areMovements 605 = .ok (.aload_n 0, 1) := by decide +kernel
theorem dL_areMovements_606 : decode cL_areMovements 606 = .ok (.iload 4, 2) := by decide +kernel
theorem dL_areMovements_608 : decode cL_areMovements 608 = .ok (.iconst 0, 1) := by decide +kernel
theorem dL_areMovements_609 : decode cL_areMovements 609 = .ok (.invokestatic 139, 3) := by decide +kernel
theorem dL_areMovements_612 : decode cL_areMovements 612 = .ok (.bipush (-5), 2) := by decide +kernel
theorem dL_areMovements_614 : decode cL_areMovements 614 = .ok (.if_icmp .ne 20, 3) := by decide +kernel
theorem dL_areMovements_617 : decode cL_areMovements 617 = .ok (.aload_n 0, 1) := by decide +kernel
theorem dL_areMovements_618 : decode cL_areMovements 618 = .ok (.iconst (-1), 1) := by decide +kernel
theorem dL_areMovements_619 : decode cL_areMovements 619 = .ok (.iconst 0, 1) := by decide +kernel
theorem dL_areMovements_620 : decode cL_areMovements 620 = .ok (.invokestatic 136, 3) := by decide +kernel
theorem dL_areMovements_623 : decode cL_areMovements 623 = .ok (.ldc2_w 64, 3) := by decide +kernel
theorem dL_areMovements_626 : decode cL_areMovements 626 = .ok (.lcmp, 1) := by decide +kernel
theorem dL_areMovements_627 : decode cL_areMovements 627 = .ok (.ifCond .ne 7, 3) := by decide +kernel
theorem dL_areMovements_630 : decode cL_areMovements 630 = .ok (.iconst 1, 1) := by decide +kernel
theorem dL_areMovements_631 : decode cL_areMovements 631 = .ok (.goto 4, 3) := by decide +kernel
theorem dL_areMovements_634 : decode cL_areMovements 634 = .ok (.iconst 0, 1) := by decide +kernel
theorem dL_areMovements_635 : decode cL_areMovements 635 = .ok (.ireturn, 1) := by decide +kernel
theorem dL_isRefused_0 : decode cL_isRefused 0 = .ok (.iload_n 1, 1) := by decide +kernel
theorem dL_isRefused_1 : decode cL_isRefused 1 = .ok (.iconst 2, 1) := by decide +kernel
theorem dL_isRefused_2 : decode cL_isRefused 2 = .ok (.irem, 1) := by decide +kernel
theorem dL_isRefused_3 : decode cL_isRefused 3 = .ok (.ifCond .ne 12, 3) := by decide +kernel
theorem dL_isRefused_6 : decode cL_isRefused 6 = .ok (.iconst (-1), 1) := by decide +kernel
theorem dL_isRefused_7 : decode cL_isRefused 7 = .ok (.iload_n 1, 1) := by decide +kernel
theorem dL_isRefused_8 : decode cL_isRefused 8 = .ok (.bipush 50, 2) := by decide +kernel
theorem dL_isRefused_10 : decode cL_isRefused 10 = .ok (.irem, 1) := by decide +kernel
theorem dL_isRefused_11 : decode cL_isRefused 11 = .ok (.isub, 1) := by decide +kernel
theorem dL_isRefused_12 : decode cL_isRefused 12 = .ok (.goto 11, 3) := by decide +kernel
theorem dL_isRefused_15 : decode cL_isRefused 15 = .ok (.sipush 365, 3) := by decide +kernel
theorem dL_isRefused_18 : decode cL_isRefused 18 = .ok (.iload_n 1, 1) := by decide +kernel
theorem dL_isRefused_19 : decode cL_isRefused 19 = .ok (.bipush 50, 2) := by decide +kernel
theorem dL_isRefused_21 : decode cL_isRefused 21 = .ok (.irem, 1) := by decide +kernel
theorem dL_isRefused_22 : decode cL_isRefused 22 = .ok (.iadd, 1) := by decide +kernel
theorem dL_isRefused_23 : decode cL_isRefused 23 = .ok (.istore_n 2, 1) := by decide +kernel
theorem dL_isRefused_24 : decode cL_isRefused 24 = .ok (.iload_n 1, 1) := by decide +kernel
theorem dL_isRefused_25 : decode cL_isRefused 25 = .ok (.iconst 2, 1) := by decide +kernel
theorem dL_isRefused_26 : decode cL_isRefused 26 = .ok (.irem, 1) := by decide +kernel
theorem dL_isRefused_27 : decode cL_isRefused 27 = .ok (.ifCond .ne 12, 3) := by decide +kernel
theorem dL_isRefused_30 : decode cL_isRefused 30 = .ok (.iconst (-1), 1) := by decide +kernel
theorem dL_isRefused_31 : decode cL_isRefused 31 = .ok (.iload_n 1, 1) := by decide +kernel
theorem dL_isRefused_32 : decode cL_isRefused 32 = .ok (.bipush 50, 2) := by decide +kernel
theorem dL_isRefused_34 : decode cL_isRefused 34 = .ok (.irem, 1) := by decide +kernel
theorem dL_isRefused_35 : decode cL_isRefused 35 = .ok (.isub, 1) := by decide +kernel
theorem dL_isRefused_36 : decode cL_isRefused 36 = .ok (.goto 10, 3) := by decide +kernel
theorem dL_isRefused_39 : decode cL_isRefused 39 = .ok (.bipush 6, 2) := by decide +kernel
theorem dL_isRefused_41 : decode cL_isRefused 41 = .ok (.iload_n 1, 1) := by decide +kernel
theorem dL_isRefused_42 : decode cL_isRefused 42 = .ok (.bipush 50, 2) := by decide +kernel
theorem dL_isRefused_44 : decode cL_isRefused 44 = .ok (.irem, 1) := by decide +kernel
theorem dL_isRefused_45 : decode cL_isRefused 45 = .ok (.iadd, 1) := by decide +kernel
theorem dL_isRefused_46 : decode cL_isRefused 46 = .ok (.istore_n 3, 1) := by decide +kernel
theorem dL_isRefused_47 : decode cL_isRefused 47 = .ok (.iload_n 1, 1) := by decide +kernel
theorem dL_isRefused_48 : decode cL_isRefused 48 = .ok (.iconst 2, 1) := by decide +kernel
theorem dL_isRefused_49 : decode cL_isRefused 49 = .ok (.irem, 1) := by decide +kernel
theorem dL_isRefused_50 : decode cL_isRefused 50 = .ok (.ifCond .ne 7, 3) := by decide +kernel
theorem dL_isRefused_53 : decode cL_isRefused 53 = .ok (.iconst 0, 1) := by decide +kernel
theorem dL_isRefused_54 : decode cL_isRefused 54 = .ok (.goto 11, 3) := by decide +kernel
theorem dL_isRefused_57 : decode cL_isRefused 57 = .ok (.sipush 1001, 3) := by decide +kernel
theorem dL_isRefused_60 : decode cL_isRefused 60 = .ok (.iload_n 1, 1) := by decide +kernel
theorem dL_isRefused_61 : decode cL_isRefused 61 = .ok (.bipush 50, 2) := by decide +kernel
theorem dL_isRefused_63 : decode cL_isRefused 63 = .ok (.irem, 1) := by decide +kernel
theorem dL_isRefused_64 : decode cL_isRefused 64 = .ok (.iadd, 1) := by decide +kernel
theorem dL_isRefused_65 : decode cL_isRefused 65 = .ok (.istore 4, 2) := by decide +kernel
theorem dL_isRefused_67 : decode cL_isRefused 67 = .ok (.iload_n 1, 1) := by decide +kernel
theorem dL_isRefused_68 : decode cL_isRefused 68 = .ok (.iconst 2, 1) := by decide +kernel
theorem dL_isRefused_69 : decode cL_isRefused 69 = .ok (.irem, 1) := by decide +kernel
theorem dL_isRefused_70 : decode cL_isRefused 70 = .ok (.ifCond .ne 7, 3) := by decide +kernel
theorem dL_isRefused_73 : decode cL_isRefused 73 = .ok (.iconst (-1), 1) := by decide +kernel
theorem dL_isRefused_74 : decode cL_isRefused 74 = .ok (.goto 10, 3) := by decide +kernel
theorem dL_isRefused_77 : decode cL_isRefused 77 = .ok (.ldc 145, 2) := by decide +kernel
theorem dL_isRefused_79 : decode cL_isRefused 79 = .ok (.iload_n 1, 1) := by decide +kernel
theorem dL_isRefused_80 : decode cL_isRefused 80 = .ok (.bipush 50, 2) := by decide +kernel
theorem dL_isRefused_82 : decode cL_isRefused 82 = .ok (.irem, 1) := by decide +kernel
theorem dL_isRefused_83 : decode cL_isRefused 83 = .ok (.iadd, 1) := by decide +kernel
theorem dL_isRefused_84 : decode cL_isRefused 84 = .ok (.istore 5, 2) := by decide +kernel
theorem dL_isRefused_86 : decode cL_isRefused 86 = .ok (.aload_n 0, 1) := by decide +kernel
theorem dL_isRefused_87 : decode cL_isRefused 87 = .ok (.invokevirtual 116, 3) := by decide +kernel
theorem dL_isRefused_90 : decode cL_isRefused 90 = .ok (.istore 6, 2) := by decide +kernel
theorem dL_isRefused_92 : decode cL_isRefused 92 = .ok (.aload_n 0, 1) := by decide +kernel
theorem dL_isRefused_93 : decode cL_isRefused 93 = .ok (.invokestatic 146, 3) := by decide +kernel
theorem dL_isRefused_96 : decode cL_isRefused 96 = .ok (.lstore 7, 2) := by decide +kernel
theorem dL_isRefused_98 : decode cL_isRefused 98 = .ok (.aload_n 0, 1) := by decide +kernel
theorem dL_isRefused_99 : decode cL_isRefused 99 = .ok (.iload_n 2, 1) := by decide +kernel
theorem dL_isRefused_100 : decode cL_isRefused 100 = .ok (.iconst 0, 1) := by decide +kernel
theorem dL_isRefused_101 : decode cL_isRefused 101 = .ok (.iconst 1, 1) := by decide +kernel
theorem dL_isRefused_102 : decode cL_isRefused 102 = .ok (.iconst 0, 1) := by decide +kernel
theorem dL_isRefused_103 : decode cL_isRefused 103 = .ok (.invokestatic 150, 3) := by decide +kernel
theorem dL_isRefused_106 : decode cL_isRefused 106 = .ok (.bipush (-6), 2) := by decide +kernel
theorem dL_isRefused_108 : decode cL_isRefused 108 = .ok (.if_icmp .ne 145, 3) := by decide +kernel
theorem dL_isRefused_111 : decode cL_isRefused 111 = .ok (.aload_n 0, 1) := by decide +kernel
theorem dL_isRefused_112 : decode cL_isRefused 112 = .ok (.sipush 364, 3) := by decide +kernel
theorem dL_isRefused_115 : decode cL_isRefused 115 = .ok (.iload_n 3, 1) := by decide +kernel
theorem dL_isRefused_116 : decode cL_isRefused 116 = .ok (.iconst 1, 1) := by decide +kernel
theorem dL_isRefused_117 : decode cL_isRefused 117 = .ok (.iconst 0, 1) := by decide +kernel
theorem dL_isRefused_118 : decode cL_isRefused 118 = .ok (.invokestatic 150, 3) := by decide +kernel
theorem dL_isRefused_121 : decode cL_isRefused 121 = .ok (.bipush (-6), 2) := by decide +kernel
theorem dL_isRefused_123 : decode cL_isRefused 123 = .ok (.if_icmp .ne 130, 3) := by decide +kernel
theorem dL_isRefused_126 : decode cL_isRefused 126 = .ok (.aload_n 0, 1) := by decide +kernel
theorem dL_isRefused_127 : decode cL_isRefused 127 = .ok (.sipush 364, 3) := by decide +kernel
theorem dL_isRefused_130 : decode cL_isRefused 130 = .ok (.iconst 0, 1) := by decide +kernel
theorem dL_isRefused_131 : decode cL_isRefused 131 = .ok (.iload 4, 2) := by decide +kernel
theorem dL_isRefused_133 : decode cL_isRefused 133 = .ok (.iconst 0, 1) := by decide +kernel
theorem dL_isRefused_134 : decode cL_isRefused 134 = .ok (.invokestatic 150, 3) := by decide +kernel
theorem dL_isRefused_137 : decode cL_isRefused 137 = .ok (.bipush (-6), 2) := by decide +kernel
theorem dL_isRefused_139 : decode cL_isRefused 139 = .ok (.if_icmp .ne 114, 3) := by decide +kernel
theorem dL_isRefused_142 : decode cL_isRefused 142 = .ok (.aload_n 0, 1) := by decide +kernel
theorem dL_isRefused_143 : decode cL_isRefused 143 = .ok (.sipush 364, 3) := by decide +kernel
theorem dL_isRefused_146 : decode cL_isRefused 146 = .ok (.iconst 0, 1) := by decide +kernel
theorem dL_isRefused_147 : decode cL_isRefused 147 = .ok (.iconst 1, 1) := by decide +kernel
theorem dL_isRefused_148 : decode cL_isRefused 148 = .ok (.iload 5, 2) := by decide +kernel
theorem dL_isRefused_150 : decode cL_isRefused 150 = .ok (.invokestatic 150, 3) := by decide +kernel
theorem dL_isRefused_153 : decode cL_isRefused 153 = .ok (.bipush (-6), 2) := by decide +kernel
theorem dL_isRefused_155 : decode cL_isRefused 155 = .ok (.if_icmp .ne 98, 3) := by decide +kernel
theorem dL_isRefused_158 : decode cL_isRefused 158 = .ok (.aload_n 0, 1) := by decide +kernel
theorem dL_isRefused_159 : decode cL_isRefused 159 = .ok (.iload_n 2, 1) := by decide +kernel
theorem dL_isRefused_160 : decode cL_isRefused 160 = .ok (.iconst 0, 1) := by decide +kernel
theorem dL_isRefused_161 : decode cL_isRefused 161 = .ok (.iconst 1, 1) := by decide +kernel
theorem dL_isRefused_162 : decode cL_isRefused 162 = .ok (.invokestatic 153, 3) := by decide +kernel
theorem dL_isRefused_165 : decode cL_isRefused 165 = .ok (.bipush (-6), 2) := by decide +kernel
theorem dL_isRefused_167 : decode cL_isRefused 167 = .ok (.if_icmp .ne 86, 3) := by decide +kernel
theorem dL_isRefused_170 : decode cL_isRefused 170 = .ok (.aload_n 0, 1) := by decide +kernel
theorem dL_isRefused_171 : decode cL_isRefused 171 = .ok (.iconst 0, 1) := by decide +kernel
theorem dL_isRefused_172 : decode cL_isRefused 172 = .ok (.iload_n 3, 1) := by decide +kernel
theorem dL_isRefused_173 : decode cL_isRefused 173 = .ok (.iconst 1, 1) := by decide +kernel
theorem dL_isRefused_174 : decode cL_isRefused 174 = .ok (.invokestatic 153, 3) := by decide +kernel
theorem dL_isRefused_177 : decode cL_isRefused 177 = .ok (.bipush (-6), 2) := by decide +kernel
theorem dL_isRefused_179 : decode cL_isRefused 179 = .ok (.if_icmp .ne 74, 3) := by decide +kernel
theorem dL_isRefused_182 : decode cL_isRefused 182 = .ok (.aload_n 0, 1) := by decide +kernel
theorem dL_isRefused_183 : decode cL_isRefused 183 = .ok (.iconst 0, 1) := by decide +kernel
theorem dL_isRefused_184 : decode cL_isRefused 184 = .ok (.iconst 0, 1) := by decide +kernel
theorem dL_isRefused_185 : decode cL_isRefused 185 = .ok (.iload 4, 2) := by decide +kernel
theorem dL_isRefused_187 : decode cL_isRefused 187 = .ok (.invokestatic 153, 3) := by decide +kernel
theorem dL_isRefused_190 : decode cL_isRefused 190 = .ok (.bipush (-6), 2) := by decide +kernel
theorem dL_isRefused_192 : decode cL_isRefused 192 = .ok (.if_icmp .ne 61, 3) := by decide +kernel
theorem dL_isRefused_195 : decode cL_isRefused 195 = .ok (.aload_n 0, 1) := by decide +kernel
theorem dL_isRefused_196 : decode cL_isRefused 196 = .ok (.iload_n 2, 1) := by decide +kernel
theorem dL_isRefused_197 : decode cL_isRefused 197 = .ok (.iconst 0, 1) := by decide +kernel
theorem dL_isRefused_198 : decode cL_isRefused 198 = .ok (.iconst 1, 1) := by decide +kernel
theorem dL_isRefused_199 : decode cL_isRefused 199 = .ok (.iconst 0, 1) := by decide +kernel
theorem dL_isRefused_200 : decode cL_isRefused 200 = .ok (.invokestatic 156, 3) := by decide +kernel
theorem dL_isRefused_203 : decode cL_isRefused 203 = .ok (.bipush (-6), 2) := by decide +kernel
theorem dL_isRefused_205 : decode cL_isRefused 205 = .ok (.if_icmp .ne 48, 3) := by decide +kernel
theorem dL_isRefused_208 : decode cL_isRefused 208 = .ok (.aload_n 0, 1) := by decide +kernel
theorem dL_isRefused_209 : decode cL_isRefused 209 = .ok (.iconst 0, 1) := by decide +kernel
theorem dL_isRefused_210 : decode cL_isRefused 210 = .ok (.iload_n 3, 1) := by decide +kernel
theorem dL_isRefused_211 : decode cL_isRefused 211 = .ok (.iconst 1, 1) := by decide +kernel
theorem dL_isRefused_212 : decode cL_isRefused 212 = .ok (.iconst 0, 1) := by decide +kernel
theorem dL_isRefused_213 : decode cL_isRefused 213 = .ok (.invokestatic 156, 3) := by decide +kernel
theorem dL_isRefused_216 : decode cL_isRefused 216 = .ok (.bipush (-6), 2) := by decide +kernel
theorem dL_isRefused_218 : decode cL_isRefused 218 = .ok (.if_icmp .ne 35, 3) := by decide +kernel
theorem dL_isRefused_221 : decode cL_isRefused 221 = .ok (.aload_n 0, 1) := by decide +kernel
theorem dL_isRefused_222 : decode cL_isRefused 222 = .ok (.iconst 0, 1) := by decide +kernel
theorem dL_isRefused_223 : decode cL_isRefused 223 = .ok (.iconst 0, 1) := by decide +kernel
theorem dL_isRefused_224 : decode cL_isRefused 224 = .ok (.iload 4, 2) := by decide +kernel
theorem dL_isRefused_226 : decode cL_isRefused 226 = .ok (.iconst 0, 1) := by decide +kernel
theorem dL_isRefused_227 : decode cL_isRefused 227 = .ok (.invokestatic 156, 3) := by decide +kernel
theorem dL_isRefused_230 : decode cL_isRefused 230 = .ok (.bipush (-6), 2) := by decide +kernel
theorem dL_isRefused_232 : decode cL_isRefused 232 = .ok (.if_icmp .ne 21, 3) := by decide +kernel
theorem dL_isRefused_235 : decode cL_isRefused 235 = .ok (.aload_n 0, 1) := by decide +kernel
theorem dL_isRefused_236 : decode cL_isRefused 236 = .ok (.iconst 0, 1) := by decide +kernel
theorem dL_isRefused_237 : decode cL_isRefused 237 = .ok (.iconst 0, 1) := by decide +kernel
theorem dL_isRefused_238 : decode cL_isRefused 238 = .ok (.iconst 1, 1) := by decide +kernel
theorem dL_isRefused_239 : decode cL_isRefused 239 = .ok (.iload 5, 2) := by decide +kernel
theorem dL_isRefused_241 : decode cL_isRefused 241 = .ok (.invokestatic 156, 3) := by decide +kernel
theorem dL_isRefused_244 : decode cL_isRefused 244 = .ok (.bipush (-6), 2) := by decide +kernel
theorem dL_isRefused_246 : decode cL_isRefused 246 = .ok (.if_icmp .ne 7, 3) := by decide +kernel
theorem dL_isRefused_249 : decode cL_isRefused 249 = .ok (.iconst 1, 1) := by decide +kernel
theorem dL_isRefused_250 : decode cL_isRefused 250 = .ok (.goto 4, 3) := by decide +kernel
theorem dL_isRefused_253 : decode cL_isRefused 253 = .ok (.iconst 0, 1) := by decide +kernel
theorem dL_isRefused_254 : decode cL_isRefused 254 = .ok (.istore 9, 2) := by decide +kernel
theorem dL_isRefused_256 : decode cL_isRefused 256 = .ok (.iload 9, 2) := by decide +kernel
theorem dL_isRefused_258 : decode cL_isRefused 258 = .ok (.ifCond .eq 189, 3) := by decide +kernel
theorem dL_isRefused_261 : decode cL_isRefused 261 = .ok (.aload_n 0, 1) := by decide +kernel
theorem dL_isRefused_262 : decode cL_isRefused 262 = .ok (.iload_n 2, 1) := by decide +kernel
theorem dL_isRefused_263 : decode cL_isRefused 263 = .ok (.iconst 1, 1) := by decide +kernel
theorem dL_isRefused_264 : decode cL_isRefused 264 = .ok (.iconst 0, 1) := by decide +kernel
theorem dL_isRefused_265 : decode cL_isRefused 265 = .ok (.ldc2_w 158, 3) := by decide +kernel
theorem dL_isRefused_268 : decode cL_isRefused 268 = .ok (.invokestatic 160, 3) := by decide +kernel
theorem dL_isRefused_271 : decode cL_isRefused 271 = .ok (.bipush (-6), 2) := by decide +kernel
theorem dL_isRefused_273 : decode cL_isRefused 273 = .ok (.if_icmp .ne 174, 3) := by decide +kernel
theorem dL_isRefused_276 : decode cL_isRefused 276 = .ok (.aload_n 0, 1) := by decide +kernel
theorem dL_isRefused_277 : decode cL_isRefused 277 = .ok (.iconst 0, 1) := by decide +kernel
theorem dL_isRefused_278 : decode cL_isRefused 278 = .ok (.iload_n 1, 1) := by decide +kernel
theorem dL_isRefused_279 : decode cL_isRefused 279 = .ok (.iconst 2, 1) := by decide +kernel
theorem dL_isRefused_280 : decode cL_isRefused 280 = .ok (.irem, 1) := by decide +kernel
theorem dL_isRefused_281 : decode cL_isRefused 281 = .ok (.ifCond .ne 7, 3) := by decide +kernel
theorem dL_isRefused_284 : decode cL_isRefused 284 = .ok (.iconst 0, 1) := by decide +kernel
theorem dL_isRefused_285 : decode cL_isRefused 285 = .ok (.goto 5, 3) := by decide +kernel
theorem dL_isRefused_288 : decode cL_isRefused 288 = .ok (.iload 5, 2) := by decide +kernel
theorem dL_isRefused_290 : decode cL_isRefused 290 = .ok (.iconst 0, 1) := by decide +kernel
theorem dL_isRefused_291 : decode cL_isRefused 291 = .ok (.lconst 1, 1) := by decide +kernel
theorem dL_isRefused_292 : decode cL_isRefused 292 = .ok (.invokestatic 160, 3) := by decide +kernel
theorem dL_isRefused_295 : decode cL_isRefused 295 = .ok (.bipush (-6), 2) := by decide +kernel
theorem dL_isRefused_297 : decode cL_isRefused 297 = .ok (.if_icmp .ne 150, 3) := by decide +kernel
theorem dL_isRefused_300 : decode cL_isRefused 300 = .ok (.aload_n 0, 1) := by decide +kernel
theorem dL_isRefused_301 : decode cL_isRefused 301 = .ok (.iconst 0, 1) := by decide +kernel
theorem dL_isRefused_302 : decode cL_isRefused 302 = .ok (.iconst 1, 1) := by decide +kernel
