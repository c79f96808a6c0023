theorem dL_isRefused_303 : decode cL_isRefused 303 = .ok (.iload_n 1, 1) := by decide +kernel
theorem dL_isRefused_304 : decode cL_isRefused 304 = .ok (.iconst 2, 1) := by decide +kernel
theorem dL_isRefused_305 : decode cL_isRefused 305 = .ok (.irem, 1) := by decide +kernel
theorem dL_isRefused_306 : decode cL_isRefused 306 = .ok (.ifCond .ne 7, 3) := by decide +kernel
theorem dL_isRefused_309 : decode cL_isRefused 309 = .ok (.iconst (-1), 1) := by decide +kernel
theorem dL_isRefused_310 : decode cL_isRefused 310 = .ok (.goto 4, 3) := by decide +kernel
theorem dL_isRefused_313 : decode cL_isRefused 313 = .ok (.iconst 3, 1) := by decide +kernel
theorem dL_isRefused_314 : decode cL_isRefused 314 = .ok (.lconst 1, 1) := by decide +kernel
theorem dL_isRefused_315 : decode cL_isRefused 315 = .ok (.invokestatic 160, 3) := by decide +kernel
theorem dL_isRefused_318 : decode cL_isRefused 318 = .ok (.bipush (-6), 2) := by decide +kernel
theorem dL_isRefused_320 : decode cL_isRefused 320 = .ok (.if_icmp .ne 127, 3) := by decide +kernel
theorem dL_isRefused_323 : decode cL_isRefused 323 = .ok (.aload_n 0, 1) := by decide +kernel
theorem dL_isRefused_324 : decode cL_isRefused 324 = .ok (.sipush 364, 3) := by decide +kernel
theorem dL_isRefused_327 : decode cL_isRefused 327 = .ok (.iconst 1, 1) := by decide +kernel
theorem dL_isRefused_328 : decode cL_isRefused 328 = .ok (.iconst 1, 1) := by decide +kernel
theorem dL_isRefused_329 : decode cL_isRefused 329 = .ok (.lconst 0, 1) := by decide +kernel
theorem dL_isRefused_330 : decode cL_isRefused 330 = .ok (.invokestatic 160, 3) := by decide +kernel
theorem dL_isRefused_333 : decode cL_isRefused 333 = .ok (.bipush (-6), 2) := by decide +kernel
theorem dL_isRefused_335 : decode cL_isRefused 335 = .ok (.if_icmp .ne 112, 3) := by decide +kernel
theorem dL_isRefused_338 : decode cL_isRefused 338 = .ok (.aload_n 0, 1) := by decide +kernel
theorem dL_isRefused_339 : decode cL_isRefused 339 = .ok (.iconst 0, 1) := by decide +kernel
theorem dL_isRefused_340 : decode cL_isRefused 340 = .ok (.iconst 1, 1) := by decide +kernel
theorem dL_isRefused_341 : decode cL_isRefused 341 = .ok (.iconst 1, 1) := by decide +kernel
theorem dL_isRefused_342 : decode cL_isRefused 342 = .ok (.ldc2_w 158, 3) := by decide +kernel
theorem dL_isRefused_345 : decode cL_isRefused 345 = .ok (.invokestatic 160, 3) := by decide +kernel
theorem dL_isRefused_348 : decode cL_isRefused 348 = .ok (.bipush (-5), 2) := by decide +kernel
theorem dL_isRefused_350 : decode cL_isRefused 350 = .ok (.if_icmp .ne 97, 3) := by decide +kernel
theorem dL_isRefused_353 : decode cL_isRefused 353 = .ok (.aload_n 0, 1) := by decide +kernel
theorem dL_isRefused_354 : decode cL_isRefused 354 = .ok (.iconst 0, 1) := by decide +kernel
theorem dL_isRefused_355 : decode cL_isRefused 355 = .ok (.iconst 1, 1) := by decide +kernel
theorem dL_isRefused_356 : decode cL_isRefused 356 = .ok (.iconst 1, 1) := by decide +kernel
theorem dL_isRefused_357 : decode cL_isRefused 357 = .ok (.lconst 1, 1) := by decide +kernel
theorem dL_isRefused_358 : decode cL_isRefused 358 = .ok (.iload 6, 2) := by decide +kernel
theorem dL_isRefused_360 : decode cL_isRefused 360 = .ok (.lshl, 1) := by decide +kernel
theorem dL_isRefused_361 : decode cL_isRefused 361 = .ok (.invokestatic 160, 3) := by decide +kernel
theorem dL_isRefused_364 : decode cL_isRefused 364 = .ok (.bipush (-5), 2) := by decide +kernel
theorem dL_isRefused_366 : decode cL_isRefused 366 = .ok (.if_icmp .ne 81, 3) := by decide +kernel
theorem dL_isRefused_369 : decode cL_isRefused 369 = .ok (.aload_n 0, 1) := by decide +kernel
theorem dL_isRefused_370 : decode cL_isRefused 370 = .ok (.iload_n 1, 1) := by decide +kernel
theorem dL_isRefused_371 : decode cL_isRefused 371 = .ok (.iconst 2, 1) := by decide +kernel
theorem dL_isRefused_372 : decode cL_isRefused 372 = .ok (.irem, 1) := by decide +kernel
theorem dL_isRefused_373 : decode cL_isRefused 373 = .ok (.ifCond .ne 12, 3) := by decide +kernel
theorem dL_isRefused_376 : decode cL_isRefused 376 = .ok (.iconst (-1), 1) := by decide +kernel
theorem dL_isRefused_377 : decode cL_isRefused 377 = .ok (.iload_n 1, 1) := by decide +kernel
theorem dL_isRefused_378 : decode cL_isRefused 378 = .ok (.bipush 50, 2) := by decide +kernel
theorem dL_isRefused_380 : decode cL_isRefused 380 = .ok (.irem, 1) := by decide +kernel
theorem dL_isRefused_381 : decode cL_isRefused 381 = .ok (.isub, 1) := by decide +kernel
theorem dL_isRefused_382 : decode cL_isRefused 382 = .ok (.goto 10, 3) := by decide +kernel
theorem dL_isRefused_385 : decode cL_isRefused 385 = .ok (.iload 6, 2) := by decide +kernel
theorem dL_isRefused_387 : decode cL_isRefused 387 = .ok (.iload_n 1, 1) := by decide +kernel
theorem dL_isRefused_388 : decode cL_isRefused 388 = .ok (.bipush 50, 2) := by decide +kernel
theorem dL_isRefused_390 : decode cL_isRefused 390 = .ok (.irem, 1) := by decide +kernel
theorem dL_isRefused_391 : decode cL_isRefused 391 = .ok (.iadd, 1) := by decide +kernel
theorem dL_isRefused_392 : decode cL_isRefused 392 = .ok (.invokestatic 163, 3) := by decide +kernel
theorem dL_isRefused_395 : decode cL_isRefused 395 = .ok (.bipush (-5), 2) := by decide +kernel
theorem dL_isRefused_397 : decode cL_isRefused 397 = .ok (.if_icmp .ne 50, 3) := by decide +kernel
theorem dL_isRefused_400 : decode cL_isRefused 400 = .ok (.aload_n 0, 1) := by decide +kernel
theorem dL_isRefused_401 : decode cL_isRefused 401 = .ok (.iload_n 2, 1) := by decide +kernel
theorem dL_isRefused_402 : decode cL_isRefused 402 = .ok (.invokestatic 166, 3) := by decide +kernel
theorem dL_isRefused_405 : decode cL_isRefused 405 = .ok (.bipush (-6), 2) := by decide +kernel
theorem dL_isRefused_407 : decode cL_isRefused 407 = .ok (.if_icmp .ne 40, 3) := by decide +kernel
theorem dL_isRefused_410 : decode cL_isRefused 410 = .ok (.aload_n 0, 1) := by decide +kernel
theorem dL_isRefused_411 : decode cL_isRefused 411 = .ok (.iload_n 3, 1) := by decide +kernel
theorem dL_isRefused_412 : decode cL_isRefused 412 = .ok (.iconst 1, 1) := by decide +kernel
theorem dL_isRefused_413 : decode cL_isRefused 413 = .ok (.invokestatic 168, 3) := by decide +kernel
theorem dL_isRefused_416 : decode cL_isRefused 416 = .ok (.bipush (-6), 2) := by decide +kernel
theorem dL_isRefused_418 : decode cL_isRefused 418 = .ok (.if_icmp .ne 29, 3) := by decide +kernel
theorem dL_isRefused_421 : decode cL_isRefused 421 = .ok (.aload_n 0, 1) := by decide +kernel
theorem dL_isRefused_422 : decode cL_isRefused 422 = .ok (.iconst 0, 1) := by decide +kernel
theorem dL_isRefused_423 : decode cL_isRefused 423 = .ok (.iload_n 1, 1) := by decide +kernel
theorem dL_isRefused_424 : decode cL_isRefused 424 = .ok (.iconst 2, 1) := by decide +kernel
theorem dL_isRefused_425 : decode cL_isRefused 425 = .ok (.irem, 1) := by decide +kernel
theorem dL_isRefused_426 : decode cL_isRefused 426 = .ok (.ifCond .ne 7, 3) := by decide +kernel
theorem dL_isRefused_429 : decode cL_isRefused 429 = .ok (.iconst 0, 1) := by decide +kernel
theorem dL_isRefused_430 : decode cL_isRefused 430 = .ok (.goto 5, 3) := by decide +kernel
theorem dL_isRefused_433 : decode cL_isRefused 433 = .ok (.bipush 101, 2) := by decide +kernel
theorem dL_isRefused_435 : decode cL_isRefused 435 = .ok (.invokestatic 168, 3) := by decide +kernel
theorem dL_isRefused_438 : decode cL_isRefused 438 = .ok (.bipush (-6), 2) := by decide +kernel
theorem dL_isRefused_440 : decode cL_isRefused 440 = .ok (.if_icmp .ne 7, 3) := by decide +kernel
theorem dL_isRefused_443 : decode cL_isRefused 443 = .ok (.iconst 1, 1) := by decide +kernel
theorem dL_isRefused_444 : decode cL_isRefused 444 = .ok (.goto 4, 3) := by decide +kernel
theorem dL_isRefused_447 : decode cL_isRefused 447 = .ok (.iconst 0, 1) := by decide +kernel
theorem dL_isRefused_448 : decode cL_isRefused 448 = .ok (.istore 9, 2) := by decide +kernel
theorem dL_isRefused_450 : decode cL_isRefused 450 = .ok (.iconst 0, 1) := by decide +kernel
theorem dL_isRefused_451 : decode cL_isRefused 451 = .ok (.istore 10, 2) := by decide +kernel
theorem dL_isRefused_453 : decode cL_isRefused 453 = .ok (.iload 10, 2) := by decide +kernel
theorem dL_isRefused_455 : decode cL_isRefused 455 = .ok (.bipush 12, 2) := by decide +kernel
theorem dL_isRefused_457 : decode cL_isRefused 457 = .ok (.if_icmp .ge 90, 3) := by decide +kernel
theorem dL_isRefused_460 : decode cL_isRefused 460 = .ok (.iload 9, 2) := by decide +kernel
theorem dL_isRefused_462 : decode cL_isRefused 462 = .ok (.ifCond .eq 85, 3) := by decide +kernel
theorem dL_isRefused_465 : decode cL_isRefused 465 = .ok (.aload_n 0, 1) := by decide +kernel
theorem dL_isRefused_466 : decode cL_isRefused 466 = .ok (.iload_n 3, 1) := by decide +kernel
theorem dL_isRefused_467 : decode cL_isRefused 467 = .ok (.iconst 0, 1) := by decide +kernel
theorem dL_isRefused_468 : decode cL_isRefused 468 = .ok (.iload 10, 2) := by decide +kernel
theorem dL_isRefused_470 : decode cL_isRefused 470 = .ok (.invokestatic 110, 3) := by decide +kernel
theorem dL_isRefused_473 : decode cL_isRefused 473 = .ok (.ldc2_w 106, 3) := by decide +kernel
theorem dL_isRefused_476 : decode cL_isRefused 476 = .ok (.lcmp, 1) := by decide +kernel
theorem dL_isRefused_477 : decode cL_isRefused 477 = .ok (.ifCond .ne 61, 3) := by decide +kernel
theorem dL_isRefused_480 : decode cL_isRefused 480 = .ok (.aload_n 0, 1) := by decide +kernel
theorem dL_isRefused_481 : decode cL_isRefused 481 = .ok (.iconst 0, 1) := by decide +kernel
theorem dL_isRefused_482 : decode cL_isRefused 482 = .ok (.iload_n 2, 1) := by decide +kernel
theorem dL_isRefused_483 : decode cL_isRefused 483 = .ok (.iload 10, 2) := by decide +kernel
theorem dL_isRefused_485 : decode cL_isRefused 485 = .ok (.invokestatic 110, 3) := by decide +kernel
theorem dL_isRefused_488 : decode cL_isRefused 488 = .ok (.ldc2_w 106, 3) := by decide +kernel
theorem dL_isRefused_491 : decode cL_isRefused 491 = .ok (.lcmp, 1) := by decide +kernel
theorem dL_isRefused_492 : decode cL_isRefused 492 = .ok (.ifCond .ne 46, 3) := by decide +kernel
theorem dL_isRefused_495 : decode cL_isRefused 495 = .ok (.iload 10, 2) := by decide +kernel
theorem dL_isRefused_497 : decode cL_isRefused 497 = .ok (.iconst 2, 1) := by decide +kernel
theorem dL_isRefused_498 : decode cL_isRefused 498 = .ok (.if_icmp .gt 36, 3) := by decide +kernel
theorem dL_isRefused_501 : decode cL_isRefused 501 = .ok (.aload_n 0, 1) := by decide +kernel
theorem dL_isRefused_502 : decode cL_isRefused 502 = .ok (.iload_n 3, 1) := by decide +kernel
theorem dL_isRefused_503 : decode cL_isRefused 503 = .ok (.iconst 0, 1) := by decide +kernel
theorem dL_isRefused_504 : decode cL_isRefused 504 = .ok (.iconst (-1), 1) := by decide +kernel
theorem dL_isRefused_505 : decode cL_isRefused 505 = .ok (.iload 10, 2) := by decide +kernel
theorem dL_isRefused_507 : decode cL_isRefused 507 = .ok (.invokestatic 132, 3) := by decide +kernel
theorem dL_isRefused_510 : decode cL_isRefused 510 = .ok (.ldc2_w 78, 3) := by decide +kernel
theorem dL_isRefused_513 : decode cL_isRefused 513 = .ok (.lcmp, 1) := by decide +kernel
theorem dL_isRefused_514 : decode cL_isRefused 514 = .ok (.ifCond .ne 24, 3) := by decide +kernel
theorem dL_isRefused_517 : decode cL_isRefused 517 = .ok (.aload_n 0, 1) := by decide +kernel
theorem dL_isRefused_518 : decode cL_isRefused 518 = .ok (.iconst 5, 1) := by decide +kernel
theorem dL_isRefused_519 : decode cL_isRefused 519 = .ok (.iload_n 2, 1) := by decide +kernel
theorem dL_isRefused_520 : decode cL_isRefused 520 = .ok (.bipush 99, 2) := by decide +kernel
theorem dL_isRefused_522 : decode cL_isRefused 522 = .ok (.iload 10, 2) := by decide +kernel
theorem dL_isRefused_524 : decode cL_isRefused 524 = .ok (.invokestatic 132, 3) := by decide +kernel
theorem dL_isRefused_527 : decode cL_isRefused 527 = .ok (.ldc2_w 78, 3) := by decide +kernel
theorem dL_isRefused_530 : decode cL_isRefused 530 = .ok (.lcmp, 1) := by decide +kernel
theorem dL_isRefused_531 : decode cL_isRefused 531 = .ok (.ifCond .ne 7, 3) := by decide +kernel
theorem dL_isRefused_534 : decode cL_isRefused 534 = .ok (.iconst 1, 1) := by decide +kernel
theorem dL_isRefused_535 : decode cL_isRefused 535 = .ok (.goto 4, 3) := by decide +kernel
theorem dL_isRefused_538 : decode cL_isRefused 538 = .ok (.iconst 0, 1) := by decide +kernel
theorem dL_isRefused_539 : decode cL_isRefused 539 = .ok (.istore 9, 2) := by decide +kernel
theorem dL_isRefused_541 : decode cL_isRefused 541 = .ok (.iinc 10 1, 3) := by decide +kernel
theorem dL_isRefused_544 : decode cL_isRefused 544 = .ok (.goto (-91), 3) := by decide +kernel
theorem dL_isRefused_547 : decode cL_isRefused 547 = .ok (.iload 9, 2) := by decide +kernel
theorem dL_isRefused_549 : decode cL_isRefused 549 = .ok (.ifCond .eq 17, 3) := by decide +kernel
theorem dL_isRefused_552 : decode cL_isRefused 552 = .ok (.aload_n 0, 1) := by decide +kernel
theorem dL_isRefused_553 : decode cL_isRefused 553 = .ok (.invokestatic 146, 3) := by decide +kernel
theorem dL_isRefused_556 : decode cL_isRefused 556 = .ok (.lload 7, 2) := by decide +kernel
theorem dL_isRefused_558 : decode cL_isRefused 558 = .ok (.lcmp, 1) := by decide +kernel
theorem dL_isRefused_559 : decode cL_isRefused 559 = .ok (.ifCond .ne 7, 3) := by decide +kernel
theorem dL_isRefused_562 : decode cL_isRefused 562 = .ok (.iconst 1, 1) := by decide +kernel
theorem dL_isRefused_563 : decode cL_isRefused 563 = .ok (.goto 4, 3) := by decide +kernel
theorem dL_isRefused_566 : decode cL_isRefused 566 = .ok (.iconst 0, 1) := by decide +kernel
theorem dL_isRefused_567 : decode cL_isRefused 567 = .ok (.ireturn, 1) := by decide +kernel
theorem dL_isPosted_0 : decode cL_isPosted 0 = .ok (.aload_n 0, 1) := by decide +kernel
theorem dL_isPosted_1 : decode cL_isPosted 1 = .ok (.invokevirtual 116, 3) := by decide +kernel
theorem dL_isPosted_4 : decode cL_isPosted 4 = .ok (.istore 7, 2) := by decide +kernel
theorem dL_isPosted_6 : decode cL_isPosted 6 = .ok (.aload_n 0, 1) := by decide +kernel
theorem dL_isPosted_7 : decode cL_isPosted 7 = .ok (.iload 4, 2) := by decide +kernel
theorem dL_isPosted_9 : decode cL_isPosted 9 = .ok (.iload_n 3, 1) := by decide +kernel
theorem dL_isPosted_10 : decode cL_isPosted 10 = .ok (.invokevirtual 80, 3) := by decide +kernel
theorem dL_isPosted_13 : decode cL_isPosted 13 = .ok (.istore 8, 2) := by decide +kernel
theorem dL_isPosted_15 : decode cL_isPosted 15 = .ok (.aload_n 0, 1) := by decide +kernel
theorem dL_isPosted_16 : decode cL_isPosted 16 = .ok (.iload 4, 2) := by decide +kernel
theorem dL_isPosted_18 : decode cL_isPosted 18 = .ok (.sipush 364, 3) := by decide +kernel
theorem dL_isPosted_21 : decode cL_isPosted 21 = .ok (.invokevirtual 80, 3) := by decide +kernel
theorem dL_isPosted_24 : decode cL_isPosted 24 = .ok (.istore 9, 2) := by decide +kernel
theorem dL_isPosted_26 : decode cL_isPosted 26 = .ok (.aload_n 0, 1) := by decide +kernel
theorem dL_isPosted_27 : decode cL_isPosted 27 = .ok (.iload 4, 2) := by decide +kernel
theorem dL_isPosted_29 : decode cL_isPosted 29 = .ok (.iload_n 3, 1) := by decide +kernel
theorem dL_isPosted_30 : decode cL_isPosted 30 = .ok (.invokevirtual 83, 3) := by decide +kernel
theorem dL_isPosted_33 : decode cL_isPosted 33 = .ok (.istore 10, 2) := by decide +kernel
theorem dL_isPosted_35 : decode cL_isPosted 35 = .ok (.iload_n 3, 1) := by decide +kernel
theorem dL_isPosted_36 : decode cL_isPosted 36 = .ok (.ifCond .ne 7, 3) := by decide +kernel
theorem dL_isPosted_39 : decode cL_isPosted 39 = .ok (.lconst 0, 1) := by decide +kernel
theorem dL_isPosted_40 : decode cL_isPosted 40 = .ok (.goto 12, 3) := by decide +kernel
theorem dL_isPosted_43 : decode cL_isPosted 43 = .ok (.aload_n 0, 1) := by decide +kernel
theorem dL_isPosted_44 : decode cL_isPosted 44 = .ok (.iload 4, 2) := by decide +kernel
theorem dL_isPosted_46 : decode cL_isPosted 46 = .ok (.iload_n 3, 1) := by decide +kernel
theorem dL_isPosted_47 : decode cL_isPosted 47 = .ok (.iconst 1, 1) := by decide +kernel
theorem dL_isPosted_48 : decode cL_isPosted 48 = .ok (.isub, 1) := by decide +kernel
theorem dL_isPosted_49 : decode cL_isPosted 49 = .ok (.invokestatic 170, 3) := by decide +kernel
theorem dL_isPosted_52 : decode cL_isPosted 52 = .ok (.lstore 11, 2) := by decide +kernel
theorem dL_isPosted_54 : decode cL_isPosted 54 = .ok (.aload_n 0, 1) := by decide +kernel
theorem dL_isPosted_55 : decode cL_isPosted 55 = .ok (.iload 4, 2) := by decide +kernel
theorem dL_isPosted_57 : decode cL_isPosted 57 = .ok (.iconst 1, 1) := by decide +kernel
theorem dL_isPosted_58 : decode cL_isPosted 58 = .ok (.iadd, 1) := by decide +kernel
theorem dL_isPosted_59 : decode cL_isPosted 59 = .ok (.bipush 6, 2) := by decide +kernel
theorem dL_isPosted_61 : decode cL_isPosted 61 = .ok (.irem, 1) := by decide +kernel
theorem dL_isPosted_62 : decode cL_isPosted 62 = .ok (.sipush 364, 3) := by decide +kernel
theorem dL_isPosted_65 : decode cL_isPosted 65 = .ok (.invokestatic 128, 3) := by decide +kernel
theorem dL_isPosted_68 : decode cL_isPosted 68 = .ok (.lstore 13, 2) := by decide +kernel
theorem dL_isPosted_70 : decode cL_isPosted 70 = .ok (.iload_n 3, 1) := by decide +kernel
theorem dL_isPosted_71 : decode cL_isPosted 71 = .ok (.aload_n 1, 1) := by decide +kernel
theorem dL_isPosted_72 : decode cL_isPosted 72 = .ok (.iconst 0, 1) := by decide +kernel
theorem dL_isPosted_73 : decode cL_isPosted 73 = .ok (.iaload, 1) := by decide +kernel
theorem dL_isPosted_74 : decode cL_isPosted 74 = .ok (.if_icmp .le 40, 3) := by decide +kernel
theorem dL_isPosted_77 : decode cL_isPosted 77 = .ok (.iload 7, 2) := by decide +kernel
theorem dL_isPosted_79 : decode cL_isPosted 79 = .ok (.bipush 60, 2) := by decide +kernel
theorem dL_isPosted_81 : decode cL_isPosted 81 = .ok (.if_icmp .ge 33, 3) := by decide +kernel
theorem dL_isPosted_84 : decode cL_isPosted 84 = .ok (.iload_n 2, 1) := by decide +kernel
theorem dL_isPosted_85 : decode cL_isPosted 85 = .ok (.ifCond .eq 25, 3) := by decide +kernel
theorem dL_isPosted_88 : decode cL_isPosted 88 = .ok (.iload_n 2, 1) := by decide +kernel
theorem dL_isPosted_89 : decode cL_isPosted 89 = .ok (.iconst 1, 1) := by decide +kernel
theorem dL_isPosted_90 : decode cL_isPosted 90 = .ok (.if_icmp .ne 13, 3) := by decide +kernel
theorem dL_isPosted_93 : decode cL_isPosted 93 = .ok (.iload 5, 2) := by decide +kernel
theorem dL_isPosted_95 : decode cL_isPosted 95 = .ok (.iload 10, 2) := by decide +kernel
theorem dL_isPosted_97 : decode cL_isPosted 97 = .ok (.if_icmp .gt 17, 3) := by decide +kernel
theorem dL_isPosted_100 : decode cL_isPosted 100 = .ok (.goto 10, 3) := by decide +kernel
theorem dL_isPosted_103 : decode cL_isPosted 103 = .ok (.iload 5, 2) := by decide +kernel
theorem dL_isPosted_105 : decode cL_isPosted 105 = .ok (.iload 8, 2) := by decide +kernel
theorem dL_isPosted_107 : decode cL_isPosted 107 = .ok (.if_icmp .gt 7, 3) := by decide +kernel
theorem dL_isPosted_110 : decode cL_isPosted 110 = .ok (.iconst 1, 1) := by decide +kernel
theorem dL_isPosted_111 : decode cL_isPosted 111 = .ok (.goto 4, 3) := by decide +kernel
theorem dL_isPosted_114 : decode cL_isPosted 114 = .ok (.iconst 0, 1) := by decide +kernel
theorem dL_isPosted_115 : decode cL_isPosted 115 = .ok (.istore 15, 2) := by decide +kernel
theorem dL_isPosted_117 : decode cL_isPosted 117 = .ok (.iload 15, 2) := by decide +kernel
theorem dL_isPosted_119 : decode cL_isPosted 119 = .ok (.ifCond .eq 7, 3) := by decide +kernel
theorem dL_isPosted_122 : decode cL_isPosted 122 = .ok (.lconst 0, 1) := by decide +kernel
theorem dL_isPosted_123 : decode cL_isPosted 123 = .ok (.goto 7, 3) := by decide +kernel
theorem dL_isPosted_126 : decode cL_isPosted 126 = .ok (.aload_n 0, 1) := by decide +kernel
theorem dL_isPosted_127 : decode cL_isPosted 127 = .ok (.invokestatic 146, 3) := by decide +kernel
theorem dL_isPosted_130 : decode cL_isPosted 130 = .ok (.lstore 16, 2) := by decide +kernel
theorem dL_isPosted_132 : decode cL_isPosted 132 = .ok (.iload_n 2, 1) := by decide +kernel
theorem dL_isPosted_133 : decode cL_isPosted 133 = .ok (.ifCond .ne 17, 3) := by decide +kernel
theorem dL_isPosted_136 : decode cL_isPosted 136 = .ok (.aload_n 0, 1) := by decide +kernel
theorem dL_isPosted_137 : decode cL_isPosted 137 = .ok (.iload_n 3, 1) := by decide +kernel
theorem dL_isPosted_138 : decode cL_isPosted 138 = .ok (.iload 4, 2) := by decide +kernel
theorem dL_isPosted_140 : decode cL_isPosted 140 = .ok (.iload 5, 2) := by decide +kernel
theorem dL_isPosted_142 : decode cL_isPosted 142 = .ok (.iload 6, 2) := by decide +kernel
theorem dL_isPosted_144 : decode cL_isPosted 144 = .ok (.invokestatic 150, 3) := by decide +kernel
theorem dL_isPosted_147 : decode cL_isPosted 147 = .ok (.goto 31, 3) := by decide +kernel
theorem dL_isPosted_150 : decode cL_isPosted 150 = .ok (.iload_n 2, 1) := by decide +kernel
theorem dL_isPosted_151 : decode cL_isPosted 151 = .ok (.iconst 1, 1) := by decide +kernel
theorem dL_isPosted_152 : decode cL_isPosted 152 = .ok (.if_icmp .ne 15, 3) := by decide +kernel
theorem dL_isPosted_155 : decode cL_isPosted 155 = .ok (.aload_n 0, 1) := by decide +kernel
theorem dL_isPosted_156 : decode cL_isPosted 156 = .ok (.iload_n 3, 1) := by decide +kernel
theorem dL_isPosted_157 : decode cL_isPosted 157 = .ok (.iload 4, 2) := by decide +kernel
theorem dL_isPosted_159 : decode cL_isPosted 159 = .ok (.iload 5, 2) := by decide +kernel
theorem dL_isPosted_161 : decode cL_isPosted 161 = .ok (.invokestatic 153, 3) := by decide +kernel
theorem dL_isPosted_164 : decode cL_isPosted 164 = .ok (.goto 14, 3) := by decide +kernel
theorem dL_isPosted_167 : decode cL_isPosted 167 = .ok (.aload_n 0, 1) := by decide +kernel
theorem dL_isPosted_168 : decode cL_isPosted 168 = .ok (.iload_n 3, 1) := by decide +kernel
theorem dL_isPosted_169 : decode cL_isPosted 169 = .ok (.iload 4, 2) := by decide +kernel
theorem dL_isPosted_171 : decode cL_isPosted 171 = .ok (.iload 5, 2) := by decide +kernel
theorem dL_isPosted_173 : decode cL_isPosted 173 = .ok (.iload 6, 2) := by decide +kernel
theorem dL_isPosted_175 : decode cL_isPosted 175 = .ok (.invokestatic 156, 3) := by decide +kernel
theorem dL_isPosted_178 : decode cL_isPosted 178 = .ok (.istore 18, 2) := by decide +kernel
theorem dL_isPosted_180 : decode cL_isPosted 180 = .ok (.iload 15, 2) := by decide +kernel
theorem dL_isPosted_182 : decode cL_isPosted 182 = .ok (.ifCond .ne 26, 3) := by decide +kernel
theorem dL_isPosted_185 : decode cL_isPosted 185 = .ok (.iload 18, 2) := by decide +kernel
theorem dL_isPosted_187 : decode cL_isPosted 187 = .ok (.bipush (-7), 2) := by decide +kernel
theorem dL_isPosted_189 : decode cL_isPosted 189 = .ok (.if_icmp .ne 17, 3) := by decide +kernel
theorem dL_isPosted_192 : decode cL_isPosted 192 = .ok (.aload_n 0, 1) := by decide +kernel
theorem dL_isPosted_193 : decode cL_isPosted 193 = .ok (.invokestatic 146, 3) := by decide +kernel
theorem dL_isPosted_196 : decode cL_isPosted 196 = .ok (.lload 16, 2) := by decide +kernel
theorem dL_isPosted_198 : decode cL_isPosted 198 = .ok (.lcmp, 1) := by decide +kernel
theorem dL_isPosted_199 : decode cL_isPosted 199 = .ok (.ifCond .ne 7, 3) := by decide +kernel
theorem dL_isPosted_202 : decode cL_isPosted 202 = .ok (.iconst 1, 1) := by decide +kernel
theorem dL_isPosted_203 : decode cL_isPosted 203 = .ok (.goto 4, 3) := by decide +kernel
theorem dL_isPosted_206 : decode cL_isPosted 206 = .ok (.iconst 0, 1) := by decide +kernel
theorem dL_isPosted_207 : decode cL_isPosted 207 = .ok (.ireturn, 1) := by decide +kernel
theorem dL_isPosted_208 : decode cL_isPosted 208 = .ok (.iload_n 2, 1) := by decide +kernel
theorem dL_isPosted_209 : decode cL_isPosted 209 = .ok (.ifCond .ne 8, 3) := by decide +kernel
theorem dL_isPosted_212 : decode cL_isPosted 212 = .ok (.iload 5, 2) := by decide +kernel
theorem dL_isPosted_214 : decode cL_isPosted 214 = .ok (.goto 15, 3) := by decide +kernel
theorem dL_isPosted_217 : decode cL_isPosted 217 = .ok (.iload_n 2, 1) := by decide +kernel
theorem dL_isPosted_218 : decode cL_isPosted 218 = .ok (.iconst 1, 1) := by decide +kernel
theorem dL_isPosted_219 : decode cL_isPosted 219 = .ok (.if_icmp .ne 9, 3) := by decide +kernel
theorem dL_isPosted_222 : decode cL_isPosted 222 = .ok (.iload 5, 2) := by decide +kernel
theorem dL_isPosted_224 : decode cL_isPosted 224 = .ok (.ineg, 1) := by decide +kernel
theorem dL_isPosted_225 : decode cL_isPosted 225 = .ok (.goto 4, 3) := by decide +kernel
theorem dL_isPosted_228 : decode cL_isPosted 228 = .ok (.iconst 0, 1) := by decide +kernel
theorem dL_isPosted_229 : decode cL_isPosted 229 = .ok (.istore 19, 2) := by decide +kernel
theorem dL_isPosted_231 : decode cL_isPosted 231 = .ok (.iload 18, 2) := by decide +kernel
theorem dL_isPosted_233 : decode cL_isPosted 233 = .ok (.iload 7, 2) := by decide +kernel
theorem dL_isPosted_235 : decode cL_isPosted 235 = .ok (.if_icmp .ne 118, 3) := by decide +kernel
theorem dL_isPosted_238 : decode cL_isPosted 238 = .ok (.aload_n 0, 1) := by decide +kernel
theorem dL_isPosted_239 : decode cL_isPosted 239 = .ok (.invokevirtual 116, 3) := by decide +kernel
theorem dL_isPosted_242 : decode cL_isPosted 242 = .ok (.iload 7, 2) := by decide +kernel
theorem dL_isPosted_244 : decode cL_isPosted 244 = .ok (.iconst 1, 1) := by decide +kernel
theorem dL_isPosted_245 : decode cL_isPosted 245 = .ok (.iadd, 1) := by decide +kernel
theorem dL_isPosted_246 : decode cL_isPosted 246 = .ok (.if_icmp .ne 107, 3) := by decide +kernel
theorem dL_isPosted_249 : decode cL_isPosted 249 = .ok (.aload_n 0, 1) := by decide +kernel
theorem dL_isPosted_250 : decode cL_isPosted 250 = .ok (.iload 7, 2) := by decide +kernel
theorem dL_isPosted_252 : decode cL_isPosted 252 = .ok (.invokevirtual 44, 3) := by decide +kernel
theorem dL_isPosted_255 : decode cL_isPosted 255 = .ok (.iload_n 2, 1) := by decide +kernel
theorem dL_isPosted_256 : decode cL_isPosted 256 = .ok (.if_icmp .ne 97, 3) := by decide +kernel
theorem dL_isPosted_259 : decode cL_isPosted 259 = .ok (.aload_n 0, 1) := by decide +kernel
theorem dL_isPosted_260 : decode cL_isPosted 260 = .ok (.iload 7, 2) := by decide +kernel
theorem dL_isPosted_262 : decode cL_isPosted 262 = .ok (.invokevirtual 47, 3) := by decide +kernel
theorem dL_isPosted_265 : decode cL_isPosted 265 = .ok (.iload_n 3, 1) := by decide +kernel
theorem dL_isPosted_266 : decode cL_isPosted 266 = .ok (.if_icmp .ne 87, 3) := by decide +kernel
theorem dL_isPosted_269 : decode cL_isPosted 269 = .ok (.aload_n 0, 1) := by decide +kernel
theorem dL_isPosted_270 : decode cL_isPosted 270 = .ok (.iload 7, 2) := by decide +kernel
theorem dL_isPosted_272 : decode cL_isPosted 272 = .ok (.invokevirtual 53, 3) := by decide +kernel
theorem dL_isPosted_275 : decode cL_isPosted 275 = .ok (.ifCond .ne 78, 3) := by decide +kernel
theorem dL_isPosted_278 : decode cL_isPosted 278 = .ok (.aload_n 0, 1) := by decide +kernel
theorem dL_isPosted_279 : decode cL_isPosted 279 = .ok (.iload 4, 2) := by decide +kernel
theorem dL_isPosted_281 : decode cL_isPosted 281 = .ok (.iload_n 3, 1) := by decide +kernel
theorem dL_isPosted_282 : decode cL_isPosted 282 = .ok (.invokevirtual 80, 3) := by decide +kernel
theorem dL_isPosted_285 : decode cL_isPosted 285 = .ok (.iload 8, 2) := by decide +kernel
theorem dL_isPosted_287 : decode cL_isPosted 287 = .ok (.iload 19, 2) := by decide +kernel
theorem dL_isPosted_289 : decode cL_isPosted 289 = .ok (.iadd, 1) := by decide +kernel
theorem dL_isPosted_290 : decode cL_isPosted 290 = .ok (.if_icmp .ne 63, 3) := by decide +kernel
theorem dL_isPosted_293 : decode cL_isPosted 293 = .ok (.aload_n 0, 1) := by decide +kernel
theorem dL_isPosted_294 : decode cL_isPosted 294 = .ok (.iload 4, 2) := by decide +kernel
theorem dL_isPosted_296 : decode cL_isPosted 296 = .ok (.sipush 364, 3) := by decide +kernel
theorem dL_isPosted_299 : decode cL_isPosted 299 = .ok (.invokevirtual 80, 3) := by decide +kernel
theorem dL_isPosted_302 : decode cL_isPosted 302 = .ok (.iload 9, 2) := by decide +kernel
theorem dL_isPosted_304 : decode cL_isPosted 304 = .ok (.iload 19, 2) := by decide +kernel
theorem dL_isPosted_306 : decode cL_isPosted 306 = .ok (.iadd, 1) := by decide +kernel
theorem dL_isPosted_307 : decode cL_isPosted 307 = .ok (.if_icmp .ne 46, 3) := by decide +kernel
theorem dL_isPosted_310 : decode cL_isPosted 310 = .ok (.aload_n 0, 1) := by decide +kernel
theorem dL_isPosted_311 : decode cL_isPosted 311 = .ok (.iload 4, 2) := by decide +kernel
theorem dL_isPosted_313 : decode cL_isPosted 313 = .ok (.iconst 1, 1) := by decide +kernel
theorem dL_isPosted_314 : decode cL_isPosted 314 = .ok (.iadd, 1) := by decide +kernel
theorem dL_isPosted_315 : decode cL_isPosted 315 = .ok (.bipush 6, 2) := by decide +kernel
theorem dL_isPosted_317 : decode cL_isPosted 317 = .ok (.irem, 1) := by decide +kernel
theorem dL_isPosted_318 : decode cL_isPosted 318 = .ok (.sipush 364, 3) := by decide +kernel
theorem dL_isPosted_321 : decode cL_isPosted 321 = .ok (.invokestatic 128, 3) := by decide +kernel
theorem dL_isPosted_324 : decode cL_isPosted 324 = .ok (.lload 13, 2) := by decide +kernel
theorem dL_isPosted_326 : decode cL_isPosted 326 = .ok (.lcmp, 1) := by decide +kernel
theorem dL_isPosted_327 : decode cL_isPosted 327 = .ok (.ifCond .ne 26, 3) := by decide +kernel
theorem dL_isPosted_330 : decode cL_isPosted 330 = .ok (.iload_n 3, 1) := by decide +kernel
theorem dL_isPosted_331 : decode cL_isPosted 331 = .ok (.ifCond .eq 18, 3) := by decide +kernel
theorem dL_isPosted_334 : decode cL_isPosted 334 = .ok (.aload_n 0, 1) := by decide +kernel
theorem dL_isPosted_335 : decode cL_isPosted 335 = .ok (.iload 4, 2) := by decide +kernel
theorem dL_isPosted_337 : decode cL_isPosted 337 = .ok (.iload_n 3, 1) := by decide +kernel
theorem dL_isPosted_338 : decode cL_isPosted 338 = .ok (.iconst 1, 1) := by decide +kernel
theorem dL_isPosted_339 : decode cL_isPosted 339 = .ok (.isub, 1) := by decide +kernel
theorem dL_isPosted_340 : decode cL_isPosted 340 = .ok (.invokestatic 170, 3) := by decide +kernel
theorem dL_isPosted_343 : decode cL_isPosted 343 = .ok (.lload 11, 2) := by decide +kernel
theorem dL_isPosted_345 : decode cL_isPosted 345 = .ok (.lcmp, 1) := by decide +kernel
theorem dL_isPosted_346 : decode cL_isPosted 346 = .ok (.ifCond .ne 7, 3) := by decide +kernel
theorem dL_isPosted_349 : decode cL_isPosted 349 = .ok (.iconst 1, 1) := by decide +kernel
theorem dL_isPosted_350 : decode cL_isPosted 350 = .ok (.goto 4, 3) := by decide +kernel
theorem dL_isPosted_353 : decode cL_isPosted 353 = .ok (.iconst 0, 1) := by decide +kernel
theorem dL_isPosted_354 : decode cL_isPosted 354 = .ok (.ireturn, 1) := by decide +kernel
theorem dL_receivedOfAll_0 : decode cL_receivedOfAll 0 = .ok (.lconst 0, 1) := by decide +kernel
theorem dL_receivedOfAll_1 : decode cL_receivedOfAll 1 = .ok (.lstore_n 1, 1) := by decide +kernel
theorem dL_receivedOfAll_2 : decode cL_receivedOfAll 2 = .ok (.iconst 0, 1) := by decide +kernel
theorem dL_receivedOfAll_3 : decode cL_receivedOfAll 3 = .ok (.istore_n 3, 1) := by decide +kernel
theorem dL_receivedOfAll_4 : decode cL_receivedOfAll 4 = .ok (.iload_n 3, 1) := by decide +kernel
theorem dL_receivedOfAll_5 : decode cL_receivedOfAll 5 = .ok (.bipush 6, 2) := by decide +kernel
theorem dL_receivedOfAll_7 : decode cL_receivedOfAll 7 = .ok (.if_icmp .ge 20, 3) := by decide +kernel
theorem dL_receivedOfAll_10 : decode cL_receivedOfAll 10 = .ok (.lload_n 1, 1) := by decide +kernel
theorem dL_receivedOfAll_11 : decode cL_receivedOfAll 11 = .ok (.aload_n 0, 1) := by decide +kernel
theorem dL_receivedOfAll_12 : decode cL_receivedOfAll 12 = .ok (.iload_n 3, 1) := by decide +kernel
theorem dL_receivedOfAll_13 : decode cL_receivedOfAll 13 = .ok (.sipush 364, 3) := by decide +kernel
theorem dL_receivedOfAll_16 : decode cL_receivedOfAll 16 = .ok (.invokevirtual 86, 3) := by decide +kernel
theorem dL_receivedOfAll_19 : decode cL_receivedOfAll 19 = .ok (.ladd, 1) := by decide +kernel
theorem dL_receivedOfAll_20 : decode cL_receivedOfAll 20 = .ok (.lstore_n 1, 1) := by decide +kernel
theorem dL_receivedOfAll_21 : decode cL_receivedOfAll 21 = .ok (.iinc 3 1, 3) := by decide +kernel
theorem dL_receivedOfAll_24 : decode cL_receivedOfAll 24 = .ok (.goto (-20), 3) := by decide +kernel
theorem dL_receivedOfAll_27 : decode cL_receivedOfAll 27 = .ok (.lload_n 1, 1) := by decide +kernel
theorem dL_receivedOfAll_28 : decode cL_receivedOfAll 28 = .ok (.lreturn, 1) := by decide +kernel
theorem dL_isLanded_0 : decode cL_isLanded 0 = .ok (.aload_n 0, 1) := by decide +kernel
theorem dL_isLanded_1 : decode cL_isLanded 1 = .ok (.invokevirtual 116, 3) := by decide +kernel
theorem dL_isLanded_4 : decode cL_isLanded 4 = .ok (.istore 8, 2) := by decide +kernel
theorem dL_isLanded_6 : decode cL_isLanded 6 = .ok (.iload_n 3, 1) := by decide +kernel
theorem dL_isLanded_7 : decode cL_isLanded 7 = .ok (.aload_n 1, 1) := by decide +kernel
theorem dL_isLanded_8 : decode cL_isLanded 8 = .ok (.iconst 0, 1) := by decide +kernel
theorem dL_isLanded_9 : decode cL_isLanded 9 = .ok (.iaload, 1) := by decide +kernel
theorem dL_isLanded_10 : decode cL_isLanded 10 = .ok (.if_icmp .le 14, 3) := by decide +kernel
theorem dL_isLanded_13 : decode cL_isLanded 13 = .ok (.iload 8, 2) := by decide +kernel
theorem dL_isLanded_15 : decode cL_isLanded 15 = .ok (.bipush 60, 2) := by decide +kernel
theorem dL_isLanded_17 : decode cL_isLanded 17 = .ok (.if_icmp .ge 7, 3) := by decide +kernel
theorem dL_isLanded_20 : decode cL_isLanded 20 = .ok (.iconst 1, 1) := by decide +kernel
theorem dL_isLanded_21 : decode cL_isLanded 21 = .ok (.goto 4, 3) := by decide +kernel
theorem dL_isLanded_24 : decode cL_isLanded 24 = .ok (.iconst 0, 1) := by decide +kernel
theorem dL_isLanded_25 : decode cL_isLanded 25 = .ok (.istore 9, 2) := by decide +kernel
theorem dL_isLanded_27 : decode cL_isLanded 27 = .ok (.iconst 0, 1) := by decide +kernel
theorem dL_isLanded_28 : decode cL_isLanded 28 = .ok (.istore 10, 2) := by decide +kernel
theorem dL_isLanded_30 : decode cL_isLanded 30 = .ok (.iload 10, 2) := by decide +kernel
theorem dL_isLanded_32 : decode cL_isLanded 32 = .ok (.iload 8, 2) := by decide +kernel
theorem dL_isLanded_34 : decode cL_isLanded 34 = .ok (.if_icmp .ge 61, 3) := by decide +kernel
theorem dL_isLanded_37 : decode cL_isLanded 37 = .ok (.iload 9, 2) := by decide +kernel
theorem dL_isLanded_39 : decode cL_isLanded 39 = .ok (.ifCond .eq 47, 3) := by decide +kernel
theorem dL_isLanded_42 : decode cL_isLanded 42 = .ok (.lload 6, 2) := by decide +kernel
theorem dL_isLanded_44 : decode cL_isLanded 44 = .ok (.iload 10, 2) := by decide +kernel
theorem dL_isLanded_46 : decode cL_isLanded 46 = .ok (.lshr, 1) := by decide +kernel
theorem dL_isLanded_47 : decode cL_isLanded 47 = .ok (.lconst 1, 1) := by decide +kernel
theorem dL_isLanded_48 : decode cL_isLanded 48 = .ok (.land, 1) := by decide +kernel
theorem dL_isLanded_49 : decode cL_isLanded 49 = .ok (.lconst 0, 1) := by decide +kernel
theorem dL_isLanded_50 : decode cL_isLanded 50 = .ok (.lcmp, 1) := by decide +kernel
theorem dL_isLanded_51 : decode cL_isLanded 51 = .ok (.ifCond .eq 31, 3) := by decide +kernel
theorem dL_isLanded_54 : decode cL_isLanded 54 = .ok (.aload_n 0, 1) := by decide +kernel
theorem dL_isLanded_55 : decode cL_isLanded 55 = .ok (.iload 10, 2) := by decide +kernel
theorem dL_isLanded_57 : decode cL_isLanded 57 = .ok (.invokevirtual 53, 3) := by decide +kernel
theorem dL_isLanded_60 : decode cL_isLanded 60 = .ok (.ifCond .ne 26, 3) := by decide +kernel
theorem dL_isLanded_63 : decode cL_isLanded 63 = .ok (.aload_n 0, 1) := by decide +kernel
theorem dL_isLanded_64 : decode cL_isLanded 64 = .ok (.iload 10, 2) := by decide +kernel
theorem dL_isLanded_66 : decode cL_isLanded 66 = .ok (.invokevirtual 44, 3) := by decide +kernel
theorem dL_isLanded_69 : decode cL_isLanded 69 = .ok (.ifCond .ne 17, 3) := by decide +kernel
theorem dL_isLanded_72 : decode cL_isLanded 72 = .ok (.aload_n 0, 1) := by decide +kernel
theorem dL_isLanded_73 : decode cL_isLanded 73 = .ok (.iload 10, 2) := by decide +kernel
theorem dL_isLanded_75 : decode cL_isLanded 75 = .ok (.invokevirtual 47, 3) := by decide +kernel
theorem dL_isLanded_78 : decode cL_isLanded 78 = .ok (.iload_n 3, 1) := by decide +kernel
theorem dL_isLanded_79 : decode cL_isLanded 79 = .ok (.if_icmp .gt 7, 3) := by decide +kernel
theorem dL_isLanded_82 : decode cL_isLanded 82 = .ok (.iconst 1, 1) := by decide +kernel
theorem dL_isLanded_83 : decode cL_isLanded 83 = .ok (.goto 4, 3) := by decide +kernel
theorem dL_isLanded_86 : decode cL_isLanded 86 = .ok (.iconst 0, 1) := by decide +kernel
theorem dL_isLanded_87 : decode cL_isLanded 87 = .ok (.istore 9, 2) := by decide +kernel
theorem dL_isLanded_89 : decode cL_isLanded 89 = .ok (.iinc 10 1, 3) := by decide +kernel
theorem dL_isLanded_92 : decode cL_isLanded 92 = .ok (.goto (-62), 3) := by decide +kernel
theorem dL_isLanded_95 : decode cL_isLanded 95 = .ok (.aload_n 0, 1) := by decide +kernel
theorem dL_isLanded_96 : decode cL_isLanded 96 = .ok (.invokestatic 173, 3) := by decide +kernel
theorem dL_isLanded_99 : decode cL_isLanded 99 = .ok (.lstore 10, 2) := by decide +kernel
theorem dL_isLanded_101 : decode cL_isLanded 101 = .ok (.aload_n 0, 1) := by decide +kernel
