theorem dX3_isSame_298 : decode cX3_isSame 298 = .ok (.invokevirtual 98, 3) := by decide +kernel
theorem dX3_isSame_301 : decode cX3_isSame 301 = .ok (.iload 11, 2) := by decide +kernel
theorem dX3_isSame_303 : decode cX3_isSame 303 = .ok (.if_icmp .eq 5, 3) := by decide +kernel
theorem dX3_isSame_306 : decode cX3_isSame 306 = .ok (.iconst 0, 1) := by decide +kernel
theorem dX3_isSame_307 : decode cX3_isSame 307 = .ok (.ireturn, 1) := by decide +kernel
theorem dX3_isSame_308 : decode cX3_isSame 308 = .ok (.aload 4, 2) := by decide +kernel
theorem dX3_isSame_310 : decode cX3_isSame 310 = .ok (.iload 13, 2) := by decide +kernel
theorem dX3_isSame_312 : decode cX3_isSame 312 = .ok (.dup2, 1) := by decide +kernel
theorem dX3_isSame_313 : decode cX3_isSame 313 = .ok (.iaload, 1) := by decide +kernel
theorem dX3_isSame_314 : decode cX3_isSame 314 = .ok (.aload_n 0, 1) := by decide +kernel
theorem dX3_isSame_315 : decode cX3_isSame 315 = .ok (.getfield 9, 3) := by decide +kernel
theorem dX3_isSame_318 : decode cX3_isSame 318 = .ok (.iload 9, 2) := by decide +kernel
theorem dX3_isSame_320 : decode cX3_isSame 320 = .ok (.aaload, 1) := by decide +kernel
theorem dX3_isSame_321 : decode cX3_isSame 321 = .ok (.iconst 2, 1) := by decide +kernel
theorem dX3_isSame_322 : decode cX3_isSame 322 = .ok (.iaload, 1) := by decide +kernel
theorem dX3_isSame_323 : decode cX3_isSame 323 = .ok (.iadd, 1) := by decide +kernel
theorem dX3_isSame_324 : decode cX3_isSame 324 = .ok (.iastore, 1) := by decide +kernel
theorem dX3_isSame_325 : decode cX3_isSame 325 = .ok (.iload 5, 2) := by decide +kernel
theorem dX3_isSame_327 : decode cX3_isSame 327 = .ok (.aload_n 0, 1) := by decide +kernel
theorem dX3_isSame_328 : decode cX3_isSame 328 = .ok (.getfield 9, 3) := by decide +kernel
theorem dX3_isSame_331 : decode cX3_isSame 331 = .ok (.iload 9, 2) := by decide +kernel
theorem dX3_isSame_333 : decode cX3_isSame 333 = .ok (.aaload, 1) := by decide +kernel
theorem dX3_isSame_334 : decode cX3_isSame 334 = .ok (.iconst 2, 1) := by decide +kernel
theorem dX3_isSame_335 : decode cX3_isSame 335 = .ok (.iaload, 1) := by decide +kernel
theorem dX3_isSame_336 : decode cX3_isSame 336 = .ok (.iadd, 1) := by decide +kernel
theorem dX3_isSame_337 : decode cX3_isSame 337 = .ok (.istore 5, 2) := by decide +kernel
theorem dX3_isSame_339 : decode cX3_isSame 339 = .ok (.iload 6, 2) := by decide +kernel
theorem dX3_isSame_341 : decode cX3_isSame 341 = .ok (.iload 11, 2) := by decide +kernel
theorem dX3_isSame_343 : decode cX3_isSame 343 = .ok (.iadd, 1) := by decide +kernel
theorem dX3_isSame_344 : decode cX3_isSame 344 = .ok (.istore 6, 2) := by decide +kernel
theorem dX3_isSame_346 : decode cX3_isSame 346 = .ok (.iload 11, 2) := by decide +kernel
theorem dX3_isSame_348 : decode cX3_isSame 348 = .ok (.iload 7, 2) := by decide +kernel
theorem dX3_isSame_350 : decode cX3_isSame 350 = .ok (.if_icmp .gt 6, 3) := by decide +kernel
theorem dX3_isSame_353 : decode cX3_isSame 353 = .ok (.goto 11, 3) := by decide +kernel
theorem dX3_isSame_356 : decode cX3_isSame 356 = .ok (.iload 11, 2) := by decide +kernel
theorem dX3_isSame_358 : decode cX3_isSame 358 = .ok (.istore 7, 2) := by decide +kernel
theorem dX3_isSame_360 : decode cX3_isSame 360 = .ok (.iload 9, 2) := by decide +kernel
theorem dX3_isSame_362 : decode cX3_isSame 362 = .ok (.istore 8, 2) := by decide +kernel
theorem dX3_isSame_364 : decode cX3_isSame 364 = .ok (.iinc 9 1, 3) := by decide +kernel
theorem dX3_isSame_367 : decode cX3_isSame 367 = .ok (.goto (-335), 3) := by decide +kernel
theorem dX3_isSame_370 : decode cX3_isSame 370 = .ok (.iconst 0, 1) := by decide +kernel
theorem dX3_isSame_371 : decode cX3_isSame 371 = .ok (.istore 9, 2) := by decide +kernel
theorem dX3_isSame_373 : decode cX3_isSame 373 = .ok (.iconst 0, 1) := by decide +kernel
theorem dX3_isSame_374 : decode cX3_isSame 374 = .ok (.istore 10, 2) := by decide +kernel
theorem dX3_isSame_376 : decode cX3_isSame 376 = .ok (.iload 10, 2) := by decide +kernel
theorem dX3_isSame_378 : decode cX3_isSame 378 = .ok (.bipush 6, 2) := by decide +kernel
theorem dX3_isSame_380 : decode cX3_isSame 380 = .ok (.if_icmp .ge 42, 3) := by decide +kernel
theorem dX3_isSame_383 : decode cX3_isSame 383 = .ok (.aload_n 1, 1) := by decide +kernel
theorem dX3_isSame_384 : decode cX3_isSame 384 = .ok (.iload 10, 2) := by decide +kernel
theorem dX3_isSame_386 : decode cX3_isSame 386 = .ok (.invokevirtual 101, 3) := by decide +kernel
theorem dX3_isSame_389 : decode cX3_isSame 389 = .ok (.aload 4, 2) := by decide +kernel
theorem dX3_isSame_391 : decode cX3_isSame 391 = .ok (.iload 10, 2) := by decide +kernel
theorem dX3_isSame_393 : decode cX3_isSame 393 = .ok (.iaload, 1) := by decide +kernel
theorem dX3_isSame_394 : decode cX3_isSame 394 = .ok (.if_icmp .eq 5, 3) := by decide +kernel
theorem dX3_isSame_397 : decode cX3_isSame 397 = .ok (.iconst 0, 1) := by decide +kernel
theorem dX3_isSame_398 : decode cX3_isSame 398 = .ok (.ireturn, 1) := by decide +kernel
theorem dX3_isSame_399 : decode cX3_isSame 399 = .ok (.iload 10, 2) := by decide +kernel
theorem dX3_isSame_401 : decode cX3_isSame 401 = .ok (.ifCond .le 15, 3) := by decide +kernel
theorem dX3_isSame_404 : decode cX3_isSame 404 = .ok (.aload 4, 2) := by decide +kernel
theorem dX3_isSame_406 : decode cX3_isSame 406 = .ok (.iload 10, 2) := by decide +kernel
theorem dX3_isSame_408 : decode cX3_isSame 408 = .ok (.iaload, 1) := by decide +kernel
theorem dX3_isSame_409 : decode cX3_isSame 409 = .ok (.ifCond .le 7, 3) := by decide +kernel
theorem dX3_isSame_412 : decode cX3_isSame 412 = .ok (.iload 10, 2) := by decide +kernel
theorem dX3_isSame_414 : decode cX3_isSame 414 = .ok (.istore 9, 2) := by decide +kernel
theorem dX3_isSame_416 : decode cX3_isSame 416 = .ok (.iinc 10 1, 3) := by decide +kernel
theorem dX3_isSame_419 : decode cX3_isSame 419 = .ok (.goto (-43), 3) := by decide +kernel
theorem dX3_isSame_422 : decode cX3_isSame 422 = .ok (.iconst 1, 1) := by decide +kernel
theorem dX3_isSame_423 : decode cX3_isSame 423 = .ok (.istore 10, 2) := by decide +kernel
theorem dX3_isSame_425 : decode cX3_isSame 425 = .ok (.iload 10, 2) := by decide +kernel
theorem dX3_isSame_427 : decode cX3_isSame 427 = .ok (.iconst 5, 1) := by decide +kernel
theorem dX3_isSame_428 : decode cX3_isSame 428 = .ok (.if_icmp .ge 72, 3) := by decide +kernel
theorem dX3_isSame_431 : decode cX3_isSame 431 = .ok (.iconst 0, 1) := by decide +kernel
theorem dX3_isSame_432 : decode cX3_isSame 432 = .ok (.istore 11, 2) := by decide +kernel
theorem dX3_isSame_434 : decode cX3_isSame 434 = .ok (.iload 11, 2) := by decide +kernel
theorem dX3_isSame_436 : decode cX3_isSame 436 = .ok (.iconst 3, 1) := by decide +kernel
theorem dX3_isSame_437 : decode cX3_isSame 437 = .ok (.if_icmp .ge 57, 3) := by decide +kernel
theorem dX3_isSame_440 : decode cX3_isSame 440 = .ok (.aload_n 1, 1) := by decide +kernel
theorem dX3_isSame_441 : decode cX3_isSame 441 = .ok (.iload 10, 2) := by decide +kernel
theorem dX3_isSame_443 : decode cX3_isSame 443 = .ok (.iload 11, 2) := by decide +kernel
theorem dX3_isSame_445 : decode cX3_isSame 445 = .ok (.invokevirtual 104, 3) := by decide +kernel
theorem dX3_isSame_448 : decode cX3_isSame 448 = .ok (.aload_n 0, 1) := by decide +kernel
theorem dX3_isSame_449 : decode cX3_isSame 449 = .ok (.getfield 17, 3) := by decide +kernel
theorem dX3_isSame_452 : decode cX3_isSame 452 = .ok (.iload 10, 2) := by decide +kernel
theorem dX3_isSame_454 : decode cX3_isSame 454 = .ok (.aaload, 1) := by decide +kernel
theorem dX3_isSame_455 : decode cX3_isSame 455 = .ok (.iload 11, 2) := by decide +kernel
theorem dX3_isSame_457 : decode cX3_isSame 457 = .ok (.aaload, 1) := by decide +kernel
theorem dX3_isSame_458 : decode cX3_isSame 458 = .ok (.iconst 0, 1) := by decide +kernel
theorem dX3_isSame_459 : decode cX3_isSame 459 = .ok (.iaload, 1) := by decide +kernel
theorem dX3_isSame_460 : decode cX3_isSame 460 = .ok (.if_icmp .ne 26, 3) := by decide +kernel
theorem dX3_isSame_463 : decode cX3_isSame 463 = .ok (.aload_n 1, 1) := by decide +kernel
theorem dX3_isSame_464 : decode cX3_isSame 464 = .ok (.iload 10, 2) := by decide +kernel
theorem dX3_isSame_466 : decode cX3_isSame 466 = .ok (.iload 11, 2) := by decide +kernel
theorem dX3_isSame_468 : decode cX3_isSame 468 = .ok (.invokevirtual 107, 3) := by decide +kernel
theorem dX3_isSame_471 : decode cX3_isSame 471 = .ok (.aload_n 0, 1) := by decide +kernel
theorem dX3_isSame_472 : decode cX3_isSame 472 = .ok (.getfield 17, 3) := by decide +kernel
theorem dX3_isSame_475 : decode cX3_isSame 475 = .ok (.iload 10, 2) := by decide +kernel
theorem dX3_isSame_477 : decode cX3_isSame 477 = .ok (.aaload, 1) := by decide +kernel
theorem dX3_isSame_478 : decode cX3_isSame 478 = .ok (.iload 11, 2) := by decide +kernel
theorem dX3_isSame_480 : decode cX3_isSame 480 = .ok (.aaload, 1) := by decide +kernel
theorem dX3_isSame_481 : decode cX3_isSame 481 = .ok (.iconst 1, 1) := by decide +kernel
theorem dX3_isSame_482 : decode cX3_isSame 482 = .ok (.iaload, 1) := by decide +kernel
theorem dX3_isSame_483 : decode cX3_isSame 483 = .ok (.if_icmp .eq 5, 3) := by decide +kernel
theorem dX3_isSame_486 : decode cX3_isSame 486 = .ok (.iconst 0, 1) := by decide +kernel
theorem dX3_isSame_487 : decode cX3_isSame 487 = .ok (.ireturn, 1) := by decide +kernel
theorem dX3_isSame_488 : decode cX3_isSame 488 = .ok (.iinc 11 1, 3) := by decide +kernel
theorem dX3_isSame_491 : decode cX3_isSame 491 = .ok (.goto (-57), 3) := by decide +kernel
theorem dX3_isSame_494 : decode cX3_isSame 494 = .ok (.iinc 10 1, 3) := by decide +kernel
theorem dX3_isSame_497 : decode cX3_isSame 497 = .ok (.goto (-72), 3) := by decide +kernel
theorem dX3_isSame_500 : decode cX3_isSame 500 = .ok (.aload_n 1, 1) := by decide +kernel
theorem dX3_isSame_501 : decode cX3_isSame 501 = .ok (.invokevirtual 110, 3) := by decide +kernel
theorem dX3_isSame_504 : decode cX3_isSame 504 = .ok (.iload_n 2, 1) := by decide +kernel
theorem dX3_isSame_505 : decode cX3_isSame 505 = .ok (.if_icmp .ne 80, 3) := by decide +kernel
theorem dX3_isSame_508 : decode cX3_isSame 508 = .ok (.aload_n 1, 1) := by decide +kernel
theorem dX3_isSame_509 : decode cX3_isSame 509 = .ok (.invokevirtual 112, 3) := by decide +kernel
theorem dX3_isSame_512 : decode cX3_isSame 512 = .ok (.iload 5, 2) := by decide +kernel
theorem dX3_isSame_514 : decode cX3_isSame 514 = .ok (.if_icmp .ne 71, 3) := by decide +kernel
theorem dX3_isSame_517 : decode cX3_isSame 517 = .ok (.aload_n 1, 1) := by decide +kernel
theorem dX3_isSame_518 : decode cX3_isSame 518 = .ok (.invokevirtual 115, 3) := by decide +kernel
theorem dX3_isSame_521 : decode cX3_isSame 521 = .ok (.aload_n 0, 1) := by decide +kernel
theorem dX3_isSame_522 : decode cX3_isSame 522 = .ok (.getfield 38, 3) := by decide +kernel
theorem dX3_isSame_525 : decode cX3_isSame 525 = .ok (.if_icmp .ne 60, 3) := by decide +kernel
theorem dX3_isSame_528 : decode cX3_isSame 528 = .ok (.aload_n 1, 1) := by decide +kernel
theorem dX3_isSame_529 : decode cX3_isSame 529 = .ok (.invokevirtual 117, 3) := by decide +kernel
theorem dX3_isSame_532 : decode cX3_isSame 532 = .ok (.iload 9, 2) := by decide +kernel
theorem dX3_isSame_534 : decode cX3_isSame 534 = .ok (.if_icmp .ne 51, 3) := by decide +kernel
theorem dX3_isSame_537 : decode cX3_isSame 537 = .ok (.aload_n 1, 1) := by decide +kernel
theorem dX3_isSame_538 : decode cX3_isSame 538 = .ok (.invokevirtual 120, 3) := by decide +kernel
theorem dX3_isSame_541 : decode cX3_isSame 541 = .ok (.iload 8, 2) := by decide +kernel
theorem dX3_isSame_543 : decode cX3_isSame 543 = .ok (.if_icmp .ne 42, 3) := by decide +kernel
theorem dX3_isSame_546 : decode cX3_isSame 546 = .ok (.aload_n 1, 1) := by decide +kernel
theorem dX3_isSame_547 : decode cX3_isSame 547 = .ok (.invokevirtual 123, 3) := by decide +kernel
theorem dX3_isSame_550 : decode cX3_isSame 550 = .ok (.aload_n 0, 1) := by decide +kernel
theorem dX3_isSame_551 : decode cX3_isSame 551 = .ok (.getfield 61, 3) := by decide +kernel
theorem dX3_isSame_554 : decode cX3_isSame 554 = .ok (.if_icmp .ne 31, 3) := by decide +kernel
theorem dX3_isSame_557 : decode cX3_isSame 557 = .ok (.aload_n 1, 1) := by decide +kernel
theorem dX3_isSame_558 : decode cX3_isSame 558 = .ok (.invokevirtual 126, 3) := by decide +kernel
theorem dX3_isSame_561 : decode cX3_isSame 561 = .ok (.iload 5, 2) := by decide +kernel
theorem dX3_isSame_563 : decode cX3_isSame 563 = .ok (.ifCond .ne 7, 3) := by decide +kernel
theorem dX3_isSame_566 : decode cX3_isSame 566 = .ok (.dconst 0, 1) := by decide +kernel
theorem dX3_isSame_567 : decode cX3_isSame 567 = .ok (.goto 10, 3) := by decide +kernel
theorem dX3_isSame_570 : decode cX3_isSame 570 = .ok (.iload 6, 2) := by decide +kernel
theorem dX3_isSame_572 : decode cX3_isSame 572 = .ok (.i2d, 1) := by decide +kernel
theorem dX3_isSame_573 : decode cX3_isSame 573 = .ok (.iload 5, 2) := by decide +kernel
theorem dX3_isSame_575 : decode cX3_isSame 575 = .ok (.i2d, 1) := by decide +kernel
theorem dX3_isSame_576 : decode cX3_isSame 576 = .ok (.ddiv, 1) := by decide +kernel
theorem dX3_isSame_577 : decode cX3_isSame 577 = .ok (.dcmp .l, 1) := by decide +kernel
theorem dX3_isSame_578 : decode cX3_isSame 578 = .ok (.ifCond .ne 7, 3) := by decide +kernel
theorem dX3_isSame_581 : decode cX3_isSame 581 = .ok (.iconst 1, 1) := by decide +kernel
theorem dX3_isSame_582 : decode cX3_isSame 582 = .ok (.goto 4, 3) := by decide +kernel
theorem dX3_isSame_585 : decode cX3_isSame 585 = .ok (.iconst 0, 1) := by decide +kernel
theorem dX3_isSame_586 : decode cX3_isSame 586 = .ok (.ireturn, 1) := by decide +kernel
theorem dJ9_max_7cf53_0 : decode cJ9_max_7cf53 0 = .ok (.iload_n 0, 1) := by decide +kernel
theorem dJ9_max_7cf53_1 : decode cJ9_max_7cf53 1 = .ok (.iload_n 1, 1) := by decide +kernel
theorem dJ9_max_7cf53_2 : decode cJ9_max_7cf53 2 = .ok (.if_icmp .lt 7, 3) := by decide +kernel
theorem dJ9_max_7cf53_5 : decode cJ9_max_7cf53 5 = .ok (.iload_n 0, 1) := by decide +kernel
theorem dJ9_max_7cf53_6 : decode cJ9_max_7cf53 6 = .ok (.goto 4, 3) := by decide +kernel
theorem dJ9_max_7cf53_9 : decode cJ9_max_7cf53 9 = .ok (.iload_n 1, 1) := by decide +kernel
theorem dJ9_max_7cf53_10 : decode cJ9_max_7cf53 10 = .ok (.ireturn, 1) := by decide +kernel
theorem dJ9_min_7cf53_0 : decode cJ9_min_7cf53 0 = .ok (.iload_n 0, 1) := by decide +kernel
theorem dJ9_min_7cf53_1 : decode cJ9_min_7cf53 1 = .ok (.iload_n 1, 1) := by decide +kernel
theorem dJ9_min_7cf53_2 : decode cJ9_min_7cf53 2 = .ok (.if_icmp .gt 7, 3) := by decide +kernel
theorem dJ9_min_7cf53_5 : decode cJ9_min_7cf53 5 = .ok (.iload_n 0, 1) := by decide +kernel
theorem dJ9_min_7cf53_6 : decode cJ9_min_7cf53 6 = .ok (.goto 4, 3) := by decide +kernel
theorem dJ9_min_7cf53_9 : decode cJ9_min_7cf53 9 = .ok (.iload_n 1, 1) := by decide +kernel
theorem dJ9_min_7cf53_10 : decode cJ9_min_7cf53 10 = .ok (.ireturn, 1) := by decide +kernel
theorem dJ7_fill_53178_0 : decode cJ7_fill_53178 0 = .ok (.iconst 0, 1) := by decide +kernel
theorem dJ7_fill_53178_1 : decode cJ7_fill_53178 1 = .ok (.istore_n 2, 1) := by decide +kernel
theorem dJ7_fill_53178_2 : decode cJ7_fill_53178 2 = .ok (.aload_n 0, 1) := by decide +kernel
theorem dJ7_fill_53178_3 : decode cJ7_fill_53178 3 = .ok (.arraylength, 1) := by decide +kernel
theorem dJ7_fill_53178_4 : decode cJ7_fill_53178 4 = .ok (.istore_n 3, 1) := by decide +kernel
theorem dJ7_fill_53178_5 : decode cJ7_fill_53178 5 = .ok (.iload_n 2, 1) := by decide +kernel
theorem dJ7_fill_53178_6 : decode cJ7_fill_53178 6 = .ok (.iload_n 3, 1) := by decide +kernel
theorem dJ7_fill_53178_7 : decode cJ7_fill_53178 7 = .ok (.if_icmp .ge 13, 3) := by decide +kernel
theorem dJ7_fill_53178_10 : decode cJ7_fill_53178 10 = .ok (.aload_n 0, 1) := by decide +kernel
theorem dJ7_fill_53178_11 : decode cJ7_fill_53178 11 = .ok (.iload_n 2, 1) := by decide +kernel
theorem dJ7_fill_53178_12 : decode cJ7_fill_53178 12 = .ok (.iload_n 1, 1) := by decide +kernel
theorem dJ7_fill_53178_13 : decode cJ7_fill_53178 13 = .ok (.iastore, 1) := by decide +kernel
theorem dJ7_fill_53178_14 : decode cJ7_fill_53178 14 = .ok (.iinc 2 1, 3) := by decide +kernel
theorem dJ7_fill_53178_17 : decode cJ7_fill_53178 17 = .ok (.goto (-12), 3) := by decide +kernel
theorem dJ7_fill_53178_20 : decode cJ7_fill_53178 20 = .ok (.return_, 1) := by decide +kernel
theorem dL_below_0 : decode cL_below 0 = .ok (.iload_n 0, 1) := by decide +kernel
theorem dL_below_1 : decode cL_below 1 = .ok (.ldc 7, 2) := by decide +kernel
theorem dL_below_3 : decode cL_below 3 = .ok (.iand, 1) := by decide +kernel
theorem dL_below_4 : decode cL_below 4 = .ok (.iload_n 1, 1) := by decide +kernel
theorem dL_below_5 : decode cL_below 5 = .ok (.irem, 1) := by decide +kernel
theorem dL_below_6 : decode cL_below 6 = .ok (.ireturn, 1) := by decide +kernel
theorem dL_cell_0 : decode cL_cell 0 = .ok (.iload_n 1, 1) := by decide +kernel
theorem dL_cell_1 : decode cL_cell 1 = .ok (.aload_n 0, 1) := by decide +kernel
theorem dL_cell_2 : decode cL_cell 2 = .ok (.arraylength, 1) := by decide +kernel
theorem dL_cell_3 : decode cL_cell 3 = .ok (.if_icmp .ge 9, 3) := by decide +kernel
theorem dL_cell_6 : decode cL_cell 6 = .ok (.aload_n 0, 1) := by decide +kernel
theorem dL_cell_7 : decode cL_cell 7 = .ok (.iload_n 1, 1) := by decide +kernel
theorem dL_cell_8 : decode cL_cell 8 = .ok (.iaload, 1) := by decide +kernel
theorem dL_cell_9 : decode cL_cell 9 = .ok (.goto 9, 3) := by decide +kernel
theorem dL_cell_12 : decode cL_cell 12 = .ok (.ldc 8, 2) := by decide +kernel
theorem dL_cell_14 : decode cL_cell 14 = .ok (.iload_n 1, 1) := by decide +kernel
theorem dL_cell_15 : decode cL_cell 15 = .ok (.iconst 3, 1) := by decide +kernel
theorem dL_cell_16 : decode cL_cell 16 = .ok (.iadd, 1) := by decide +kernel
theorem dL_cell_17 : decode cL_cell 17 = .ok (.imul, 1) := by decide +kernel
theorem dL_cell_18 : decode cL_cell 18 = .ok (.ireturn, 1) := by decide +kernel
set_option maxRecDepth 20000 in
theorem ggL_act_L_below : GoodIn wsL_act wsL_below := goodIn_r _ [8, 9] (by decide +kernel) (by decide +kernel)
set_option maxRecDepth 20000 in
theorem gL_act_L_below : GoodIn wsL_act (va_wsS RL 15 yL_below wsL_below) := goodIn_app (goodIn_of _ (by decide +kernel)) ggL_act_L_below
set_option maxRecDepth 20000 in
theorem ggL_act_X3_more : GoodIn wsL_act wsX3_more := goodIn_r _ [13, 14] (by decide +kernel) (by decide +kernel)
set_option maxRecDepth 20000 in
theorem gL_act_X3_more : GoodIn wsL_act (va_wsS RL 21 yX3_more wsX3_more) := goodIn_app (goodIn_of _ (by decide +kernel)) ggL_act_X3_more
set_option maxRecDepth 20000 in
theorem ggL_act_X2_addPerson : GoodIn wsL_act wsX2_addPerson := goodIn_ca (goodIn_r _ [19, 20, 21, 22, 23, 18, 24, 25, 26, 27, 28, 29, 30, 31, 32, 33, 34, 35, 36, 37, 38, 39, 263, 264, 265, 266, 267, 268, 269, 270, 271, 272, 273, 274, 275, 276] (by decide +kernel) (by decide +kernel)) (goodIn_sub (fun _ h => List.mem_cons_of_mem _ (List.mem_append_left _ (List.mem_append_left _ (List.mem_append_right _ h)))) (by decide +kernel))
set_option maxRecDepth 20000 in
theorem gL_act_X2_addPerson : GoodIn wsL_act (wsV RL 25 RX2 yX2_addPerson wsX2_addPerson) := goodIn_app (goodIn_of _ (by decide +kernel)) ggL_act_X2_addPerson
set_option maxRecDepth 20000 in
theorem ggL_act_X2_addChild : GoodIn wsL_act wsX2_addChild := goodIn_ca (goodIn_ca (goodIn_r _ [43, 20, 44, 45, 46, 18, 47, 48, 49, 50, 51, 52, 53, 54, 25, 26, 55, 21, 22, 23, 24, 27, 28, 29, 30, 31, 32, 33, 34, 35, 36, 37, 38, 39, 263, 264, 265, 266, 267, 268, 269, 270, 271, 272, 273, 274, 275, 276] (by decide +kernel) (by decide +kernel)) (goodIn_sub (fun _ h => List.mem_cons_of_mem _ (List.mem_append_left _ (List.mem_append_right _ h))) (by decide +kernel))) (goodIn_sub (fun _ h => List.mem_cons_of_mem _ (List.mem_append_left _ (List.mem_append_left _ (List.mem_append_right _ h)))) (by decide +kernel))
set_option maxRecDepth 20000 in
theorem gL_act_X2_addChild : GoodIn wsL_act (wsV RL 33 RX2 yX2_addChild wsX2_addChild) := goodIn_app (goodIn_of _ (by decide +kernel)) ggL_act_X2_addChild
set_option maxRecDepth 20000 in
theorem ggL_act_X3_canMarry : GoodIn wsL_act wsX3_canMarry := goodIn_r _ [59, 60, 258, 259, 260, 261, 262] (by decide +kernel) (by decide +kernel)
set_option maxRecDepth 20000 in
theorem gL_act_X3_canMarry : GoodIn wsL_act (wsV RL 37 RX3 yX3_canMarry wsX3_canMarry) := goodIn_app (goodIn_of _ (by decide +kernel)) ggL_act_X3_canMarry
set_option maxRecDepth 20000 in
theorem ggL_act_X3_degrees : GoodIn wsL_act wsX3_degrees := goodIn_r _ [64, 60, 65, 3, 258, 259, 260, 261, 262] (by decide +kernel) (by decide +kernel)
set_option maxRecDepth 20000 in
theorem gL_act_X3_degrees : GoodIn wsL_act (wsV RL 41 RX3 yX3_degrees wsX3_degrees) := goodIn_app (goodIn_of _ (by decide +kernel)) ggL_act_X3_degrees
set_option maxRecDepth 20000 in
theorem ggL_act_X3_marry : GoodIn wsL_act wsX3_marry := goodIn_r _ [69, 60, 258, 259, 260, 261, 262] (by decide +kernel) (by decide +kernel)
set_option maxRecDepth 20000 in
theorem gL_act_X3_marry : GoodIn wsL_act (wsV RL 45 RX3 yX3_marry wsX3_marry) := goodIn_app (goodIn_of _ (by decide +kernel)) ggL_act_X3_marry
set_option maxRecDepth 20000 in
theorem ggL_act_X2_marry : GoodIn wsL_act wsX2_marry := goodIn_ca (goodIn_ca (goodIn_ca (goodIn_r _ [73, 25, 26, 20, 74, 44, 45, 46, 18, 47, 48, 49, 50, 75, 76, 77, 78, 79, 80, 51, 52, 53, 54, 55, 81, 82, 83, 30, 84, 38, 39, 85, 86, 87, 88, 89, 32, 90, 91, 92, 93, 94, 95, 96, 97, 98, 99, 100, 101, 37, 102, 103, 104, 105, 106, 107, 108, 109, 263, 264, 265, 266, 267, 268, 269, 270, 271, 272, 273, 274, 275, 276] (by decide +kernel) (by decide +kernel)) (goodIn_sub (fun _ h => List.mem_cons_of_mem _ (List.mem_append_left _ (List.mem_append_left _ (List.mem_append_right _ h)))) (by decide +kernel))) (goodIn_sub (fun _ h => List.mem_cons_of_mem _ (List.mem_append_left _ (List.mem_append_right _ h))) (by decide +kernel))) (goodIn_sub (fun _ h => List.mem_cons_of_mem _ (List.mem_append_right _ h)) (by decide +kernel))
set_option maxRecDepth 20000 in
theorem gL_act_X2_marry : GoodIn wsL_act (wsV RL 49 RX2 yX2_marry wsX2_marry) := goodIn_app (goodIn_of _ (by decide +kernel)) ggL_act_X2_marry
set_option maxRecDepth 20000 in
theorem ggL_act_X2_setStage : GoodIn wsL_act wsX2_setStage := goodIn_ca (goodIn_ca (goodIn_r _ [113, 79, 80, 114, 115, 116, 117, 118, 119, 18, 120, 48, 49, 121, 122, 123, 124, 125, 126, 127, 128, 129, 130, 131, 132, 133, 134, 263, 264, 265, 266, 267, 268, 269, 270, 271, 277, 278] (by decide +kernel) (by decide +kernel)) (goodIn_sub (fun _ h => List.mem_cons_of_mem _ (List.mem_append_right _ h)) (by decide +kernel))) (goodIn_sub (fun _ h => List.mem_cons_of_mem _ (List.mem_append_left _ (List.mem_append_right _ h))) (by decide +kernel))
set_option maxRecDepth 20000 in
theorem gL_act_X2_setStage : GoodIn wsL_act (wsV RL 55 RX2 yX2_setStage wsX2_setStage) := goodIn_app (goodIn_of _ (by decide +kernel)) ggL_act_X2_setStage
set_option maxRecDepth 20000 in
theorem ggL_act_X3_length : GoodIn wsL_act wsX3_length := goodIn_r _ [138, 139, 258, 259, 260, 261, 262] (by decide +kernel) (by decide +kernel)
set_option maxRecDepth 20000 in
theorem gL_act_X3_length : GoodIn wsL_act (wsV RL 59 RX3 yX3_length wsX3_length) := goodIn_app (goodIn_of _ (by decide +kernel)) ggL_act_X3_length
set_option maxRecDepth 20000 in
theorem ggL_act_X3_die : GoodIn wsL_act wsX3_die := goodIn_r _ [143, 14, 144, 60, 145, 146, 147, 12, 148, 139, 3, 149, 150, 62, 63, 64, 65, 151, 136, 137, 138, 152, 11, 13, 258, 259, 260, 261, 262] (by decide +kernel) (by decide +kernel)
set_option maxRecDepth 20000 in
theorem gL_act_X3_die : GoodIn wsL_act (wsV RL 62 RX3 yX3_die wsX3_die) := goodIn_app (goodIn_of _ (by decide +kernel)) ggL_act_X3_die
set_option maxRecDepth 20000 in
theorem ggL_act_X2_die : GoodIn wsL_act wsX2_die := goodIn_ca (goodIn_ca (goodIn_r _ [156, 20, 55, 157, 158, 114, 44, 45, 46, 18, 47, 48, 49, 50, 51, 52, 53, 54, 25, 26, 159, 160, 161, 127, 162, 163, 164, 165, 166, 167, 133, 134, 126, 128, 168, 169, 170, 171, 172, 173, 174, 175, 176, 177, 178, 179, 74, 85, 86, 87, 30, 88, 89, 32, 90, 91, 92, 93, 94, 95, 96, 97, 98, 99, 100, 101, 37, 38, 180, 181, 182, 183, 129, 130, 131, 132, 263, 264, 265, 266, 267, 268, 269, 270, 271, 272, 273, 274, 275, 276, 277, 278] (by decide +kernel) (by decide +kernel)) (goodIn_sub (fun _ h => List.mem_cons_of_mem _ (List.mem_append_left _ (List.mem_append_right _ h))) (by decide +kernel))) (goodIn_sub (fun _ h => List.mem_cons_of_mem _ (List.mem_append_left _ (List.mem_append_left _ (List.mem_append_right _ h)))) (by decide +kernel))
set_option maxRecDepth 20000 in
theorem gL_act_X2_die : GoodIn wsL_act (wsV RL 65 RX2 yX2_die wsX2_die) := goodIn_app (goodIn_of _ (by decide +kernel)) ggL_act_X2_die
set_option maxRecDepth 20000 in
theorem ggL_act_X3_left : GoodIn wsL_act wsX3_left := goodIn_r _ [187, 144, 149, 188, 189, 190, 191, 192, 193, 12, 194, 258, 259, 260, 261, 262] (by decide +kernel) (by decide +kernel)
set_option maxRecDepth 20000 in
theorem gL_act_X3_left : GoodIn wsL_act (wsV RL 66 RX3 yX3_left wsX3_left) := goodIn_app (goodIn_of _ (by decide +kernel)) ggL_act_X3_left
set_option maxRecDepth 20000 in
theorem ggL_act_X3_drop : GoodIn wsL_act wsX3_drop := goodIn_r _ [198, 14, 144, 152, 11, 12, 13, 258, 259, 260, 261, 262] (by decide +kernel) (by decide +kernel)
set_option maxRecDepth 20000 in
theorem gL_act_X3_drop : GoodIn wsL_act (wsV RL 69 RX3 yX3_drop wsX3_drop) := goodIn_app (goodIn_of _ (by decide +kernel)) ggL_act_X3_drop
set_option maxRecDepth 20000 in
theorem ggL_act_X2_release : GoodIn wsL_act wsX2_release := goodIn_ca (goodIn_ca (goodIn_r _ [202, 25, 26, 172, 44, 45, 46, 18, 47, 48, 49, 20, 50, 203, 204, 205, 206, 114, 158, 157, 207, 189, 190, 191, 173, 174, 175, 129, 130, 131, 127, 132, 133, 134, 126, 128, 263, 264, 265, 266, 267, 268, 269, 270, 271, 272, 273, 274, 275, 276, 277, 278] (by decide +kernel) (by decide +kernel)) (goodIn_sub (fun _ h => List.mem_cons_of_mem _ (List.mem_append_left _ (List.mem_append_left _ (List.mem_append_right _ h)))) (by decide +kernel))) (goodIn_sub (fun _ h => List.mem_cons_of_mem _ (List.mem_append_left _ (List.mem_append_right _ h))) (by decide +kernel))
set_option maxRecDepth 20000 in
theorem gL_act_X2_release : GoodIn wsL_act (wsV RL 72 RX2 yX2_release wsX2_release) := goodIn_app (goodIn_of _ (by decide +kernel)) ggL_act_X2_release
set_option maxRecDepth 20000 in
theorem ggL_act_X2_pass : GoodIn wsL_act wsX2_pass := goodIn_ca (goodIn_r _ [211, 79, 80, 20, 50, 212, 158, 213, 214, 215, 18, 216, 217, 172, 157, 218, 219, 190, 220, 114, 207, 189, 191, 221, 91, 92, 93, 173, 174, 175, 203, 204, 205, 206, 129, 130, 131, 127, 132, 133, 134, 126, 128, 222, 223, 224, 225, 163, 226, 227, 228, 229, 230, 231, 232, 30, 233, 32, 39, 234, 235, 236, 237, 55, 238, 239, 240, 241, 263, 264, 265, 266, 267, 268, 269, 270, 271, 272, 273, 274, 275, 276, 277, 278] (by decide +kernel) (by decide +kernel)) (goodIn_sub (fun _ h => List.mem_cons_of_mem _ (List.mem_append_right _ h)) (by decide +kernel))
set_option maxRecDepth 20000 in
theorem gL_act_X2_pass : GoodIn wsL_act (wsV RL 75 RX2 yX2_pass wsX2_pass) := goodIn_app (goodIn_of _ (by decide +kernel)) ggL_act_X2_pass
set_option maxRecDepth 20000 in
theorem ggL_act_X3_pass : GoodIn wsL_act wsX3_pass := goodIn_r _ [245, 246, 149, 14, 144, 247, 248, 249, 12, 250, 60, 251, 252, 253, 254, 188, 189, 190, 191, 255, 256, 257, 192, 193, 194, 152, 11, 13, 258, 259, 260, 261, 262] (by decide +kernel) (by decide +kernel)
set_option maxRecDepth 20000 in
theorem gL_act_X3_pass : GoodIn wsL_act (wsV RL 78 RX3 yX3_pass wsX3_pass) := goodIn_app (goodIn_of _ (by decide +kernel)) ggL_act_X3_pass
theorem dL_act_0 : decode cL_act 0 = .ok (.aload_n 1, 1) := by decide +kernel
theorem dL_act_1 : decode cL_act 1 = .ok (.getfield 9, 3) := by decide +kernel
theorem dL_act_4 : decode cL_act 4 = .ok (.arraylength, 1) := by decide +kernel
theorem dL_act_5 : decode cL_act 5 = .ok (.istore_n 3, 1) := by decide +kernel
theorem dL_act_6 : decode cL_act 6 = .ok (.iload_n 3, 1) := by decide +kernel
theorem dL_act_7 : decode cL_act 7 = .ok (.ifCond .ne 7, 3) := by decide +kernel
theorem dL_act_10 : decode cL_act 10 = .ok (.iconst 0, 1) := by decide +kernel
theorem dL_act_11 : decode cL_act 11 = .ok (.goto 10, 3) := by decide +kernel
theorem dL_act_14 : decode cL_act 14 = .ok (.iload_n 2, 1) := by decide +kernel
theorem dL_act_15 : decode cL_act 15 = .ok (.iconst 4, 1) := by decide +kernel
theorem dL_act_16 : decode cL_act 16 = .ok (.ishr, 1) := by decide +kernel
theorem dL_act_17 : decode cL_act 17 = .ok (.iload_n 3, 1) := by decide +kernel
theorem dL_act_18 : decode cL_act 18 = .ok (.invokestatic 15, 3) := by decide +kernel
theorem dL_act_21 : decode cL_act 21 = .ok (.istore 4, 2) := by decide +kernel
theorem dL_act_23 : decode cL_act 23 = .ok (.iload_n 3, 1) := by decide +kernel
theorem dL_act_24 : decode cL_act 24 = .ok (.ifCond .ne 7, 3) := by decide +kernel
theorem dL_act_27 : decode cL_act 27 = .ok (.iconst 0, 1) := by decide +kernel
theorem dL_act_28 : decode cL_act 28 = .ok (.goto 11, 3) := by decide +kernel
theorem dL_act_31 : decode cL_act 31 = .ok (.iload_n 2, 1) := by decide +kernel
theorem dL_act_32 : decode cL_act 32 = .ok (.bipush 6, 2) := by decide +kernel
theorem dL_act_34 : decode cL_act 34 = .ok (.ishr, 1) := by decide +kernel
theorem dL_act_35 : decode cL_act 35 = .ok (.iload_n 3, 1) := by decide +kernel
theorem dL_act_36 : decode cL_act 36 = .ok (.invokestatic 15, 3) := by decide +kernel
theorem dL_act_39 : decode cL_act 39 = .ok (.istore 5, 2) := by decide +kernel
theorem dL_act_41 : decode cL_act 41 = .ok (.bipush (-9), 2) := by decide +kernel
theorem dL_act_43 : decode cL_act 43 = .ok (.istore 6, 2) := by decide +kernel
theorem dL_act_45 : decode cL_act 45 = .ok (.iload_n 3, 1) := by decide +kernel
theorem dL_act_46 : decode cL_act 46 = .ok (.ifCond .ne 7, 3) := by decide +kernel
theorem dL_act_49 : decode cL_act 49 = .ok (.iconst 0, 1) := by decide +kernel
theorem dL_act_50 : decode cL_act 50 = .ok (.goto 9, 3) := by decide +kernel
theorem dL_act_53 : decode cL_act 53 = .ok (.iload_n 2, 1) := by decide +kernel
theorem dL_act_54 : decode cL_act 54 = .ok (.bipush 18, 2) := by decide +kernel
theorem dL_act_56 : decode cL_act 56 = .ok (.invokestatic 15, 3) := by decide +kernel
theorem dL_act_59 : decode cL_act 59 = .ok (.tableswitch 527 0 11 #[61, 124, 124, 124, 203, 203, 282, 282, 282, 417, 417, 468], 61) := by decide +kernel
theorem dL_act_120 : decode cL_act 120 = .ok (.iload_n 3, 1) := by decide +kernel
theorem dL_act_121 : decode cL_act 121 = .ok (.bipush 16, 2) := by decide +kernel
theorem dL_act_123 : decode cL_act 123 = .ok (.if_icmp .ge 32, 3) := by decide +kernel
theorem dL_act_126 : decode cL_act 126 = .ok (.aload_n 1, 1) := by decide +kernel
theorem dL_act_127 : decode cL_act 127 = .ok (.aload_n 1, 1) := by decide +kernel
theorem dL_act_128 : decode cL_act 128 = .ok (.getfield 9, 3) := by decide +kernel
theorem dL_act_131 : decode cL_act 131 = .ok (.iconst 3, 1) := by decide +kernel
theorem dL_act_132 : decode cL_act 132 = .ok (.newarray .int, 2) := by decide +kernel
theorem dL_act_134 : decode cL_act 134 = .ok (.dup, 1) := by decide +kernel
theorem dL_act_135 : decode cL_act 135 = .ok (.iconst 0, 1) := by decide +kernel
theorem dL_act_136 : decode cL_act 136 = .ok (.iconst (-1), 1) := by decide +kernel
theorem dL_act_137 : decode cL_act 137 = .ok (.iastore, 1) := by decide +kernel
theorem dL_act_138 : decode cL_act 138 = .ok (.dup, 1) := by decide +kernel
theorem dL_act_139 : decode cL_act 139 = .ok (.iconst 1, 1) := by decide +kernel
theorem dL_act_140 : decode cL_act 140 = .ok (.iconst (-1), 1) := by decide +kernel
theorem dL_act_141 : decode cL_act 141 = .ok (.iastore, 1) := by decide +kernel
theorem dL_act_142 : decode cL_act 142 = .ok (.dup, 1) := by decide +kernel
theorem dL_act_143 : decode cL_act 143 = .ok (.iconst 2, 1) := by decide +kernel
theorem dL_act_144 : decode cL_act 144 = .ok (.iconst 1, 1) := by decide +kernel
theorem dL_act_145 : decode cL_act 145 = .ok (.iastore, 1) := by decide +kernel
theorem dL_act_146 : decode cL_act 146 = .ok (.invokestatic 21, 3) := by decide +kernel
theorem dL_act_149 : decode cL_act 149 = .ok (.putfield 9, 3) := by decide +kernel
theorem dL_act_152 : decode cL_act 152 = .ok (.iload_n 3, 1) := by decide +kernel
theorem dL_act_153 : decode cL_act 153 = .ok (.istore 6, 2) := by decide +kernel
theorem dL_act_155 : decode cL_act 155 = .ok (.aload_n 0, 1) := by decide +kernel
theorem dL_act_156 : decode cL_act 156 = .ok (.invokevirtual 25, 3) := by decide +kernel
theorem dL_act_159 : decode cL_act 159 = .ok (.istore 7, 2) := by decide +kernel
theorem dL_act_161 : decode cL_act 161 = .ok (.goto 9, 3) := by decide +kernel
theorem dL_act_164 : decode cL_act 164 = .ok (.astore 8, 2) := by decide +kernel
theorem dL_act_166 : decode cL_act 166 = .ok (.bipush (-9), 2) := by decide +kernel
theorem dL_act_168 : decode cL_act 168 = .ok (.istore 7, 2) := by decide +kernel
theorem dL_act_170 : decode cL_act 170 = .ok (.iload 7, 2) := by decide +kernel
theorem dL_act_172 : decode cL_act 172 = .ok (.iload 6, 2) := by decide +kernel
theorem dL_act_174 : decode cL_act 174 = .ok (.if_icmp .ne 7, 3) := by decide +kernel
theorem dL_act_177 : decode cL_act 177 = .ok (.iconst 1, 1) := by decide +kernel
theorem dL_act_178 : decode cL_act 178 = .ok (.goto 4, 3) := by decide +kernel
theorem dL_act_181 : decode cL_act 181 = .ok (.iconst 0, 1) := by decide +kernel
theorem dL_act_182 : decode cL_act 182 = .ok (.ireturn, 1) := by decide +kernel
theorem dL_act_183 : decode cL_act 183 = .ok (.iload_n 3, 1) := by decide +kernel
theorem dL_act_184 : decode cL_act 184 = .ok (.bipush 16, 2) := by decide +kernel
theorem dL_act_186 : decode cL_act 186 = .ok (.if_icmp .ge 46, 3) := by decide +kernel
theorem dL_act_189 : decode cL_act 189 = .ok (.aload_n 1, 1) := by decide +kernel
theorem dL_act_190 : decode cL_act 190 = .ok (.getfield 9, 3) := by decide +kernel
theorem dL_act_193 : decode cL_act 193 = .ok (.iload 4, 2) := by decide +kernel
theorem dL_act_195 : decode cL_act 195 = .ok (.aaload, 1) := by decide +kernel
theorem dL_act_196 : decode cL_act 196 = .ok (.iconst 2, 1) := by decide +kernel
theorem dL_act_197 : decode cL_act 197 = .ok (.iaload, 1) := by decide +kernel
theorem dL_act_198 : decode cL_act 198 = .ok (.iconst 1, 1) := by decide +kernel
theorem dL_act_199 : decode cL_act 199 = .ok (.if_icmp .ne 33, 3) := by decide +kernel
theorem dL_act_202 : decode cL_act 202 = .ok (.aload_n 1, 1) := by decide +kernel
theorem dL_act_203 : decode cL_act 203 = .ok (.aload_n 1, 1) := by decide +kernel
theorem dL_act_204 : decode cL_act 204 = .ok (.getfield 9, 3) := by decide +kernel
theorem dL_act_207 : decode cL_act 207 = .ok (.iconst 3, 1) := by decide +kernel
theorem dL_act_208 : decode cL_act 208 = .ok (.newarray .int, 2) := by decide +kernel
theorem dL_act_210 : decode cL_act 210 = .ok (.dup, 1) := by decide +kernel
theorem dL_act_211 : decode cL_act 211 = .ok (.iconst 0, 1) := by decide +kernel
theorem dL_act_212 : decode cL_act 212 = .ok (.iload 4, 2) := by decide +kernel
theorem dL_act_214 : decode cL_act 214 = .ok (.iastore, 1) := by decide +kernel
theorem dL_act_215 : decode cL_act 215 = .ok (.dup, 1) := by decide +kernel
theorem dL_act_216 : decode cL_act 216 = .ok (.iconst 1, 1) := by decide +kernel
theorem dL_act_217 : decode cL_act 217 = .ok (.iconst (-1), 1) := by decide +kernel
theorem dL_act_218 : decode cL_act 218 = .ok (.iastore, 1) := by decide +kernel
theorem dL_act_219 : decode cL_act 219 = .ok (.dup, 1) := by decide +kernel
theorem dL_act_220 : decode cL_act 220 = .ok (.iconst 2, 1) := by decide +kernel
theorem dL_act_221 : decode cL_act 221 = .ok (.iconst 1, 1) := by decide +kernel
theorem dL_act_222 : decode cL_act 222 = .ok (.iastore, 1) := by decide +kernel
theorem dL_act_223 : decode cL_act 223 = .ok (.invokestatic 21, 3) := by decide +kernel
theorem dL_act_226 : decode cL_act 226 = .ok (.putfield 9, 3) := by decide +kernel
theorem dL_act_229 : decode cL_act 229 = .ok (.iload_n 3, 1) := by decide +kernel
theorem dL_act_230 : decode cL_act 230 = .ok (.istore 6, 2) := by decide +kernel
theorem dL_act_232 : decode cL_act 232 = .ok (.aload_n 0, 1) := by decide +kernel
theorem dL_act_233 : decode cL_act 233 = .ok (.iload 4, 2) := by decide +kernel
theorem dL_act_235 : decode cL_act 235 = .ok (.invokevirtual 33, 3) := by decide +kernel
theorem dL_act_238 : decode cL_act 238 = .ok (.istore 7, 2) := by decide +kernel
theorem dL_act_240 : decode cL_act 240 = .ok (.goto 9, 3) := by decide +kernel
theorem dL_act_243 : decode cL_act 243 = .ok (.astore 8, 2) := by decide +kernel
theorem dL_act_245 : decode cL_act 245 = .ok (.bipush (-9), 2) := by decide +kernel
theorem dL_act_247 : decode cL_act 247 = .ok (.istore 7, 2) := by decide +kernel
theorem dL_act_249 : decode cL_act 249 = .ok (.iload 7, 2) := by decide +kernel
theorem dL_act_251 : decode cL_act 251 = .ok (.iload 6, 2) := by decide +kernel
theorem dL_act_253 : decode cL_act 253 = .ok (.if_icmp .ne 7, 3) := by decide +kernel
theorem dL_act_256 : decode cL_act 256 = .ok (.iconst 1, 1) := by decide +kernel
theorem dL_act_257 : decode cL_act 257 = .ok (.goto 4, 3) := by decide +kernel
theorem dL_act_260 : decode cL_act 260 = .ok (.iconst 0, 1) := by decide +kernel
theorem dL_act_261 : decode cL_act 261 = .ok (.ireturn, 1) := by decide +kernel
theorem dL_act_262 : decode cL_act 262 = .ok (.iload 4, 2) := by decide +kernel
theorem dL_act_264 : decode cL_act 264 = .ok (.iload 5, 2) := by decide +kernel
theorem dL_act_266 : decode cL_act 266 = .ok (.if_icmp .ne 5, 3) := by decide +kernel
theorem dL_act_269 : decode cL_act 269 = .ok (.iconst 1, 1) := by decide +kernel
theorem dL_act_270 : decode cL_act 270 = .ok (.ireturn, 1) := by decide +kernel
theorem dL_act_271 : decode cL_act 271 = .ok (.aload_n 1, 1) := by decide +kernel
theorem dL_act_272 : decode cL_act 272 = .ok (.iload 4, 2) := by decide +kernel
theorem dL_act_274 : decode cL_act 274 = .ok (.invokevirtual 37, 3) := by decide +kernel
theorem dL_act_277 : decode cL_act 277 = .ok (.ifCond .eq 32, 3) := by decide +kernel
theorem dL_act_280 : decode cL_act 280 = .ok (.aload_n 1, 1) := by decide +kernel
theorem dL_act_281 : decode cL_act 281 = .ok (.iload 5, 2) := by decide +kernel
theorem dL_act_283 : decode cL_act 283 = .ok (.invokevirtual 37, 3) := by decide +kernel
theorem dL_act_286 : decode cL_act 286 = .ok (.ifCond .eq 23, 3) := by decide +kernel
theorem dL_act_289 : decode cL_act 289 = .ok (.aload_n 1, 1) := by decide +kernel
theorem dL_act_290 : decode cL_act 290 = .ok (.invokevirtual 41, 3) := by decide +kernel
theorem dL_act_293 : decode cL_act 293 = .ok (.iload 4, 2) := by decide +kernel
theorem dL_act_295 : decode cL_act 295 = .ok (.aaload, 1) := by decide +kernel
theorem dL_act_296 : decode cL_act 296 = .ok (.iload 5, 2) := by decide +kernel
theorem dL_act_298 : decode cL_act 298 = .ok (.iaload, 1) := by decide +kernel
theorem dL_act_299 : decode cL_act 299 = .ok (.istore 6, 2) := by decide +kernel
theorem dL_act_301 : decode cL_act 301 = .ok (.aload_n 1, 1) := by decide +kernel
theorem dL_act_302 : decode cL_act 302 = .ok (.iload 4, 2) := by decide +kernel
theorem dL_act_304 : decode cL_act 304 = .ok (.iload 5, 2) := by decide +kernel
theorem dL_act_306 : decode cL_act 306 = .ok (.invokevirtual 45, 3) := by decide +kernel
theorem dL_act_309 : decode cL_act 309 = .ok (.aload_n 0, 1) := by decide +kernel
theorem dL_act_310 : decode cL_act 310 = .ok (.iload 4, 2) := by decide +kernel
theorem dL_act_312 : decode cL_act 312 = .ok (.iload 5, 2) := by decide +kernel
theorem dL_act_314 : decode cL_act 314 = .ok (.invokevirtual 49, 3) := by decide +kernel
theorem dL_act_317 : decode cL_act 317 = .ok (.istore 7, 2) := by decide +kernel
theorem dL_act_319 : decode cL_act 319 = .ok (.goto 9, 3) := by decide +kernel
theorem dL_act_322 : decode cL_act 322 = .ok (.astore 8, 2) := by decide +kernel
theorem dL_act_324 : decode cL_act 324 = .ok (.bipush (-9), 2) := by decide +kernel
theorem dL_act_326 : decode cL_act 326 = .ok (.istore 7, 2) := by decide +kernel
theorem dL_act_328 : decode cL_act 328 = .ok (.iload 7, 2) := by decide +kernel
theorem dL_act_330 : decode cL_act 330 = .ok (.iload 6, 2) := by decide +kernel
theorem dL_act_332 : decode cL_act 332 = .ok (.if_icmp .ne 7, 3) := by decide +kernel
theorem dL_act_335 : decode cL_act 335 = .ok (.iconst 1, 1) := by decide +kernel
theorem dL_act_336 : decode cL_act 336 = .ok (.goto 4, 3) := by decide +kernel
theorem dL_act_339 : decode cL_act 339 = .ok (.iconst 0, 1) := by decide +kernel
theorem dL_act_340 : decode cL_act 340 = .ok (.ireturn, 1) := by decide +kernel
theorem dL_act_341 : decode cL_act 341 = .ok (.iconst 1, 1) := by decide +kernel
theorem dL_act_342 : decode cL_act 342 = .ok (.iload_n 2, 1) := by decide +kernel
theorem dL_act_343 : decode cL_act 343 = .ok (.iconst 4, 1) := by decide +kernel
theorem dL_act_344 : decode cL_act 344 = .ok (.ishr, 1) := by decide +kernel
theorem dL_act_345 : decode cL_act 345 = .ok (.iconst 4, 1) := by decide +kernel
theorem dL_act_346 : decode cL_act 346 = .ok (.invokestatic 15, 3) := by decide +kernel
theorem dL_act_349 : decode cL_act 349 = .ok (.iadd, 1) := by decide +kernel
theorem dL_act_350 : decode cL_act 350 = .ok (.istore 8, 2) := by decide +kernel
theorem dL_act_352 : decode cL_act 352 = .ok (.iload_n 2, 1) := by decide +kernel
theorem dL_act_353 : decode cL_act 353 = .ok (.bipush 6, 2) := by decide +kernel
theorem dL_act_355 : decode cL_act 355 = .ok (.ishr, 1) := by decide +kernel
theorem dL_act_356 : decode cL_act 356 = .ok (.iconst 3, 1) := by decide +kernel
theorem dL_act_357 : decode cL_act 357 = .ok (.invokestatic 15, 3) := by decide +kernel
theorem dL_act_360 : decode cL_act 360 = .ok (.istore 9, 2) := by decide +kernel
theorem dL_act_362 : decode cL_act 362 = .ok (.aload_n 1, 1) := by decide +kernel
theorem dL_act_363 : decode cL_act 363 = .ok (.getfield 51, 3) := by decide +kernel
theorem dL_act_366 : decode cL_act 366 = .ok (.iload 8, 2) := by decide +kernel
theorem dL_act_368 : decode cL_act 368 = .ok (.aaload, 1) := by decide +kernel
theorem dL_act_369 : decode cL_act 369 = .ok (.iload 9, 2) := by decide +kernel
theorem dL_act_371 : decode cL_act 371 = .ok (.iconst 2, 1) := by decide +kernel
theorem dL_act_372 : decode cL_act 372 = .ok (.newarray .int, 2) := by decide +kernel
theorem dL_act_374 : decode cL_act 374 = .ok (.dup, 1) := by decide +kernel
theorem dL_act_375 : decode cL_act 375 = .ok (.iconst 0, 1) := by decide +kernel
theorem dL_act_376 : decode cL_act 376 = .ok (.iload_n 2, 1) := by decide +kernel
theorem dL_act_377 : decode cL_act 377 = .ok (.bipush 7, 2) := by decide +kernel
theorem dL_act_379 : decode cL_act 379 = .ok (.ishr, 1) := by decide +kernel
theorem dL_act_380 : decode cL_act 380 = .ok (.bipush 6, 2) := by decide +kernel
theorem dL_act_382 : decode cL_act 382 = .ok (.invokestatic 15, 3) := by decide +kernel
theorem dL_act_385 : decode cL_act 385 = .ok (.iastore, 1) := by decide +kernel
theorem dL_act_386 : decode cL_act 386 = .ok (.dup, 1) := by decide +kernel
theorem dL_act_387 : decode cL_act 387 = .ok (.iconst 1, 1) := by decide +kernel
theorem dL_act_388 : decode cL_act 388 = .ok (.iload_n 2, 1) := by decide +kernel
theorem dL_act_389 : decode cL_act 389 = .ok (.bipush 8, 2) := by decide +kernel
theorem dL_act_391 : decode cL_act 391 = .ok (.ishr, 1) := by decide +kernel
theorem dL_act_392 : decode cL_act 392 = .ok (.iconst 3, 1) := by decide +kernel
theorem dL_act_393 : decode cL_act 393 = .ok (.invokestatic 15, 3) := by decide +kernel
theorem dL_act_396 : decode cL_act 396 = .ok (.ifCond .ne 7, 3) := by decide +kernel
theorem dL_act_399 : decode cL_act 399 = .ok (.iconst 0, 1) := by decide +kernel
theorem dL_act_400 : decode cL_act 400 = .ok (.goto 27, 3) := by decide +kernel
theorem dL_act_403 : decode cL_act 403 = .ok (.iload_n 2, 1) := by decide +kernel
theorem dL_act_404 : decode cL_act 404 = .ok (.iconst 5, 1) := by decide +kernel
theorem dL_act_405 : decode cL_act 405 = .ok (.ishr, 1) := by decide +kernel
theorem dL_act_406 : decode cL_act 406 = .ok (.iload_n 2, 1) := by decide +kernel
theorem dL_act_407 : decode cL_act 407 = .ok (.bipush 9, 2) := by decide +kernel
theorem dL_act_409 : decode cL_act 409 = .ok (.ishr, 1) := by decide +kernel
theorem dL_act_410 : decode cL_act 410 = .ok (.iconst 3, 1) := by decide +kernel
theorem dL_act_411 : decode cL_act 411 = .ok (.invokestatic 15, 3) := by decide +kernel
theorem dL_act_414 : decode cL_act 414 = .ok (.ifCond .ne 8, 3) := by decide +kernel
theorem dL_act_417 : decode cL_act 417 = .ok (.bipush 61, 2) := by decide +kernel
theorem dL_act_419 : decode cL_act 419 = .ok (.goto 5, 3) := by decide +kernel
theorem dL_act_422 : decode cL_act 422 = .ok (.bipush 15, 2) := by decide +kernel
theorem dL_act_424 : decode cL_act 424 = .ok (.invokestatic 15, 3) := by decide +kernel
theorem dL_act_427 : decode cL_act 427 = .ok (.iastore, 1) := by decide +kernel
theorem dL_act_428 : decode cL_act 428 = .ok (.aastore, 1) := by decide +kernel
theorem dL_act_429 : decode cL_act 429 = .ok (.aload_n 0, 1) := by decide +kernel
theorem dL_act_430 : decode cL_act 430 = .ok (.iload 8, 2) := by decide +kernel
theorem dL_act_432 : decode cL_act 432 = .ok (.iload 9, 2) := by decide +kernel
theorem dL_act_434 : decode cL_act 434 = .ok (.aload_n 1, 1) := by decide +kernel
theorem dL_act_435 : decode cL_act 435 = .ok (.getfield 51, 3) := by decide +kernel
theorem dL_act_438 : decode cL_act 438 = .ok (.iload 8, 2) := by decide +kernel
theorem dL_act_440 : decode cL_act 440 = .ok (.aaload, 1) := by decide +kernel
theorem dL_act_441 : decode cL_act 441 = .ok (.iload 9, 2) := by decide +kernel
theorem dL_act_443 : decode cL_act 443 = .ok (.aaload, 1) := by decide +kernel
theorem dL_act_444 : decode cL_act 444 = .ok (.iconst 0, 1) := by decide +kernel
theorem dL_act_445 : decode cL_act 445 = .ok (.iaload, 1) := by decide +kernel
theorem dL_act_446 : decode cL_act 446 = .ok (.aload_n 1, 1) := by decide +kernel
theorem dL_act_447 : decode cL_act 447 = .ok (.getfield 51, 3) := by decide +kernel
theorem dL_act_450 : decode cL_act 450 = .ok (.iload 8, 2) := by decide +kernel
theorem dL_act_452 : decode cL_act 452 = .ok (.aaload, 1) := by decide +kernel
theorem dL_act_453 : decode cL_act 453 = .ok (.iload 9, 2) := by decide +kernel
theorem dL_act_455 : decode cL_act 455 = .ok (.aaload, 1) := by decide +kernel
theorem dL_act_456 : decode cL_act 456 = .ok (.iconst 1, 1) := by decide +kernel
theorem dL_act_457 : decode cL_act 457 = .ok (.iaload, 1) := by decide +kernel
theorem dL_act_458 : decode cL_act 458 = .ok (.invokevirtual 55, 3) := by decide +kernel
theorem dL_act_461 : decode cL_act 461 = .ok (.aload_n 1, 1) := by decide +kernel
theorem dL_act_462 : decode cL_act 462 = .ok (.iload 8, 2) := by decide +kernel
theorem dL_act_464 : decode cL_act 464 = .ok (.invokevirtual 59, 3) := by decide +kernel
theorem dL_act_467 : decode cL_act 467 = .ok (.if_icmp .ne 7, 3) := by decide +kernel
theorem dL_act_470 : decode cL_act 470 = .ok (.iconst 1, 1) := by decide +kernel
theorem dL_act_471 : decode cL_act 471 = .ok (.goto 4, 3) := by decide +kernel
theorem dL_act_474 : decode cL_act 474 = .ok (.iconst 0, 1) := by decide +kernel
theorem dL_act_475 : decode cL_act 475 = .ok (.ireturn, 1) := by decide +kernel
theorem dL_act_476 : decode cL_act 476 = .ok (.aload_n 1, 1) := by decide +kernel
theorem dL_act_477 : decode cL_act 477 = .ok (.getfield 9, 3) := by decide +kernel
theorem dL_act_480 : decode cL_act 480 = .ok (.iload 4, 2) := by decide +kernel
theorem dL_act_482 : decode cL_act 482 = .ok (.aaload, 1) := by decide +kernel
theorem dL_act_483 : decode cL_act 483 = .ok (.iconst 2, 1) := by decide +kernel
theorem dL_act_484 : decode cL_act 484 = .ok (.iaload, 1) := by decide +kernel
theorem dL_act_485 : decode cL_act 485 = .ok (.iconst 1, 1) := by decide +kernel
theorem dL_act_486 : decode cL_act 486 = .ok (.if_icmp .ne 11, 3) := by decide +kernel
theorem dL_act_489 : decode cL_act 489 = .ok (.aload_n 1, 1) := by decide +kernel
theorem dL_act_490 : decode cL_act 490 = .ok (.iload 4, 2) := by decide +kernel
theorem dL_act_492 : decode cL_act 492 = .ok (.invokevirtual 62, 3) := by decide +kernel
theorem dL_act_495 : decode cL_act 495 = .ok (.istore 6, 2) := by decide +kernel
theorem dL_act_497 : decode cL_act 497 = .ok (.aload_n 0, 1) := by decide +kernel
theorem dL_act_498 : decode cL_act 498 = .ok (.iload 4, 2) := by decide +kernel
theorem dL_act_500 : decode cL_act 500 = .ok (.invokevirtual 65, 3) := by decide +kernel
theorem dL_act_503 : decode cL_act 503 = .ok (.istore 7, 2) := by decide +kernel
theorem dL_act_505 : decode cL_act 505 = .ok (.goto 9, 3) := by decide +kernel
theorem dL_act_508 : decode cL_act 508 = .ok (.astore 8, 2) := by decide +kernel
theorem dL_act_510 : decode cL_act 510 = .ok (.bipush (-9), 2) := by decide +kernel
theorem dL_act_512 : decode cL_act 512 = .ok (.istore 7, 2) := by decide +kernel
theorem dL_act_514 : decode cL_act 514 = .ok (.iload 7, 2) := by decide +kernel
theorem dL_act_516 : decode cL_act 516 = .ok (.iload 6, 2) := by decide +kernel
theorem dL_act_518 : decode cL_act 518 = .ok (.if_icmp .ne 7, 3) := by decide +kernel
theorem dL_act_521 : decode cL_act 521 = .ok (.iconst 1, 1) := by decide +kernel
theorem dL_act_522 : decode cL_act 522 = .ok (.goto 4, 3) := by decide +kernel
theorem dL_act_525 : decode cL_act 525 = .ok (.iconst 0, 1) := by decide +kernel
theorem dL_act_526 : decode cL_act 526 = .ok (.ireturn, 1) := by decide +kernel
theorem dL_act_527 : decode cL_act 527 = .ok (.aload_n 1, 1) := by decide +kernel
theorem dL_act_528 : decode cL_act 528 = .ok (.iload 4, 2) := by decide +kernel
theorem dL_act_530 : decode cL_act 530 = .ok (.iload 5, 2) := by decide +kernel
theorem dL_act_532 : decode cL_act 532 = .ok (.invokevirtual 66, 3) := by decide +kernel
theorem dL_act_535 : decode cL_act 535 = .ok (.istore 8, 2) := by decide +kernel
theorem dL_act_537 : decode cL_act 537 = .ok (.iload 8, 2) := by decide +kernel
theorem dL_act_539 : decode cL_act 539 = .ok (.ifCond .le 15, 3) := by decide +kernel
theorem dL_act_542 : decode cL_act 542 = .ok (.iload 8, 2) := by decide +kernel
theorem dL_act_544 : decode cL_act 544 = .ok (.istore 6, 2) := by decide +kernel
theorem dL_act_546 : decode cL_act 546 = .ok (.aload_n 1, 1) := by decide +kernel
theorem dL_act_547 : decode cL_act 547 = .ok (.iload 4, 2) := by decide +kernel
theorem dL_act_549 : decode cL_act 549 = .ok (.iload 5, 2) := by decide +kernel
theorem dL_act_551 : decode cL_act 551 = .ok (.invokevirtual 69, 3) := by decide +kernel
theorem dL_act_554 : decode cL_act 554 = .ok (.aload_n 0, 1) := by decide +kernel
theorem dL_act_555 : decode cL_act 555 = .ok (.iload 4, 2) := by decide +kernel
theorem dL_act_557 : decode cL_act 557 = .ok (.iload 5, 2) := by decide +kernel
theorem dL_act_559 : decode cL_act 559 = .ok (.invokevirtual 72, 3) := by decide +kernel
theorem dL_act_562 : decode cL_act 562 = .ok (.istore 7, 2) := by decide +kernel
theorem dL_act_564 : decode cL_act 564 = .ok (.goto 9, 3) := by decide +kernel
theorem dL_act_567 : decode cL_act 567 = .ok (.astore 9, 2) := by decide +kernel
theorem dL_act_569 : decode cL_act 569 = .ok (.bipush (-9), 2) := by decide +kernel
theorem dL_act_571 : decode cL_act 571 = .ok (.istore 7, 2) := by decide +kernel
theorem dL_act_573 : decode cL_act 573 = .ok (.iload 7, 2) := by decide +kernel
theorem dL_act_575 : decode cL_act 575 = .ok (.iload 6, 2) := by decide +kernel
theorem dL_act_577 : decode cL_act 577 = .ok (.if_icmp .ne 7, 3) := by decide +kernel
theorem dL_act_580 : decode cL_act 580 = .ok (.iconst 1, 1) := by decide +kernel
theorem dL_act_581 : decode cL_act 581 = .ok (.goto 4, 3) := by decide +kernel
theorem dL_act_584 : decode cL_act 584 = .ok (.iconst 0, 1) := by decide +kernel
theorem dL_act_585 : decode cL_act 585 = .ok (.ireturn, 1) := by decide +kernel
theorem dL_act_586 : decode cL_act 586 = .ok (.iconst 1, 1) := by decide +kernel
theorem dL_act_587 : decode cL_act 587 = .ok (.iload_n 2, 1) := by decide +kernel
theorem dL_act_588 : decode cL_act 588 = .ok (.iconst 5, 1) := by decide +kernel
theorem dL_act_589 : decode cL_act 589 = .ok (.ishr, 1) := by decide +kernel
theorem dL_act_590 : decode cL_act 590 = .ok (.iload_n 2, 1) := by decide +kernel
theorem dL_act_591 : decode cL_act 591 = .ok (.bipush 8, 2) := by decide +kernel
theorem dL_act_593 : decode cL_act 593 = .ok (.ishr, 1) := by decide +kernel
theorem dL_act_594 : decode cL_act 594 = .ok (.bipush 6, 2) := by decide +kernel
theorem dL_act_596 : decode cL_act 596 = .ok (.invokestatic 15, 3) := by decide +kernel
theorem dL_act_599 : decode cL_act 599 = .ok (.ifCond .ne 8, 3) := by decide +kernel
theorem dL_act_602 : decode cL_act 602 = .ok (.bipush 60, 2) := by decide +kernel
theorem dL_act_604 : decode cL_act 604 = .ok (.goto 5, 3) := by decide +kernel
theorem dL_act_607 : decode cL_act 607 = .ok (.bipush 7, 2) := by decide +kernel
theorem dL_act_609 : decode cL_act 609 = .ok (.invokestatic 15, 3) := by decide +kernel
theorem dL_act_612 : decode cL_act 612 = .ok (.iadd, 1) := by decide +kernel
theorem dL_act_613 : decode cL_act 613 = .ok (.istore 8, 2) := by decide +kernel
theorem dL_act_615 : decode cL_act 615 = .ok (.aload_n 0, 1) := by decide +kernel
theorem dL_act_616 : decode cL_act 616 = .ok (.iload 8, 2) := by decide +kernel
theorem dL_act_618 : decode cL_act 618 = .ok (.invokevirtual 75, 3) := by decide +kernel
theorem dL_act_621 : decode cL_act 621 = .ok (.aload_n 1, 1) := by decide +kernel
theorem dL_act_622 : decode cL_act 622 = .ok (.iload 8, 2) := by decide +kernel
theorem dL_act_624 : decode cL_act 624 = .ok (.invokevirtual 78, 3) := by decide +kernel
theorem dL_act_627 : decode cL_act 627 = .ok (.if_icmp .ne 7, 3) := by decide +kernel
theorem dL_act_630 : decode cL_act 630 = .ok (.iconst 1, 1) := by decide +kernel
theorem dL_act_631 : decode cL_act 631 = .ok (.goto 4, 3) := by decide +kernel
theorem dL_act_634 : decode cL_act 634 = .ok (.iconst 0, 1) := by decide +kernel
theorem dL_act_635 : decode cL_act 635 = .ok (.ireturn, 1) := by decide +kernel
set_option maxRecDepth 20000 in
theorem ggL_build_X3_init : GoodIn wsL_build wsX3_init := goodIn_r _ [8, 9, 10, 11, 12, 13, 14, 15, 147, 148, 149, 150, 151] (by decide +kernel) (by decide +kernel)
set_option maxRecDepth 20000 in
theorem gL_build_X3_init_n79 : GoodIn wsL_build (wsX3_init) := ggL_build_X3_init
set_option maxRecDepth 20000 in
theorem ggL_build_L_cell : GoodIn wsL_build wsL_cell := goodIn_r _ [19, 20] (by decide +kernel) (by decide +kernel)
set_option maxRecDepth 20000 in
theorem gL_build_L_cell : GoodIn wsL_build (va_wsS RL 80 yL_cell wsL_cell) := goodIn_app (goodIn_of _ (by decide +kernel)) ggL_build_L_cell
set_option maxRecDepth 20000 in
theorem ggL_build_L_below : GoodIn wsL_build wsL_below := goodIn_r _ [23, 24] (by decide +kernel) (by decide +kernel)
set_option maxRecDepth 20000 in
theorem gL_build_L_below : GoodIn wsL_build (va_wsS RL 15 yL_below wsL_below) := goodIn_app (goodIn_of _ (by decide +kernel)) ggL_build_L_below
set_option maxRecDepth 20000 in
theorem ggL_build_X3_more : GoodIn wsL_build wsX3_more := goodIn_r _ [27, 12] (by decide +kernel) (by decide +kernel)
set_option maxRecDepth 20000 in
theorem gL_build_X3_more : GoodIn wsL_build (va_wsS RL 21 yX3_more wsX3_more) := goodIn_app (goodIn_of _ (by decide +kernel)) ggL_build_X3_more
set_option maxRecDepth 20000 in
theorem ggL_build_X2_addPerson : GoodIn wsL_build wsX2_addPerson := goodIn_ca (goodIn_r _ [32, 33, 34, 35, 36, 31, 37, 38, 39, 40, 41, 42, 43, 44, 45, 46, 47, 48, 49, 50, 51, 52, 152, 153, 154, 155, 156, 157, 158, 159, 160, 161, 162, 163, 164, 165] (by decide +kernel) (by decide +kernel)) (goodIn_sub (fun _ h => List.mem_cons_of_mem _ (List.mem_append_left _ (List.mem_append_left _ (List.mem_append_right _ h)))) (by decide +kernel))
set_option maxRecDepth 20000 in
theorem gL_build_X2_addPerson : GoodIn wsL_build (wsV RL 25 RX2 yX2_addPerson wsX2_addPerson) := goodIn_app (goodIn_of _ (by decide +kernel)) ggL_build_X2_addPerson
set_option maxRecDepth 20000 in
theorem ggL_build_X2_addChild : GoodIn wsL_build wsX2_addChild := goodIn_ca (goodIn_ca (goodIn_r _ [56, 33, 57, 58, 59, 31, 60, 61, 62, 63, 64, 65, 66, 67, 38, 39, 68, 34, 35, 36, 37, 40, 41, 42, 43, 44, 45, 46, 47, 48, 49, 50, 51, 52, 152, 153, 154, 155, 156, 157, 158, 159, 160, 161, 162, 163, 164, 165] (by decide +kernel) (by decide +kernel)) (goodIn_sub (fun _ h => List.mem_cons_of_mem _ (List.mem_append_left _ (List.mem_append_right _ h))) (by decide +kernel))) (goodIn_sub (fun _ h => List.mem_cons_of_mem _ (List.mem_append_left _ (List.mem_append_left _ (List.mem_append_right _ h)))) (by decide +kernel))
set_option maxRecDepth 20000 in
theorem gL_build_X2_addChild : GoodIn wsL_build (wsV RL 33 RX2 yX2_addChild wsX2_addChild) := goodIn_app (goodIn_of _ (by decide +kernel)) ggL_build_X2_addChild
set_option maxRecDepth 20000 in
theorem ggL_build_X3_degrees : GoodIn wsL_build wsX3_degrees := goodIn_r _ [72, 13, 73, 5, 147, 148, 149, 150, 151] (by decide +kernel) (by decide +kernel)
set_option maxRecDepth 20000 in
theorem gL_build_X3_degrees : GoodIn wsL_build (wsV RL 41 RX3 yX3_degrees wsX3_degrees) := goodIn_app (goodIn_of _ (by decide +kernel)) ggL_build_X3_degrees
set_option maxRecDepth 20000 in
theorem ggL_build_X3_marry : GoodIn wsL_build wsX3_marry := goodIn_r _ [77, 13, 147, 148, 149, 150, 151] (by decide +kernel) (by decide +kernel)
set_option maxRecDepth 20000 in
theorem gL_build_X3_marry : GoodIn wsL_build (wsV RL 45 RX3 yX3_marry wsX3_marry) := goodIn_app (goodIn_of _ (by decide +kernel)) ggL_build_X3_marry
set_option maxRecDepth 20000 in
theorem ggL_build_X2_marry : GoodIn wsL_build wsX2_marry := goodIn_ca (goodIn_ca (goodIn_ca (goodIn_r _ [81, 38, 39, 33, 82, 57, 58, 59, 31, 60, 61, 62, 63, 83, 84, 85, 86, 87, 88, 64, 65, 66, 67, 68, 89, 90, 91, 43, 92, 51, 52, 93, 94, 95, 96, 97, 45, 98, 99, 100, 101, 102, 103, 104, 105, 106, 107, 108, 109, 50, 110, 111, 112, 113, 114, 115, 116, 117, 152, 153, 154, 155, 156, 157, 158, 159, 160, 161, 162, 163, 164, 165] (by decide +kernel) (by decide +kernel)) (goodIn_sub (fun _ h => List.mem_cons_of_mem _ (List.mem_append_left _ (List.mem_append_left _ (List.mem_append_right _ h)))) (by decide +kernel))) (goodIn_sub (fun _ h => List.mem_cons_of_mem _ (List.mem_append_left _ (List.mem_append_right _ h))) (by decide +kernel))) (goodIn_sub (fun _ h => List.mem_cons_of_mem _ (List.mem_append_right _ h)) (by decide +kernel))
set_option maxRecDepth 20000 in
theorem gL_build_X2_marry : GoodIn wsL_build (wsV RL 49 RX2 yX2_marry wsX2_marry) := goodIn_app (goodIn_of _ (by decide +kernel)) ggL_build_X2_marry
set_option maxRecDepth 20000 in
theorem ggL_build_X2_setStage : GoodIn wsL_build wsX2_setStage := goodIn_ca (goodIn_ca (goodIn_r _ [121, 87, 88, 122, 123, 124, 125, 126, 127, 31, 128, 61, 62, 129, 130, 131, 132, 133, 134, 135, 136, 137, 138, 139, 140, 141, 142, 152, 153, 154, 155, 156, 157, 158, 159, 160, 166, 167] (by decide +kernel) (by decide +kernel)) (goodIn_sub (fun _ h => List.mem_cons_of_mem _ (List.mem_append_right _ h)) (by decide +kernel))) (goodIn_sub (fun _ h => List.mem_cons_of_mem _ (List.mem_append_left _ (List.mem_append_right _ h))) (by decide +kernel))
set_option maxRecDepth 20000 in
theorem gL_build_X2_setStage : GoodIn wsL_build (wsV RL 55 RX2 yX2_setStage wsX2_setStage) := goodIn_app (goodIn_of _ (by decide +kernel)) ggL_build_X2_setStage
set_option maxRecDepth 20000 in
theorem ggL_build_X3_length : GoodIn wsL_build wsX3_length := goodIn_r _ [146, 14, 147, 148, 149, 150, 151] (by decide +kernel) (by decide +kernel)
set_option maxRecDepth 20000 in
theorem gL_build_X3_length : GoodIn wsL_build (wsV RL 59 RX3 yX3_length wsX3_length) := goodIn_app (goodIn_of _ (by decide +kernel)) ggL_build_X3_length
theorem dL_build_0 : decode cL_build 0 = .ok (.new 10, 3) := by decide +kernel
theorem dL_build_3 : decode cL_build 3 = .ok (.dup, 1) := by decide +kernel
theorem dL_build_4 : decode cL_build 4 = .ok (.invokespecial 79, 3) := by decide +kernel
theorem dL_build_7 : decode cL_build 7 = .ok (.astore_n 2, 1) := by decide +kernel
theorem dL_build_8 : decode cL_build 8 = .ok (.iconst 1, 1) := by decide +kernel
theorem dL_build_9 : decode cL_build 9 = .ok (.aload_n 1, 1) := by decide +kernel
theorem dL_build_10 : decode cL_build 10 = .ok (.iconst 0, 1) := by decide +kernel
theorem dL_build_11 : decode cL_build 11 = .ok (.invokestatic 80, 3) := by decide +kernel
