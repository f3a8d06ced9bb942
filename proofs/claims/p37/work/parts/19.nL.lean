theorem dL_errors_270 : decode cL_errors 270 = .ok (.if_icmp .ne 18, 3) := by decide +kernel
theorem dL_errors_273 : decode cL_errors 273 = .ok (.aload_n 0, 1) := by decide +kernel
theorem dL_errors_274 : decode cL_errors 274 = .ok (.bipush 100, 2) := by decide +kernel
theorem dL_errors_276 : decode cL_errors 276 = .ok (.invokestatic 151, 3) := by decide +kernel
theorem dL_errors_279 : decode cL_errors 279 = .ok (.bipush (-102), 2) := by decide +kernel
theorem dL_errors_281 : decode cL_errors 281 = .ok (.if_icmp .ne 7, 3) := by decide +kernel
theorem dL_errors_284 : decode cL_errors 284 = .ok (.iconst 1, 1) := by decide +kernel
theorem dL_errors_285 : decode cL_errors 285 = .ok (.goto 4, 3) := by decide +kernel
theorem dL_errors_288 : decode cL_errors 288 = .ok (.iconst 0, 1) := by decide +kernel
theorem dL_errors_289 : decode cL_errors 289 = .ok (.istore_n 2, 1) := by decide +kernel
theorem dL_errors_290 : decode cL_errors 290 = .ok (.iload_n 2, 1) := by decide +kernel
theorem dL_errors_291 : decode cL_errors 291 = .ok (.ifCond .eq 266, 3) := by decide +kernel
theorem dL_errors_294 : decode cL_errors 294 = .ok (.aload_n 0, 1) := by decide +kernel
theorem dL_errors_295 : decode cL_errors 295 = .ok (.iload_n 1, 1) := by decide +kernel
theorem dL_errors_296 : decode cL_errors 296 = .ok (.iconst 0, 1) := by decide +kernel
theorem dL_errors_297 : decode cL_errors 297 = .ok (.invokestatic 154, 3) := by decide +kernel
theorem dL_errors_300 : decode cL_errors 300 = .ok (.bipush (-101), 2) := by decide +kernel
theorem dL_errors_302 : decode cL_errors 302 = .ok (.if_icmp .ne 255, 3) := by decide +kernel
theorem dL_errors_305 : decode cL_errors 305 = .ok (.aload_n 0, 1) := by decide +kernel
theorem dL_errors_306 : decode cL_errors 306 = .ok (.iconst 0, 1) := by decide +kernel
theorem dL_errors_307 : decode cL_errors 307 = .ok (.iconst 0, 1) := by decide +kernel
theorem dL_errors_308 : decode cL_errors 308 = .ok (.invokestatic 154, 3) := by decide +kernel
theorem dL_errors_311 : decode cL_errors 311 = .ok (.bipush (-102), 2) := by decide +kernel
theorem dL_errors_313 : decode cL_errors 313 = .ok (.if_icmp .ne 244, 3) := by decide +kernel
theorem dL_errors_316 : decode cL_errors 316 = .ok (.aload_n 0, 1) := by decide +kernel
theorem dL_errors_317 : decode cL_errors 317 = .ok (.iconst 0, 1) := by decide +kernel
theorem dL_errors_318 : decode cL_errors 318 = .ok (.bipush 10, 2) := by decide +kernel
theorem dL_errors_320 : decode cL_errors 320 = .ok (.invokestatic 154, 3) := by decide +kernel
theorem dL_errors_323 : decode cL_errors 323 = .ok (.bipush (-102), 2) := by decide +kernel
theorem dL_errors_325 : decode cL_errors 325 = .ok (.if_icmp .ne 232, 3) := by decide +kernel
theorem dL_errors_328 : decode cL_errors 328 = .ok (.aload_n 0, 1) := by decide +kernel
theorem dL_errors_329 : decode cL_errors 329 = .ok (.iload_n 1, 1) := by decide +kernel
theorem dL_errors_330 : decode cL_errors 330 = .ok (.iconst 0, 1) := by decide +kernel
theorem dL_errors_331 : decode cL_errors 331 = .ok (.invokestatic 157, 3) := by decide +kernel
theorem dL_errors_334 : decode cL_errors 334 = .ok (.bipush (-101), 2) := by decide +kernel
theorem dL_errors_336 : decode cL_errors 336 = .ok (.if_icmp .ne 221, 3) := by decide +kernel
theorem dL_errors_339 : decode cL_errors 339 = .ok (.aload_n 0, 1) := by decide +kernel
theorem dL_errors_340 : decode cL_errors 340 = .ok (.iconst 0, 1) := by decide +kernel
theorem dL_errors_341 : decode cL_errors 341 = .ok (.iconst 0, 1) := by decide +kernel
theorem dL_errors_342 : decode cL_errors 342 = .ok (.invokestatic 157, 3) := by decide +kernel
theorem dL_errors_345 : decode cL_errors 345 = .ok (.bipush (-102), 2) := by decide +kernel
theorem dL_errors_347 : decode cL_errors 347 = .ok (.if_icmp .ne 210, 3) := by decide +kernel
theorem dL_errors_350 : decode cL_errors 350 = .ok (.aload_n 0, 1) := by decide +kernel
theorem dL_errors_351 : decode cL_errors 351 = .ok (.iconst 0, 1) := by decide +kernel
theorem dL_errors_352 : decode cL_errors 352 = .ok (.bipush 55, 2) := by decide +kernel
theorem dL_errors_354 : decode cL_errors 354 = .ok (.invokestatic 157, 3) := by decide +kernel
theorem dL_errors_357 : decode cL_errors 357 = .ok (.bipush (-102), 2) := by decide +kernel
theorem dL_errors_359 : decode cL_errors 359 = .ok (.if_icmp .ne 198, 3) := by decide +kernel
theorem dL_errors_362 : decode cL_errors 362 = .ok (.aload_n 0, 1) := by decide +kernel
theorem dL_errors_363 : decode cL_errors 363 = .ok (.iload_n 1, 1) := by decide +kernel
theorem dL_errors_364 : decode cL_errors 364 = .ok (.invokestatic 159, 3) := by decide +kernel
theorem dL_errors_367 : decode cL_errors 367 = .ok (.bipush (-101), 2) := by decide +kernel
theorem dL_errors_369 : decode cL_errors 369 = .ok (.if_icmp .ne 188, 3) := by decide +kernel
theorem dL_errors_372 : decode cL_errors 372 = .ok (.aload_n 0, 1) := by decide +kernel
theorem dL_errors_373 : decode cL_errors 373 = .ok (.iconst 0, 1) := by decide +kernel
theorem dL_errors_374 : decode cL_errors 374 = .ok (.iconst 0, 1) := by decide +kernel
theorem dL_errors_375 : decode cL_errors 375 = .ok (.invokestatic 162, 3) := by decide +kernel
theorem dL_errors_378 : decode cL_errors 378 = .ok (.bipush (-102), 2) := by decide +kernel
theorem dL_errors_380 : decode cL_errors 380 = .ok (.if_icmp .ne 177, 3) := by decide +kernel
theorem dL_errors_383 : decode cL_errors 383 = .ok (.aload_n 0, 1) := by decide +kernel
theorem dL_errors_384 : decode cL_errors 384 = .ok (.iconst 5, 1) := by decide +kernel
theorem dL_errors_385 : decode cL_errors 385 = .ok (.iconst 0, 1) := by decide +kernel
theorem dL_errors_386 : decode cL_errors 386 = .ok (.invokestatic 162, 3) := by decide +kernel
theorem dL_errors_389 : decode cL_errors 389 = .ok (.bipush (-102), 2) := by decide +kernel
theorem dL_errors_391 : decode cL_errors 391 = .ok (.if_icmp .ne 166, 3) := by decide +kernel
theorem dL_errors_394 : decode cL_errors 394 = .ok (.aload_n 0, 1) := by decide +kernel
theorem dL_errors_395 : decode cL_errors 395 = .ok (.iconst 2, 1) := by decide +kernel
theorem dL_errors_396 : decode cL_errors 396 = .ok (.iconst 3, 1) := by decide +kernel
theorem dL_errors_397 : decode cL_errors 397 = .ok (.invokestatic 162, 3) := by decide +kernel
theorem dL_errors_400 : decode cL_errors 400 = .ok (.bipush (-102), 2) := by decide +kernel
theorem dL_errors_402 : decode cL_errors 402 = .ok (.if_icmp .ne 155, 3) := by decide +kernel
theorem dL_errors_405 : decode cL_errors 405 = .ok (.aload_n 0, 1) := by decide +kernel
theorem dL_errors_406 : decode cL_errors 406 = .ok (.iconst 2, 1) := by decide +kernel
theorem dL_errors_407 : decode cL_errors 407 = .ok (.iconst (-1), 1) := by decide +kernel
theorem dL_errors_408 : decode cL_errors 408 = .ok (.invokestatic 162, 3) := by decide +kernel
theorem dL_errors_411 : decode cL_errors 411 = .ok (.bipush (-102), 2) := by decide +kernel
theorem dL_errors_413 : decode cL_errors 413 = .ok (.if_icmp .ne 144, 3) := by decide +kernel
theorem dL_errors_416 : decode cL_errors 416 = .ok (.aload_n 0, 1) := by decide +kernel
theorem dL_errors_417 : decode cL_errors 417 = .ok (.iconst 0, 1) := by decide +kernel
theorem dL_errors_418 : decode cL_errors 418 = .ok (.iconst 0, 1) := by decide +kernel
theorem dL_errors_419 : decode cL_errors 419 = .ok (.invokestatic 165, 3) := by decide +kernel
theorem dL_errors_422 : decode cL_errors 422 = .ok (.bipush (-102), 2) := by decide +kernel
theorem dL_errors_424 : decode cL_errors 424 = .ok (.if_icmp .ne 133, 3) := by decide +kernel
theorem dL_errors_427 : decode cL_errors 427 = .ok (.aload_n 0, 1) := by decide +kernel
theorem dL_errors_428 : decode cL_errors 428 = .ok (.bipush 10, 2) := by decide +kernel
theorem dL_errors_430 : decode cL_errors 430 = .ok (.iconst 0, 1) := by decide +kernel
theorem dL_errors_431 : decode cL_errors 431 = .ok (.invokestatic 165, 3) := by decide +kernel
theorem dL_errors_434 : decode cL_errors 434 = .ok (.bipush (-102), 2) := by decide +kernel
theorem dL_errors_436 : decode cL_errors 436 = .ok (.if_icmp .ne 121, 3) := by decide +kernel
theorem dL_errors_439 : decode cL_errors 439 = .ok (.aload_n 0, 1) := by decide +kernel
theorem dL_errors_440 : decode cL_errors 440 = .ok (.iconst 2, 1) := by decide +kernel
theorem dL_errors_441 : decode cL_errors 441 = .ok (.bipush 100, 2) := by decide +kernel
theorem dL_errors_443 : decode cL_errors 443 = .ok (.invokestatic 165, 3) := by decide +kernel
theorem dL_errors_446 : decode cL_errors 446 = .ok (.bipush (-102), 2) := by decide +kernel
theorem dL_errors_448 : decode cL_errors 448 = .ok (.if_icmp .ne 109, 3) := by decide +kernel
theorem dL_errors_451 : decode cL_errors 451 = .ok (.aload_n 0, 1) := by decide +kernel
theorem dL_errors_452 : decode cL_errors 452 = .ok (.iconst 2, 1) := by decide +kernel
theorem dL_errors_453 : decode cL_errors 453 = .ok (.iconst (-1), 1) := by decide +kernel
theorem dL_errors_454 : decode cL_errors 454 = .ok (.invokestatic 165, 3) := by decide +kernel
theorem dL_errors_457 : decode cL_errors 457 = .ok (.bipush (-102), 2) := by decide +kernel
theorem dL_errors_459 : decode cL_errors 459 = .ok (.if_icmp .ne 98, 3) := by decide +kernel
theorem dL_errors_462 : decode cL_errors 462 = .ok (.aload_n 0, 1) := by decide +kernel
theorem dL_errors_463 : decode cL_errors 463 = .ok (.iconst 0, 1) := by decide +kernel
theorem dL_errors_464 : decode cL_errors 464 = .ok (.lconst 0, 1) := by decide +kernel
theorem dL_errors_465 : decode cL_errors 465 = .ok (.invokestatic 167, 3) := by decide +kernel
theorem dL_errors_468 : decode cL_errors 468 = .ok (.bipush (-102), 2) := by decide +kernel
theorem dL_errors_470 : decode cL_errors 470 = .ok (.if_icmp .ne 87, 3) := by decide +kernel
theorem dL_errors_473 : decode cL_errors 473 = .ok (.aload_n 0, 1) := by decide +kernel
theorem dL_errors_474 : decode cL_errors 474 = .ok (.iconst 5, 1) := by decide +kernel
theorem dL_errors_475 : decode cL_errors 475 = .ok (.lconst 0, 1) := by decide +kernel
theorem dL_errors_476 : decode cL_errors 476 = .ok (.invokestatic 167, 3) := by decide +kernel
theorem dL_errors_479 : decode cL_errors 479 = .ok (.bipush (-102), 2) := by decide +kernel
theorem dL_errors_481 : decode cL_errors 481 = .ok (.if_icmp .ne 76, 3) := by decide +kernel
theorem dL_errors_484 : decode cL_errors 484 = .ok (.aload_n 0, 1) := by decide +kernel
theorem dL_errors_485 : decode cL_errors 485 = .ok (.iconst 1, 1) := by decide +kernel
theorem dL_errors_486 : decode cL_errors 486 = .ok (.ldc2_w 171, 3) := by decide +kernel
theorem dL_errors_489 : decode cL_errors 489 = .ok (.invokestatic 167, 3) := by decide +kernel
theorem dL_errors_492 : decode cL_errors 492 = .ok (.bipush (-102), 2) := by decide +kernel
theorem dL_errors_494 : decode cL_errors 494 = .ok (.if_icmp .ne 63, 3) := by decide +kernel
theorem dL_errors_497 : decode cL_errors 497 = .ok (.aload_n 0, 1) := by decide +kernel
theorem dL_errors_498 : decode cL_errors 498 = .ok (.iconst 1, 1) := by decide +kernel
theorem dL_errors_499 : decode cL_errors 499 = .ok (.ldc2_w 173, 3) := by decide +kernel
theorem dL_errors_502 : decode cL_errors 502 = .ok (.invokestatic 167, 3) := by decide +kernel
theorem dL_errors_505 : decode cL_errors 505 = .ok (.bipush (-102), 2) := by decide +kernel
theorem dL_errors_507 : decode cL_errors 507 = .ok (.if_icmp .ne 50, 3) := by decide +kernel
theorem dL_errors_510 : decode cL_errors 510 = .ok (.aload_n 0, 1) := by decide +kernel
theorem dL_errors_511 : decode cL_errors 511 = .ok (.iconst 1, 1) := by decide +kernel
theorem dL_errors_512 : decode cL_errors 512 = .ok (.iconst 0, 1) := by decide +kernel
theorem dL_errors_513 : decode cL_errors 513 = .ok (.invokestatic 175, 3) := by decide +kernel
theorem dL_errors_516 : decode cL_errors 516 = .ok (.bipush (-102), 2) := by decide +kernel
theorem dL_errors_518 : decode cL_errors 518 = .ok (.if_icmp .ne 39, 3) := by decide +kernel
theorem dL_errors_521 : decode cL_errors 521 = .ok (.aload_n 0, 1) := by decide +kernel
theorem dL_errors_522 : decode cL_errors 522 = .ok (.iconst 1, 1) := by decide +kernel
theorem dL_errors_523 : decode cL_errors 523 = .ok (.bipush 101, 2) := by decide +kernel
theorem dL_errors_525 : decode cL_errors 525 = .ok (.invokestatic 175, 3) := by decide +kernel
theorem dL_errors_528 : decode cL_errors 528 = .ok (.bipush (-102), 2) := by decide +kernel
theorem dL_errors_530 : decode cL_errors 530 = .ok (.if_icmp .ne 27, 3) := by decide +kernel
theorem dL_errors_533 : decode cL_errors 533 = .ok (.aload_n 0, 1) := by decide +kernel
theorem dL_errors_534 : decode cL_errors 534 = .ok (.iconst 2, 1) := by decide +kernel
theorem dL_errors_535 : decode cL_errors 535 = .ok (.invokestatic 177, 3) := by decide +kernel
theorem dL_errors_538 : decode cL_errors 538 = .ok (.bipush (-101), 2) := by decide +kernel
theorem dL_errors_540 : decode cL_errors 540 = .ok (.if_icmp .ne 17, 3) := by decide +kernel
theorem dL_errors_543 : decode cL_errors 543 = .ok (.aload_n 0, 1) := by decide +kernel
theorem dL_errors_544 : decode cL_errors 544 = .ok (.iconst (-1), 1) := by decide +kernel
theorem dL_errors_545 : decode cL_errors 545 = .ok (.invokestatic 179, 3) := by decide +kernel
theorem dL_errors_548 : decode cL_errors 548 = .ok (.bipush (-101), 2) := by decide +kernel
theorem dL_errors_550 : decode cL_errors 550 = .ok (.if_icmp .ne 7, 3) := by decide +kernel
theorem dL_errors_553 : decode cL_errors 553 = .ok (.iconst 1, 1) := by decide +kernel
theorem dL_errors_554 : decode cL_errors 554 = .ok (.goto 4, 3) := by decide +kernel
theorem dL_errors_557 : decode cL_errors 557 = .ok (.iconst 0, 1) := by decide +kernel
theorem dL_errors_558 : decode cL_errors 558 = .ok (.istore_n 2, 1) := by decide +kernel
theorem dL_errors_559 : decode cL_errors 559 = .ok (.iconst 0, 1) := by decide +kernel
theorem dL_errors_560 : decode cL_errors 560 = .ok (.istore_n 3, 1) := by decide +kernel
theorem dL_errors_561 : decode cL_errors 561 = .ok (.iload_n 3, 1) := by decide +kernel
theorem dL_errors_562 : decode cL_errors 562 = .ok (.iload_n 1, 1) := by decide +kernel
theorem dL_errors_563 : decode cL_errors 563 = .ok (.if_icmp .ge 92, 3) := by decide +kernel
theorem dL_errors_566 : decode cL_errors 566 = .ok (.iload_n 2, 1) := by decide +kernel
theorem dL_errors_567 : decode cL_errors 567 = .ok (.ifCond .eq 80, 3) := by decide +kernel
theorem dL_errors_570 : decode cL_errors 570 = .ok (.aload_n 0, 1) := by decide +kernel
theorem dL_errors_571 : decode cL_errors 571 = .ok (.iload_n 3, 1) := by decide +kernel
theorem dL_errors_572 : decode cL_errors 572 = .ok (.invokestatic 144, 3) := by decide +kernel
theorem dL_errors_575 : decode cL_errors 575 = .ok (.iconst 1, 1) := by decide +kernel
theorem dL_errors_576 : decode cL_errors 576 = .ok (.if_icmp .eq 13, 3) := by decide +kernel
theorem dL_errors_579 : decode cL_errors 579 = .ok (.aload_n 0, 1) := by decide +kernel
theorem dL_errors_580 : decode cL_errors 580 = .ok (.iload_n 3, 1) := by decide +kernel
theorem dL_errors_581 : decode cL_errors 581 = .ok (.invokestatic 129, 3) := by decide +kernel
theorem dL_errors_584 : decode cL_errors 584 = .ok (.bipush (-103), 2) := by decide +kernel
theorem dL_errors_586 : decode cL_errors 586 = .ok (.if_icmp .ne 61, 3) := by decide +kernel
theorem dL_errors_589 : decode cL_errors 589 = .ok (.aload_n 0, 1) := by decide +kernel
theorem dL_errors_590 : decode cL_errors 590 = .ok (.iload_n 3, 1) := by decide +kernel
theorem dL_errors_591 : decode cL_errors 591 = .ok (.invokestatic 126, 3) := by decide +kernel
theorem dL_errors_594 : decode cL_errors 594 = .ok (.iconst 1, 1) := by decide +kernel
theorem dL_errors_595 : decode cL_errors 595 = .ok (.if_icmp .ne 16, 3) := by decide +kernel
theorem dL_errors_598 : decode cL_errors 598 = .ok (.aload_n 0, 1) := by decide +kernel
theorem dL_errors_599 : decode cL_errors 599 = .ok (.iload_n 3, 1) := by decide +kernel
theorem dL_errors_600 : decode cL_errors 600 = .ok (.invokestatic 134, 3) := by decide +kernel
theorem dL_errors_603 : decode cL_errors 603 = .ok (.bipush (-103), 2) := by decide +kernel
theorem dL_errors_605 : decode cL_errors 605 = .ok (.if_icmp .ne 42, 3) := by decide +kernel
theorem dL_errors_608 : decode cL_errors 608 = .ok (.goto 13, 3) := by decide +kernel
theorem dL_errors_611 : decode cL_errors 611 = .ok (.aload_n 0, 1) := by decide +kernel
theorem dL_errors_612 : decode cL_errors 612 = .ok (.iload_n 3, 1) := by decide +kernel
theorem dL_errors_613 : decode cL_errors 613 = .ok (.invokestatic 136, 3) := by decide +kernel
theorem dL_errors_616 : decode cL_errors 616 = .ok (.bipush (-103), 2) := by decide +kernel
theorem dL_errors_618 : decode cL_errors 618 = .ok (.if_icmp .ne 29, 3) := by decide +kernel
theorem dL_errors_621 : decode cL_errors 621 = .ok (.aload_n 0, 1) := by decide +kernel
theorem dL_errors_622 : decode cL_errors 622 = .ok (.iload_n 3, 1) := by decide +kernel
theorem dL_errors_623 : decode cL_errors 623 = .ok (.invokestatic 119, 3) := by decide +kernel
theorem dL_errors_626 : decode cL_errors 626 = .ok (.bipush 6, 2) := by decide +kernel
theorem dL_errors_628 : decode cL_errors 628 = .ok (.if_icmp .lt 15, 3) := by decide +kernel
theorem dL_errors_631 : decode cL_errors 631 = .ok (.aload_n 0, 1) := by decide +kernel
theorem dL_errors_632 : decode cL_errors 632 = .ok (.iload_n 3, 1) := by decide +kernel
theorem dL_errors_633 : decode cL_errors 633 = .ok (.iconst 1, 1) := by decide +kernel
theorem dL_errors_634 : decode cL_errors 634 = .ok (.iconst 1, 1) := by decide +kernel
theorem dL_errors_635 : decode cL_errors 635 = .ok (.invokestatic 138, 3) := by decide +kernel
theorem dL_errors_638 : decode cL_errors 638 = .ok (.bipush (-103), 2) := by decide +kernel
theorem dL_errors_640 : decode cL_errors 640 = .ok (.if_icmp .ne 7, 3) := by decide +kernel
theorem dL_errors_643 : decode cL_errors 643 = .ok (.iconst 1, 1) := by decide +kernel
theorem dL_errors_644 : decode cL_errors 644 = .ok (.goto 4, 3) := by decide +kernel
theorem dL_errors_647 : decode cL_errors 647 = .ok (.iconst 0, 1) := by decide +kernel
theorem dL_errors_648 : decode cL_errors 648 = .ok (.istore_n 2, 1) := by decide +kernel
theorem dL_errors_649 : decode cL_errors 649 = .ok (.iinc 3 1, 3) := by decide +kernel
theorem dL_errors_652 : decode cL_errors 652 = .ok (.goto (-91), 3) := by decide +kernel
theorem dL_errors_655 : decode cL_errors 655 = .ok (.iload_n 2, 1) := by decide +kernel
theorem dL_errors_656 : decode cL_errors 656 = .ok (.ireturn, 1) := by decide +kernel
set_option maxRecDepth 20000 in
theorem ggL_loadText_X8_clearText : GoodIn wsL_loadText wsX8_clearText := goodIn_r _ [6, 7, 8, 9, 10, 11, 12, 13, 188, 189, 190, 191, 192, 193, 194, 195, 196, 197, 198] (by decide +kernel) (by decide +kernel)
set_option maxRecDepth 20000 in
theorem gL_loadText_X8_clearText : GoodIn wsL_loadText (wsV RL 181 RX8 yX8_clearText wsX8_clearText) := goodIn_app (goodIn_of _ (by decide +kernel)) ggL_loadText_X8_clearText
set_option maxRecDepth 20000 in
theorem ggL_loadText_L_append : GoodIn wsL_loadText wsL_append := goodIn_ca (goodIn_ca (goodIn_r _ [17, 18, 19, 20, 21, 22, 5, 23, 24, 25, 7, 26, 27, 28, 29, 30, 31, 32, 33, 11, 34, 13, 35, 36, 37, 38, 39, 188, 189, 190, 191, 192, 193, 194, 195, 196, 197, 198] (by decide +kernel) (by decide +kernel)) (goodIn_sub (fun _ h => List.mem_cons_of_mem _ (List.mem_append_left _ (List.mem_append_right _ h))) (by decide +kernel))) (goodIn_sub (fun _ h => List.mem_cons_of_mem _ (List.mem_append_right _ h)) (by decide +kernel))
set_option maxRecDepth 20000 in
theorem gL_loadText_L_append : GoodIn wsL_loadText (va_wsS RL 110 yL_append wsL_append) := goodIn_app (goodIn_of _ (by decide +kernel)) ggL_loadText_L_append
set_option maxRecDepth 20000 in
theorem ggL_loadText_J0_charAt_5068e : GoodIn wsL_loadText wsJ0_charAt_5068e := goodIn_r _ [44, 45, 46, 47, 48, 43, 49, 50, 51, 52, 53, 54, 55, 56, 57, 58, 59, 60, 61, 62, 63, 64, 65, 66, 67, 68, 69, 70, 71, 72, 73, 74, 75, 76, 77, 78, 79, 80] (by decide +kernel) (by decide +kernel)
set_option maxRecDepth 20000 in
theorem gL_loadText_J0_charAt_5068e : GoodIn wsL_loadText (wsV RL 186 RJ0 yJ0_charAt_5068e wsJ0_charAt_5068e) := goodIn_app (goodIn_of _ (by decide +kernel)) ggL_loadText_J0_charAt_5068e
set_option maxRecDepth 20000 in
theorem ggL_loadText_L_load : GoodIn wsL_loadText wsL_load := goodIn_ca (goodIn_r _ [83, 19, 84, 85, 86, 5, 87, 24, 25, 7, 88, 89, 90, 91, 92, 93, 94, 11, 95, 13, 96, 97, 98, 99, 100, 101, 102, 103, 39, 104, 105, 106, 107, 108, 109, 110, 111, 112, 113, 114, 115, 116, 117, 118, 119, 120, 121, 122, 123, 124, 125, 126, 127, 128, 129, 130, 131, 132, 133, 134, 135, 136, 137, 138, 139, 140, 141, 142, 143, 144, 145, 146, 147, 148, 149, 150, 151, 152, 153, 154, 155, 156, 157, 158, 159, 160, 161, 162, 163, 164, 165, 166, 167, 168, 169, 170, 171, 172, 173, 174, 175, 176, 177, 178, 179, 180, 181, 182, 183, 184, 185, 186, 187, 188, 189, 190, 191, 192, 193, 194, 195, 196, 197, 198, 199, 200, 201, 202, 203, 204, 205, 206, 207, 208, 209, 210, 211, 212, 213, 214, 215, 216] (by decide +kernel) (by decide +kernel)) (goodIn_sub (fun _ h => List.mem_cons_of_mem _ (List.mem_append_left _ (List.mem_append_right _ h))) (by decide +kernel))
set_option maxRecDepth 20000 in
theorem gL_loadText_L_load : GoodIn wsL_loadText (va_wsS RL 192 yL_load wsL_load) := goodIn_app (goodIn_of _ (by decide +kernel)) ggL_loadText_L_load
theorem dL_loadText_0 : decode cL_loadText 0 = .ok (.iconst 1, 1) := by decide +kernel
theorem dL_loadText_1 : decode cL_loadText 1 = .ok (.iload_n 1, 1) := by decide +kernel
theorem dL_loadText_2 : decode cL_loadText 2 = .ok (.iconst 4, 1) := by decide +kernel
theorem dL_loadText_3 : decode cL_loadText 3 = .ok (.irem, 1) := by decide +kernel
theorem dL_loadText_4 : decode cL_loadText 4 = .ok (.iadd, 1) := by decide +kernel
theorem dL_loadText_5 : decode cL_loadText 5 = .ok (.istore_n 3, 1) := by decide +kernel
theorem dL_loadText_6 : decode cL_loadText 6 = .ok (.iconst 1, 1) := by decide +kernel
theorem dL_loadText_7 : decode cL_loadText 7 = .ok (.iload_n 1, 1) := by decide +kernel
theorem dL_loadText_8 : decode cL_loadText 8 = .ok (.iconst 4, 1) := by decide +kernel
theorem dL_loadText_9 : decode cL_loadText 9 = .ok (.idiv, 1) := by decide +kernel
theorem dL_loadText_10 : decode cL_loadText 10 = .ok (.iconst 4, 1) := by decide +kernel
theorem dL_loadText_11 : decode cL_loadText 11 = .ok (.irem, 1) := by decide +kernel
theorem dL_loadText_12 : decode cL_loadText 12 = .ok (.iadd, 1) := by decide +kernel
theorem dL_loadText_13 : decode cL_loadText 13 = .ok (.istore 4, 2) := by decide +kernel
theorem dL_loadText_15 : decode cL_loadText 15 = .ok (.aload_n 0, 1) := by decide +kernel
theorem dL_loadText_16 : decode cL_loadText 16 = .ok (.invokevirtual 181, 3) := by decide +kernel
theorem dL_loadText_19 : decode cL_loadText 19 = .ok (.aload_n 0, 1) := by decide +kernel
theorem dL_loadText_20 : decode cL_loadText 20 = .ok (.bipush 68, 2) := by decide +kernel
theorem dL_loadText_22 : decode cL_loadText 22 = .ok (.invokestatic 110, 3) := by decide +kernel
theorem dL_loadText_25 : decode cL_loadText 25 = .ok (.iadd, 1) := by decide +kernel
theorem dL_loadText_26 : decode cL_loadText 26 = .ok (.aload_n 0, 1) := by decide +kernel
theorem dL_loadText_27 : decode cL_loadText 27 = .ok (.bipush 48, 2) := by decide +kernel
theorem dL_loadText_29 : decode cL_loadText 29 = .ok (.iload_n 3, 1) := by decide +kernel
theorem dL_loadText_30 : decode cL_loadText 30 = .ok (.iadd, 1) := by decide +kernel
theorem dL_loadText_31 : decode cL_loadText 31 = .ok (.invokestatic 110, 3) := by decide +kernel
theorem dL_loadText_34 : decode cL_loadText 34 = .ok (.iadd, 1) := by decide +kernel
theorem dL_loadText_35 : decode cL_loadText 35 = .ok (.aload_n 0, 1) := by decide +kernel
theorem dL_loadText_36 : decode cL_loadText 36 = .ok (.bipush 48, 2) := by decide +kernel
theorem dL_loadText_38 : decode cL_loadText 38 = .ok (.iload 4, 2) := by decide +kernel
theorem dL_loadText_40 : decode cL_loadText 40 = .ok (.iadd, 1) := by decide +kernel
theorem dL_loadText_41 : decode cL_loadText 41 = .ok (.invokestatic 110, 3) := by decide +kernel
theorem dL_loadText_44 : decode cL_loadText 44 = .ok (.iadd, 1) := by decide +kernel
theorem dL_loadText_45 : decode cL_loadText 45 = .ok (.aload_n 0, 1) := by decide +kernel
theorem dL_loadText_46 : decode cL_loadText 46 = .ok (.bipush 49, 2) := by decide +kernel
theorem dL_loadText_48 : decode cL_loadText 48 = .ok (.iload_n 1, 1) := by decide +kernel
theorem dL_loadText_49 : decode cL_loadText 49 = .ok (.bipush 16, 2) := by decide +kernel
theorem dL_loadText_51 : decode cL_loadText 51 = .ok (.idiv, 1) := by decide +kernel
theorem dL_loadText_52 : decode cL_loadText 52 = .ok (.iconst 4, 1) := by decide +kernel
theorem dL_loadText_53 : decode cL_loadText 53 = .ok (.irem, 1) := by decide +kernel
theorem dL_loadText_54 : decode cL_loadText 54 = .ok (.iadd, 1) := by decide +kernel
theorem dL_loadText_55 : decode cL_loadText 55 = .ok (.invokestatic 110, 3) := by decide +kernel
theorem dL_loadText_58 : decode cL_loadText 58 = .ok (.iadd, 1) := by decide +kernel
theorem dL_loadText_59 : decode cL_loadText 59 = .ok (.istore 5, 2) := by decide +kernel
theorem dL_loadText_61 : decode cL_loadText 61 = .ok (.iload_n 2, 1) := by decide +kernel
theorem dL_loadText_62 : decode cL_loadText 62 = .ok (.istore 6, 2) := by decide +kernel
theorem dL_loadText_64 : decode cL_loadText 64 = .ok (.iconst 0, 1) := by decide +kernel
theorem dL_loadText_65 : decode cL_loadText 65 = .ok (.istore 7, 2) := by decide +kernel
theorem dL_loadText_67 : decode cL_loadText 67 = .ok (.iload 7, 2) := by decide +kernel
theorem dL_loadText_69 : decode cL_loadText 69 = .ok (.iload_n 3, 1) := by decide +kernel
theorem dL_loadText_70 : decode cL_loadText 70 = .ok (.iload 4, 2) := by decide +kernel
theorem dL_loadText_72 : decode cL_loadText 72 = .ok (.imul, 1) := by decide +kernel
theorem dL_loadText_73 : decode cL_loadText 73 = .ok (.if_icmp .ge 103, 3) := by decide +kernel
theorem dL_loadText_76 : decode cL_loadText 76 = .ok (.iload 6, 2) := by decide +kernel
theorem dL_loadText_78 : decode cL_loadText 78 = .ok (.iconst 5, 1) := by decide +kernel
theorem dL_loadText_79 : decode cL_loadText 79 = .ok (.idiv, 1) := by decide +kernel
theorem dL_loadText_80 : decode cL_loadText 80 = .ok (.iload_n 1, 1) := by decide +kernel
theorem dL_loadText_81 : decode cL_loadText 81 = .ok (.iconst 2, 1) := by decide +kernel
theorem dL_loadText_82 : decode cL_loadText 82 = .ok (.iload 7, 2) := by decide +kernel
theorem dL_loadText_84 : decode cL_loadText 84 = .ok (.imul, 1) := by decide +kernel
theorem dL_loadText_85 : decode cL_loadText 85 = .ok (.iconst 3, 1) := by decide +kernel
theorem dL_loadText_86 : decode cL_loadText 86 = .ok (.iadd, 1) := by decide +kernel
theorem dL_loadText_87 : decode cL_loadText 87 = .ok (.imul, 1) := by decide +kernel
theorem dL_loadText_88 : decode cL_loadText 88 = .ok (.ixor, 1) := by decide +kernel
theorem dL_loadText_89 : decode cL_loadText 89 = .ok (.ldc 8, 2) := by decide +kernel
theorem dL_loadText_91 : decode cL_loadText 91 = .ok (.iand, 1) := by decide +kernel
theorem dL_loadText_92 : decode cL_loadText 92 = .ok (.istore 6, 2) := by decide +kernel
theorem dL_loadText_94 : decode cL_loadText 94 = .ok (.iconst 0, 1) := by decide +kernel
theorem dL_loadText_95 : decode cL_loadText 95 = .ok (.istore 8, 2) := by decide +kernel
theorem dL_loadText_97 : decode cL_loadText 97 = .ok (.iload 8, 2) := by decide +kernel
theorem dL_loadText_99 : decode cL_loadText 99 = .ok (.iload 6, 2) := by decide +kernel
theorem dL_loadText_101 : decode cL_loadText 101 = .ok (.iconst 4, 1) := by decide +kernel
theorem dL_loadText_102 : decode cL_loadText 102 = .ok (.irem, 1) := by decide +kernel
theorem dL_loadText_103 : decode cL_loadText 103 = .ok (.if_icmp .ge 56, 3) := by decide +kernel
theorem dL_loadText_106 : decode cL_loadText 106 = .ok (.iload 5, 2) := by decide +kernel
theorem dL_loadText_108 : decode cL_loadText 108 = .ok (.aload_n 0, 1) := by decide +kernel
theorem dL_loadText_109 : decode cL_loadText 109 = .ok (.bipush 49, 2) := by decide +kernel
theorem dL_loadText_111 : decode cL_loadText 111 = .ok (.iload 6, 2) := by decide +kernel
theorem dL_loadText_113 : decode cL_loadText 113 = .ok (.iconst 4, 1) := by decide +kernel
theorem dL_loadText_114 : decode cL_loadText 114 = .ok (.bipush 7, 2) := by decide +kernel
theorem dL_loadText_116 : decode cL_loadText 116 = .ok (.iload 8, 2) := by decide +kernel
theorem dL_loadText_118 : decode cL_loadText 118 = .ok (.imul, 1) := by decide +kernel
theorem dL_loadText_119 : decode cL_loadText 119 = .ok (.iadd, 1) := by decide +kernel
theorem dL_loadText_120 : decode cL_loadText 120 = .ok (.idiv, 1) := by decide +kernel
theorem dL_loadText_121 : decode cL_loadText 121 = .ok (.bipush 9, 2) := by decide +kernel
theorem dL_loadText_123 : decode cL_loadText 123 = .ok (.irem, 1) := by decide +kernel
theorem dL_loadText_124 : decode cL_loadText 124 = .ok (.iadd, 1) := by decide +kernel
theorem dL_loadText_125 : decode cL_loadText 125 = .ok (.invokestatic 110, 3) := by decide +kernel
theorem dL_loadText_128 : decode cL_loadText 128 = .ok (.aload_n 0, 1) := by decide +kernel
theorem dL_loadText_129 : decode cL_loadText 129 = .ok (.bipush 48, 2) := by decide +kernel
theorem dL_loadText_131 : decode cL_loadText 131 = .ok (.iload 6, 2) := by decide +kernel
theorem dL_loadText_133 : decode cL_loadText 133 = .ok (.bipush 36, 2) := by decide +kernel
theorem dL_loadText_135 : decode cL_loadText 135 = .ok (.bipush 11, 2) := by decide +kernel
theorem dL_loadText_137 : decode cL_loadText 137 = .ok (.iload 8, 2) := by decide +kernel
theorem dL_loadText_139 : decode cL_loadText 139 = .ok (.imul, 1) := by decide +kernel
theorem dL_loadText_140 : decode cL_loadText 140 = .ok (.iadd, 1) := by decide +kernel
theorem dL_loadText_141 : decode cL_loadText 141 = .ok (.idiv, 1) := by decide +kernel
theorem dL_loadText_142 : decode cL_loadText 142 = .ok (.bipush 10, 2) := by decide +kernel
theorem dL_loadText_144 : decode cL_loadText 144 = .ok (.irem, 1) := by decide +kernel
theorem dL_loadText_145 : decode cL_loadText 145 = .ok (.iadd, 1) := by decide +kernel
theorem dL_loadText_146 : decode cL_loadText 146 = .ok (.invokestatic 110, 3) := by decide +kernel
theorem dL_loadText_149 : decode cL_loadText 149 = .ok (.iadd, 1) := by decide +kernel
theorem dL_loadText_150 : decode cL_loadText 150 = .ok (.iadd, 1) := by decide +kernel
theorem dL_loadText_151 : decode cL_loadText 151 = .ok (.istore 5, 2) := by decide +kernel
theorem dL_loadText_153 : decode cL_loadText 153 = .ok (.iinc 8 1, 3) := by decide +kernel
theorem dL_loadText_156 : decode cL_loadText 156 = .ok (.goto (-59), 3) := by decide +kernel
theorem dL_loadText_159 : decode cL_loadText 159 = .ok (.iload 5, 2) := by decide +kernel
theorem dL_loadText_161 : decode cL_loadText 161 = .ok (.aload_n 0, 1) := by decide +kernel
theorem dL_loadText_162 : decode cL_loadText 162 = .ok (.bipush 59, 2) := by decide +kernel
theorem dL_loadText_164 : decode cL_loadText 164 = .ok (.invokestatic 110, 3) := by decide +kernel
theorem dL_loadText_167 : decode cL_loadText 167 = .ok (.iadd, 1) := by decide +kernel
theorem dL_loadText_168 : decode cL_loadText 168 = .ok (.istore 5, 2) := by decide +kernel
theorem dL_loadText_170 : decode cL_loadText 170 = .ok (.iinc 7 1, 3) := by decide +kernel
theorem dL_loadText_173 : decode cL_loadText 173 = .ok (.goto (-106), 3) := by decide +kernel
theorem dL_loadText_176 : decode cL_loadText 176 = .ok (.iload 5, 2) := by decide +kernel
theorem dL_loadText_178 : decode cL_loadText 178 = .ok (.iload_n 1, 1) := by decide +kernel
theorem dL_loadText_179 : decode cL_loadText 179 = .ok (.bipush 31, 2) := by decide +kernel
theorem dL_loadText_181 : decode cL_loadText 181 = .ok (.irem, 1) := by decide +kernel
theorem dL_loadText_182 : decode cL_loadText 182 = .ok (.ifCond .ne 19, 3) := by decide +kernel
theorem dL_loadText_185 : decode cL_loadText 185 = .ok (.aload_n 0, 1) := by decide +kernel
theorem dL_loadText_186 : decode cL_loadText 186 = .ok (.ldc 184, 2) := by decide +kernel
theorem dL_loadText_188 : decode cL_loadText 188 = .ok (.iload_n 2, 1) := by decide +kernel
theorem dL_loadText_189 : decode cL_loadText 189 = .ok (.bipush 6, 2) := by decide +kernel
theorem dL_loadText_191 : decode cL_loadText 191 = .ok (.irem, 1) := by decide +kernel
theorem dL_loadText_192 : decode cL_loadText 192 = .ok (.invokevirtual 186, 3) := by decide +kernel
theorem dL_loadText_195 : decode cL_loadText 195 = .ok (.invokestatic 110, 3) := by decide +kernel
theorem dL_loadText_198 : decode cL_loadText 198 = .ok (.goto 4, 3) := by decide +kernel
theorem dL_loadText_201 : decode cL_loadText 201 = .ok (.iconst 0, 1) := by decide +kernel
theorem dL_loadText_202 : decode cL_loadText 202 = .ok (.iadd, 1) := by decide +kernel
theorem dL_loadText_203 : decode cL_loadText 203 = .ok (.istore 5, 2) := by decide +kernel
theorem dL_loadText_205 : decode cL_loadText 205 = .ok (.bipush 53, 2) := by decide +kernel
theorem dL_loadText_207 : decode cL_loadText 207 = .ok (.iload 5, 2) := by decide +kernel
theorem dL_loadText_209 : decode cL_loadText 209 = .ok (.imul, 1) := by decide +kernel
theorem dL_loadText_210 : decode cL_loadText 210 = .ok (.aload_n 0, 1) := by decide +kernel
theorem dL_loadText_211 : decode cL_loadText 211 = .ok (.invokestatic 192, 3) := by decide +kernel
theorem dL_loadText_214 : decode cL_loadText 214 = .ok (.iadd, 1) := by decide +kernel
theorem dL_loadText_215 : decode cL_loadText 215 = .ok (.ireturn, 1) := by decide +kernel
set_option maxRecDepth 20000 in
theorem ggL_act_X8_pointCount : GoodIn wsL_act wsX8_pointCount := goodIn_r _ [5, 6, 7, 8, 9, 10, 11, 12, 390, 391, 392, 393, 394, 395, 396, 397, 398, 399, 400, 401, 402, 403] (by decide +kernel) (by decide +kernel)
set_option maxRecDepth 20000 in
theorem gL_act_X8_pointCount : GoodIn wsL_act (wsV RL 107 RX8 yX8_pointCount wsX8_pointCount) := goodIn_app (goodIn_of _ (by decide +kernel)) ggL_act_X8_pointCount
set_option maxRecDepth 20000 in
theorem ggL_act_L_loadText : GoodIn wsL_act wsL_loadText := goodIn_ca (goodIn_ca (goodIn_r _ [16, 17, 18, 19, 20, 4, 21, 22, 23, 24, 25, 26, 27, 28, 29, 30, 15, 31, 32, 33, 34, 35, 36, 37, 38, 39, 40, 41, 42, 43, 44, 45, 46, 47, 48, 49, 50, 51, 52, 53, 54, 55, 56, 57, 58, 59, 60, 61, 62, 63, 64, 65, 66, 67, 68, 69, 70, 71, 72, 73, 74, 75, 76, 77, 78, 79, 80, 81, 82, 83, 84, 85, 86, 87, 88, 89, 90, 91, 92, 93, 94, 95, 96, 97, 98, 99, 100, 101, 6, 102, 103, 104, 105, 106, 107, 108, 109, 110, 111, 112, 113, 114, 115, 116, 117, 118, 119, 120, 121, 122, 123, 124, 125, 126, 127, 128, 129, 130, 131, 132, 133, 134, 135, 10, 136, 137, 138, 139, 140, 12, 141, 142, 143, 144, 145, 146, 147, 148, 149, 150, 151, 152, 153, 154, 155, 156, 157, 158, 159, 160, 161, 162, 163, 164, 165, 166, 167, 168, 169, 170, 171, 8, 9, 11, 172, 173, 174, 175, 176, 177, 178, 179, 180, 181, 182, 183, 184, 185, 186, 187, 188, 189, 190, 191, 192, 193, 194, 7, 390, 391, 392, 393, 394, 395, 396, 397, 398, 404, 405, 399, 400, 401, 402, 403, 406, 407, 408, 409, 410, 411, 412, 413, 414, 415, 416, 417, 418] (by decide +kernel) (by decide +kernel)) (goodIn_sub (fun _ h => List.mem_cons_of_mem _ (List.mem_append_left _ (List.mem_append_left _ (List.mem_append_right _ h)))) (by decide +kernel))) (goodIn_sub (fun _ h => List.mem_cons_of_mem _ (List.mem_append_left _ (List.mem_append_right _ h))) (by decide +kernel))
set_option maxRecDepth 20000 in
theorem gL_act_L_loadText : GoodIn wsL_act (va_wsS RL 195 yL_loadText wsL_loadText) := goodIn_app (goodIn_of _ (by decide +kernel)) ggL_act_L_loadText
set_option maxRecDepth 20000 in
theorem ggL_act_L_draw : GoodIn wsL_act wsL_draw := goodIn_ca (goodIn_ca (goodIn_r _ [197, 198, 33, 199, 200, 201, 4, 202, 38, 39, 102, 6, 103, 203, 204, 205, 206, 207, 208, 209, 210, 211, 10, 212, 12, 213, 214, 215, 159, 216, 217, 218, 219, 220, 162, 163, 221, 138, 139, 140, 222, 223, 224, 225, 226, 227, 228, 164, 229, 230, 231, 232, 161, 180, 233, 234, 235, 236, 148, 147, 137, 237, 238, 239, 185, 240, 188, 187, 241, 242, 243, 244, 245, 246, 247, 248, 249, 181, 165, 166, 250, 251, 252, 253, 254, 255, 256, 257, 390, 391, 392, 393, 394, 395, 396, 397, 398, 399, 400, 401, 402, 403, 406, 407, 408, 409, 410, 411, 412, 413, 414, 415, 416] (by decide +kernel) (by decide +kernel)) (goodIn_sub (fun _ h => List.mem_cons_of_mem _ (List.mem_append_left _ (List.mem_append_left _ (List.mem_append_right _ h)))) (by decide +kernel))) (goodIn_sub (fun _ h => List.mem_cons_of_mem _ (List.mem_append_right _ h)) (by decide +kernel))
set_option maxRecDepth 20000 in
theorem gL_act_L_draw : GoodIn wsL_act (va_wsS RL 129 yL_draw wsL_draw) := goodIn_app (goodIn_of _ (by decide +kernel)) ggL_act_L_draw
set_option maxRecDepth 20000 in
theorem ggL_act_L_byOrder : GoodIn wsL_act wsL_byOrder := goodIn_ca (goodIn_r _ [260, 32, 261, 262, 263, 4, 264, 103, 102, 6, 40, 41, 42, 43, 44, 237, 238, 239, 185, 240, 188, 187, 241, 242, 243, 244, 159, 245, 180, 246, 247, 248, 249, 181, 161, 162, 163, 164, 165, 166, 265, 266, 267, 268, 269, 270, 271, 272, 273, 8, 9, 10, 11, 12, 217, 218, 219, 220, 221, 138, 139, 140, 222, 223, 224, 225, 226, 227, 228, 229, 230, 231, 232, 233, 234, 235, 236, 148, 147, 137, 274, 275, 276, 277, 278, 251, 252, 253, 254, 255, 256, 257, 390, 391, 392, 393, 394, 395, 396, 397, 398, 414, 415, 416, 406, 407, 408, 409, 410, 411, 412, 413, 399, 400, 401, 402, 403] (by decide +kernel) (by decide +kernel)) (goodIn_sub (fun _ h => List.mem_cons_of_mem _ (List.mem_append_left _ (List.mem_append_right _ h))) (by decide +kernel))
set_option maxRecDepth 20000 in
theorem gL_act_L_byOrder : GoodIn wsL_act (va_wsS RL 131 yL_byOrder wsL_byOrder) := goodIn_app (goodIn_of _ (by decide +kernel)) ggL_act_L_byOrder
set_option maxRecDepth 20000 in
theorem ggL_act_L_hang : GoodIn wsL_act wsL_hang := goodIn_ca (goodIn_ca (goodIn_r _ [281, 198, 33, 282, 283, 284, 4, 285, 38, 39, 102, 103, 203, 204, 205, 206, 207, 208, 6, 209, 210, 211, 10, 212, 12, 286, 226, 227, 159, 228, 164, 237, 238, 239, 185, 240, 188, 187, 241, 242, 243, 244, 245, 180, 246, 247, 248, 249, 181, 161, 162, 163, 165, 166, 287, 288, 289, 290, 291, 292, 293, 294, 295, 296, 297, 298, 299, 300, 301, 390, 391, 392, 393, 394, 395, 396, 397, 398, 399, 400, 401, 402, 403, 406, 407, 408, 409, 410, 411, 412, 413, 414, 415, 416] (by decide +kernel) (by decide +kernel)) (goodIn_sub (fun _ h => List.mem_cons_of_mem _ (List.mem_append_left _ (List.mem_append_left _ (List.mem_append_right _ h)))) (by decide +kernel))) (goodIn_sub (fun _ h => List.mem_cons_of_mem _ (List.mem_append_right _ h)) (by decide +kernel))
set_option maxRecDepth 20000 in
theorem gL_act_L_hang : GoodIn wsL_act (va_wsS RL 134 yL_hang wsL_hang) := goodIn_app (goodIn_of _ (by decide +kernel)) ggL_act_L_hang
set_option maxRecDepth 20000 in
theorem ggL_act_L_release : GoodIn wsL_act wsL_release := goodIn_ca (goodIn_ca (goodIn_r _ [304, 198, 33, 305, 306, 307, 4, 308, 38, 39, 102, 103, 203, 204, 205, 206, 207, 208, 6, 209, 210, 211, 10, 212, 12, 286, 226, 227, 159, 228, 164, 237, 238, 239, 185, 240, 188, 187, 241, 242, 243, 244, 245, 180, 246, 247, 248, 249, 181, 161, 162, 163, 165, 166, 287, 288, 289, 290, 291, 292, 293, 294, 295, 296, 297, 298, 299, 300, 301, 390, 391, 392, 393, 394, 395, 396, 397, 398, 399, 400, 401, 402, 403, 406, 407, 408, 409, 410, 411, 412, 413, 414, 415, 416] (by decide +kernel) (by decide +kernel)) (goodIn_sub (fun _ h => List.mem_cons_of_mem _ (List.mem_append_left _ (List.mem_append_left _ (List.mem_append_right _ h)))) (by decide +kernel))) (goodIn_sub (fun _ h => List.mem_cons_of_mem _ (List.mem_append_right _ h)) (by decide +kernel))
set_option maxRecDepth 20000 in
theorem gL_act_L_release : GoodIn wsL_act (va_wsS RL 136 yL_release wsL_release) := goodIn_app (goodIn_of _ (by decide +kernel)) ggL_act_L_release
set_option maxRecDepth 20000 in
theorem ggL_act_L_add : GoodIn wsL_act wsL_add := goodIn_ca (goodIn_ca (goodIn_ca (goodIn_r _ [311, 198, 32, 33, 312, 313, 314, 4, 315, 38, 39, 102, 103, 203, 204, 205, 206, 207, 208, 6, 209, 210, 211, 10, 212, 12, 40, 41, 42, 43, 44, 316, 317, 318, 159, 319, 161, 237, 238, 239, 185, 240, 188, 187, 241, 242, 243, 244, 245, 180, 246, 247, 248, 249, 181, 162, 163, 164, 165, 166, 320, 177, 178, 179, 390, 391, 392, 393, 394, 395, 396, 397, 398, 399, 400, 401, 402, 403, 406, 407, 408, 409, 410, 411, 412, 413, 414, 415, 416] (by decide +kernel) (by decide +kernel)) (goodIn_sub (fun _ h => List.mem_cons_of_mem _ (List.mem_append_left _ (List.mem_append_left _ (List.mem_append_right _ h)))) (by decide +kernel))) (goodIn_sub (fun _ h => List.mem_cons_of_mem _ (List.mem_append_right _ h)) (by decide +kernel))) (goodIn_sub (fun _ h => List.mem_cons_of_mem _ (List.mem_append_left _ (List.mem_append_right _ h))) (by decide +kernel))
set_option maxRecDepth 20000 in
theorem gL_act_L_add : GoodIn wsL_act (va_wsS RL 138 yL_add wsL_add) := goodIn_app (goodIn_of _ (by decide +kernel)) ggL_act_L_add
set_option maxRecDepth 20000 in
theorem ggL_act_L_undo : GoodIn wsL_act wsL_undo := goodIn_ca (goodIn_r _ [323, 33, 324, 325, 326, 4, 327, 38, 39, 103, 102, 328, 329, 330, 185, 331, 188, 332, 333, 334, 335, 241, 187, 242, 243, 244, 159, 245, 180, 246, 247, 248, 249, 181, 161, 162, 163, 164, 165, 166, 390, 391, 392, 393, 394, 395, 396, 397, 398, 414, 415, 416, 406, 407, 408, 409, 410, 411, 412, 413] (by decide +kernel) (by decide +kernel)) (goodIn_sub (fun _ h => List.mem_cons_of_mem _ (List.mem_append_left _ (List.mem_append_left _ (List.mem_append_right _ h)))) (by decide +kernel))
set_option maxRecDepth 20000 in
theorem gL_act_L_undo : GoodIn wsL_act (va_wsS RL 198 yL_undo wsL_undo) := goodIn_app (goodIn_of _ (by decide +kernel)) ggL_act_L_undo
set_option maxRecDepth 20000 in
theorem ggL_act_L_setBound : GoodIn wsL_act wsL_setBound := goodIn_ca (goodIn_ca (goodIn_r _ [338, 32, 33, 339, 340, 341, 4, 342, 38, 39, 102, 6, 103, 40, 41, 42, 43, 44, 343, 344, 345, 159, 346, 162, 273, 8, 9, 10, 11, 12, 233, 234, 235, 236, 148, 147, 137, 138, 139, 140, 237, 238, 239, 185, 240, 188, 187, 241, 242, 243, 244, 245, 180, 246, 247, 248, 249, 181, 161, 163, 164, 165, 166, 347, 348, 349, 350, 351, 352, 353, 354, 390, 391, 392, 393, 394, 395, 396, 397, 398, 406, 407, 408, 409, 410, 411, 412, 413, 399, 400, 401, 402, 403, 414, 415, 416] (by decide +kernel) (by decide +kernel)) (goodIn_sub (fun _ h => List.mem_cons_of_mem _ (List.mem_append_left _ (List.mem_append_left _ (List.mem_append_right _ h)))) (by decide +kernel))) (goodIn_sub (fun _ h => List.mem_cons_of_mem _ (List.mem_append_left _ (List.mem_append_right _ h))) (by decide +kernel))
set_option maxRecDepth 20000 in
theorem gL_act_L_setBound : GoodIn wsL_act (va_wsS RL 142 yL_setBound wsL_setBound) := goodIn_app (goodIn_of _ (by decide +kernel)) ggL_act_L_setBound
set_option maxRecDepth 20000 in
theorem ggL_act_L_save : GoodIn wsL_act wsL_save := goodIn_ca (goodIn_r _ [357, 198, 358, 359, 360, 4, 361, 104, 102, 362, 363, 364, 207, 208, 365, 366, 367, 192, 368, 369, 194, 370, 243, 244, 159, 245, 180, 246, 247, 248, 249, 181, 161, 162, 163, 164, 165, 166, 371, 372, 373, 374, 390, 391, 392, 393, 394, 395, 396, 397, 398, 417, 418, 406, 407, 408, 409, 410, 411, 412, 413] (by decide +kernel) (by decide +kernel)) (goodIn_sub (fun _ h => List.mem_cons_of_mem _ (List.mem_append_right _ h)) (by decide +kernel))
set_option maxRecDepth 20000 in
theorem gL_act_L_save : GoodIn wsL_act (va_wsS RL 177 yL_save wsL_save) := goodIn_app (goodIn_of _ (by decide +kernel)) ggL_act_L_save
set_option maxRecDepth 20000 in
theorem ggL_act_L_restore : GoodIn wsL_act wsL_restore := goodIn_ca (goodIn_ca (goodIn_r _ [377, 198, 33, 378, 379, 380, 4, 381, 38, 39, 104, 102, 103, 362, 363, 364, 207, 208, 382, 383, 384, 192, 385, 194, 386, 387, 388, 389, 369, 370, 243, 244, 159, 245, 180, 246, 247, 248, 249, 181, 161, 162, 163, 164, 165, 166, 182, 183, 184, 185, 186, 187, 188, 371, 372, 373, 374, 390, 391, 392, 393, 394, 395, 396, 397, 398, 417, 418, 406, 407, 408, 409, 410, 411, 412, 413, 414, 415, 416] (by decide +kernel) (by decide +kernel)) (goodIn_sub (fun _ h => List.mem_cons_of_mem _ (List.mem_append_left _ (List.mem_append_left _ (List.mem_append_right _ h)))) (by decide +kernel))) (goodIn_sub (fun _ h => List.mem_cons_of_mem _ (List.mem_append_right _ h)) (by decide +kernel))
set_option maxRecDepth 20000 in
theorem gL_act_L_restore : GoodIn wsL_act (va_wsS RL 179 yL_restore wsL_restore) := goodIn_app (goodIn_of _ (by decide +kernel)) ggL_act_L_restore
theorem dL_act_0 : decode cL_act 0 = .ok (.aload_n 0, 1) := by decide +kernel
theorem dL_act_1 : decode cL_act 1 = .ok (.invokevirtual 107, 3) := by decide +kernel
theorem dL_act_4 : decode cL_act 4 = .ok (.istore_n 3, 1) := by decide +kernel
theorem dL_act_5 : decode cL_act 5 = .ok (.iload_n 2, 1) := by decide +kernel
theorem dL_act_6 : decode cL_act 6 = .ok (.iload_n 3, 1) := by decide +kernel
theorem dL_act_7 : decode cL_act 7 = .ok (.irem, 1) := by decide +kernel
theorem dL_act_8 : decode cL_act 8 = .ok (.istore 4, 2) := by decide +kernel
theorem dL_act_10 : decode cL_act 10 = .ok (.iload_n 1, 1) := by decide +kernel
theorem dL_act_11 : decode cL_act 11 = .ok (.bipush 15, 2) := by decide +kernel
theorem dL_act_13 : decode cL_act 13 = .ok (.iand, 1) := by decide +kernel
theorem dL_act_14 : decode cL_act 14 = .ok (.tableswitch 177 0 14 #[74, 83, 83, 83, 83, 90, 90, 90, 104, 111, 118, 118, 118, 142, 169], 74) := by decide +kernel
theorem dL_act_88 : decode cL_act 88 = .ok (.aload_n 0, 1) := by decide +kernel
theorem dL_act_89 : decode cL_act 89 = .ok (.iload_n 1, 1) := by decide +kernel
theorem dL_act_90 : decode cL_act 90 = .ok (.iconst 4, 1) := by decide +kernel
theorem dL_act_91 : decode cL_act 91 = .ok (.ishr, 1) := by decide +kernel
theorem dL_act_92 : decode cL_act 92 = .ok (.iload_n 2, 1) := by decide +kernel
theorem dL_act_93 : decode cL_act 93 = .ok (.invokestatic 195, 3) := by decide +kernel
theorem dL_act_96 : decode cL_act 96 = .ok (.ireturn, 1) := by decide +kernel
theorem dL_act_97 : decode cL_act 97 = .ok (.aload_n 0, 1) := by decide +kernel
theorem dL_act_98 : decode cL_act 98 = .ok (.iload 4, 2) := by decide +kernel
theorem dL_act_100 : decode cL_act 100 = .ok (.invokestatic 129, 3) := by decide +kernel
theorem dL_act_103 : decode cL_act 103 = .ok (.ireturn, 1) := by decide +kernel
theorem dL_act_104 : decode cL_act 104 = .ok (.aload_n 0, 1) := by decide +kernel
theorem dL_act_105 : decode cL_act 105 = .ok (.iconst 1, 1) := by decide +kernel
theorem dL_act_106 : decode cL_act 106 = .ok (.iload_n 2, 1) := by decide +kernel
theorem dL_act_107 : decode cL_act 107 = .ok (.bipush 16, 2) := by decide +kernel
theorem dL_act_109 : decode cL_act 109 = .ok (.idiv, 1) := by decide +kernel
theorem dL_act_110 : decode cL_act 110 = .ok (.bipush 12, 2) := by decide +kernel
theorem dL_act_112 : decode cL_act 112 = .ok (.irem, 1) := by decide +kernel
theorem dL_act_113 : decode cL_act 113 = .ok (.iadd, 1) := by decide +kernel
theorem dL_act_114 : decode cL_act 114 = .ok (.invokestatic 131, 3) := by decide +kernel
theorem dL_act_117 : decode cL_act 117 = .ok (.ireturn, 1) := by decide +kernel
theorem dL_act_118 : decode cL_act 118 = .ok (.aload_n 0, 1) := by decide +kernel
theorem dL_act_119 : decode cL_act 119 = .ok (.iload 4, 2) := by decide +kernel
theorem dL_act_121 : decode cL_act 121 = .ok (.invokestatic 134, 3) := by decide +kernel
theorem dL_act_124 : decode cL_act 124 = .ok (.ireturn, 1) := by decide +kernel
theorem dL_act_125 : decode cL_act 125 = .ok (.aload_n 0, 1) := by decide +kernel
theorem dL_act_126 : decode cL_act 126 = .ok (.iload 4, 2) := by decide +kernel
theorem dL_act_128 : decode cL_act 128 = .ok (.invokestatic 136, 3) := by decide +kernel
theorem dL_act_131 : decode cL_act 131 = .ok (.ireturn, 1) := by decide +kernel
theorem dL_act_132 : decode cL_act 132 = .ok (.aload_n 0, 1) := by decide +kernel
theorem dL_act_133 : decode cL_act 133 = .ok (.iload 4, 2) := by decide +kernel
theorem dL_act_135 : decode cL_act 135 = .ok (.iconst 1, 1) := by decide +kernel
theorem dL_act_136 : decode cL_act 136 = .ok (.iload_n 2, 1) := by decide +kernel
theorem dL_act_137 : decode cL_act 137 = .ok (.bipush 16, 2) := by decide +kernel
theorem dL_act_139 : decode cL_act 139 = .ok (.idiv, 1) := by decide +kernel
theorem dL_act_140 : decode cL_act 140 = .ok (.bipush 9, 2) := by decide +kernel
theorem dL_act_142 : decode cL_act 142 = .ok (.irem, 1) := by decide +kernel
theorem dL_act_143 : decode cL_act 143 = .ok (.iadd, 1) := by decide +kernel
theorem dL_act_144 : decode cL_act 144 = .ok (.iload_n 2, 1) := by decide +kernel
theorem dL_act_145 : decode cL_act 145 = .ok (.sipush 144, 3) := by decide +kernel
theorem dL_act_148 : decode cL_act 148 = .ok (.idiv, 1) := by decide +kernel
theorem dL_act_149 : decode cL_act 149 = .ok (.bipush 10, 2) := by decide +kernel
theorem dL_act_151 : decode cL_act 151 = .ok (.irem, 1) := by decide +kernel
theorem dL_act_152 : decode cL_act 152 = .ok (.invokestatic 138, 3) := by decide +kernel
theorem dL_act_155 : decode cL_act 155 = .ok (.ireturn, 1) := by decide +kernel
theorem dL_act_156 : decode cL_act 156 = .ok (.iload_n 2, 1) := by decide +kernel
theorem dL_act_157 : decode cL_act 157 = .ok (.iconst 3, 1) := by decide +kernel
theorem dL_act_158 : decode cL_act 158 = .ok (.irem, 1) := by decide +kernel
theorem dL_act_159 : decode cL_act 159 = .ok (.ifCond .ne 10, 3) := by decide +kernel
theorem dL_act_162 : decode cL_act 162 = .ok (.aload_n 0, 1) := by decide +kernel
theorem dL_act_163 : decode cL_act 163 = .ok (.invokestatic 198, 3) := by decide +kernel
theorem dL_act_166 : decode cL_act 166 = .ok (.goto 16, 3) := by decide +kernel
theorem dL_act_169 : decode cL_act 169 = .ok (.aload_n 0, 1) := by decide +kernel
theorem dL_act_170 : decode cL_act 170 = .ok (.iconst 1, 1) := by decide +kernel
theorem dL_act_171 : decode cL_act 171 = .ok (.iload_n 2, 1) := by decide +kernel
theorem dL_act_172 : decode cL_act 172 = .ok (.bipush 16, 2) := by decide +kernel
theorem dL_act_174 : decode cL_act 174 = .ok (.idiv, 1) := by decide +kernel
theorem dL_act_175 : decode cL_act 175 = .ok (.bipush 6, 2) := by decide +kernel
theorem dL_act_177 : decode cL_act 177 = .ok (.irem, 1) := by decide +kernel
theorem dL_act_178 : decode cL_act 178 = .ok (.iadd, 1) := by decide +kernel
theorem dL_act_179 : decode cL_act 179 = .ok (.invokestatic 142, 3) := by decide +kernel
theorem dL_act_182 : decode cL_act 182 = .ok (.ireturn, 1) := by decide +kernel
theorem dL_act_183 : decode cL_act 183 = .ok (.aload_n 0, 1) := by decide +kernel
theorem dL_act_184 : decode cL_act 184 = .ok (.iload_n 2, 1) := by decide +kernel
theorem dL_act_185 : decode cL_act 185 = .ok (.iconst 1, 1) := by decide +kernel
theorem dL_act_186 : decode cL_act 186 = .ok (.iand, 1) := by decide +kernel
theorem dL_act_187 : decode cL_act 187 = .ok (.invokestatic 177, 3) := by decide +kernel
theorem dL_act_190 : decode cL_act 190 = .ok (.ireturn, 1) := by decide +kernel
theorem dL_act_191 : decode cL_act 191 = .ok (.aload_n 0, 1) := by decide +kernel
theorem dL_act_192 : decode cL_act 192 = .ok (.iload_n 2, 1) := by decide +kernel
theorem dL_act_193 : decode cL_act 193 = .ok (.iconst 1, 1) := by decide +kernel
theorem dL_act_194 : decode cL_act 194 = .ok (.iand, 1) := by decide +kernel
theorem dL_act_195 : decode cL_act 195 = .ok (.invokestatic 179, 3) := by decide +kernel
theorem dL_act_198 : decode cL_act 198 = .ok (.ireturn, 1) := by decide +kernel
set_option maxRecDepth 20000 in
theorem ggL_now_X8_totalBuckets : GoodIn wsL_now wsX8_totalBuckets := goodIn_r _ [12, 13, 14, 15, 16, 17, 18, 19, 127, 128, 129, 130, 131, 132, 133, 134, 135, 136, 137, 138, 139, 140, 141, 142, 143] (by decide +kernel) (by decide +kernel)
set_option maxRecDepth 20000 in
theorem gL_now_X8_totalBuckets : GoodIn wsL_now (wsV RL 202 RX8 yX8_totalBuckets wsX8_totalBuckets) := goodIn_app (goodIn_of _ (by decide +kernel)) ggL_now_X8_totalBuckets
set_option maxRecDepth 20000 in
theorem ggL_now_X8_totalGrade : GoodIn wsL_now wsX8_totalGrade := goodIn_r _ [23, 13, 24, 25, 26, 17, 27, 28, 127, 128, 129, 130, 131, 132, 133, 134, 135, 136, 137, 138, 139, 140, 141, 142, 143] (by decide +kernel) (by decide +kernel)
set_option maxRecDepth 20000 in
theorem gL_now_X8_totalGrade : GoodIn wsL_now (wsV RL 205 RX8 yX8_totalGrade wsX8_totalGrade) := goodIn_app (goodIn_of _ (by decide +kernel)) ggL_now_X8_totalGrade
set_option maxRecDepth 20000 in
theorem ggL_now_X8_bound : GoodIn wsL_now wsX8_bound := goodIn_r _ [32, 13, 33, 34, 35, 17, 36, 37, 127, 128, 129, 130, 131, 132, 133, 134, 135, 136, 137, 138, 139, 140, 141, 142, 143] (by decide +kernel) (by decide +kernel)
set_option maxRecDepth 20000 in
theorem gL_now_X8_bound : GoodIn wsL_now (wsV RL 210 RX8 yX8_bound wsX8_bound) := goodIn_app (goodIn_of _ (by decide +kernel)) ggL_now_X8_bound
set_option maxRecDepth 20000 in
theorem ggL_now_X8_pointCount : GoodIn wsL_now wsX8_pointCount := goodIn_r _ [41, 42, 43, 44, 45, 46, 47, 48, 127, 128, 129, 130, 131, 132, 133, 134, 135, 144, 145, 146, 147, 148] (by decide +kernel) (by decide +kernel)
set_option maxRecDepth 20000 in
theorem gL_now_X8_pointCount : GoodIn wsL_now (wsV RL 107 RX8 yX8_pointCount wsX8_pointCount) := goodIn_app (goodIn_of _ (by decide +kernel)) ggL_now_X8_pointCount
set_option maxRecDepth 20000 in
theorem ggL_now_L_drawn : GoodIn wsL_now wsL_drawn := goodIn_ca (goodIn_r _ [52, 53, 54, 55, 56, 11, 57, 13, 58, 59, 60, 61, 62, 63, 42, 64, 65, 66, 46, 67, 48, 68, 69, 70, 17, 71, 72, 127, 128, 129, 130, 131, 132, 133, 134, 135, 144, 145, 146, 147, 148, 136, 137, 138, 139, 140, 141, 142, 143] (by decide +kernel) (by decide +kernel)) (goodIn_sub (fun _ h => List.mem_cons_of_mem _ (List.mem_append_left _ (List.mem_append_right _ h))) (by decide +kernel))
set_option maxRecDepth 20000 in
theorem gL_now_L_drawn : GoodIn wsL_now (va_wsS RL 115 yL_drawn wsL_drawn) := goodIn_app (goodIn_of _ (by decide +kernel)) ggL_now_L_drawn
set_option maxRecDepth 20000 in
theorem ggL_now_L_remaining : GoodIn wsL_now wsL_remaining := goodIn_ca (goodIn_r _ [75, 53, 76, 77, 78, 11, 79, 13, 58, 59, 60, 61, 62, 63, 42, 64, 65, 66, 46, 67, 48, 80, 81, 82, 17, 83, 84, 85, 127, 128, 129, 130, 131, 132, 133, 134, 135, 144, 145, 146, 147, 148, 136, 137, 138, 139, 140, 141, 142, 143] (by decide +kernel) (by decide +kernel)) (goodIn_sub (fun _ h => List.mem_cons_of_mem _ (List.mem_append_left _ (List.mem_append_right _ h))) (by decide +kernel))
set_option maxRecDepth 20000 in
theorem gL_now_L_remaining : GoodIn wsL_now (va_wsS RL 117 yL_remaining wsL_remaining) := goodIn_app (goodIn_of _ (by decide +kernel)) ggL_now_L_remaining
set_option maxRecDepth 20000 in
theorem ggL_now_L_slices : GoodIn wsL_now wsL_slices := goodIn_ca (goodIn_r _ [88, 53, 89, 90, 91, 11, 92, 13, 58, 59, 60, 61, 62, 63, 42, 64, 65, 66, 46, 67, 48, 93, 94, 95, 17, 96, 84, 127, 128, 129, 130, 131, 132, 133, 134, 135, 144, 145, 146, 147, 148, 136, 137, 138, 139, 140, 141, 142, 143] (by decide +kernel) (by decide +kernel)) (goodIn_sub (fun _ h => List.mem_cons_of_mem _ (List.mem_append_left _ (List.mem_append_right _ h))) (by decide +kernel))
set_option maxRecDepth 20000 in
theorem gL_now_L_slices : GoodIn wsL_now (va_wsS RL 119 yL_slices wsL_slices) := goodIn_app (goodIn_of _ (by decide +kernel)) ggL_now_L_slices
set_option maxRecDepth 20000 in
theorem ggL_now_L_hung : GoodIn wsL_now wsL_hung := goodIn_ca (goodIn_r _ [99, 53, 100, 101, 102, 11, 103, 13, 58, 59, 60, 61, 62, 63, 42, 64, 65, 66, 46, 67, 48, 104, 105, 106, 17, 107, 108, 127, 128, 129, 130, 131, 132, 133, 134, 135, 144, 145, 146, 147, 148, 136, 137, 138, 139, 140, 141, 142, 143] (by decide +kernel) (by decide +kernel)) (goodIn_sub (fun _ h => List.mem_cons_of_mem _ (List.mem_append_left _ (List.mem_append_right _ h))) (by decide +kernel))
set_option maxRecDepth 20000 in
theorem gL_now_L_hung : GoodIn wsL_now (va_wsS RL 126 yL_hung wsL_hung) := goodIn_app (goodIn_of _ (by decide +kernel)) ggL_now_L_hung
set_option maxRecDepth 20000 in
theorem ggL_now_L_grade : GoodIn wsL_now wsL_grade := goodIn_ca (goodIn_ca (goodIn_r _ [111, 53, 112, 113, 114, 115, 11, 116, 13, 58, 59, 60, 61, 62, 63, 42, 64, 65, 66, 46, 67, 48, 117, 118, 119, 120, 121, 122, 123, 124, 17, 125, 84, 85, 126, 127, 128, 129, 130, 131, 132, 133, 134, 135, 144, 145, 146, 147, 148, 136, 137, 138, 139, 140, 141, 142, 143] (by decide +kernel) (by decide +kernel)) (goodIn_sub (fun _ h => List.mem_cons_of_mem _ (List.mem_append_left _ (List.mem_append_right _ h))) (by decide +kernel))) (goodIn_sub (fun _ h => List.mem_cons_of_mem _ (List.mem_append_right _ h)) (by decide +kernel))
set_option maxRecDepth 20000 in
theorem gL_now_L_grade : GoodIn wsL_now (va_wsS RL 122 yL_grade wsL_grade) := goodIn_app (goodIn_of _ (by decide +kernel)) ggL_now_L_grade
theorem dL_now_0 : decode cL_now 0 = .ok (.ldc2_w 200, 3) := by decide +kernel
theorem dL_now_3 : decode cL_now 3 = .ok (.aload_n 0, 1) := by decide +kernel
theorem dL_now_4 : decode cL_now 4 = .ok (.invokevirtual 202, 3) := by decide +kernel
theorem dL_now_7 : decode cL_now 7 = .ok (.i2l, 1) := by decide +kernel
theorem dL_now_8 : decode cL_now 8 = .ok (.lmul, 1) := by decide +kernel
theorem dL_now_9 : decode cL_now 9 = .ok (.aload_n 0, 1) := by decide +kernel
theorem dL_now_10 : decode cL_now 10 = .ok (.invokevirtual 205, 3) := by decide +kernel
theorem dL_now_13 : decode cL_now 13 = .ok (.i2l, 1) := by decide +kernel
theorem dL_now_14 : decode cL_now 14 = .ok (.ladd, 1) := by decide +kernel
theorem dL_now_15 : decode cL_now 15 = .ok (.ldc2_w 208, 3) := by decide +kernel
theorem dL_now_18 : decode cL_now 18 = .ok (.aload_n 0, 1) := by decide +kernel
theorem dL_now_19 : decode cL_now 19 = .ok (.invokevirtual 210, 3) := by decide +kernel
theorem dL_now_22 : decode cL_now 22 = .ok (.i2l, 1) := by decide +kernel
theorem dL_now_23 : decode cL_now 23 = .ok (.lmul, 1) := by decide +kernel
theorem dL_now_24 : decode cL_now 24 = .ok (.ladd, 1) := by decide +kernel
theorem dL_now_25 : decode cL_now 25 = .ok (.lstore_n 1, 1) := by decide +kernel
theorem dL_now_26 : decode cL_now 26 = .ok (.iconst 0, 1) := by decide +kernel
theorem dL_now_27 : decode cL_now 27 = .ok (.istore_n 3, 1) := by decide +kernel
theorem dL_now_28 : decode cL_now 28 = .ok (.iload_n 3, 1) := by decide +kernel
theorem dL_now_29 : decode cL_now 29 = .ok (.aload_n 0, 1) := by decide +kernel
theorem dL_now_30 : decode cL_now 30 = .ok (.invokevirtual 107, 3) := by decide +kernel
theorem dL_now_33 : decode cL_now 33 = .ok (.if_icmp .ge 97, 3) := by decide +kernel
theorem dL_now_36 : decode cL_now 36 = .ok (.ldc2_w 200, 3) := by decide +kernel
theorem dL_now_39 : decode cL_now 39 = .ok (.lload_n 1, 1) := by decide +kernel
theorem dL_now_40 : decode cL_now 40 = .ok (.lmul, 1) := by decide +kernel
theorem dL_now_41 : decode cL_now 41 = .ok (.ldc2_w 213, 3) := by decide +kernel
theorem dL_now_44 : decode cL_now 44 = .ok (.lrem, 1) := by decide +kernel
