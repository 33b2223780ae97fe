/-! the reference: step, names -/
theorem pout_i {o : Int} (h : 69 ≤ o) (h2 : pout o ≠ 126) : i32r o := by
  rw [poN h] at h2
  unfold nout nin at h2
  unfold i32r
  split at h2
  · omega
  · split at h2
    · omega
    · split at h2 <;> omega
abbrev b_MD_step : ByteArray := prog_15_method_89_code
def y_MD_step : MethodName := ⟨R_MD, "step", "(II)Z"⟩
abbrev w_MD_step : List Cond := .code y_MD_step b_MD_step 9 (Option.some .boolean) :: lw_g
set_option maxRecDepth 100000 in
theorem kC_MD_step : Cond.code y_MD_step b_MD_step 9 (Option.some .boolean) ∈ lw_g := in_g 3036 rfl rfl
theorem d_MD_step_0 : decode b_MD_step 0 = .ok (.iload_n 1, 1) := by decide +kernel
theorem d_MD_step_1 : decode b_MD_step 1 = .ok (.tableswitch 656 0 66 #[283, 291, 293, 293, 310, 656, 656, 656, 656, 656, 656, 656, 394, 403, 433, 438, 443, 656, 656, 656, 656, 656, 656, 656, 656, 656, 461, 473, 656, 656, 656, 656, 515, 542, 569, 603, 618, 656, 656, 656, 656, 656, 656, 656, 656, 656, 656, 656, 656, 656, 656, 656, 656, 656, 656, 656, 656, 656, 656, 656, 656, 656, 656, 656, 656, 633, 633], 283) := by decide +kernel
theorem d_MD_step_284 : decode b_MD_step 284 = .ok (.aload_n 0, 1) := by decide +kernel
theorem d_MD_step_285 : decode b_MD_step 285 = .ok (.bipush 9, 2) := by decide +kernel
theorem d_MD_step_287 : decode b_MD_step 287 = .ok (.iconst (-1), 1) := by decide +kernel
theorem d_MD_step_288 : decode b_MD_step 288 = .ok (.invokevirtual 115, 3) := by decide +kernel
theorem d_MD_step_291 : decode b_MD_step 291 = .ok (.athrow, 1) := by decide +kernel
theorem d_MD_step_292 : decode b_MD_step 292 = .ok (.iconst 1, 1) := by decide +kernel
theorem d_MD_step_293 : decode b_MD_step 293 = .ok (.ireturn, 1) := by decide +kernel
theorem d_MD_step_294 : decode b_MD_step 294 = .ok (.aload_n 0, 1) := by decide +kernel
theorem d_MD_step_295 : decode b_MD_step 295 = .ok (.dup, 1) := by decide +kernel
theorem d_MD_step_296 : decode b_MD_step 296 = .ok (.getfield 483, 3) := by decide +kernel
theorem d_MD_step_299 : decode b_MD_step 299 = .ok (.iconst 1, 1) := by decide +kernel
theorem d_MD_step_300 : decode b_MD_step 300 = .ok (.iadd, 1) := by decide +kernel
theorem d_MD_step_301 : decode b_MD_step 301 = .ok (.putfield 483, 3) := by decide +kernel
theorem d_MD_step_304 : decode b_MD_step 304 = .ok (.aload_n 0, 1) := by decide +kernel
theorem d_MD_step_305 : decode b_MD_step 305 = .ok (.iload_n 2, 1) := by decide +kernel
theorem d_MD_step_306 : decode b_MD_step 306 = .ok (.invokevirtual 760, 3) := by decide +kernel
theorem d_MD_step_309 : decode b_MD_step 309 = .ok (.iconst 1, 1) := by decide +kernel
theorem d_MD_step_310 : decode b_MD_step 310 = .ok (.ireturn, 1) := by decide +kernel
theorem d_MD_step_311 : decode b_MD_step 311 = .ok (.aload_n 0, 1) := by decide +kernel
theorem d_MD_step_312 : decode b_MD_step 312 = .ok (.dup, 1) := by decide +kernel
theorem d_MD_step_313 : decode b_MD_step 313 = .ok (.getfield 483, 3) := by decide +kernel
theorem d_MD_step_316 : decode b_MD_step 316 = .ok (.iconst 1, 1) := by decide +kernel
theorem d_MD_step_317 : decode b_MD_step 317 = .ok (.iadd, 1) := by decide +kernel
theorem d_MD_step_318 : decode b_MD_step 318 = .ok (.putfield 483, 3) := by decide +kernel
theorem d_MD_step_321 : decode b_MD_step 321 = .ok (.aload_n 0, 1) := by decide +kernel
theorem d_MD_step_322 : decode b_MD_step 322 = .ok (.invokevirtual 740, 3) := by decide +kernel
theorem d_MD_step_325 : decode b_MD_step 325 = .ok (.lconst 0, 1) := by decide +kernel
theorem d_MD_step_326 : decode b_MD_step 326 = .ok (.lcmp, 1) := by decide +kernel
theorem d_MD_step_327 : decode b_MD_step 327 = .ok (.ifCond .eq 7, 3) := by decide +kernel
theorem d_MD_step_330 : decode b_MD_step 330 = .ok (.iconst 1, 1) := by decide +kernel
theorem d_MD_step_331 : decode b_MD_step 331 = .ok (.goto 4, 3) := by decide +kernel
theorem d_MD_step_334 : decode b_MD_step 334 = .ok (.iconst 0, 1) := by decide +kernel
theorem d_MD_step_335 : decode b_MD_step 335 = .ok (.istore_n 3, 1) := by decide +kernel
theorem d_MD_step_336 : decode b_MD_step 336 = .ok (.iload_n 3, 1) := by decide +kernel
theorem d_MD_step_337 : decode b_MD_step 337 = .ok (.ifCond .ne 32, 3) := by decide +kernel
theorem d_MD_step_340 : decode b_MD_step 340 = .ok (.aload_n 0, 1) := by decide +kernel
theorem d_MD_step_341 : decode b_MD_step 341 = .ok (.getfield 492, 3) := by decide +kernel
theorem d_MD_step_344 : decode b_MD_step 344 = .ok (.getfield 617, 3) := by decide +kernel
theorem d_MD_step_347 : decode b_MD_step 347 = .ok (.iload_n 2, 1) := by decide +kernel
theorem d_MD_step_348 : decode b_MD_step 348 = .ok (.iaload, 1) := by decide +kernel
theorem d_MD_step_349 : decode b_MD_step 349 = .ok (.ifCond .ge 20, 3) := by decide +kernel
theorem d_MD_step_352 : decode b_MD_step 352 = .ok (.aload_n 0, 1) := by decide +kernel
theorem d_MD_step_353 : decode b_MD_step 353 = .ok (.aload_n 0, 1) := by decide +kernel
theorem d_MD_step_354 : decode b_MD_step 354 = .ok (.getfield 492, 3) := by decide +kernel
theorem d_MD_step_357 : decode b_MD_step 357 = .ok (.getfield 620, 3) := by decide +kernel
theorem d_MD_step_360 : decode b_MD_step 360 = .ok (.iload_n 2, 1) := by decide +kernel
theorem d_MD_step_361 : decode b_MD_step 361 = .ok (.iaload, 1) := by decide +kernel
theorem d_MD_step_362 : decode b_MD_step 362 = .ok (.iconst 1, 1) := by decide +kernel
theorem d_MD_step_363 : decode b_MD_step 363 = .ok (.iadd, 1) := by decide +kernel
theorem d_MD_step_364 : decode b_MD_step 364 = .ok (.putfield 483, 3) := by decide +kernel
theorem d_MD_step_367 : decode b_MD_step 367 = .ok (.iconst 1, 1) := by decide +kernel
theorem d_MD_step_368 : decode b_MD_step 368 = .ok (.ireturn, 1) := by decide +kernel
theorem d_MD_step_369 : decode b_MD_step 369 = .ok (.aload_n 0, 1) := by decide +kernel
theorem d_MD_step_370 : decode b_MD_step 370 = .ok (.iload_n 2, 1) := by decide +kernel
theorem d_MD_step_371 : decode b_MD_step 371 = .ok (.invokevirtual 760, 3) := by decide +kernel
theorem d_MD_step_374 : decode b_MD_step 374 = .ok (.iload_n 3, 1) := by decide +kernel
theorem d_MD_step_375 : decode b_MD_step 375 = .ok (.ifCond .ne 18, 3) := by decide +kernel
theorem d_MD_step_378 : decode b_MD_step 378 = .ok (.aload_n 0, 1) := by decide +kernel
theorem d_MD_step_379 : decode b_MD_step 379 = .ok (.aload_n 0, 1) := by decide +kernel
theorem d_MD_step_380 : decode b_MD_step 380 = .ok (.getfield 492, 3) := by decide +kernel
theorem d_MD_step_383 : decode b_MD_step 383 = .ok (.getfield 617, 3) := by decide +kernel
theorem d_MD_step_386 : decode b_MD_step 386 = .ok (.iload_n 2, 1) := by decide +kernel
theorem d_MD_step_387 : decode b_MD_step 387 = .ok (.iaload, 1) := by decide +kernel
theorem d_MD_step_388 : decode b_MD_step 388 = .ok (.iconst 1, 1) := by decide +kernel
theorem d_MD_step_389 : decode b_MD_step 389 = .ok (.iadd, 1) := by decide +kernel
theorem d_MD_step_390 : decode b_MD_step 390 = .ok (.putfield 483, 3) := by decide +kernel
theorem d_MD_step_393 : decode b_MD_step 393 = .ok (.iconst 1, 1) := by decide +kernel
theorem d_MD_step_394 : decode b_MD_step 394 = .ok (.ireturn, 1) := by decide +kernel
theorem d_MD_step_395 : decode b_MD_step 395 = .ok (.aload_n 0, 1) := by decide +kernel
theorem d_MD_step_396 : decode b_MD_step 396 = .ok (.aload_n 0, 1) := by decide +kernel
theorem d_MD_step_397 : decode b_MD_step 397 = .ok (.invokevirtual 552, 3) := by decide +kernel
theorem d_MD_step_400 : decode b_MD_step 400 = .ok (.invokevirtual 763, 3) := by decide +kernel
theorem d_MD_step_403 : decode b_MD_step 403 = .ok (.ireturn, 1) := by decide +kernel
theorem d_MD_step_404 : decode b_MD_step 404 = .ok (.aload_n 0, 1) := by decide +kernel
theorem d_MD_step_405 : decode b_MD_step 405 = .ok (.invokevirtual 552, 3) := by decide +kernel
theorem d_MD_step_408 : decode b_MD_step 408 = .ok (.istore 4, 2) := by decide +kernel
theorem d_MD_step_410 : decode b_MD_step 410 = .ok (.aload_n 0, 1) := by decide +kernel
theorem d_MD_step_411 : decode b_MD_step 411 = .ok (.invokevirtual 740, 3) := by decide +kernel
theorem d_MD_step_414 : decode b_MD_step 414 = .ok (.lconst 0, 1) := by decide +kernel
theorem d_MD_step_415 : decode b_MD_step 415 = .ok (.lcmp, 1) := by decide +kernel
theorem d_MD_step_416 : decode b_MD_step 416 = .ok (.ifCond .eq 12, 3) := by decide +kernel
theorem d_MD_step_419 : decode b_MD_step 419 = .ok (.aload_n 0, 1) := by decide +kernel
theorem d_MD_step_420 : decode b_MD_step 420 = .ok (.iload 4, 2) := by decide +kernel
theorem d_MD_step_422 : decode b_MD_step 422 = .ok (.invokevirtual 763, 3) := by decide +kernel
theorem d_MD_step_425 : decode b_MD_step 425 = .ok (.ifCond .eq 7, 3) := by decide +kernel
theorem d_MD_step_428 : decode b_MD_step 428 = .ok (.iconst 1, 1) := by decide +kernel
theorem d_MD_step_429 : decode b_MD_step 429 = .ok (.goto 4, 3) := by decide +kernel
theorem d_MD_step_432 : decode b_MD_step 432 = .ok (.iconst 0, 1) := by decide +kernel
theorem d_MD_step_433 : decode b_MD_step 433 = .ok (.ireturn, 1) := by decide +kernel
theorem d_MD_step_434 : decode b_MD_step 434 = .ok (.aload_n 0, 1) := by decide +kernel
theorem d_MD_step_435 : decode b_MD_step 435 = .ok (.invokevirtual 766, 3) := by decide +kernel
theorem d_MD_step_438 : decode b_MD_step 438 = .ok (.ireturn, 1) := by decide +kernel
theorem d_MD_step_439 : decode b_MD_step 439 = .ok (.aload_n 0, 1) := by decide +kernel
theorem d_MD_step_440 : decode b_MD_step 440 = .ok (.invokevirtual 743, 3) := by decide +kernel
theorem d_MD_step_443 : decode b_MD_step 443 = .ok (.ireturn, 1) := by decide +kernel
theorem d_MD_step_444 : decode b_MD_step 444 = .ok (.aload_n 0, 1) := by decide +kernel
theorem d_MD_step_445 : decode b_MD_step 445 = .ok (.invokevirtual 552, 3) := by decide +kernel
theorem d_MD_step_448 : decode b_MD_step 448 = .ok (.istore 5, 2) := by decide +kernel
theorem d_MD_step_450 : decode b_MD_step 450 = .ok (.aload_n 0, 1) := by decide +kernel
theorem d_MD_step_451 : decode b_MD_step 451 = .ok (.iload 5, 2) := by decide +kernel
theorem d_MD_step_453 : decode b_MD_step 453 = .ok (.aload_n 0, 1) := by decide +kernel
theorem d_MD_step_454 : decode b_MD_step 454 = .ok (.getfield 483, 3) := by decide +kernel
theorem d_MD_step_457 : decode b_MD_step 457 = .ok (.invokevirtual 752, 3) := by decide +kernel
theorem d_MD_step_460 : decode b_MD_step 460 = .ok (.iconst 1, 1) := by decide +kernel
theorem d_MD_step_461 : decode b_MD_step 461 = .ok (.ireturn, 1) := by decide +kernel
theorem d_MD_step_462 : decode b_MD_step 462 = .ok (.aload_n 0, 1) := by decide +kernel
theorem d_MD_step_463 : decode b_MD_step 463 = .ok (.dup, 1) := by decide +kernel
theorem d_MD_step_464 : decode b_MD_step 464 = .ok (.getfield 703, 3) := by decide +kernel
theorem d_MD_step_467 : decode b_MD_step 467 = .ok (.iconst 1, 1) := by decide +kernel
theorem d_MD_step_468 : decode b_MD_step 468 = .ok (.isub, 1) := by decide +kernel
theorem d_MD_step_469 : decode b_MD_step 469 = .ok (.putfield 703, 3) := by decide +kernel
theorem d_MD_step_472 : decode b_MD_step 472 = .ok (.iconst 1, 1) := by decide +kernel
theorem d_MD_step_473 : decode b_MD_step 473 = .ok (.ireturn, 1) := by decide +kernel
theorem d_MD_step_474 : decode b_MD_step 474 = .ok (.aload_n 0, 1) := by decide +kernel
theorem d_MD_step_475 : decode b_MD_step 475 = .ok (.invokevirtual 740, 3) := by decide +kernel
theorem d_MD_step_478 : decode b_MD_step 478 = .ok (.lconst 0, 1) := by decide +kernel
theorem d_MD_step_479 : decode b_MD_step 479 = .ok (.lcmp, 1) := by decide +kernel
theorem d_MD_step_480 : decode b_MD_step 480 = .ok (.ifCond .eq 7, 3) := by decide +kernel
theorem d_MD_step_483 : decode b_MD_step 483 = .ok (.iconst 1, 1) := by decide +kernel
theorem d_MD_step_484 : decode b_MD_step 484 = .ok (.goto 4, 3) := by decide +kernel
theorem d_MD_step_487 : decode b_MD_step 487 = .ok (.iconst 0, 1) := by decide +kernel
theorem d_MD_step_488 : decode b_MD_step 488 = .ok (.istore 6, 2) := by decide +kernel
theorem d_MD_step_490 : decode b_MD_step 490 = .ok (.aload_n 0, 1) := by decide +kernel
theorem d_MD_step_491 : decode b_MD_step 491 = .ok (.invokevirtual 740, 3) := by decide +kernel
theorem d_MD_step_494 : decode b_MD_step 494 = .ok (.lstore 7, 2) := by decide +kernel
theorem d_MD_step_496 : decode b_MD_step 496 = .ok (.iload 6, 2) := by decide +kernel
theorem d_MD_step_498 : decode b_MD_step 498 = .ok (.ifCond .ne 16, 3) := by decide +kernel
theorem d_MD_step_501 : decode b_MD_step 501 = .ok (.aload_n 0, 1) := by decide +kernel
theorem d_MD_step_502 : decode b_MD_step 502 = .ok (.getfield 710, 3) := by decide +kernel
theorem d_MD_step_505 : decode b_MD_step 505 = .ok (.aload_n 0, 1) := by decide +kernel
theorem d_MD_step_506 : decode b_MD_step 506 = .ok (.getfield 703, 3) := by decide +kernel
theorem d_MD_step_509 : decode b_MD_step 509 = .ok (.iconst 1, 1) := by decide +kernel
theorem d_MD_step_510 : decode b_MD_step 510 = .ok (.isub, 1) := by decide +kernel
theorem d_MD_step_511 : decode b_MD_step 511 = .ok (.lload 7, 2) := by decide +kernel
theorem d_MD_step_513 : decode b_MD_step 513 = .ok (.lastore, 1) := by decide +kernel
theorem d_MD_step_514 : decode b_MD_step 514 = .ok (.iconst 1, 1) := by decide +kernel
theorem d_MD_step_515 : decode b_MD_step 515 = .ok (.ireturn, 1) := by decide +kernel
theorem d_MD_step_516 : decode b_MD_step 516 = .ok (.aload_n 0, 1) := by decide +kernel
theorem d_MD_step_517 : decode b_MD_step 517 = .ok (.aload_n 0, 1) := by decide +kernel
theorem d_MD_step_518 : decode b_MD_step 518 = .ok (.getfield 710, 3) := by decide +kernel
theorem d_MD_step_521 : decode b_MD_step 521 = .ok (.aload_n 0, 1) := by decide +kernel
theorem d_MD_step_522 : decode b_MD_step 522 = .ok (.getfield 722, 3) := by decide +kernel
theorem d_MD_step_525 : decode b_MD_step 525 = .ok (.aload_n 0, 1) := by decide +kernel
theorem d_MD_step_526 : decode b_MD_step 526 = .ok (.getfield 713, 3) := by decide +kernel
theorem d_MD_step_529 : decode b_MD_step 529 = .ok (.iconst 1, 1) := by decide +kernel
theorem d_MD_step_530 : decode b_MD_step 530 = .ok (.isub, 1) := by decide +kernel
theorem d_MD_step_531 : decode b_MD_step 531 = .ok (.iaload, 1) := by decide +kernel
theorem d_MD_step_532 : decode b_MD_step 532 = .ok (.aload_n 0, 1) := by decide +kernel
theorem d_MD_step_533 : decode b_MD_step 533 = .ok (.invokevirtual 552, 3) := by decide +kernel
theorem d_MD_step_536 : decode b_MD_step 536 = .ok (.iadd, 1) := by decide +kernel
theorem d_MD_step_537 : decode b_MD_step 537 = .ok (.laload, 1) := by decide +kernel
theorem d_MD_step_538 : decode b_MD_step 538 = .ok (.invokevirtual 725, 3) := by decide +kernel
theorem d_MD_step_541 : decode b_MD_step 541 = .ok (.iconst 1, 1) := by decide +kernel
theorem d_MD_step_542 : decode b_MD_step 542 = .ok (.ireturn, 1) := by decide +kernel
theorem d_MD_step_543 : decode b_MD_step 543 = .ok (.aload_n 0, 1) := by decide +kernel
theorem d_MD_step_544 : decode b_MD_step 544 = .ok (.getfield 710, 3) := by decide +kernel
theorem d_MD_step_547 : decode b_MD_step 547 = .ok (.aload_n 0, 1) := by decide +kernel
theorem d_MD_step_548 : decode b_MD_step 548 = .ok (.getfield 722, 3) := by decide +kernel
theorem d_MD_step_551 : decode b_MD_step 551 = .ok (.aload_n 0, 1) := by decide +kernel
theorem d_MD_step_552 : decode b_MD_step 552 = .ok (.getfield 713, 3) := by decide +kernel
theorem d_MD_step_555 : decode b_MD_step 555 = .ok (.iconst 1, 1) := by decide +kernel
theorem d_MD_step_556 : decode b_MD_step 556 = .ok (.isub, 1) := by decide +kernel
theorem d_MD_step_557 : decode b_MD_step 557 = .ok (.iaload, 1) := by decide +kernel
theorem d_MD_step_558 : decode b_MD_step 558 = .ok (.aload_n 0, 1) := by decide +kernel
theorem d_MD_step_559 : decode b_MD_step 559 = .ok (.invokevirtual 552, 3) := by decide +kernel
theorem d_MD_step_562 : decode b_MD_step 562 = .ok (.iadd, 1) := by decide +kernel
theorem d_MD_step_563 : decode b_MD_step 563 = .ok (.aload_n 0, 1) := by decide +kernel
theorem d_MD_step_564 : decode b_MD_step 564 = .ok (.invokevirtual 740, 3) := by decide +kernel
theorem d_MD_step_567 : decode b_MD_step 567 = .ok (.lastore, 1) := by decide +kernel
theorem d_MD_step_568 : decode b_MD_step 568 = .ok (.iconst 1, 1) := by decide +kernel
theorem d_MD_step_569 : decode b_MD_step 569 = .ok (.ireturn, 1) := by decide +kernel
theorem d_MD_step_570 : decode b_MD_step 570 = .ok (.aload_n 0, 1) := by decide +kernel
theorem d_MD_step_571 : decode b_MD_step 571 = .ok (.getfield 710, 3) := by decide +kernel
theorem d_MD_step_574 : decode b_MD_step 574 = .ok (.aload_n 0, 1) := by decide +kernel
theorem d_MD_step_575 : decode b_MD_step 575 = .ok (.getfield 722, 3) := by decide +kernel
theorem d_MD_step_578 : decode b_MD_step 578 = .ok (.aload_n 0, 1) := by decide +kernel
theorem d_MD_step_579 : decode b_MD_step 579 = .ok (.getfield 713, 3) := by decide +kernel
theorem d_MD_step_582 : decode b_MD_step 582 = .ok (.iconst 1, 1) := by decide +kernel
theorem d_MD_step_583 : decode b_MD_step 583 = .ok (.isub, 1) := by decide +kernel
theorem d_MD_step_584 : decode b_MD_step 584 = .ok (.iaload, 1) := by decide +kernel
theorem d_MD_step_585 : decode b_MD_step 585 = .ok (.aload_n 0, 1) := by decide +kernel
theorem d_MD_step_586 : decode b_MD_step 586 = .ok (.invokevirtual 552, 3) := by decide +kernel
theorem d_MD_step_589 : decode b_MD_step 589 = .ok (.iadd, 1) := by decide +kernel
theorem d_MD_step_590 : decode b_MD_step 590 = .ok (.aload_n 0, 1) := by decide +kernel
theorem d_MD_step_591 : decode b_MD_step 591 = .ok (.getfield 710, 3) := by decide +kernel
theorem d_MD_step_594 : decode b_MD_step 594 = .ok (.aload_n 0, 1) := by decide +kernel
theorem d_MD_step_595 : decode b_MD_step 595 = .ok (.getfield 703, 3) := by decide +kernel
theorem d_MD_step_598 : decode b_MD_step 598 = .ok (.iconst 1, 1) := by decide +kernel
theorem d_MD_step_599 : decode b_MD_step 599 = .ok (.isub, 1) := by decide +kernel
theorem d_MD_step_600 : decode b_MD_step 600 = .ok (.laload, 1) := by decide +kernel
theorem d_MD_step_601 : decode b_MD_step 601 = .ok (.lastore, 1) := by decide +kernel
theorem d_MD_step_602 : decode b_MD_step 602 = .ok (.iconst 1, 1) := by decide +kernel
theorem d_MD_step_603 : decode b_MD_step 603 = .ok (.ireturn, 1) := by decide +kernel
theorem d_MD_step_604 : decode b_MD_step 604 = .ok (.aload_n 0, 1) := by decide +kernel
theorem d_MD_step_605 : decode b_MD_step 605 = .ok (.aload_n 0, 1) := by decide +kernel
theorem d_MD_step_606 : decode b_MD_step 606 = .ok (.getfield 769, 3) := by decide +kernel
theorem d_MD_step_609 : decode b_MD_step 609 = .ok (.aload_n 0, 1) := by decide +kernel
theorem d_MD_step_610 : decode b_MD_step 610 = .ok (.invokevirtual 552, 3) := by decide +kernel
theorem d_MD_step_613 : decode b_MD_step 613 = .ok (.laload, 1) := by decide +kernel
theorem d_MD_step_614 : decode b_MD_step 614 = .ok (.invokevirtual 725, 3) := by decide +kernel
theorem d_MD_step_617 : decode b_MD_step 617 = .ok (.iconst 1, 1) := by decide +kernel
theorem d_MD_step_618 : decode b_MD_step 618 = .ok (.ireturn, 1) := by decide +kernel
theorem d_MD_step_619 : decode b_MD_step 619 = .ok (.aload_n 0, 1) := by decide +kernel
theorem d_MD_step_620 : decode b_MD_step 620 = .ok (.getfield 769, 3) := by decide +kernel
theorem d_MD_step_623 : decode b_MD_step 623 = .ok (.aload_n 0, 1) := by decide +kernel
theorem d_MD_step_624 : decode b_MD_step 624 = .ok (.invokevirtual 552, 3) := by decide +kernel
theorem d_MD_step_627 : decode b_MD_step 627 = .ok (.aload_n 0, 1) := by decide +kernel
theorem d_MD_step_628 : decode b_MD_step 628 = .ok (.invokevirtual 740, 3) := by decide +kernel
theorem d_MD_step_631 : decode b_MD_step 631 = .ok (.lastore, 1) := by decide +kernel
theorem d_MD_step_632 : decode b_MD_step 632 = .ok (.iconst 1, 1) := by decide +kernel
theorem d_MD_step_633 : decode b_MD_step 633 = .ok (.ireturn, 1) := by decide +kernel
theorem d_MD_step_634 : decode b_MD_step 634 = .ok (.aload_n 0, 1) := by decide +kernel
theorem d_MD_step_635 : decode b_MD_step 635 = .ok (.aload_n 0, 1) := by decide +kernel
theorem d_MD_step_636 : decode b_MD_step 636 = .ok (.iload_n 1, 1) := by decide +kernel
theorem d_MD_step_637 : decode b_MD_step 637 = .ok (.bipush 65, 2) := by decide +kernel
theorem d_MD_step_639 : decode b_MD_step 639 = .ok (.if_icmp .ne 8, 3) := by decide +kernel
theorem d_MD_step_642 : decode b_MD_step 642 = .ok (.bipush 32, 2) := by decide +kernel
theorem d_MD_step_644 : decode b_MD_step 644 = .ok (.goto 5, 3) := by decide +kernel
theorem d_MD_step_647 : decode b_MD_step 647 = .ok (.bipush 64, 2) := by decide +kernel
theorem d_MD_step_649 : decode b_MD_step 649 = .ok (.invokevirtual 596, 3) := by decide +kernel
theorem d_MD_step_652 : decode b_MD_step 652 = .ok (.invokevirtual 725, 3) := by decide +kernel
theorem d_MD_step_655 : decode b_MD_step 655 = .ok (.iconst 1, 1) := by decide +kernel
theorem d_MD_step_656 : decode b_MD_step 656 = .ok (.ireturn, 1) := by decide +kernel
theorem d_MD_step_657 : decode b_MD_step 657 = .ok (.iload_n 1, 1) := by decide +kernel
theorem d_MD_step_658 : decode b_MD_step 658 = .ok (.bipush 64, 2) := by decide +kernel
theorem d_MD_step_660 : decode b_MD_step 660 = .ok (.if_icmp .gt 11, 3) := by decide +kernel
theorem d_MD_step_663 : decode b_MD_step 663 = .ok (.aload_n 0, 1) := by decide +kernel
theorem d_MD_step_664 : decode b_MD_step 664 = .ok (.iload_n 1, 1) := by decide +kernel
theorem d_MD_step_665 : decode b_MD_step 665 = .ok (.invokevirtual 771, 3) := by decide +kernel
theorem d_MD_step_668 : decode b_MD_step 668 = .ok (.goto 8, 3) := by decide +kernel
theorem d_MD_step_671 : decode b_MD_step 671 = .ok (.aload_n 0, 1) := by decide +kernel
theorem d_MD_step_672 : decode b_MD_step 672 = .ok (.iload_n 1, 1) := by decide +kernel
theorem d_MD_step_673 : decode b_MD_step 673 = .ok (.invokevirtual 774, 3) := by decide +kernel
theorem d_MD_step_676 : decode b_MD_step 676 = .ok (.iconst 1, 1) := by decide +kernel
theorem d_MD_step_677 : decode b_MD_step 677 = .ok (.ireturn, 1) := by decide +kernel
theorem kM_MD_760 : Cond.methodLink R_MD 760 y_MD_enterBlock ∈ lw_g := in_g 3037 (by decide +kernel) rfl
theorem kV_MD_enterBlock : Cond.instanceMethod y_MD_enterBlock ∈ lw_g := in_g 3039 (by decide +kernel) rfl
theorem kS_MD_enterBlock : Cond.selects R_MD y_MD_enterBlock y_MD_enterBlock ∈ lw_g := in_s 203 (by decide +kernel) rfl
theorem kM_MD_766 : Cond.methodLink R_MD 766 y_MD_table ∈ lw_g := in_g 3049 (by decide +kernel) rfl
theorem kV_MD_table : Cond.instanceMethod y_MD_table ∈ lw_g := in_g 3051 (by decide +kernel) rfl
theorem kS_MD_table : Cond.selects R_MD y_MD_table y_MD_table ∈ lw_g := in_s 206 (by decide +kernel) rfl
theorem kM_MD_752 : Cond.methodLink R_MD 752 y_MD_begin ∈ lw_g := in_g 3012 (by decide +kernel) rfl
theorem kV_MD_begin : Cond.instanceMethod y_MD_begin ∈ lw_g := in_g 3014 (by decide +kernel) rfl
theorem kS_MD_begin : Cond.selects R_MD y_MD_begin y_MD_begin ∈ lw_g := in_s 197 (by decide +kernel) rfl
theorem kM_MD_771 : Cond.methodLink R_MD 771 y_MD_memoryStep ∈ lw_g := in_g 3054 (by decide +kernel) rfl
theorem kV_MD_memoryStep : Cond.instanceMethod y_MD_memoryStep ∈ lw_g := in_g 3056 (by decide +kernel) rfl
theorem kS_MD_memoryStep : Cond.selects R_MD y_MD_memoryStep y_MD_memoryStep ∈ lw_g := in_s 207 (by decide +kernel) rfl
theorem kM_MD_774 : Cond.methodLink R_MD 774 y_MD_numbers ∈ lw_g := in_g 3059 (by decide +kernel) rfl
theorem kV_MD_numbers : Cond.instanceMethod y_MD_numbers ∈ lw_g := in_g 3061 (by decide +kernel) rfl
theorem kS_MD_numbers : Cond.selects R_MD y_MD_numbers y_MD_numbers ∈ lw_g := in_s 208 (by decide +kernel) rfl
