theorem d_lw_law_386 : decode code 386 = .ok (.iconst 3, 1) := by decide +kernel
theorem d_lw_law_387 : decode code 387 = .ok (.iadd, 1) := by decide +kernel
theorem d_lw_law_388 : decode code 388 = .ok (.iaload, 1) := by decide +kernel
theorem d_lw_law_389 : decode code 389 = .ok (.aload_n 0, 1) := by decide +kernel
theorem d_lw_law_390 : decode code 390 = .ok (.iload 4, 2) := by decide +kernel
theorem d_lw_law_392 : decode code 392 = .ok (.iconst 4, 1) := by decide +kernel
theorem d_lw_law_393 : decode code 393 = .ok (.iadd, 1) := by decide +kernel
theorem d_lw_law_394 : decode code 394 = .ok (.iaload, 1) := by decide +kernel
theorem d_lw_law_395 : decode code 395 = .ok (.aload_n 3, 1) := by decide +kernel
theorem d_lw_law_396 : decode code 396 = .ok (.invokestatic 73, 3) := by decide +kernel
theorem d_lw_law_399 : decode code 399 = .ok (.istore 5, 2) := by decide +kernel
theorem d_lw_law_401 : decode code 401 = .ok (.aload_n 2, 1) := by decide +kernel
theorem d_lw_law_402 : decode code 402 = .ok (.aload_n 0, 1) := by decide +kernel
theorem d_lw_law_403 : decode code 403 = .ok (.iload 4, 2) := by decide +kernel
theorem d_lw_law_405 : decode code 405 = .ok (.iconst 1, 1) := by decide +kernel
theorem d_lw_law_406 : decode code 406 = .ok (.iadd, 1) := by decide +kernel
theorem d_lw_law_407 : decode code 407 = .ok (.iaload, 1) := by decide +kernel
theorem d_lw_law_408 : decode code 408 = .ok (.aload_n 0, 1) := by decide +kernel
theorem d_lw_law_409 : decode code 409 = .ok (.iload 4, 2) := by decide +kernel
theorem d_lw_law_411 : decode code 411 = .ok (.iconst 2, 1) := by decide +kernel
theorem d_lw_law_412 : decode code 412 = .ok (.iadd, 1) := by decide +kernel
theorem d_lw_law_413 : decode code 413 = .ok (.iaload, 1) := by decide +kernel
theorem d_lw_law_414 : decode code 414 = .ok (.aload_n 0, 1) := by decide +kernel
theorem d_lw_law_415 : decode code 415 = .ok (.iload 4, 2) := by decide +kernel
theorem d_lw_law_417 : decode code 417 = .ok (.iconst 3, 1) := by decide +kernel
theorem d_lw_law_418 : decode code 418 = .ok (.iadd, 1) := by decide +kernel
theorem d_lw_law_419 : decode code 419 = .ok (.iaload, 1) := by decide +kernel
theorem d_lw_law_420 : decode code 420 = .ok (.aload_n 0, 1) := by decide +kernel
theorem d_lw_law_421 : decode code 421 = .ok (.iload 4, 2) := by decide +kernel
theorem d_lw_law_423 : decode code 423 = .ok (.iconst 4, 1) := by decide +kernel
theorem d_lw_law_424 : decode code 424 = .ok (.iadd, 1) := by decide +kernel
theorem d_lw_law_425 : decode code 425 = .ok (.iaload, 1) := by decide +kernel
theorem d_lw_law_426 : decode code 426 = .ok (.invokevirtual 75, 3) := by decide +kernel
theorem d_lw_law_429 : decode code 429 = .ok (.istore 6, 2) := by decide +kernel
theorem d_lw_law_431 : decode code 431 = .ok (.aload_n 2, 1) := by decide +kernel
theorem d_lw_law_432 : decode code 432 = .ok (.invokevirtual 55, 3) := by decide +kernel
theorem d_lw_law_435 : decode code 435 = .ok (.iload 5, 2) := by decide +kernel
theorem d_lw_law_437 : decode code 437 = .ok (.if_icmp .eq 5, 3) := by decide +kernel
theorem d_lw_law_440 : decode code 440 = .ok (.iconst 0, 1) := by decide +kernel
theorem d_lw_law_441 : decode code 441 = .ok (.ireturn, 1) := by decide +kernel
theorem d_lw_law_442 : decode code 442 = .ok (.iload 5, 2) := by decide +kernel
theorem d_lw_law_444 : decode code 444 = .ok (.ifCond .ne 15, 3) := by decide +kernel
theorem d_lw_law_447 : decode code 447 = .ok (.aload_n 3, 1) := by decide +kernel
theorem d_lw_law_448 : decode code 448 = .ok (.iconst 0, 1) := by decide +kernel
theorem d_lw_law_449 : decode code 449 = .ok (.laload, 1) := by decide +kernel
theorem d_lw_law_450 : decode code 450 = .ok (.iload 6, 2) := by decide +kernel
theorem d_lw_law_452 : decode code 452 = .ok (.i2l, 1) := by decide +kernel
theorem d_lw_law_453 : decode code 453 = .ok (.lcmp, 1) := by decide +kernel
theorem d_lw_law_454 : decode code 454 = .ok (.ifCond .eq 5, 3) := by decide +kernel
theorem d_lw_law_457 : decode code 457 = .ok (.iconst 0, 1) := by decide +kernel
theorem d_lw_law_458 : decode code 458 = .ok (.ireturn, 1) := by decide +kernel
theorem d_lw_law_459 : decode code 459 = .ok (.goto 558, 3) := by decide +kernel
theorem d_lw_law_462 : decode code 462 = .ok (.aload_n 1, 1) := by decide +kernel
theorem d_lw_law_463 : decode code 463 = .ok (.aload_n 0, 1) := by decide +kernel
theorem d_lw_law_464 : decode code 464 = .ok (.iload 4, 2) := by decide +kernel
theorem d_lw_law_466 : decode code 466 = .ok (.iconst 1, 1) := by decide +kernel
theorem d_lw_law_467 : decode code 467 = .ok (.iadd, 1) := by decide +kernel
theorem d_lw_law_468 : decode code 468 = .ok (.iaload, 1) := by decide +kernel
theorem d_lw_law_469 : decode code 469 = .ok (.aload_n 0, 1) := by decide +kernel
theorem d_lw_law_470 : decode code 470 = .ok (.iload 4, 2) := by decide +kernel
theorem d_lw_law_472 : decode code 472 = .ok (.iconst 2, 1) := by decide +kernel
theorem d_lw_law_473 : decode code 473 = .ok (.iadd, 1) := by decide +kernel
theorem d_lw_law_474 : decode code 474 = .ok (.iaload, 1) := by decide +kernel
theorem d_lw_law_475 : decode code 475 = .ok (.aload_n 0, 1) := by decide +kernel
theorem d_lw_law_476 : decode code 476 = .ok (.iload 4, 2) := by decide +kernel
theorem d_lw_law_478 : decode code 478 = .ok (.iconst 3, 1) := by decide +kernel
theorem d_lw_law_479 : decode code 479 = .ok (.iadd, 1) := by decide +kernel
theorem d_lw_law_480 : decode code 480 = .ok (.iaload, 1) := by decide +kernel
theorem d_lw_law_481 : decode code 481 = .ok (.aload_n 0, 1) := by decide +kernel
theorem d_lw_law_482 : decode code 482 = .ok (.iload 4, 2) := by decide +kernel
theorem d_lw_law_484 : decode code 484 = .ok (.iconst 4, 1) := by decide +kernel
theorem d_lw_law_485 : decode code 485 = .ok (.iadd, 1) := by decide +kernel
theorem d_lw_law_486 : decode code 486 = .ok (.iaload, 1) := by decide +kernel
theorem d_lw_law_487 : decode code 487 = .ok (.aload_n 3, 1) := by decide +kernel
theorem d_lw_law_488 : decode code 488 = .ok (.invokestatic 76, 3) := by decide +kernel
theorem d_lw_law_491 : decode code 491 = .ok (.istore 5, 2) := by decide +kernel
theorem d_lw_law_493 : decode code 493 = .ok (.aload_n 2, 1) := by decide +kernel
theorem d_lw_law_494 : decode code 494 = .ok (.aload_n 0, 1) := by decide +kernel
theorem d_lw_law_495 : decode code 495 = .ok (.iload 4, 2) := by decide +kernel
theorem d_lw_law_497 : decode code 497 = .ok (.iconst 1, 1) := by decide +kernel
theorem d_lw_law_498 : decode code 498 = .ok (.iadd, 1) := by decide +kernel
theorem d_lw_law_499 : decode code 499 = .ok (.iaload, 1) := by decide +kernel
theorem d_lw_law_500 : decode code 500 = .ok (.aload_n 0, 1) := by decide +kernel
theorem d_lw_law_501 : decode code 501 = .ok (.iload 4, 2) := by decide +kernel
theorem d_lw_law_503 : decode code 503 = .ok (.iconst 2, 1) := by decide +kernel
theorem d_lw_law_504 : decode code 504 = .ok (.iadd, 1) := by decide +kernel
theorem d_lw_law_505 : decode code 505 = .ok (.iaload, 1) := by decide +kernel
theorem d_lw_law_506 : decode code 506 = .ok (.aload_n 0, 1) := by decide +kernel
theorem d_lw_law_507 : decode code 507 = .ok (.iload 4, 2) := by decide +kernel
theorem d_lw_law_509 : decode code 509 = .ok (.iconst 3, 1) := by decide +kernel
theorem d_lw_law_510 : decode code 510 = .ok (.iadd, 1) := by decide +kernel
theorem d_lw_law_511 : decode code 511 = .ok (.iaload, 1) := by decide +kernel
theorem d_lw_law_512 : decode code 512 = .ok (.aload_n 0, 1) := by decide +kernel
theorem d_lw_law_513 : decode code 513 = .ok (.iload 4, 2) := by decide +kernel
theorem d_lw_law_515 : decode code 515 = .ok (.iconst 4, 1) := by decide +kernel
theorem d_lw_law_516 : decode code 516 = .ok (.iadd, 1) := by decide +kernel
theorem d_lw_law_517 : decode code 517 = .ok (.iaload, 1) := by decide +kernel
theorem d_lw_law_518 : decode code 518 = .ok (.invokevirtual 78, 3) := by decide +kernel
theorem d_lw_law_521 : decode code 521 = .ok (.istore 6, 2) := by decide +kernel
theorem d_lw_law_523 : decode code 523 = .ok (.aload_n 2, 1) := by decide +kernel
theorem d_lw_law_524 : decode code 524 = .ok (.invokevirtual 55, 3) := by decide +kernel
theorem d_lw_law_527 : decode code 527 = .ok (.iload 5, 2) := by decide +kernel
theorem d_lw_law_529 : decode code 529 = .ok (.if_icmp .eq 5, 3) := by decide +kernel
theorem d_lw_law_532 : decode code 532 = .ok (.iconst 0, 1) := by decide +kernel
theorem d_lw_law_533 : decode code 533 = .ok (.ireturn, 1) := by decide +kernel
theorem d_lw_law_534 : decode code 534 = .ok (.iload 5, 2) := by decide +kernel
theorem d_lw_law_536 : decode code 536 = .ok (.ifCond .ne 15, 3) := by decide +kernel
theorem d_lw_law_539 : decode code 539 = .ok (.aload_n 3, 1) := by decide +kernel
theorem d_lw_law_540 : decode code 540 = .ok (.iconst 0, 1) := by decide +kernel
theorem d_lw_law_541 : decode code 541 = .ok (.laload, 1) := by decide +kernel
