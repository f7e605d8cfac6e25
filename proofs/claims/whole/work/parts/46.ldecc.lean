theorem d_w_law_453 : decode code 453 = .ok (.aload_n 2, 1) := by decide +kernel
theorem d_w_law_454 : decode code 454 = .ok (.invokevirtual 87, 3) := by decide +kernel
theorem d_w_law_457 : decode code 457 = .ok (.iload 5, 2) := by decide +kernel
theorem d_w_law_459 : decode code 459 = .ok (.if_icmp .eq 5, 3) := by decide +kernel
theorem d_w_law_462 : decode code 462 = .ok (.iconst 0, 1) := by decide +kernel
theorem d_w_law_463 : decode code 463 = .ok (.ireturn, 1) := by decide +kernel
theorem d_w_law_464 : decode code 464 = .ok (.iload 5, 2) := by decide +kernel
theorem d_w_law_466 : decode code 466 = .ok (.ifCond .ne 15, 3) := by decide +kernel
theorem d_w_law_469 : decode code 469 = .ok (.aload_n 3, 1) := by decide +kernel
theorem d_w_law_470 : decode code 470 = .ok (.iconst 0, 1) := by decide +kernel
theorem d_w_law_471 : decode code 471 = .ok (.laload, 1) := by decide +kernel
theorem d_w_law_472 : decode code 472 = .ok (.iload 6, 2) := by decide +kernel
theorem d_w_law_474 : decode code 474 = .ok (.i2l, 1) := by decide +kernel
theorem d_w_law_475 : decode code 475 = .ok (.lcmp, 1) := by decide +kernel
theorem d_w_law_476 : decode code 476 = .ok (.ifCond .eq 5, 3) := by decide +kernel
theorem d_w_law_479 : decode code 479 = .ok (.iconst 0, 1) := by decide +kernel
theorem d_w_law_480 : decode code 480 = .ok (.ireturn, 1) := by decide +kernel
theorem d_w_law_481 : decode code 481 = .ok (.goto 702, 3) := by decide +kernel
theorem d_w_law_484 : decode code 484 = .ok (.aload_n 1, 1) := by decide +kernel
theorem d_w_law_485 : decode code 485 = .ok (.aload_n 0, 1) := by decide +kernel
theorem d_w_law_486 : decode code 486 = .ok (.iload 4, 2) := by decide +kernel
theorem d_w_law_488 : decode code 488 = .ok (.iconst 1, 1) := by decide +kernel
theorem d_w_law_489 : decode code 489 = .ok (.iadd, 1) := by decide +kernel
theorem d_w_law_490 : decode code 490 = .ok (.iaload, 1) := by decide +kernel
theorem d_w_law_491 : decode code 491 = .ok (.aload_n 3, 1) := by decide +kernel
theorem d_w_law_492 : decode code 492 = .ok (.invokestatic 112, 3) := by decide +kernel
theorem d_w_law_495 : decode code 495 = .ok (.istore 5, 2) := by decide +kernel
theorem d_w_law_497 : decode code 497 = .ok (.aload_n 2, 1) := by decide +kernel
theorem d_w_law_498 : decode code 498 = .ok (.aload_n 0, 1) := by decide +kernel
theorem d_w_law_499 : decode code 499 = .ok (.iload 4, 2) := by decide +kernel
theorem d_w_law_501 : decode code 501 = .ok (.iconst 1, 1) := by decide +kernel
theorem d_w_law_502 : decode code 502 = .ok (.iadd, 1) := by decide +kernel
theorem d_w_law_503 : decode code 503 = .ok (.iaload, 1) := by decide +kernel
theorem d_w_law_504 : decode code 504 = .ok (.invokevirtual 115, 3) := by decide +kernel
theorem d_w_law_507 : decode code 507 = .ok (.istore 6, 2) := by decide +kernel
theorem d_w_law_509 : decode code 509 = .ok (.aload_n 2, 1) := by decide +kernel
theorem d_w_law_510 : decode code 510 = .ok (.invokevirtual 87, 3) := by decide +kernel
theorem d_w_law_513 : decode code 513 = .ok (.iload 5, 2) := by decide +kernel
theorem d_w_law_515 : decode code 515 = .ok (.if_icmp .eq 5, 3) := by decide +kernel
theorem d_w_law_518 : decode code 518 = .ok (.iconst 0, 1) := by decide +kernel
theorem d_w_law_519 : decode code 519 = .ok (.ireturn, 1) := by decide +kernel
theorem d_w_law_520 : decode code 520 = .ok (.iload 5, 2) := by decide +kernel
theorem d_w_law_522 : decode code 522 = .ok (.ifCond .ne 15, 3) := by decide +kernel
theorem d_w_law_525 : decode code 525 = .ok (.aload_n 3, 1) := by decide +kernel
theorem d_w_law_526 : decode code 526 = .ok (.iconst 0, 1) := by decide +kernel
theorem d_w_law_527 : decode code 527 = .ok (.laload, 1) := by decide +kernel
theorem d_w_law_528 : decode code 528 = .ok (.iload 6, 2) := by decide +kernel
theorem d_w_law_530 : decode code 530 = .ok (.i2l, 1) := by decide +kernel
theorem d_w_law_531 : decode code 531 = .ok (.lcmp, 1) := by decide +kernel
theorem d_w_law_532 : decode code 532 = .ok (.ifCond .eq 5, 3) := by decide +kernel
theorem d_w_law_535 : decode code 535 = .ok (.iconst 0, 1) := by decide +kernel
theorem d_w_law_536 : decode code 536 = .ok (.ireturn, 1) := by decide +kernel
theorem d_w_law_537 : decode code 537 = .ok (.goto 646, 3) := by decide +kernel
theorem d_w_law_540 : decode code 540 = .ok (.aload_n 1, 1) := by decide +kernel
theorem d_w_law_541 : decode code 541 = .ok (.aload_n 0, 1) := by decide +kernel
theorem d_w_law_542 : decode code 542 = .ok (.iload 4, 2) := by decide +kernel
theorem d_w_law_544 : decode code 544 = .ok (.iconst 1, 1) := by decide +kernel
theorem d_w_law_545 : decode code 545 = .ok (.iadd, 1) := by decide +kernel
theorem d_w_law_546 : decode code 546 = .ok (.iaload, 1) := by decide +kernel
theorem d_w_law_547 : decode code 547 = .ok (.aload_n 3, 1) := by decide +kernel
theorem d_w_law_548 : decode code 548 = .ok (.invokestatic 116, 3) := by decide +kernel
theorem d_w_law_551 : decode code 551 = .ok (.istore 5, 2) := by decide +kernel
theorem d_w_law_553 : decode code 553 = .ok (.aload_n 2, 1) := by decide +kernel
theorem d_w_law_554 : decode code 554 = .ok (.aload_n 0, 1) := by decide +kernel
theorem d_w_law_555 : decode code 555 = .ok (.iload 4, 2) := by decide +kernel
theorem d_w_law_557 : decode code 557 = .ok (.iconst 1, 1) := by decide +kernel
theorem d_w_law_558 : decode code 558 = .ok (.iadd, 1) := by decide +kernel
theorem d_w_law_559 : decode code 559 = .ok (.iaload, 1) := by decide +kernel
theorem d_w_law_560 : decode code 560 = .ok (.invokevirtual 118, 3) := by decide +kernel
theorem d_w_law_563 : decode code 563 = .ok (.istore 6, 2) := by decide +kernel
theorem d_w_law_565 : decode code 565 = .ok (.aload_n 2, 1) := by decide +kernel
theorem d_w_law_566 : decode code 566 = .ok (.invokevirtual 87, 3) := by decide +kernel
theorem d_w_law_569 : decode code 569 = .ok (.iload 5, 2) := by decide +kernel
theorem d_w_law_571 : decode code 571 = .ok (.if_icmp .eq 5, 3) := by decide +kernel
theorem d_w_law_574 : decode code 574 = .ok (.iconst 0, 1) := by decide +kernel
theorem d_w_law_575 : decode code 575 = .ok (.ireturn, 1) := by decide +kernel
theorem d_w_law_576 : decode code 576 = .ok (.iload 5, 2) := by decide +kernel
theorem d_w_law_578 : decode code 578 = .ok (.ifCond .ne 15, 3) := by decide +kernel
theorem d_w_law_581 : decode code 581 = .ok (.aload_n 3, 1) := by decide +kernel
theorem d_w_law_582 : decode code 582 = .ok (.iconst 0, 1) := by decide +kernel
theorem d_w_law_583 : decode code 583 = .ok (.laload, 1) := by decide +kernel
theorem d_w_law_584 : decode code 584 = .ok (.iload 6, 2) := by decide +kernel
theorem d_w_law_586 : decode code 586 = .ok (.i2l, 1) := by decide +kernel
theorem d_w_law_587 : decode code 587 = .ok (.lcmp, 1) := by decide +kernel
theorem d_w_law_588 : decode code 588 = .ok (.ifCond .eq 5, 3) := by decide +kernel
theorem d_w_law_591 : decode code 591 = .ok (.iconst 0, 1) := by decide +kernel
theorem d_w_law_592 : decode code 592 = .ok (.ireturn, 1) := by decide +kernel
theorem d_w_law_593 : decode code 593 = .ok (.goto 590, 3) := by decide +kernel
theorem d_w_law_596 : decode code 596 = .ok (.aload_n 1, 1) := by decide +kernel
theorem d_w_law_597 : decode code 597 = .ok (.aload_n 0, 1) := by decide +kernel
theorem d_w_law_598 : decode code 598 = .ok (.iload 4, 2) := by decide +kernel
theorem d_w_law_600 : decode code 600 = .ok (.iconst 1, 1) := by decide +kernel
theorem d_w_law_601 : decode code 601 = .ok (.iadd, 1) := by decide +kernel
theorem d_w_law_602 : decode code 602 = .ok (.iaload, 1) := by decide +kernel
theorem d_w_law_603 : decode code 603 = .ok (.aload_n 0, 1) := by decide +kernel
theorem d_w_law_604 : decode code 604 = .ok (.iload 4, 2) := by decide +kernel
theorem d_w_law_606 : decode code 606 = .ok (.iconst 2, 1) := by decide +kernel
theorem d_w_law_607 : decode code 607 = .ok (.iadd, 1) := by decide +kernel
theorem d_w_law_608 : decode code 608 = .ok (.iaload, 1) := by decide +kernel
theorem d_w_law_609 : decode code 609 = .ok (.aload_n 3, 1) := by decide +kernel
theorem d_w_law_610 : decode code 610 = .ok (.invokestatic 119, 3) := by decide +kernel
theorem d_w_law_613 : decode code 613 = .ok (.istore 5, 2) := by decide +kernel
theorem d_w_law_615 : decode code 615 = .ok (.aload_n 2, 1) := by decide +kernel
theorem d_w_law_616 : decode code 616 = .ok (.aload_n 0, 1) := by decide +kernel
theorem d_w_law_617 : decode code 617 = .ok (.iload 4, 2) := by decide +kernel
theorem d_w_law_619 : decode code 619 = .ok (.iconst 1, 1) := by decide +kernel
theorem d_w_law_620 : decode code 620 = .ok (.iadd, 1) := by decide +kernel
theorem d_w_law_621 : decode code 621 = .ok (.iaload, 1) := by decide +kernel
theorem d_w_law_622 : decode code 622 = .ok (.aload_n 0, 1) := by decide +kernel
theorem d_w_law_623 : decode code 623 = .ok (.iload 4, 2) := by decide +kernel
theorem d_w_law_625 : decode code 625 = .ok (.iconst 2, 1) := by decide +kernel
theorem d_w_law_626 : decode code 626 = .ok (.iadd, 1) := by decide +kernel
theorem d_w_law_627 : decode code 627 = .ok (.iaload, 1) := by decide +kernel
theorem d_w_law_628 : decode code 628 = .ok (.invokevirtual 121, 3) := by decide +kernel
theorem d_w_law_631 : decode code 631 = .ok (.lstore 6, 2) := by decide +kernel
theorem d_w_law_633 : decode code 633 = .ok (.aload_n 2, 1) := by decide +kernel
theorem d_w_law_634 : decode code 634 = .ok (.invokevirtual 87, 3) := by decide +kernel
theorem d_w_law_637 : decode code 637 = .ok (.iload 5, 2) := by decide +kernel
theorem d_w_law_639 : decode code 639 = .ok (.if_icmp .eq 5, 3) := by decide +kernel
theorem d_w_law_642 : decode code 642 = .ok (.iconst 0, 1) := by decide +kernel
