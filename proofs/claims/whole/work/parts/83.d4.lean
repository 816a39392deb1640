/-! law: decode rows -/
theorem dLW_law_484 : decode cLW_law 484 = .ok (.iaload, 1) := by decide +kernel
theorem dLW_law_485 : decode cLW_law 485 = .ok (.i2l, 1) := by decide +kernel
theorem dLW_law_486 : decode cLW_law 486 = .ok (.ldc2_w 68, 3) := by decide +kernel
theorem dLW_law_489 : decode cLW_law 489 = .ok (.land, 1) := by decide +kernel
theorem dLW_law_490 : decode cLW_law 490 = .ok (.lor, 1) := by decide +kernel
theorem dLW_law_491 : decode cLW_law 491 = .ok (.aload_n 0, 1) := by decide +kernel
theorem dLW_law_492 : decode cLW_law 492 = .ok (.iload 4, 2) := by decide +kernel
theorem dLW_law_494 : decode cLW_law 494 = .ok (.bipush 10, 2) := by decide +kernel
theorem dLW_law_496 : decode cLW_law 496 = .ok (.iadd, 1) := by decide +kernel
theorem dLW_law_497 : decode cLW_law 497 = .ok (.iaload, 1) := by decide +kernel
theorem dLW_law_498 : decode cLW_law 498 = .ok (.i2l, 1) := by decide +kernel
theorem dLW_law_499 : decode cLW_law 499 = .ok (.bipush 32, 2) := by decide +kernel
theorem dLW_law_501 : decode cLW_law 501 = .ok (.lshl, 1) := by decide +kernel
theorem dLW_law_502 : decode cLW_law 502 = .ok (.aload_n 0, 1) := by decide +kernel
theorem dLW_law_503 : decode cLW_law 503 = .ok (.iload 4, 2) := by decide +kernel
theorem dLW_law_505 : decode cLW_law 505 = .ok (.bipush 11, 2) := by decide +kernel
theorem dLW_law_507 : decode cLW_law 507 = .ok (.iadd, 1) := by decide +kernel
theorem dLW_law_508 : decode cLW_law 508 = .ok (.iaload, 1) := by decide +kernel
theorem dLW_law_509 : decode cLW_law 509 = .ok (.i2l, 1) := by decide +kernel
theorem dLW_law_510 : decode cLW_law 510 = .ok (.ldc2_w 68, 3) := by decide +kernel
theorem dLW_law_513 : decode cLW_law 513 = .ok (.land, 1) := by decide +kernel
theorem dLW_law_514 : decode cLW_law 514 = .ok (.lor, 1) := by decide +kernel
theorem dLW_law_515 : decode cLW_law 515 = .ok (.invokevirtual 87, 3) := by decide +kernel
theorem dLW_law_518 : decode cLW_law 518 = .ok (.aload_n 2, 1) := by decide +kernel
theorem dLW_law_519 : decode cLW_law 519 = .ok (.invokevirtual 76, 3) := by decide +kernel
theorem dLW_law_522 : decode cLW_law 522 = .ok (.iload 5, 2) := by decide +kernel
theorem dLW_law_524 : decode cLW_law 524 = .ok (.if_icmp .eq 5, 3) := by decide +kernel
theorem dLW_law_527 : decode cLW_law 527 = .ok (.iconst 0, 1) := by decide +kernel
theorem dLW_law_528 : decode cLW_law 528 = .ok (.ireturn, 1) := by decide +kernel
theorem dLW_law_529 : decode cLW_law 529 = .ok (.goto 813, 3) := by decide +kernel
theorem dLW_law_532 : decode cLW_law 532 = .ok (.aload_n 1, 1) := by decide +kernel
theorem dLW_law_533 : decode cLW_law 533 = .ok (.aload_n 0, 1) := by decide +kernel
theorem dLW_law_534 : decode cLW_law 534 = .ok (.iload 4, 2) := by decide +kernel
theorem dLW_law_536 : decode cLW_law 536 = .ok (.iconst 1, 1) := by decide +kernel
theorem dLW_law_537 : decode cLW_law 537 = .ok (.iadd, 1) := by decide +kernel
theorem dLW_law_538 : decode cLW_law 538 = .ok (.iaload, 1) := by decide +kernel
theorem dLW_law_539 : decode cLW_law 539 = .ok (.aload_n 0, 1) := by decide +kernel
theorem dLW_law_540 : decode cLW_law 540 = .ok (.iload 4, 2) := by decide +kernel
theorem dLW_law_542 : decode cLW_law 542 = .ok (.iconst 2, 1) := by decide +kernel
theorem dLW_law_543 : decode cLW_law 543 = .ok (.iadd, 1) := by decide +kernel
theorem dLW_law_544 : decode cLW_law 544 = .ok (.iaload, 1) := by decide +kernel
theorem dLW_law_545 : decode cLW_law 545 = .ok (.aload_n 3, 1) := by decide +kernel
theorem dLW_law_546 : decode cLW_law 546 = .ok (.invokestatic 88, 3) := by decide +kernel
theorem dLW_law_549 : decode cLW_law 549 = .ok (.istore 5, 2) := by decide +kernel
theorem dLW_law_551 : decode cLW_law 551 = .ok (.aload_n 2, 1) := by decide +kernel
theorem dLW_law_552 : decode cLW_law 552 = .ok (.aload_n 0, 1) := by decide +kernel
theorem dLW_law_553 : decode cLW_law 553 = .ok (.iload 4, 2) := by decide +kernel
theorem dLW_law_555 : decode cLW_law 555 = .ok (.iconst 1, 1) := by decide +kernel
theorem dLW_law_556 : decode cLW_law 556 = .ok (.iadd, 1) := by decide +kernel
theorem dLW_law_557 : decode cLW_law 557 = .ok (.iaload, 1) := by decide +kernel
theorem dLW_law_558 : decode cLW_law 558 = .ok (.aload_n 0, 1) := by decide +kernel
theorem dLW_law_559 : decode cLW_law 559 = .ok (.iload 4, 2) := by decide +kernel
theorem dLW_law_561 : decode cLW_law 561 = .ok (.iconst 2, 1) := by decide +kernel
theorem dLW_law_562 : decode cLW_law 562 = .ok (.iadd, 1) := by decide +kernel
theorem dLW_law_563 : decode cLW_law 563 = .ok (.iaload, 1) := by decide +kernel
theorem dLW_law_564 : decode cLW_law 564 = .ok (.invokevirtual 91, 3) := by decide +kernel
theorem dLW_law_567 : decode cLW_law 567 = .ok (.istore 6, 2) := by decide +kernel
theorem dLW_law_569 : decode cLW_law 569 = .ok (.aload_n 2, 1) := by decide +kernel
theorem dLW_law_570 : decode cLW_law 570 = .ok (.invokevirtual 76, 3) := by decide +kernel
theorem dLW_law_573 : decode cLW_law 573 = .ok (.iload 5, 2) := by decide +kernel
theorem dLW_law_575 : decode cLW_law 575 = .ok (.if_icmp .eq 5, 3) := by decide +kernel
theorem dLW_law_578 : decode cLW_law 578 = .ok (.iconst 0, 1) := by decide +kernel
theorem dLW_law_579 : decode cLW_law 579 = .ok (.ireturn, 1) := by decide +kernel
theorem dLW_law_580 : decode cLW_law 580 = .ok (.iload 5, 2) := by decide +kernel
theorem dLW_law_582 : decode cLW_law 582 = .ok (.ifCond .ne 15, 3) := by decide +kernel
theorem dLW_law_585 : decode cLW_law 585 = .ok (.aload_n 3, 1) := by decide +kernel
theorem dLW_law_586 : decode cLW_law 586 = .ok (.iconst 0, 1) := by decide +kernel
theorem dLW_law_587 : decode cLW_law 587 = .ok (.laload, 1) := by decide +kernel
theorem dLW_law_588 : decode cLW_law 588 = .ok (.iload 6, 2) := by decide +kernel
theorem dLW_law_590 : decode cLW_law 590 = .ok (.i2l, 1) := by decide +kernel
theorem dLW_law_591 : decode cLW_law 591 = .ok (.lcmp, 1) := by decide +kernel
theorem dLW_law_592 : decode cLW_law 592 = .ok (.ifCond .eq 5, 3) := by decide +kernel
theorem dLW_law_595 : decode cLW_law 595 = .ok (.iconst 0, 1) := by decide +kernel
theorem dLW_law_596 : decode cLW_law 596 = .ok (.ireturn, 1) := by decide +kernel
theorem dLW_law_597 : decode cLW_law 597 = .ok (.goto 745, 3) := by decide +kernel
theorem dLW_law_600 : decode cLW_law 600 = .ok (.aload_n 1, 1) := by decide +kernel
theorem dLW_law_601 : decode cLW_law 601 = .ok (.aload_n 0, 1) := by decide +kernel
theorem dLW_law_602 : decode cLW_law 602 = .ok (.iload 4, 2) := by decide +kernel
theorem dLW_law_604 : decode cLW_law 604 = .ok (.iconst 1, 1) := by decide +kernel
theorem dLW_law_605 : decode cLW_law 605 = .ok (.iadd, 1) := by decide +kernel
theorem dLW_law_606 : decode cLW_law 606 = .ok (.iaload, 1) := by decide +kernel
theorem dLW_law_607 : decode cLW_law 607 = .ok (.aload_n 0, 1) := by decide +kernel
theorem dLW_law_608 : decode cLW_law 608 = .ok (.iload 4, 2) := by decide +kernel
theorem dLW_law_610 : decode cLW_law 610 = .ok (.iconst 2, 1) := by decide +kernel
theorem dLW_law_611 : decode cLW_law 611 = .ok (.iadd, 1) := by decide +kernel
theorem dLW_law_612 : decode cLW_law 612 = .ok (.iaload, 1) := by decide +kernel
theorem dLW_law_613 : decode cLW_law 613 = .ok (.aload_n 0, 1) := by decide +kernel
theorem dLW_law_614 : decode cLW_law 614 = .ok (.iload 4, 2) := by decide +kernel
theorem dLW_law_616 : decode cLW_law 616 = .ok (.iconst 3, 1) := by decide +kernel
theorem dLW_law_617 : decode cLW_law 617 = .ok (.iadd, 1) := by decide +kernel
theorem dLW_law_618 : decode cLW_law 618 = .ok (.iaload, 1) := by decide +kernel
theorem dLW_law_619 : decode cLW_law 619 = .ok (.invokestatic 92, 3) := by decide +kernel
theorem dLW_law_622 : decode cLW_law 622 = .ok (.istore 5, 2) := by decide +kernel
theorem dLW_law_624 : decode cLW_law 624 = .ok (.aload_n 2, 1) := by decide +kernel
theorem dLW_law_625 : decode cLW_law 625 = .ok (.aload_n 0, 1) := by decide +kernel
theorem dLW_law_626 : decode cLW_law 626 = .ok (.iload 4, 2) := by decide +kernel
