theorem d_Law_law_445 : decode b_Law_law 445 = .ok (.iload 4, 2) := by decide +kernel
theorem d_Law_law_447 : decode b_Law_law 447 = .ok (.iconst 1, 1) := by decide +kernel
theorem d_Law_law_448 : decode b_Law_law 448 = .ok (.iadd, 1) := by decide +kernel
theorem d_Law_law_449 : decode b_Law_law 449 = .ok (.iaload, 1) := by decide +kernel
theorem d_Law_law_450 : decode b_Law_law 450 = .ok (.aload_n 3, 1) := by decide +kernel
theorem d_Law_law_451 : decode b_Law_law 451 = .ok (.invokestatic 59, 3) := by decide +kernel
theorem d_Law_law_454 : decode b_Law_law 454 = .ok (.istore 5, 2) := by decide +kernel
theorem d_Law_law_456 : decode b_Law_law 456 = .ok (.aload_n 2, 1) := by decide +kernel
theorem d_Law_law_457 : decode b_Law_law 457 = .ok (.aload_n 0, 1) := by decide +kernel
theorem d_Law_law_458 : decode b_Law_law 458 = .ok (.iload 4, 2) := by decide +kernel
theorem d_Law_law_460 : decode b_Law_law 460 = .ok (.iconst 1, 1) := by decide +kernel
theorem d_Law_law_461 : decode b_Law_law 461 = .ok (.iadd, 1) := by decide +kernel
theorem d_Law_law_462 : decode b_Law_law 462 = .ok (.iaload, 1) := by decide +kernel
theorem d_Law_law_463 : decode b_Law_law 463 = .ok (.invokevirtual 64, 3) := by decide +kernel
theorem d_Law_law_466 : decode b_Law_law 466 = .ok (.istore 6, 2) := by decide +kernel
theorem d_Law_law_468 : decode b_Law_law 468 = .ok (.aload_n 2, 1) := by decide +kernel
theorem d_Law_law_469 : decode b_Law_law 469 = .ok (.invokevirtual 65, 3) := by decide +kernel
theorem d_Law_law_472 : decode b_Law_law 472 = .ok (.iload 5, 2) := by decide +kernel
theorem d_Law_law_474 : decode b_Law_law 474 = .ok (.if_icmp .eq 5, 3) := by decide +kernel
theorem d_Law_law_477 : decode b_Law_law 477 = .ok (.iconst 0, 1) := by decide +kernel
theorem d_Law_law_478 : decode b_Law_law 478 = .ok (.ireturn, 1) := by decide +kernel
theorem d_Law_law_479 : decode b_Law_law 479 = .ok (.iload 5, 2) := by decide +kernel
theorem d_Law_law_481 : decode b_Law_law 481 = .ok (.ifCond .ne 15, 3) := by decide +kernel
theorem d_Law_law_484 : decode b_Law_law 484 = .ok (.aload_n 3, 1) := by decide +kernel
theorem d_Law_law_485 : decode b_Law_law 485 = .ok (.iconst 0, 1) := by decide +kernel
theorem d_Law_law_486 : decode b_Law_law 486 = .ok (.laload, 1) := by decide +kernel
theorem d_Law_law_487 : decode b_Law_law 487 = .ok (.iload 6, 2) := by decide +kernel
theorem d_Law_law_489 : decode b_Law_law 489 = .ok (.i2l, 1) := by decide +kernel
theorem d_Law_law_490 : decode b_Law_law 490 = .ok (.lcmp, 1) := by decide +kernel
theorem d_Law_law_491 : decode b_Law_law 491 = .ok (.ifCond .eq 5, 3) := by decide +kernel
theorem d_Law_law_494 : decode b_Law_law 494 = .ok (.iconst 0, 1) := by decide +kernel
theorem d_Law_law_495 : decode b_Law_law 495 = .ok (.ireturn, 1) := by decide +kernel
theorem d_Law_law_496 : decode b_Law_law 496 = .ok (.goto 134, 3) := by decide +kernel
theorem d_Law_law_499 : decode b_Law_law 499 = .ok (.aload_n 1, 1) := by decide +kernel
theorem d_Law_law_500 : decode b_Law_law 500 = .ok (.aload_n 3, 1) := by decide +kernel
theorem d_Law_law_501 : decode b_Law_law 501 = .ok (.invokestatic 68, 3) := by decide +kernel
theorem d_Law_law_504 : decode b_Law_law 504 = .ok (.istore 5, 2) := by decide +kernel
theorem d_Law_law_506 : decode b_Law_law 506 = .ok (.aload_n 2, 1) := by decide +kernel
theorem d_Law_law_507 : decode b_Law_law 507 = .ok (.invokevirtual 71, 3) := by decide +kernel
theorem d_Law_law_510 : decode b_Law_law 510 = .ok (.istore 6, 2) := by decide +kernel
theorem d_Law_law_512 : decode b_Law_law 512 = .ok (.aload_n 2, 1) := by decide +kernel
theorem d_Law_law_513 : decode b_Law_law 513 = .ok (.invokevirtual 65, 3) := by decide +kernel
theorem d_Law_law_516 : decode b_Law_law 516 = .ok (.iload 5, 2) := by decide +kernel
theorem d_Law_law_518 : decode b_Law_law 518 = .ok (.if_icmp .eq 5, 3) := by decide +kernel
theorem d_Law_law_521 : decode b_Law_law 521 = .ok (.iconst 0, 1) := by decide +kernel
theorem d_Law_law_522 : decode b_Law_law 522 = .ok (.ireturn, 1) := by decide +kernel
theorem d_Law_law_523 : decode b_Law_law 523 = .ok (.iload 5, 2) := by decide +kernel
theorem d_Law_law_525 : decode b_Law_law 525 = .ok (.ifCond .ne 15, 3) := by decide +kernel
theorem d_Law_law_528 : decode b_Law_law 528 = .ok (.aload_n 3, 1) := by decide +kernel
theorem d_Law_law_529 : decode b_Law_law 529 = .ok (.iconst 0, 1) := by decide +kernel
theorem d_Law_law_530 : decode b_Law_law 530 = .ok (.laload, 1) := by decide +kernel
theorem d_Law_law_531 : decode b_Law_law 531 = .ok (.iload 6, 2) := by decide +kernel
theorem d_Law_law_533 : decode b_Law_law 533 = .ok (.i2l, 1) := by decide +kernel
theorem d_Law_law_534 : decode b_Law_law 534 = .ok (.lcmp, 1) := by decide +kernel
theorem d_Law_law_535 : decode b_Law_law 535 = .ok (.ifCond .eq 5, 3) := by decide +kernel
theorem d_Law_law_538 : decode b_Law_law 538 = .ok (.iconst 0, 1) := by decide +kernel
theorem d_Law_law_539 : decode b_Law_law 539 = .ok (.ireturn, 1) := by decide +kernel
theorem d_Law_law_540 : decode b_Law_law 540 = .ok (.goto 90, 3) := by decide +kernel
theorem d_Law_law_543 : decode b_Law_law 543 = .ok (.aload_n 1, 1) := by decide +kernel
theorem d_Law_law_544 : decode b_Law_law 544 = .ok (.aload_n 0, 1) := by decide +kernel
theorem d_Law_law_545 : decode b_Law_law 545 = .ok (.iload 4, 2) := by decide +kernel
theorem d_Law_law_547 : decode b_Law_law 547 = .ok (.iconst 1, 1) := by decide +kernel
theorem d_Law_law_548 : decode b_Law_law 548 = .ok (.iadd, 1) := by decide +kernel
theorem d_Law_law_549 : decode b_Law_law 549 = .ok (.iaload, 1) := by decide +kernel
theorem d_Law_law_550 : decode b_Law_law 550 = .ok (.invokevirtual 72, 3) := by decide +kernel
theorem d_Law_law_553 : decode b_Law_law 553 = .ok (.aload_n 2, 1) := by decide +kernel
theorem d_Law_law_554 : decode b_Law_law 554 = .ok (.aload_n 0, 1) := by decide +kernel
theorem d_Law_law_555 : decode b_Law_law 555 = .ok (.iload 4, 2) := by decide +kernel
theorem d_Law_law_557 : decode b_Law_law 557 = .ok (.iconst 1, 1) := by decide +kernel
theorem d_Law_law_558 : decode b_Law_law 558 = .ok (.iadd, 1) := by decide +kernel
theorem d_Law_law_559 : decode b_Law_law 559 = .ok (.iaload, 1) := by decide +kernel
theorem d_Law_law_560 : decode b_Law_law 560 = .ok (.invokevirtual 75, 3) := by decide +kernel
theorem d_Law_law_563 : decode b_Law_law 563 = .ok (.if_icmp .eq 67, 3) := by decide +kernel
theorem d_Law_law_566 : decode b_Law_law 566 = .ok (.iconst 0, 1) := by decide +kernel
theorem d_Law_law_567 : decode b_Law_law 567 = .ok (.ireturn, 1) := by decide +kernel
theorem d_Law_law_568 : decode b_Law_law 568 = .ok (.aload_n 1, 1) := by decide +kernel
theorem d_Law_law_569 : decode b_Law_law 569 = .ok (.aload_n 0, 1) := by decide +kernel
theorem d_Law_law_570 : decode b_Law_law 570 = .ok (.iload 4, 2) := by decide +kernel
theorem d_Law_law_572 : decode b_Law_law 572 = .ok (.iconst 1, 1) := by decide +kernel
theorem d_Law_law_573 : decode b_Law_law 573 = .ok (.iadd, 1) := by decide +kernel
theorem d_Law_law_574 : decode b_Law_law 574 = .ok (.iaload, 1) := by decide +kernel
theorem d_Law_law_575 : decode b_Law_law 575 = .ok (.invokevirtual 76, 3) := by decide +kernel
theorem d_Law_law_578 : decode b_Law_law 578 = .ok (.aload_n 2, 1) := by decide +kernel
theorem d_Law_law_579 : decode b_Law_law 579 = .ok (.aload_n 0, 1) := by decide +kernel
theorem d_Law_law_580 : decode b_Law_law 580 = .ok (.iload 4, 2) := by decide +kernel
theorem d_Law_law_582 : decode b_Law_law 582 = .ok (.iconst 1, 1) := by decide +kernel
theorem d_Law_law_583 : decode b_Law_law 583 = .ok (.iadd, 1) := by decide +kernel
theorem d_Law_law_584 : decode b_Law_law 584 = .ok (.iaload, 1) := by decide +kernel
theorem d_Law_law_585 : decode b_Law_law 585 = .ok (.invokevirtual 79, 3) := by decide +kernel
theorem d_Law_law_588 : decode b_Law_law 588 = .ok (.if_icmp .eq 42, 3) := by decide +kernel
theorem d_Law_law_591 : decode b_Law_law 591 = .ok (.iconst 0, 1) := by decide +kernel
theorem d_Law_law_592 : decode b_Law_law 592 = .ok (.ireturn, 1) := by decide +kernel
theorem d_Law_law_593 : decode b_Law_law 593 = .ok (.aload_n 1, 1) := by decide +kernel
theorem d_Law_law_594 : decode b_Law_law 594 = .ok (.aload_n 0, 1) := by decide +kernel
theorem d_Law_law_595 : decode b_Law_law 595 = .ok (.iload 4, 2) := by decide +kernel
theorem d_Law_law_597 : decode b_Law_law 597 = .ok (.iconst 1, 1) := by decide +kernel
theorem d_Law_law_598 : decode b_Law_law 598 = .ok (.iadd, 1) := by decide +kernel
theorem d_Law_law_599 : decode b_Law_law 599 = .ok (.iaload, 1) := by decide +kernel
theorem d_Law_law_600 : decode b_Law_law 600 = .ok (.aload_n 0, 1) := by decide +kernel
theorem d_Law_law_601 : decode b_Law_law 601 = .ok (.iload 4, 2) := by decide +kernel
