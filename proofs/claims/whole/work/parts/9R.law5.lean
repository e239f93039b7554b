/-! the law: what its bytes are, 5 -/
theorem dL_law_535 : decode code 535 = .ok (.iconst 0, 1) := by decide +kernel
theorem dL_law_536 : decode code 536 = .ok (.ireturn, 1) := by decide +kernel
theorem dL_law_537 : decode code 537 = .ok (.aload_n 1, 1) := by decide +kernel
theorem dL_law_538 : decode code 538 = .ok (.aload_n 0, 1) := by decide +kernel
theorem dL_law_539 : decode code 539 = .ok (.iload_n 3, 1) := by decide +kernel
theorem dL_law_540 : decode code 540 = .ok (.iconst 1, 1) := by decide +kernel
theorem dL_law_541 : decode code 541 = .ok (.iadd, 1) := by decide +kernel
theorem dL_law_542 : decode code 542 = .ok (.iaload, 1) := by decide +kernel
theorem dL_law_543 : decode code 543 = .ok (.invokevirtual 77, 3) := by decide +kernel
theorem dL_law_546 : decode code 546 = .ok (.aload_n 2, 1) := by decide +kernel
theorem dL_law_547 : decode code 547 = .ok (.aload_n 0, 1) := by decide +kernel
theorem dL_law_548 : decode code 548 = .ok (.iload_n 3, 1) := by decide +kernel
theorem dL_law_549 : decode code 549 = .ok (.iconst 1, 1) := by decide +kernel
theorem dL_law_550 : decode code 550 = .ok (.iadd, 1) := by decide +kernel
theorem dL_law_551 : decode code 551 = .ok (.iaload, 1) := by decide +kernel
theorem dL_law_552 : decode code 552 = .ok (.invokevirtual 80, 3) := by decide +kernel
theorem dL_law_555 : decode code 555 = .ok (.if_icmp .eq 603, 3) := by decide +kernel
theorem dL_law_558 : decode code 558 = .ok (.iconst 0, 1) := by decide +kernel
theorem dL_law_559 : decode code 559 = .ok (.ireturn, 1) := by decide +kernel
theorem dL_law_560 : decode code 560 = .ok (.aload_n 1, 1) := by decide +kernel
theorem dL_law_561 : decode code 561 = .ok (.aload_n 0, 1) := by decide +kernel
theorem dL_law_562 : decode code 562 = .ok (.iload_n 3, 1) := by decide +kernel
theorem dL_law_563 : decode code 563 = .ok (.iconst 1, 1) := by decide +kernel
theorem dL_law_564 : decode code 564 = .ok (.iadd, 1) := by decide +kernel
theorem dL_law_565 : decode code 565 = .ok (.iaload, 1) := by decide +kernel
theorem dL_law_566 : decode code 566 = .ok (.aload_n 0, 1) := by decide +kernel
theorem dL_law_567 : decode code 567 = .ok (.iload_n 3, 1) := by decide +kernel
theorem dL_law_568 : decode code 568 = .ok (.iconst 2, 1) := by decide +kernel
theorem dL_law_569 : decode code 569 = .ok (.iadd, 1) := by decide +kernel
theorem dL_law_570 : decode code 570 = .ok (.iaload, 1) := by decide +kernel
theorem dL_law_571 : decode code 571 = .ok (.aload_n 0, 1) := by decide +kernel
theorem dL_law_572 : decode code 572 = .ok (.iload_n 3, 1) := by decide +kernel
theorem dL_law_573 : decode code 573 = .ok (.iconst 3, 1) := by decide +kernel
theorem dL_law_574 : decode code 574 = .ok (.iadd, 1) := by decide +kernel
theorem dL_law_575 : decode code 575 = .ok (.iaload, 1) := by decide +kernel
theorem dL_law_576 : decode code 576 = .ok (.invokevirtual 81, 3) := by decide +kernel
theorem dL_law_579 : decode code 579 = .ok (.aload_n 2, 1) := by decide +kernel
theorem dL_law_580 : decode code 580 = .ok (.aload_n 0, 1) := by decide +kernel
theorem dL_law_581 : decode code 581 = .ok (.iload_n 3, 1) := by decide +kernel
theorem dL_law_582 : decode code 582 = .ok (.iconst 1, 1) := by decide +kernel
theorem dL_law_583 : decode code 583 = .ok (.iadd, 1) := by decide +kernel
theorem dL_law_584 : decode code 584 = .ok (.iaload, 1) := by decide +kernel
theorem dL_law_585 : decode code 585 = .ok (.aload_n 0, 1) := by decide +kernel
theorem dL_law_586 : decode code 586 = .ok (.iload_n 3, 1) := by decide +kernel
theorem dL_law_587 : decode code 587 = .ok (.iconst 2, 1) := by decide +kernel
theorem dL_law_588 : decode code 588 = .ok (.iadd, 1) := by decide +kernel
theorem dL_law_589 : decode code 589 = .ok (.iaload, 1) := by decide +kernel
theorem dL_law_590 : decode code 590 = .ok (.aload_n 0, 1) := by decide +kernel
theorem dL_law_591 : decode code 591 = .ok (.iload_n 3, 1) := by decide +kernel
theorem dL_law_592 : decode code 592 = .ok (.iconst 3, 1) := by decide +kernel
theorem dL_law_593 : decode code 593 = .ok (.iadd, 1) := by decide +kernel
theorem dL_law_594 : decode code 594 = .ok (.iaload, 1) := by decide +kernel
theorem dL_law_595 : decode code 595 = .ok (.invokevirtual 84, 3) := by decide +kernel
theorem dL_law_598 : decode code 598 = .ok (.if_icmp .eq 560, 3) := by decide +kernel
theorem dL_law_601 : decode code 601 = .ok (.iconst 0, 1) := by decide +kernel
