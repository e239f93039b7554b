/-! the law: what its bytes are, 6 -/
theorem dL_law_602 : decode code 602 = .ok (.ireturn, 1) := by decide +kernel
theorem dL_law_603 : decode code 603 = .ok (.aload_n 1, 1) := by decide +kernel
theorem dL_law_604 : decode code 604 = .ok (.aload_n 0, 1) := by decide +kernel
theorem dL_law_605 : decode code 605 = .ok (.iload_n 3, 1) := by decide +kernel
theorem dL_law_606 : decode code 606 = .ok (.iconst 1, 1) := by decide +kernel
theorem dL_law_607 : decode code 607 = .ok (.iadd, 1) := by decide +kernel
theorem dL_law_608 : decode code 608 = .ok (.iaload, 1) := by decide +kernel
theorem dL_law_609 : decode code 609 = .ok (.invokevirtual 85, 3) := by decide +kernel
theorem dL_law_612 : decode code 612 = .ok (.aload_n 2, 1) := by decide +kernel
theorem dL_law_613 : decode code 613 = .ok (.aload_n 0, 1) := by decide +kernel
theorem dL_law_614 : decode code 614 = .ok (.iload_n 3, 1) := by decide +kernel
theorem dL_law_615 : decode code 615 = .ok (.iconst 1, 1) := by decide +kernel
theorem dL_law_616 : decode code 616 = .ok (.iadd, 1) := by decide +kernel
theorem dL_law_617 : decode code 617 = .ok (.iaload, 1) := by decide +kernel
theorem dL_law_618 : decode code 618 = .ok (.invokevirtual 88, 3) := by decide +kernel
theorem dL_law_621 : decode code 621 = .ok (.if_icmp .eq 537, 3) := by decide +kernel
theorem dL_law_624 : decode code 624 = .ok (.iconst 0, 1) := by decide +kernel
theorem dL_law_625 : decode code 625 = .ok (.ireturn, 1) := by decide +kernel
theorem dL_law_626 : decode code 626 = .ok (.aload_n 1, 1) := by decide +kernel
theorem dL_law_627 : decode code 627 = .ok (.aload_n 0, 1) := by decide +kernel
theorem dL_law_628 : decode code 628 = .ok (.iload_n 3, 1) := by decide +kernel
theorem dL_law_629 : decode code 629 = .ok (.iconst 1, 1) := by decide +kernel
theorem dL_law_630 : decode code 630 = .ok (.iadd, 1) := by decide +kernel
theorem dL_law_631 : decode code 631 = .ok (.iaload, 1) := by decide +kernel
theorem dL_law_632 : decode code 632 = .ok (.aload_n 0, 1) := by decide +kernel
theorem dL_law_633 : decode code 633 = .ok (.iload_n 3, 1) := by decide +kernel
theorem dL_law_634 : decode code 634 = .ok (.iconst 2, 1) := by decide +kernel
theorem dL_law_635 : decode code 635 = .ok (.iadd, 1) := by decide +kernel
theorem dL_law_636 : decode code 636 = .ok (.iaload, 1) := by decide +kernel
theorem dL_law_637 : decode code 637 = .ok (.invokevirtual 89, 3) := by decide +kernel
theorem dL_law_640 : decode code 640 = .ok (.aload_n 2, 1) := by decide +kernel
theorem dL_law_641 : decode code 641 = .ok (.aload_n 0, 1) := by decide +kernel
theorem dL_law_642 : decode code 642 = .ok (.iload_n 3, 1) := by decide +kernel
theorem dL_law_643 : decode code 643 = .ok (.iconst 1, 1) := by decide +kernel
theorem dL_law_644 : decode code 644 = .ok (.iadd, 1) := by decide +kernel
theorem dL_law_645 : decode code 645 = .ok (.iaload, 1) := by decide +kernel
theorem dL_law_646 : decode code 646 = .ok (.aload_n 0, 1) := by decide +kernel
theorem dL_law_647 : decode code 647 = .ok (.iload_n 3, 1) := by decide +kernel
theorem dL_law_648 : decode code 648 = .ok (.iconst 2, 1) := by decide +kernel
theorem dL_law_649 : decode code 649 = .ok (.iadd, 1) := by decide +kernel
theorem dL_law_650 : decode code 650 = .ok (.iaload, 1) := by decide +kernel
theorem dL_law_651 : decode code 651 = .ok (.invokevirtual 92, 3) := by decide +kernel
theorem dL_law_654 : decode code 654 = .ok (.if_icmp .eq 504, 3) := by decide +kernel
theorem dL_law_657 : decode code 657 = .ok (.iconst 0, 1) := by decide +kernel
theorem dL_law_658 : decode code 658 = .ok (.ireturn, 1) := by decide +kernel
theorem dL_law_659 : decode code 659 = .ok (.aload_n 1, 1) := by decide +kernel
theorem dL_law_660 : decode code 660 = .ok (.aload_n 0, 1) := by decide +kernel
theorem dL_law_661 : decode code 661 = .ok (.iload_n 3, 1) := by decide +kernel
theorem dL_law_662 : decode code 662 = .ok (.iconst 1, 1) := by decide +kernel
theorem dL_law_663 : decode code 663 = .ok (.iadd, 1) := by decide +kernel
theorem dL_law_664 : decode code 664 = .ok (.iaload, 1) := by decide +kernel
theorem dL_law_665 : decode code 665 = .ok (.aload_n 0, 1) := by decide +kernel
theorem dL_law_666 : decode code 666 = .ok (.iload_n 3, 1) := by decide +kernel
theorem dL_law_667 : decode code 667 = .ok (.iconst 2, 1) := by decide +kernel
theorem dL_law_668 : decode code 668 = .ok (.iadd, 1) := by decide +kernel
