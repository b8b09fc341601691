theorem dL_law_594 : decode code 594 = .ok (.if_icmp .eq 121, 3) := by decide +kernel
theorem dL_law_597 : decode code 597 = .ok (.iconst 0, 1) := by decide +kernel
theorem dL_law_598 : decode code 598 = .ok (.ireturn, 1) := by decide +kernel
theorem dL_law_599 : decode code 599 = .ok (.aload_n 1, 1) := by decide +kernel
theorem dL_law_600 : decode code 600 = .ok (.aload_n 0, 1) := by decide +kernel
theorem dL_law_601 : decode code 601 = .ok (.iload_n 3, 1) := by decide +kernel
theorem dL_law_602 : decode code 602 = .ok (.iconst 1, 1) := by decide +kernel
theorem dL_law_603 : decode code 603 = .ok (.iadd, 1) := by decide +kernel
theorem dL_law_604 : decode code 604 = .ok (.iaload, 1) := by decide +kernel
theorem dL_law_605 : decode code 605 = .ok (.invokevirtual 97, 3) := by decide +kernel
theorem dL_law_608 : decode code 608 = .ok (.aload_n 2, 1) := by decide +kernel
theorem dL_law_609 : decode code 609 = .ok (.aload_n 0, 1) := by decide +kernel
theorem dL_law_610 : decode code 610 = .ok (.iload_n 3, 1) := by decide +kernel
theorem dL_law_611 : decode code 611 = .ok (.iconst 1, 1) := by decide +kernel
theorem dL_law_612 : decode code 612 = .ok (.iadd, 1) := by decide +kernel
theorem dL_law_613 : decode code 613 = .ok (.iaload, 1) := by decide +kernel
theorem dL_law_614 : decode code 614 = .ok (.invokevirtual 101, 3) := by decide +kernel
theorem dL_law_617 : decode code 617 = .ok (.lcmp, 1) := by decide +kernel
theorem dL_law_618 : decode code 618 = .ok (.ifCond .eq 97, 3) := by decide +kernel
theorem dL_law_621 : decode code 621 = .ok (.iconst 0, 1) := by decide +kernel
theorem dL_law_622 : decode code 622 = .ok (.ireturn, 1) := by decide +kernel
theorem dL_law_623 : decode code 623 = .ok (.aload_n 1, 1) := by decide +kernel
theorem dL_law_624 : decode code 624 = .ok (.aload_n 0, 1) := by decide +kernel
theorem dL_law_625 : decode code 625 = .ok (.iload_n 3, 1) := by decide +kernel
theorem dL_law_626 : decode code 626 = .ok (.iconst 1, 1) := by decide +kernel
theorem dL_law_627 : decode code 627 = .ok (.iadd, 1) := by decide +kernel
theorem dL_law_628 : decode code 628 = .ok (.iaload, 1) := by decide +kernel
theorem dL_law_629 : decode code 629 = .ok (.invokevirtual 102, 3) := by decide +kernel
theorem dL_law_632 : decode code 632 = .ok (.aload_n 2, 1) := by decide +kernel
theorem dL_law_633 : decode code 633 = .ok (.aload_n 0, 1) := by decide +kernel
theorem dL_law_634 : decode code 634 = .ok (.iload_n 3, 1) := by decide +kernel
theorem dL_law_635 : decode code 635 = .ok (.iconst 1, 1) := by decide +kernel
theorem dL_law_636 : decode code 636 = .ok (.iadd, 1) := by decide +kernel
theorem dL_law_637 : decode code 637 = .ok (.iaload, 1) := by decide +kernel
theorem dL_law_638 : decode code 638 = .ok (.invokevirtual 105, 3) := by decide +kernel
theorem dL_law_641 : decode code 641 = .ok (.if_icmp .eq 74, 3) := by decide +kernel
theorem dL_law_644 : decode code 644 = .ok (.iconst 0, 1) := by decide +kernel
theorem dL_law_645 : decode code 645 = .ok (.ireturn, 1) := by decide +kernel
theorem dL_law_646 : decode code 646 = .ok (.aload_n 1, 1) := by decide +kernel
theorem dL_law_647 : decode code 647 = .ok (.aload_n 0, 1) := by decide +kernel
theorem dL_law_648 : decode code 648 = .ok (.iload_n 3, 1) := by decide +kernel
theorem dL_law_649 : decode code 649 = .ok (.iconst 1, 1) := by decide +kernel
theorem dL_law_650 : decode code 650 = .ok (.iadd, 1) := by decide +kernel
theorem dL_law_651 : decode code 651 = .ok (.iaload, 1) := by decide +kernel
theorem dL_law_652 : decode code 652 = .ok (.invokevirtual 106, 3) := by decide +kernel
theorem dL_law_655 : decode code 655 = .ok (.aload_n 2, 1) := by decide +kernel
theorem dL_law_656 : decode code 656 = .ok (.aload_n 0, 1) := by decide +kernel
theorem dL_law_657 : decode code 657 = .ok (.iload_n 3, 1) := by decide +kernel
theorem dL_law_658 : decode code 658 = .ok (.iconst 1, 1) := by decide +kernel
theorem dL_law_659 : decode code 659 = .ok (.iadd, 1) := by decide +kernel
