theorem dL_law_660 : decode code 660 = .ok (.iaload, 1) := by decide +kernel
theorem dL_law_661 : decode code 661 = .ok (.invokevirtual 109, 3) := by decide +kernel
theorem dL_law_664 : decode code 664 = .ok (.if_icmp .eq 51, 3) := by decide +kernel
theorem dL_law_667 : decode code 667 = .ok (.iconst 0, 1) := by decide +kernel
theorem dL_law_668 : decode code 668 = .ok (.ireturn, 1) := by decide +kernel
theorem dL_law_669 : decode code 669 = .ok (.aload_n 1, 1) := by decide +kernel
theorem dL_law_670 : decode code 670 = .ok (.aload_n 0, 1) := by decide +kernel
theorem dL_law_671 : decode code 671 = .ok (.iload_n 3, 1) := by decide +kernel
theorem dL_law_672 : decode code 672 = .ok (.iconst 1, 1) := by decide +kernel
theorem dL_law_673 : decode code 673 = .ok (.iadd, 1) := by decide +kernel
theorem dL_law_674 : decode code 674 = .ok (.iaload, 1) := by decide +kernel
theorem dL_law_675 : decode code 675 = .ok (.invokevirtual 110, 3) := by decide +kernel
theorem dL_law_678 : decode code 678 = .ok (.aload_n 2, 1) := by decide +kernel
theorem dL_law_679 : decode code 679 = .ok (.aload_n 0, 1) := by decide +kernel
theorem dL_law_680 : decode code 680 = .ok (.iload_n 3, 1) := by decide +kernel
theorem dL_law_681 : decode code 681 = .ok (.iconst 1, 1) := by decide +kernel
theorem dL_law_682 : decode code 682 = .ok (.iadd, 1) := by decide +kernel
theorem dL_law_683 : decode code 683 = .ok (.iaload, 1) := by decide +kernel
theorem dL_law_684 : decode code 684 = .ok (.invokevirtual 113, 3) := by decide +kernel
theorem dL_law_687 : decode code 687 = .ok (.if_icmp .eq 28, 3) := by decide +kernel
theorem dL_law_690 : decode code 690 = .ok (.iconst 0, 1) := by decide +kernel
theorem dL_law_691 : decode code 691 = .ok (.ireturn, 1) := by decide +kernel
theorem dL_law_692 : decode code 692 = .ok (.aload_n 1, 1) := by decide +kernel
theorem dL_law_693 : decode code 693 = .ok (.aload_n 0, 1) := by decide +kernel
theorem dL_law_694 : decode code 694 = .ok (.iload_n 3, 1) := by decide +kernel
theorem dL_law_695 : decode code 695 = .ok (.iconst 1, 1) := by decide +kernel
theorem dL_law_696 : decode code 696 = .ok (.iadd, 1) := by decide +kernel
theorem dL_law_697 : decode code 697 = .ok (.iaload, 1) := by decide +kernel
theorem dL_law_698 : decode code 698 = .ok (.invokevirtual 114, 3) := by decide +kernel
theorem dL_law_701 : decode code 701 = .ok (.aload_n 2, 1) := by decide +kernel
theorem dL_law_702 : decode code 702 = .ok (.aload_n 0, 1) := by decide +kernel
theorem dL_law_703 : decode code 703 = .ok (.iload_n 3, 1) := by decide +kernel
theorem dL_law_704 : decode code 704 = .ok (.iconst 1, 1) := by decide +kernel
theorem dL_law_705 : decode code 705 = .ok (.iadd, 1) := by decide +kernel
theorem dL_law_706 : decode code 706 = .ok (.iaload, 1) := by decide +kernel
theorem dL_law_707 : decode code 707 = .ok (.invokevirtual 117, 3) := by decide +kernel
theorem dL_law_710 : decode code 710 = .ok (.if_icmp .eq 5, 3) := by decide +kernel
theorem dL_law_713 : decode code 713 = .ok (.iconst 0, 1) := by decide +kernel
theorem dL_law_714 : decode code 714 = .ok (.ireturn, 1) := by decide +kernel
theorem dL_law_715 : decode code 715 = .ok (.iinc 3 3, 3) := by decide +kernel
theorem dL_law_718 : decode code 718 = .ok (.goto (-700), 3) := by decide +kernel
theorem dL_law_721 : decode code 721 = .ok (.iconst 1, 1) := by decide +kernel
theorem dL_law_722 : decode code 722 = .ok (.ireturn, 1) := by decide +kernel
