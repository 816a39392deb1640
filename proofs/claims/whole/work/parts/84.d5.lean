/-! law: decode rows -/
theorem dLW_law_628 : decode cLW_law 628 = .ok (.iconst 1, 1) := by decide +kernel
theorem dLW_law_629 : decode cLW_law 629 = .ok (.iadd, 1) := by decide +kernel
theorem dLW_law_630 : decode cLW_law 630 = .ok (.iaload, 1) := by decide +kernel
theorem dLW_law_631 : decode cLW_law 631 = .ok (.aload_n 0, 1) := by decide +kernel
theorem dLW_law_632 : decode cLW_law 632 = .ok (.iload 4, 2) := by decide +kernel
theorem dLW_law_634 : decode cLW_law 634 = .ok (.iconst 2, 1) := by decide +kernel
theorem dLW_law_635 : decode cLW_law 635 = .ok (.iadd, 1) := by decide +kernel
theorem dLW_law_636 : decode cLW_law 636 = .ok (.iaload, 1) := by decide +kernel
theorem dLW_law_637 : decode cLW_law 637 = .ok (.aload_n 0, 1) := by decide +kernel
theorem dLW_law_638 : decode cLW_law 638 = .ok (.iload 4, 2) := by decide +kernel
theorem dLW_law_640 : decode cLW_law 640 = .ok (.iconst 3, 1) := by decide +kernel
theorem dLW_law_641 : decode cLW_law 641 = .ok (.iadd, 1) := by decide +kernel
theorem dLW_law_642 : decode cLW_law 642 = .ok (.iaload, 1) := by decide +kernel
theorem dLW_law_643 : decode cLW_law 643 = .ok (.invokevirtual 95, 3) := by decide +kernel
theorem dLW_law_646 : decode cLW_law 646 = .ok (.aload_n 2, 1) := by decide +kernel
theorem dLW_law_647 : decode cLW_law 647 = .ok (.invokevirtual 76, 3) := by decide +kernel
theorem dLW_law_650 : decode cLW_law 650 = .ok (.iload 5, 2) := by decide +kernel
theorem dLW_law_652 : decode cLW_law 652 = .ok (.if_icmp .eq 5, 3) := by decide +kernel
theorem dLW_law_655 : decode cLW_law 655 = .ok (.iconst 0, 1) := by decide +kernel
theorem dLW_law_656 : decode cLW_law 656 = .ok (.ireturn, 1) := by decide +kernel
theorem dLW_law_657 : decode cLW_law 657 = .ok (.goto 685, 3) := by decide +kernel
theorem dLW_law_660 : decode cLW_law 660 = .ok (.aload_n 1, 1) := by decide +kernel
theorem dLW_law_661 : decode cLW_law 661 = .ok (.aload_n 0, 1) := by decide +kernel
theorem dLW_law_662 : decode cLW_law 662 = .ok (.iload 4, 2) := by decide +kernel
theorem dLW_law_664 : decode cLW_law 664 = .ok (.iconst 1, 1) := by decide +kernel
theorem dLW_law_665 : decode cLW_law 665 = .ok (.iadd, 1) := by decide +kernel
theorem dLW_law_666 : decode cLW_law 666 = .ok (.iaload, 1) := by decide +kernel
theorem dLW_law_667 : decode cLW_law 667 = .ok (.aload_n 0, 1) := by decide +kernel
theorem dLW_law_668 : decode cLW_law 668 = .ok (.iload 4, 2) := by decide +kernel
theorem dLW_law_670 : decode cLW_law 670 = .ok (.iconst 2, 1) := by decide +kernel
theorem dLW_law_671 : decode cLW_law 671 = .ok (.iadd, 1) := by decide +kernel
theorem dLW_law_672 : decode cLW_law 672 = .ok (.iaload, 1) := by decide +kernel
theorem dLW_law_673 : decode cLW_law 673 = .ok (.aload_n 3, 1) := by decide +kernel
theorem dLW_law_674 : decode cLW_law 674 = .ok (.invokestatic 96, 3) := by decide +kernel
theorem dLW_law_677 : decode cLW_law 677 = .ok (.istore 5, 2) := by decide +kernel
theorem dLW_law_679 : decode cLW_law 679 = .ok (.aload_n 2, 1) := by decide +kernel
theorem dLW_law_680 : decode cLW_law 680 = .ok (.aload_n 0, 1) := by decide +kernel
theorem dLW_law_681 : decode cLW_law 681 = .ok (.iload 4, 2) := by decide +kernel
theorem dLW_law_683 : decode cLW_law 683 = .ok (.iconst 1, 1) := by decide +kernel
theorem dLW_law_684 : decode cLW_law 684 = .ok (.iadd, 1) := by decide +kernel
theorem dLW_law_685 : decode cLW_law 685 = .ok (.iaload, 1) := by decide +kernel
theorem dLW_law_686 : decode cLW_law 686 = .ok (.aload_n 0, 1) := by decide +kernel
theorem dLW_law_687 : decode cLW_law 687 = .ok (.iload 4, 2) := by decide +kernel
theorem dLW_law_689 : decode cLW_law 689 = .ok (.iconst 2, 1) := by decide +kernel
theorem dLW_law_690 : decode cLW_law 690 = .ok (.iadd, 1) := by decide +kernel
theorem dLW_law_691 : decode cLW_law 691 = .ok (.iaload, 1) := by decide +kernel
theorem dLW_law_692 : decode cLW_law 692 = .ok (.invokevirtual 98, 3) := by decide +kernel
theorem dLW_law_695 : decode cLW_law 695 = .ok (.istore 6, 2) := by decide +kernel
theorem dLW_law_697 : decode cLW_law 697 = .ok (.aload_n 2, 1) := by decide +kernel
theorem dLW_law_698 : decode cLW_law 698 = .ok (.invokevirtual 76, 3) := by decide +kernel
theorem dLW_law_701 : decode cLW_law 701 = .ok (.iload 5, 2) := by decide +kernel
theorem dLW_law_703 : decode cLW_law 703 = .ok (.if_icmp .eq 5, 3) := by decide +kernel
theorem dLW_law_706 : decode cLW_law 706 = .ok (.iconst 0, 1) := by decide +kernel
theorem dLW_law_707 : decode cLW_law 707 = .ok (.ireturn, 1) := by decide +kernel
theorem dLW_law_708 : decode cLW_law 708 = .ok (.iload 5, 2) := by decide +kernel
theorem dLW_law_710 : decode cLW_law 710 = .ok (.ifCond .ne 22, 3) := by decide +kernel
theorem dLW_law_713 : decode cLW_law 713 = .ok (.aload_n 3, 1) := by decide +kernel
theorem dLW_law_714 : decode cLW_law 714 = .ok (.iconst 0, 1) := by decide +kernel
theorem dLW_law_715 : decode cLW_law 715 = .ok (.laload, 1) := by decide +kernel
theorem dLW_law_716 : decode cLW_law 716 = .ok (.iload 6, 2) := by decide +kernel
theorem dLW_law_718 : decode cLW_law 718 = .ok (.ifCond .eq 7, 3) := by decide +kernel
theorem dLW_law_721 : decode cLW_law 721 = .ok (.lconst 1, 1) := by decide +kernel
theorem dLW_law_722 : decode cLW_law 722 = .ok (.goto 4, 3) := by decide +kernel
theorem dLW_law_725 : decode cLW_law 725 = .ok (.lconst 0, 1) := by decide +kernel
theorem dLW_law_726 : decode cLW_law 726 = .ok (.lcmp, 1) := by decide +kernel
theorem dLW_law_727 : decode cLW_law 727 = .ok (.ifCond .eq 5, 3) := by decide +kernel
theorem dLW_law_730 : decode cLW_law 730 = .ok (.iconst 0, 1) := by decide +kernel
theorem dLW_law_731 : decode cLW_law 731 = .ok (.ireturn, 1) := by decide +kernel
theorem dLW_law_732 : decode cLW_law 732 = .ok (.goto 610, 3) := by decide +kernel
theorem dLW_law_735 : decode cLW_law 735 = .ok (.aload_n 1, 1) := by decide +kernel
theorem dLW_law_736 : decode cLW_law 736 = .ok (.aload_n 0, 1) := by decide +kernel
theorem dLW_law_737 : decode cLW_law 737 = .ok (.iload 4, 2) := by decide +kernel
theorem dLW_law_739 : decode cLW_law 739 = .ok (.iconst 1, 1) := by decide +kernel
theorem dLW_law_740 : decode cLW_law 740 = .ok (.iadd, 1) := by decide +kernel
theorem dLW_law_741 : decode cLW_law 741 = .ok (.iaload, 1) := by decide +kernel
theorem dLW_law_742 : decode cLW_law 742 = .ok (.aload_n 0, 1) := by decide +kernel
theorem dLW_law_743 : decode cLW_law 743 = .ok (.iload 4, 2) := by decide +kernel
theorem dLW_law_745 : decode cLW_law 745 = .ok (.iconst 2, 1) := by decide +kernel
theorem dLW_law_746 : decode cLW_law 746 = .ok (.iadd, 1) := by decide +kernel
theorem dLW_law_747 : decode cLW_law 747 = .ok (.iaload, 1) := by decide +kernel
theorem dLW_law_748 : decode cLW_law 748 = .ok (.aload_n 3, 1) := by decide +kernel
theorem dLW_law_749 : decode cLW_law 749 = .ok (.invokestatic 99, 3) := by decide +kernel
theorem dLW_law_752 : decode cLW_law 752 = .ok (.istore 5, 2) := by decide +kernel
theorem dLW_law_754 : decode cLW_law 754 = .ok (.aload_n 2, 1) := by decide +kernel
theorem dLW_law_755 : decode cLW_law 755 = .ok (.aload_n 0, 1) := by decide +kernel
theorem dLW_law_756 : decode cLW_law 756 = .ok (.iload 4, 2) := by decide +kernel
theorem dLW_law_758 : decode cLW_law 758 = .ok (.iconst 1, 1) := by decide +kernel
theorem dLW_law_759 : decode cLW_law 759 = .ok (.iadd, 1) := by decide +kernel
theorem dLW_law_760 : decode cLW_law 760 = .ok (.iaload, 1) := by decide +kernel
theorem dLW_law_761 : decode cLW_law 761 = .ok (.aload_n 0, 1) := by decide +kernel
theorem dLW_law_762 : decode cLW_law 762 = .ok (.iload 4, 2) := by decide +kernel
theorem dLW_law_764 : decode cLW_law 764 = .ok (.iconst 2, 1) := by decide +kernel
theorem dLW_law_765 : decode cLW_law 765 = .ok (.iadd, 1) := by decide +kernel
theorem dLW_law_766 : decode cLW_law 766 = .ok (.iaload, 1) := by decide +kernel
theorem dLW_law_767 : decode cLW_law 767 = .ok (.invokevirtual 101, 3) := by decide +kernel
theorem dLW_law_770 : decode cLW_law 770 = .ok (.lstore 6, 2) := by decide +kernel
