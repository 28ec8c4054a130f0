/-! Decode rows of the law, by wip/whole/tools/names2.py. -/
theorem dL_law_642 : decode code 642 = .ok (.lshl, 1) := by decide +kernel
theorem dL_law_643 : decode code 643 = .ok (.aload_n 0, 1) := by decide +kernel
theorem dL_law_644 : decode code 644 = .ok (.iload 4, 2) := by decide +kernel
theorem dL_law_646 : decode code 646 = .ok (.iconst 4, 1) := by decide +kernel
theorem dL_law_647 : decode code 647 = .ok (.iadd, 1) := by decide +kernel
theorem dL_law_648 : decode code 648 = .ok (.iaload, 1) := by decide +kernel
theorem dL_law_649 : decode code 649 = .ok (.i2l, 1) := by decide +kernel
theorem dL_law_650 : decode code 650 = .ok (.ldc2_w 109, 3) := by decide +kernel
theorem dL_law_653 : decode code 653 = .ok (.land, 1) := by decide +kernel
theorem dL_law_654 : decode code 654 = .ok (.lor, 1) := by decide +kernel
theorem dL_law_655 : decode code 655 = .ok (.invokestatic 111, 3) := by decide +kernel
theorem dL_law_658 : decode code 658 = .ok (.istore 5, 2) := by decide +kernel
theorem dL_law_660 : decode code 660 = .ok (.aload_n 2, 1) := by decide +kernel
theorem dL_law_661 : decode code 661 = .ok (.aload_n 0, 1) := by decide +kernel
theorem dL_law_662 : decode code 662 = .ok (.iload 4, 2) := by decide +kernel
theorem dL_law_664 : decode code 664 = .ok (.iconst 1, 1) := by decide +kernel
theorem dL_law_665 : decode code 665 = .ok (.iadd, 1) := by decide +kernel
theorem dL_law_666 : decode code 666 = .ok (.iaload, 1) := by decide +kernel
theorem dL_law_667 : decode code 667 = .ok (.aload_n 0, 1) := by decide +kernel
theorem dL_law_668 : decode code 668 = .ok (.iload 4, 2) := by decide +kernel
theorem dL_law_670 : decode code 670 = .ok (.iconst 2, 1) := by decide +kernel
theorem dL_law_671 : decode code 671 = .ok (.iadd, 1) := by decide +kernel
theorem dL_law_672 : decode code 672 = .ok (.iaload, 1) := by decide +kernel
theorem dL_law_673 : decode code 673 = .ok (.aload_n 0, 1) := by decide +kernel
theorem dL_law_674 : decode code 674 = .ok (.iload 4, 2) := by decide +kernel
theorem dL_law_676 : decode code 676 = .ok (.iconst 3, 1) := by decide +kernel
theorem dL_law_677 : decode code 677 = .ok (.iadd, 1) := by decide +kernel
theorem dL_law_678 : decode code 678 = .ok (.iaload, 1) := by decide +kernel
theorem dL_law_679 : decode code 679 = .ok (.i2l, 1) := by decide +kernel
theorem dL_law_680 : decode code 680 = .ok (.bipush 32, 2) := by decide +kernel
theorem dL_law_682 : decode code 682 = .ok (.lshl, 1) := by decide +kernel
theorem dL_law_683 : decode code 683 = .ok (.aload_n 0, 1) := by decide +kernel
theorem dL_law_684 : decode code 684 = .ok (.iload 4, 2) := by decide +kernel
theorem dL_law_686 : decode code 686 = .ok (.iconst 4, 1) := by decide +kernel
theorem dL_law_687 : decode code 687 = .ok (.iadd, 1) := by decide +kernel
theorem dL_law_688 : decode code 688 = .ok (.iaload, 1) := by decide +kernel
theorem dL_law_689 : decode code 689 = .ok (.i2l, 1) := by decide +kernel
theorem dL_law_690 : decode code 690 = .ok (.ldc2_w 109, 3) := by decide +kernel
theorem dL_law_693 : decode code 693 = .ok (.land, 1) := by decide +kernel
theorem dL_law_694 : decode code 694 = .ok (.lor, 1) := by decide +kernel
theorem dL_law_695 : decode code 695 = .ok (.invokevirtual 114, 3) := by decide +kernel
theorem dL_law_698 : decode code 698 = .ok (.aload_n 2, 1) := by decide +kernel
theorem dL_law_699 : decode code 699 = .ok (.invokevirtual 76, 3) := by decide +kernel
theorem dL_law_702 : decode code 702 = .ok (.iload 5, 2) := by decide +kernel
theorem dL_law_704 : decode code 704 = .ok (.if_icmp .eq 5, 3) := by decide +kernel
theorem dL_law_707 : decode code 707 = .ok (.iconst 0, 1) := by decide +kernel
theorem dL_law_708 : decode code 708 = .ok (.ireturn, 1) := by decide +kernel
theorem dL_law_709 : decode code 709 = .ok (.goto 461, 3) := by decide +kernel
theorem dL_law_712 : decode code 712 = .ok (.aload_n 1, 1) := by decide +kernel
theorem dL_law_713 : decode code 713 = .ok (.aload_n 0, 1) := by decide +kernel
theorem dL_law_714 : decode code 714 = .ok (.iload 4, 2) := by decide +kernel
theorem dL_law_716 : decode code 716 = .ok (.iconst 1, 1) := by decide +kernel
theorem dL_law_717 : decode code 717 = .ok (.iadd, 1) := by decide +kernel
theorem dL_law_718 : decode code 718 = .ok (.iaload, 1) := by decide +kernel
theorem dL_law_719 : decode code 719 = .ok (.aload_n 0, 1) := by decide +kernel
theorem dL_law_720 : decode code 720 = .ok (.iload 4, 2) := by decide +kernel
theorem dL_law_722 : decode code 722 = .ok (.iconst 2, 1) := by decide +kernel
theorem dL_law_723 : decode code 723 = .ok (.iadd, 1) := by decide +kernel
theorem dL_law_724 : decode code 724 = .ok (.iaload, 1) := by decide +kernel
theorem dL_law_725 : decode code 725 = .ok (.invokestatic 115, 3) := by decide +kernel
theorem dL_law_728 : decode code 728 = .ok (.istore 5, 2) := by decide +kernel
theorem dL_law_730 : decode code 730 = .ok (.aload_n 2, 1) := by decide +kernel
theorem dL_law_731 : decode code 731 = .ok (.aload_n 0, 1) := by decide +kernel
theorem dL_law_732 : decode code 732 = .ok (.iload 4, 2) := by decide +kernel
theorem dL_law_734 : decode code 734 = .ok (.iconst 1, 1) := by decide +kernel
theorem dL_law_735 : decode code 735 = .ok (.iadd, 1) := by decide +kernel
theorem dL_law_736 : decode code 736 = .ok (.iaload, 1) := by decide +kernel
theorem dL_law_737 : decode code 737 = .ok (.aload_n 0, 1) := by decide +kernel
theorem dL_law_738 : decode code 738 = .ok (.iload 4, 2) := by decide +kernel
theorem dL_law_740 : decode code 740 = .ok (.iconst 2, 1) := by decide +kernel
theorem dL_law_741 : decode code 741 = .ok (.iadd, 1) := by decide +kernel
theorem dL_law_742 : decode code 742 = .ok (.iaload, 1) := by decide +kernel
theorem dL_law_743 : decode code 743 = .ok (.invokevirtual 118, 3) := by decide +kernel
theorem dL_law_746 : decode code 746 = .ok (.aload_n 2, 1) := by decide +kernel
theorem dL_law_747 : decode code 747 = .ok (.invokevirtual 76, 3) := by decide +kernel
theorem dL_law_750 : decode code 750 = .ok (.iload 5, 2) := by decide +kernel
theorem dL_law_752 : decode code 752 = .ok (.if_icmp .eq 5, 3) := by decide +kernel
theorem dL_law_755 : decode code 755 = .ok (.iconst 0, 1) := by decide +kernel
theorem dL_law_756 : decode code 756 = .ok (.ireturn, 1) := by decide +kernel
theorem dL_law_757 : decode code 757 = .ok (.goto 413, 3) := by decide +kernel
theorem dL_law_760 : decode code 760 = .ok (.aload_n 1, 1) := by decide +kernel
theorem dL_law_761 : decode code 761 = .ok (.aload_n 0, 1) := by decide +kernel
theorem dL_law_762 : decode code 762 = .ok (.iload 4, 2) := by decide +kernel
theorem dL_law_764 : decode code 764 = .ok (.iconst 1, 1) := by decide +kernel
theorem dL_law_765 : decode code 765 = .ok (.iadd, 1) := by decide +kernel
theorem dL_law_766 : decode code 766 = .ok (.iaload, 1) := by decide +kernel
theorem dL_law_767 : decode code 767 = .ok (.i2l, 1) := by decide +kernel
theorem dL_law_768 : decode code 768 = .ok (.bipush 32, 2) := by decide +kernel
theorem dL_law_770 : decode code 770 = .ok (.lshl, 1) := by decide +kernel
theorem dL_law_771 : decode code 771 = .ok (.aload_n 0, 1) := by decide +kernel
theorem dL_law_772 : decode code 772 = .ok (.iload 4, 2) := by decide +kernel
theorem dL_law_774 : decode code 774 = .ok (.iconst 2, 1) := by decide +kernel
theorem dL_law_775 : decode code 775 = .ok (.iadd, 1) := by decide +kernel
theorem dL_law_776 : decode code 776 = .ok (.iaload, 1) := by decide +kernel
theorem dL_law_777 : decode code 777 = .ok (.i2l, 1) := by decide +kernel
theorem dL_law_778 : decode code 778 = .ok (.ldc2_w 109, 3) := by decide +kernel
theorem dL_law_781 : decode code 781 = .ok (.land, 1) := by decide +kernel
theorem dL_law_782 : decode code 782 = .ok (.lor, 1) := by decide +kernel
theorem dL_law_783 : decode code 783 = .ok (.aload_n 3, 1) := by decide +kernel
theorem dL_law_784 : decode code 784 = .ok (.invokestatic 119, 3) := by decide +kernel
theorem dL_law_787 : decode code 787 = .ok (.istore 5, 2) := by decide +kernel
theorem dL_law_789 : decode code 789 = .ok (.aload_n 2, 1) := by decide +kernel
theorem dL_law_790 : decode code 790 = .ok (.aload_n 0, 1) := by decide +kernel
theorem dL_law_791 : decode code 791 = .ok (.iload 4, 2) := by decide +kernel
theorem dL_law_793 : decode code 793 = .ok (.iconst 1, 1) := by decide +kernel
theorem dL_law_794 : decode code 794 = .ok (.iadd, 1) := by decide +kernel
theorem dL_law_795 : decode code 795 = .ok (.iaload, 1) := by decide +kernel
theorem dL_law_796 : decode code 796 = .ok (.i2l, 1) := by decide +kernel
theorem dL_law_797 : decode code 797 = .ok (.bipush 32, 2) := by decide +kernel
theorem dL_law_799 : decode code 799 = .ok (.lshl, 1) := by decide +kernel
theorem dL_law_800 : decode code 800 = .ok (.aload_n 0, 1) := by decide +kernel
theorem dL_law_801 : decode code 801 = .ok (.iload 4, 2) := by decide +kernel
theorem dL_law_803 : decode code 803 = .ok (.iconst 2, 1) := by decide +kernel
theorem dL_law_804 : decode code 804 = .ok (.iadd, 1) := by decide +kernel
theorem dL_law_805 : decode code 805 = .ok (.iaload, 1) := by decide +kernel
theorem dL_law_806 : decode code 806 = .ok (.i2l, 1) := by decide +kernel
theorem dL_law_807 : decode code 807 = .ok (.ldc2_w 109, 3) := by decide +kernel
theorem dL_law_810 : decode code 810 = .ok (.land, 1) := by decide +kernel
theorem dL_law_811 : decode code 811 = .ok (.lor, 1) := by decide +kernel
theorem dL_law_812 : decode code 812 = .ok (.invokevirtual 122, 3) := by decide +kernel
theorem dL_law_815 : decode code 815 = .ok (.lstore 6, 2) := by decide +kernel
theorem dL_law_817 : decode code 817 = .ok (.aload_n 2, 1) := by decide +kernel
theorem dL_law_818 : decode code 818 = .ok (.invokevirtual 76, 3) := by decide +kernel
theorem dL_law_821 : decode code 821 = .ok (.iload 5, 2) := by decide +kernel
theorem dL_law_823 : decode code 823 = .ok (.if_icmp .eq 5, 3) := by decide +kernel
