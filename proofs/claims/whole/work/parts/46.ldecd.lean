theorem d_w_law_643 : decode code 643 = .ok (.ireturn, 1) := by decide +kernel
theorem d_w_law_644 : decode code 644 = .ok (.iload 5, 2) := by decide +kernel
theorem d_w_law_646 : decode code 646 = .ok (.ifCond .ne 14, 3) := by decide +kernel
theorem d_w_law_649 : decode code 649 = .ok (.aload_n 3, 1) := by decide +kernel
theorem d_w_law_650 : decode code 650 = .ok (.iconst 0, 1) := by decide +kernel
theorem d_w_law_651 : decode code 651 = .ok (.laload, 1) := by decide +kernel
theorem d_w_law_652 : decode code 652 = .ok (.lload 6, 2) := by decide +kernel
theorem d_w_law_654 : decode code 654 = .ok (.lcmp, 1) := by decide +kernel
theorem d_w_law_655 : decode code 655 = .ok (.ifCond .eq 5, 3) := by decide +kernel
theorem d_w_law_658 : decode code 658 = .ok (.iconst 0, 1) := by decide +kernel
theorem d_w_law_659 : decode code 659 = .ok (.ireturn, 1) := by decide +kernel
theorem d_w_law_660 : decode code 660 = .ok (.goto 523, 3) := by decide +kernel
theorem d_w_law_663 : decode code 663 = .ok (.aload_n 1, 1) := by decide +kernel
theorem d_w_law_664 : decode code 664 = .ok (.aload_n 0, 1) := by decide +kernel
theorem d_w_law_665 : decode code 665 = .ok (.iload 4, 2) := by decide +kernel
theorem d_w_law_667 : decode code 667 = .ok (.iconst 1, 1) := by decide +kernel
theorem d_w_law_668 : decode code 668 = .ok (.iadd, 1) := by decide +kernel
theorem d_w_law_669 : decode code 669 = .ok (.iaload, 1) := by decide +kernel
theorem d_w_law_670 : decode code 670 = .ok (.aload_n 0, 1) := by decide +kernel
theorem d_w_law_671 : decode code 671 = .ok (.iload 4, 2) := by decide +kernel
theorem d_w_law_673 : decode code 673 = .ok (.iconst 2, 1) := by decide +kernel
theorem d_w_law_674 : decode code 674 = .ok (.iadd, 1) := by decide +kernel
theorem d_w_law_675 : decode code 675 = .ok (.iaload, 1) := by decide +kernel
theorem d_w_law_676 : decode code 676 = .ok (.aload_n 3, 1) := by decide +kernel
theorem d_w_law_677 : decode code 677 = .ok (.invokestatic 122, 3) := by decide +kernel
theorem d_w_law_680 : decode code 680 = .ok (.istore 5, 2) := by decide +kernel
theorem d_w_law_682 : decode code 682 = .ok (.aload_n 2, 1) := by decide +kernel
theorem d_w_law_683 : decode code 683 = .ok (.aload_n 0, 1) := by decide +kernel
theorem d_w_law_684 : decode code 684 = .ok (.iload 4, 2) := by decide +kernel
theorem d_w_law_686 : decode code 686 = .ok (.iconst 1, 1) := by decide +kernel
theorem d_w_law_687 : decode code 687 = .ok (.iadd, 1) := by decide +kernel
theorem d_w_law_688 : decode code 688 = .ok (.iaload, 1) := by decide +kernel
theorem d_w_law_689 : decode code 689 = .ok (.aload_n 0, 1) := by decide +kernel
theorem d_w_law_690 : decode code 690 = .ok (.iload 4, 2) := by decide +kernel
theorem d_w_law_692 : decode code 692 = .ok (.iconst 2, 1) := by decide +kernel
theorem d_w_law_693 : decode code 693 = .ok (.iadd, 1) := by decide +kernel
theorem d_w_law_694 : decode code 694 = .ok (.iaload, 1) := by decide +kernel
theorem d_w_law_695 : decode code 695 = .ok (.invokevirtual 124, 3) := by decide +kernel
theorem d_w_law_698 : decode code 698 = .ok (.lstore 6, 2) := by decide +kernel
theorem d_w_law_700 : decode code 700 = .ok (.aload_n 2, 1) := by decide +kernel
theorem d_w_law_701 : decode code 701 = .ok (.invokevirtual 87, 3) := by decide +kernel
theorem d_w_law_704 : decode code 704 = .ok (.iload 5, 2) := by decide +kernel
theorem d_w_law_706 : decode code 706 = .ok (.if_icmp .eq 5, 3) := by decide +kernel
theorem d_w_law_709 : decode code 709 = .ok (.iconst 0, 1) := by decide +kernel
theorem d_w_law_710 : decode code 710 = .ok (.ireturn, 1) := by decide +kernel
theorem d_w_law_711 : decode code 711 = .ok (.iload 5, 2) := by decide +kernel
theorem d_w_law_713 : decode code 713 = .ok (.ifCond .ne 14, 3) := by decide +kernel
theorem d_w_law_716 : decode code 716 = .ok (.aload_n 3, 1) := by decide +kernel
theorem d_w_law_717 : decode code 717 = .ok (.iconst 0, 1) := by decide +kernel
theorem d_w_law_718 : decode code 718 = .ok (.laload, 1) := by decide +kernel
theorem d_w_law_719 : decode code 719 = .ok (.lload 6, 2) := by decide +kernel
theorem d_w_law_721 : decode code 721 = .ok (.lcmp, 1) := by decide +kernel
theorem d_w_law_722 : decode code 722 = .ok (.ifCond .eq 5, 3) := by decide +kernel
theorem d_w_law_725 : decode code 725 = .ok (.iconst 0, 1) := by decide +kernel
theorem d_w_law_726 : decode code 726 = .ok (.ireturn, 1) := by decide +kernel
theorem d_w_law_727 : decode code 727 = .ok (.goto 456, 3) := by decide +kernel
theorem d_w_law_730 : decode code 730 = .ok (.aload_n 1, 1) := by decide +kernel
theorem d_w_law_731 : decode code 731 = .ok (.aload_n 0, 1) := by decide +kernel
theorem d_w_law_732 : decode code 732 = .ok (.iload 4, 2) := by decide +kernel
theorem d_w_law_734 : decode code 734 = .ok (.iconst 1, 1) := by decide +kernel
theorem d_w_law_735 : decode code 735 = .ok (.iadd, 1) := by decide +kernel
theorem d_w_law_736 : decode code 736 = .ok (.iaload, 1) := by decide +kernel
theorem d_w_law_737 : decode code 737 = .ok (.aload_n 0, 1) := by decide +kernel
theorem d_w_law_738 : decode code 738 = .ok (.iload 4, 2) := by decide +kernel
theorem d_w_law_740 : decode code 740 = .ok (.iconst 2, 1) := by decide +kernel
theorem d_w_law_741 : decode code 741 = .ok (.iadd, 1) := by decide +kernel
theorem d_w_law_742 : decode code 742 = .ok (.iaload, 1) := by decide +kernel
theorem d_w_law_743 : decode code 743 = .ok (.aload_n 0, 1) := by decide +kernel
theorem d_w_law_744 : decode code 744 = .ok (.iload 4, 2) := by decide +kernel
theorem d_w_law_746 : decode code 746 = .ok (.iconst 3, 1) := by decide +kernel
theorem d_w_law_747 : decode code 747 = .ok (.iadd, 1) := by decide +kernel
theorem d_w_law_748 : decode code 748 = .ok (.iaload, 1) := by decide +kernel
theorem d_w_law_749 : decode code 749 = .ok (.aload_n 3, 1) := by decide +kernel
theorem d_w_law_750 : decode code 750 = .ok (.invokestatic 125, 3) := by decide +kernel
theorem d_w_law_753 : decode code 753 = .ok (.istore 5, 2) := by decide +kernel
theorem d_w_law_755 : decode code 755 = .ok (.aload_n 2, 1) := by decide +kernel
theorem d_w_law_756 : decode code 756 = .ok (.aload_n 0, 1) := by decide +kernel
theorem d_w_law_757 : decode code 757 = .ok (.iload 4, 2) := by decide +kernel
theorem d_w_law_759 : decode code 759 = .ok (.iconst 1, 1) := by decide +kernel
theorem d_w_law_760 : decode code 760 = .ok (.iadd, 1) := by decide +kernel
theorem d_w_law_761 : decode code 761 = .ok (.iaload, 1) := by decide +kernel
theorem d_w_law_762 : decode code 762 = .ok (.aload_n 0, 1) := by decide +kernel
theorem d_w_law_763 : decode code 763 = .ok (.iload 4, 2) := by decide +kernel
theorem d_w_law_765 : decode code 765 = .ok (.iconst 2, 1) := by decide +kernel
theorem d_w_law_766 : decode code 766 = .ok (.iadd, 1) := by decide +kernel
theorem d_w_law_767 : decode code 767 = .ok (.iaload, 1) := by decide +kernel
theorem d_w_law_768 : decode code 768 = .ok (.aload_n 0, 1) := by decide +kernel
theorem d_w_law_769 : decode code 769 = .ok (.iload 4, 2) := by decide +kernel
theorem d_w_law_771 : decode code 771 = .ok (.iconst 3, 1) := by decide +kernel
theorem d_w_law_772 : decode code 772 = .ok (.iadd, 1) := by decide +kernel
theorem d_w_law_773 : decode code 773 = .ok (.iaload, 1) := by decide +kernel
theorem d_w_law_774 : decode code 774 = .ok (.invokevirtual 128, 3) := by decide +kernel
theorem d_w_law_777 : decode code 777 = .ok (.lstore 6, 2) := by decide +kernel
theorem d_w_law_779 : decode code 779 = .ok (.aload_n 2, 1) := by decide +kernel
theorem d_w_law_780 : decode code 780 = .ok (.invokevirtual 87, 3) := by decide +kernel
theorem d_w_law_783 : decode code 783 = .ok (.iload 5, 2) := by decide +kernel
theorem d_w_law_785 : decode code 785 = .ok (.if_icmp .eq 5, 3) := by decide +kernel
theorem d_w_law_788 : decode code 788 = .ok (.iconst 0, 1) := by decide +kernel
theorem d_w_law_789 : decode code 789 = .ok (.ireturn, 1) := by decide +kernel
theorem d_w_law_790 : decode code 790 = .ok (.iload 5, 2) := by decide +kernel
theorem d_w_law_792 : decode code 792 = .ok (.ifCond .ne 14, 3) := by decide +kernel
theorem d_w_law_795 : decode code 795 = .ok (.aload_n 3, 1) := by decide +kernel
theorem d_w_law_796 : decode code 796 = .ok (.iconst 0, 1) := by decide +kernel
theorem d_w_law_797 : decode code 797 = .ok (.laload, 1) := by decide +kernel
theorem d_w_law_798 : decode code 798 = .ok (.lload 6, 2) := by decide +kernel
theorem d_w_law_800 : decode code 800 = .ok (.lcmp, 1) := by decide +kernel
theorem d_w_law_801 : decode code 801 = .ok (.ifCond .eq 5, 3) := by decide +kernel
theorem d_w_law_804 : decode code 804 = .ok (.iconst 0, 1) := by decide +kernel
theorem d_w_law_805 : decode code 805 = .ok (.ireturn, 1) := by decide +kernel
theorem d_w_law_806 : decode code 806 = .ok (.goto 377, 3) := by decide +kernel
theorem d_w_law_809 : decode code 809 = .ok (.aload_n 1, 1) := by decide +kernel
theorem d_w_law_810 : decode code 810 = .ok (.aload_n 0, 1) := by decide +kernel
theorem d_w_law_811 : decode code 811 = .ok (.iload 4, 2) := by decide +kernel
theorem d_w_law_813 : decode code 813 = .ok (.iconst 1, 1) := by decide +kernel
theorem d_w_law_814 : decode code 814 = .ok (.iadd, 1) := by decide +kernel
theorem d_w_law_815 : decode code 815 = .ok (.iaload, 1) := by decide +kernel
theorem d_w_law_816 : decode code 816 = .ok (.aload_n 0, 1) := by decide +kernel
theorem d_w_law_817 : decode code 817 = .ok (.iload 4, 2) := by decide +kernel
theorem d_w_law_819 : decode code 819 = .ok (.iconst 2, 1) := by decide +kernel
theorem d_w_law_820 : decode code 820 = .ok (.iadd, 1) := by decide +kernel
