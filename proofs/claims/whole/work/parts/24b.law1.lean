theorem dL_law_601 : decode code 601 = .ok (.iconst 0, 1) := by decide +kernel
theorem dL_law_602 : decode code 602 = .ok (.aload_n 3, 1) := by decide +kernel
theorem dL_law_603 : decode code 603 = .ok (.invokestatic 132, 3) := by decide +kernel
theorem dL_law_606 : decode code 606 = .ok (.istore 6, 2) := by decide +kernel
theorem dL_law_608 : decode code 608 = .ok (.aload_n 2, 1) := by decide +kernel
theorem dL_law_609 : decode code 609 = .ok (.aload_n 0, 1) := by decide +kernel
theorem dL_law_610 : decode code 610 = .ok (.iload 5, 2) := by decide +kernel
theorem dL_law_612 : decode code 612 = .ok (.iconst 1, 1) := by decide +kernel
theorem dL_law_613 : decode code 613 = .ok (.iadd, 1) := by decide +kernel
theorem dL_law_614 : decode code 614 = .ok (.iaload, 1) := by decide +kernel
theorem dL_law_615 : decode code 615 = .ok (.aload_n 0, 1) := by decide +kernel
theorem dL_law_616 : decode code 616 = .ok (.iload 5, 2) := by decide +kernel
theorem dL_law_618 : decode code 618 = .ok (.iconst 2, 1) := by decide +kernel
theorem dL_law_619 : decode code 619 = .ok (.iadd, 1) := by decide +kernel
theorem dL_law_620 : decode code 620 = .ok (.iaload, 1) := by decide +kernel
theorem dL_law_621 : decode code 621 = .ok (.ifCond .eq 7, 3) := by decide +kernel
theorem dL_law_624 : decode code 624 = .ok (.iconst 1, 1) := by decide +kernel
theorem dL_law_625 : decode code 625 = .ok (.goto 4, 3) := by decide +kernel
theorem dL_law_628 : decode code 628 = .ok (.iconst 0, 1) := by decide +kernel
theorem dL_law_629 : decode code 629 = .ok (.invokevirtual 135, 3) := by decide +kernel
theorem dL_law_632 : decode code 632 = .ok (.lstore 7, 2) := by decide +kernel
theorem dL_law_634 : decode code 634 = .ok (.aload_n 2, 1) := by decide +kernel
theorem dL_law_635 : decode code 635 = .ok (.invokevirtual 111, 3) := by decide +kernel
theorem dL_law_638 : decode code 638 = .ok (.iload 6, 2) := by decide +kernel
theorem dL_law_640 : decode code 640 = .ok (.if_icmp .eq 5, 3) := by decide +kernel
theorem dL_law_643 : decode code 643 = .ok (.iconst 0, 1) := by decide +kernel
theorem dL_law_644 : decode code 644 = .ok (.ireturn, 1) := by decide +kernel
theorem dL_law_645 : decode code 645 = .ok (.iload 6, 2) := by decide +kernel
theorem dL_law_647 : decode code 647 = .ok (.ifCond .ne 14, 3) := by decide +kernel
theorem dL_law_650 : decode code 650 = .ok (.aload_n 3, 1) := by decide +kernel
theorem dL_law_651 : decode code 651 = .ok (.iconst 0, 1) := by decide +kernel
theorem dL_law_652 : decode code 652 = .ok (.laload, 1) := by decide +kernel
theorem dL_law_653 : decode code 653 = .ok (.lload 7, 2) := by decide +kernel
theorem dL_law_655 : decode code 655 = .ok (.lcmp, 1) := by decide +kernel
theorem dL_law_656 : decode code 656 = .ok (.ifCond .eq 5, 3) := by decide +kernel
theorem dL_law_659 : decode code 659 = .ok (.iconst 0, 1) := by decide +kernel
theorem dL_law_660 : decode code 660 = .ok (.ireturn, 1) := by decide +kernel
theorem dL_law_661 : decode code 661 = .ok (.goto 1223, 3) := by decide +kernel
theorem dL_law_664 : decode code 664 = .ok (.aload_n 1, 1) := by decide +kernel
theorem dL_law_665 : decode code 665 = .ok (.aload_n 0, 1) := by decide +kernel
theorem dL_law_666 : decode code 666 = .ok (.iload 5, 2) := by decide +kernel
theorem dL_law_668 : decode code 668 = .ok (.iconst 1, 1) := by decide +kernel
theorem dL_law_669 : decode code 669 = .ok (.iadd, 1) := by decide +kernel
theorem dL_law_670 : decode code 670 = .ok (.iaload, 1) := by decide +kernel
theorem dL_law_671 : decode code 671 = .ok (.aload_n 0, 1) := by decide +kernel
theorem dL_law_672 : decode code 672 = .ok (.iload 5, 2) := by decide +kernel
theorem dL_law_674 : decode code 674 = .ok (.iconst 2, 1) := by decide +kernel
theorem dL_law_675 : decode code 675 = .ok (.iadd, 1) := by decide +kernel
theorem dL_law_676 : decode code 676 = .ok (.iaload, 1) := by decide +kernel
theorem dL_law_677 : decode code 677 = .ok (.aload_n 3, 1) := by decide +kernel
theorem dL_law_678 : decode code 678 = .ok (.invokestatic 136, 3) := by decide +kernel
theorem dL_law_681 : decode code 681 = .ok (.istore 6, 2) := by decide +kernel
theorem dL_law_683 : decode code 683 = .ok (.aload_n 2, 1) := by decide +kernel
theorem dL_law_684 : decode code 684 = .ok (.aload_n 0, 1) := by decide +kernel
theorem dL_law_685 : decode code 685 = .ok (.iload 5, 2) := by decide +kernel
theorem dL_law_687 : decode code 687 = .ok (.iconst 1, 1) := by decide +kernel
theorem dL_law_688 : decode code 688 = .ok (.iadd, 1) := by decide +kernel
theorem dL_law_689 : decode code 689 = .ok (.iaload, 1) := by decide +kernel
theorem dL_law_690 : decode code 690 = .ok (.aload_n 0, 1) := by decide +kernel
theorem dL_law_691 : decode code 691 = .ok (.iload 5, 2) := by decide +kernel
theorem dL_law_693 : decode code 693 = .ok (.iconst 2, 1) := by decide +kernel
theorem dL_law_694 : decode code 694 = .ok (.iadd, 1) := by decide +kernel
theorem dL_law_695 : decode code 695 = .ok (.iaload, 1) := by decide +kernel
theorem dL_law_696 : decode code 696 = .ok (.invokevirtual 138, 3) := by decide +kernel
theorem dL_law_699 : decode code 699 = .ok (.istore 7, 2) := by decide +kernel
theorem dL_law_701 : decode code 701 = .ok (.aload_n 2, 1) := by decide +kernel
theorem dL_law_702 : decode code 702 = .ok (.invokevirtual 111, 3) := by decide +kernel
theorem dL_law_705 : decode code 705 = .ok (.iload 6, 2) := by decide +kernel
theorem dL_law_707 : decode code 707 = .ok (.if_icmp .eq 5, 3) := by decide +kernel
theorem dL_law_710 : decode code 710 = .ok (.iconst 0, 1) := by decide +kernel
theorem dL_law_711 : decode code 711 = .ok (.ireturn, 1) := by decide +kernel
theorem dL_law_712 : decode code 712 = .ok (.iload 6, 2) := by decide +kernel
theorem dL_law_714 : decode code 714 = .ok (.ifCond .ne 15, 3) := by decide +kernel
theorem dL_law_717 : decode code 717 = .ok (.aload_n 3, 1) := by decide +kernel
theorem dL_law_718 : decode code 718 = .ok (.iconst 0, 1) := by decide +kernel
theorem dL_law_719 : decode code 719 = .ok (.laload, 1) := by decide +kernel
theorem dL_law_720 : decode code 720 = .ok (.iload 7, 2) := by decide +kernel
theorem dL_law_722 : decode code 722 = .ok (.i2l, 1) := by decide +kernel
theorem dL_law_723 : decode code 723 = .ok (.lcmp, 1) := by decide +kernel
theorem dL_law_724 : decode code 724 = .ok (.ifCond .eq 5, 3) := by decide +kernel
theorem dL_law_727 : decode code 727 = .ok (.iconst 0, 1) := by decide +kernel
theorem dL_law_728 : decode code 728 = .ok (.ireturn, 1) := by decide +kernel
theorem dL_law_729 : decode code 729 = .ok (.goto 1155, 3) := by decide +kernel
theorem dL_law_732 : decode code 732 = .ok (.aload_n 1, 1) := by decide +kernel
theorem dL_law_733 : decode code 733 = .ok (.aload_n 0, 1) := by decide +kernel
theorem dL_law_734 : decode code 734 = .ok (.iload 5, 2) := by decide +kernel
theorem dL_law_736 : decode code 736 = .ok (.iconst 1, 1) := by decide +kernel
theorem dL_law_737 : decode code 737 = .ok (.iadd, 1) := by decide +kernel
theorem dL_law_738 : decode code 738 = .ok (.iaload, 1) := by decide +kernel
theorem dL_law_739 : decode code 739 = .ok (.aload_n 0, 1) := by decide +kernel
theorem dL_law_740 : decode code 740 = .ok (.iload 5, 2) := by decide +kernel
theorem dL_law_742 : decode code 742 = .ok (.iconst 2, 1) := by decide +kernel
theorem dL_law_743 : decode code 743 = .ok (.iadd, 1) := by decide +kernel
theorem dL_law_744 : decode code 744 = .ok (.iaload, 1) := by decide +kernel
theorem dL_law_745 : decode code 745 = .ok (.ifCond .eq 7, 3) := by decide +kernel
theorem dL_law_748 : decode code 748 = .ok (.iconst 1, 1) := by decide +kernel
theorem dL_law_749 : decode code 749 = .ok (.goto 4, 3) := by decide +kernel
theorem dL_law_752 : decode code 752 = .ok (.iconst 0, 1) := by decide +kernel
theorem dL_law_753 : decode code 753 = .ok (.aload_n 0, 1) := by decide +kernel
theorem dL_law_754 : decode code 754 = .ok (.iload 5, 2) := by decide +kernel
theorem dL_law_756 : decode code 756 = .ok (.iconst 3, 1) := by decide +kernel
theorem dL_law_757 : decode code 757 = .ok (.iadd, 1) := by decide +kernel
theorem dL_law_758 : decode code 758 = .ok (.iaload, 1) := by decide +kernel
theorem dL_law_759 : decode code 759 = .ok (.i2l, 1) := by decide +kernel
theorem dL_law_760 : decode code 760 = .ok (.bipush 32, 2) := by decide +kernel
theorem dL_law_762 : decode code 762 = .ok (.lshl, 1) := by decide +kernel
theorem dL_law_763 : decode code 763 = .ok (.aload_n 0, 1) := by decide +kernel
theorem dL_law_764 : decode code 764 = .ok (.iload 5, 2) := by decide +kernel
theorem dL_law_766 : decode code 766 = .ok (.iconst 4, 1) := by decide +kernel
theorem dL_law_767 : decode code 767 = .ok (.iadd, 1) := by decide +kernel
theorem dL_law_768 : decode code 768 = .ok (.iaload, 1) := by decide +kernel
theorem dL_law_769 : decode code 769 = .ok (.i2l, 1) := by decide +kernel
theorem dL_law_770 : decode code 770 = .ok (.ldc2_w 139, 3) := by decide +kernel
theorem dL_law_773 : decode code 773 = .ok (.land, 1) := by decide +kernel
theorem dL_law_774 : decode code 774 = .ok (.lor, 1) := by decide +kernel
theorem dL_law_775 : decode code 775 = .ok (.aload_n 3, 1) := by decide +kernel
theorem dL_law_776 : decode code 776 = .ok (.invokestatic 141, 3) := by decide +kernel
theorem dL_law_779 : decode code 779 = .ok (.istore 6, 2) := by decide +kernel
theorem dL_law_781 : decode code 781 = .ok (.aload_n 2, 1) := by decide +kernel
theorem dL_law_782 : decode code 782 = .ok (.aload_n 0, 1) := by decide +kernel
theorem dL_law_783 : decode code 783 = .ok (.iload 5, 2) := by decide +kernel
theorem dL_law_785 : decode code 785 = .ok (.iconst 1, 1) := by decide +kernel
theorem dL_law_786 : decode code 786 = .ok (.iadd, 1) := by decide +kernel
theorem dL_law_787 : decode code 787 = .ok (.iaload, 1) := by decide +kernel
theorem dL_law_788 : decode code 788 = .ok (.aload_n 0, 1) := by decide +kernel
theorem dL_law_789 : decode code 789 = .ok (.iload 5, 2) := by decide +kernel
theorem dL_law_791 : decode code 791 = .ok (.iconst 2, 1) := by decide +kernel
theorem dL_law_792 : decode code 792 = .ok (.iadd, 1) := by decide +kernel
theorem dL_law_793 : decode code 793 = .ok (.iaload, 1) := by decide +kernel
theorem dL_law_794 : decode code 794 = .ok (.ifCond .eq 7, 3) := by decide +kernel
theorem dL_law_797 : decode code 797 = .ok (.iconst 1, 1) := by decide +kernel
theorem dL_law_798 : decode code 798 = .ok (.goto 4, 3) := by decide +kernel
theorem dL_law_801 : decode code 801 = .ok (.iconst 0, 1) := by decide +kernel
theorem dL_law_802 : decode code 802 = .ok (.aload_n 0, 1) := by decide +kernel
theorem dL_law_803 : decode code 803 = .ok (.iload 5, 2) := by decide +kernel
theorem dL_law_805 : decode code 805 = .ok (.iconst 3, 1) := by decide +kernel
theorem dL_law_806 : decode code 806 = .ok (.iadd, 1) := by decide +kernel
theorem dL_law_807 : decode code 807 = .ok (.iaload, 1) := by decide +kernel
theorem dL_law_808 : decode code 808 = .ok (.i2l, 1) := by decide +kernel
theorem dL_law_809 : decode code 809 = .ok (.bipush 32, 2) := by decide +kernel
theorem dL_law_811 : decode code 811 = .ok (.lshl, 1) := by decide +kernel
theorem dL_law_812 : decode code 812 = .ok (.aload_n 0, 1) := by decide +kernel
theorem dL_law_813 : decode code 813 = .ok (.iload 5, 2) := by decide +kernel
theorem dL_law_815 : decode code 815 = .ok (.iconst 4, 1) := by decide +kernel
theorem dL_law_816 : decode code 816 = .ok (.iadd, 1) := by decide +kernel
theorem dL_law_817 : decode code 817 = .ok (.iaload, 1) := by decide +kernel
theorem dL_law_818 : decode code 818 = .ok (.i2l, 1) := by decide +kernel
theorem dL_law_819 : decode code 819 = .ok (.ldc2_w 139, 3) := by decide +kernel
theorem dL_law_822 : decode code 822 = .ok (.land, 1) := by decide +kernel
theorem dL_law_823 : decode code 823 = .ok (.lor, 1) := by decide +kernel
theorem dL_law_824 : decode code 824 = .ok (.invokevirtual 144, 3) := by decide +kernel
theorem dL_law_827 : decode code 827 = .ok (.istore 7, 2) := by decide +kernel
theorem dL_law_829 : decode code 829 = .ok (.aload_n 2, 1) := by decide +kernel
theorem dL_law_830 : decode code 830 = .ok (.invokevirtual 111, 3) := by decide +kernel
theorem dL_law_833 : decode code 833 = .ok (.iload 6, 2) := by decide +kernel
theorem dL_law_835 : decode code 835 = .ok (.if_icmp .eq 5, 3) := by decide +kernel
theorem dL_law_838 : decode code 838 = .ok (.iconst 0, 1) := by decide +kernel
theorem dL_law_839 : decode code 839 = .ok (.ireturn, 1) := by decide +kernel
theorem dL_law_840 : decode code 840 = .ok (.iload 6, 2) := by decide +kernel
theorem dL_law_842 : decode code 842 = .ok (.ifCond .ne 15, 3) := by decide +kernel
theorem dL_law_845 : decode code 845 = .ok (.aload_n 3, 1) := by decide +kernel
theorem dL_law_846 : decode code 846 = .ok (.iconst 0, 1) := by decide +kernel
theorem dL_law_847 : decode code 847 = .ok (.laload, 1) := by decide +kernel
theorem dL_law_848 : decode code 848 = .ok (.iload 7, 2) := by decide +kernel
theorem dL_law_850 : decode code 850 = .ok (.i2l, 1) := by decide +kernel
theorem dL_law_851 : decode code 851 = .ok (.lcmp, 1) := by decide +kernel
theorem dL_law_852 : decode code 852 = .ok (.ifCond .eq 5, 3) := by decide +kernel
theorem dL_law_855 : decode code 855 = .ok (.iconst 0, 1) := by decide +kernel
theorem dL_law_856 : decode code 856 = .ok (.ireturn, 1) := by decide +kernel
theorem dL_law_857 : decode code 857 = .ok (.goto 1027, 3) := by decide +kernel
theorem dL_law_860 : decode code 860 = .ok (.aload_n 1, 1) := by decide +kernel
theorem dL_law_861 : decode code 861 = .ok (.aload_n 0, 1) := by decide +kernel
theorem dL_law_862 : decode code 862 = .ok (.iload 5, 2) := by decide +kernel
theorem dL_law_864 : decode code 864 = .ok (.iconst 1, 1) := by decide +kernel
theorem dL_law_865 : decode code 865 = .ok (.iadd, 1) := by decide +kernel
theorem dL_law_866 : decode code 866 = .ok (.iaload, 1) := by decide +kernel
theorem dL_law_867 : decode code 867 = .ok (.aload_n 3, 1) := by decide +kernel
theorem dL_law_868 : decode code 868 = .ok (.invokestatic 145, 3) := by decide +kernel
theorem dL_law_871 : decode code 871 = .ok (.istore 6, 2) := by decide +kernel
theorem dL_law_873 : decode code 873 = .ok (.aload_n 2, 1) := by decide +kernel
theorem dL_law_874 : decode code 874 = .ok (.aload_n 0, 1) := by decide +kernel
theorem dL_law_875 : decode code 875 = .ok (.iload 5, 2) := by decide +kernel
theorem dL_law_877 : decode code 877 = .ok (.iconst 1, 1) := by decide +kernel
theorem dL_law_878 : decode code 878 = .ok (.iadd, 1) := by decide +kernel
theorem dL_law_879 : decode code 879 = .ok (.iaload, 1) := by decide +kernel
theorem dL_law_880 : decode code 880 = .ok (.invokevirtual 147, 3) := by decide +kernel
theorem dL_law_883 : decode code 883 = .ok (.istore 7, 2) := by decide +kernel
theorem dL_law_885 : decode code 885 = .ok (.aload_n 2, 1) := by decide +kernel
theorem dL_law_886 : decode code 886 = .ok (.invokevirtual 111, 3) := by decide +kernel
theorem dL_law_889 : decode code 889 = .ok (.iload 6, 2) := by decide +kernel
theorem dL_law_891 : decode code 891 = .ok (.if_icmp .eq 5, 3) := by decide +kernel
theorem dL_law_894 : decode code 894 = .ok (.iconst 0, 1) := by decide +kernel
theorem dL_law_895 : decode code 895 = .ok (.ireturn, 1) := by decide +kernel
theorem dL_law_896 : decode code 896 = .ok (.iload 6, 2) := by decide +kernel
theorem dL_law_898 : decode code 898 = .ok (.ifCond .ne 15, 3) := by decide +kernel
theorem dL_law_901 : decode code 901 = .ok (.aload_n 3, 1) := by decide +kernel
theorem dL_law_902 : decode code 902 = .ok (.iconst 0, 1) := by decide +kernel
theorem dL_law_903 : decode code 903 = .ok (.laload, 1) := by decide +kernel
theorem dL_law_904 : decode code 904 = .ok (.iload 7, 2) := by decide +kernel
theorem dL_law_906 : decode code 906 = .ok (.i2l, 1) := by decide +kernel
theorem dL_law_907 : decode code 907 = .ok (.lcmp, 1) := by decide +kernel
theorem dL_law_908 : decode code 908 = .ok (.ifCond .eq 5, 3) := by decide +kernel
theorem dL_law_911 : decode code 911 = .ok (.iconst 0, 1) := by decide +kernel
theorem dL_law_912 : decode code 912 = .ok (.ireturn, 1) := by decide +kernel
theorem dL_law_913 : decode code 913 = .ok (.goto 971, 3) := by decide +kernel
theorem dL_law_916 : decode code 916 = .ok (.aload_n 1, 1) := by decide +kernel
theorem dL_law_917 : decode code 917 = .ok (.aload_n 0, 1) := by decide +kernel
theorem dL_law_918 : decode code 918 = .ok (.iload 5, 2) := by decide +kernel
theorem dL_law_920 : decode code 920 = .ok (.iconst 1, 1) := by decide +kernel
theorem dL_law_921 : decode code 921 = .ok (.iadd, 1) := by decide +kernel
theorem dL_law_922 : decode code 922 = .ok (.iaload, 1) := by decide +kernel
theorem dL_law_923 : decode code 923 = .ok (.aload_n 0, 1) := by decide +kernel
theorem dL_law_924 : decode code 924 = .ok (.iload 5, 2) := by decide +kernel
theorem dL_law_926 : decode code 926 = .ok (.iconst 2, 1) := by decide +kernel
theorem dL_law_927 : decode code 927 = .ok (.iadd, 1) := by decide +kernel
theorem dL_law_928 : decode code 928 = .ok (.iaload, 1) := by decide +kernel
theorem dL_law_929 : decode code 929 = .ok (.aload_n 3, 1) := by decide +kernel
theorem dL_law_930 : decode code 930 = .ok (.invokestatic 148, 3) := by decide +kernel
theorem dL_law_933 : decode code 933 = .ok (.istore 6, 2) := by decide +kernel
theorem dL_law_935 : decode code 935 = .ok (.aload_n 2, 1) := by decide +kernel
theorem dL_law_936 : decode code 936 = .ok (.aload_n 0, 1) := by decide +kernel
theorem dL_law_937 : decode code 937 = .ok (.iload 5, 2) := by decide +kernel
theorem dL_law_939 : decode code 939 = .ok (.iconst 1, 1) := by decide +kernel
theorem dL_law_940 : decode code 940 = .ok (.iadd, 1) := by decide +kernel
theorem dL_law_941 : decode code 941 = .ok (.iaload, 1) := by decide +kernel
theorem dL_law_942 : decode code 942 = .ok (.aload_n 0, 1) := by decide +kernel
theorem dL_law_943 : decode code 943 = .ok (.iload 5, 2) := by decide +kernel
theorem dL_law_945 : decode code 945 = .ok (.iconst 2, 1) := by decide +kernel
theorem dL_law_946 : decode code 946 = .ok (.iadd, 1) := by decide +kernel
theorem dL_law_947 : decode code 947 = .ok (.iaload, 1) := by decide +kernel
theorem dL_law_948 : decode code 948 = .ok (.invokevirtual 150, 3) := by decide +kernel
theorem dL_law_951 : decode code 951 = .ok (.istore 7, 2) := by decide +kernel
theorem dL_law_953 : decode code 953 = .ok (.aload_n 2, 1) := by decide +kernel
theorem dL_law_954 : decode code 954 = .ok (.invokevirtual 111, 3) := by decide +kernel
theorem dL_law_957 : decode code 957 = .ok (.iload 6, 2) := by decide +kernel
theorem dL_law_959 : decode code 959 = .ok (.if_icmp .eq 5, 3) := by decide +kernel
theorem dL_law_962 : decode code 962 = .ok (.iconst 0, 1) := by decide +kernel
theorem dL_law_963 : decode code 963 = .ok (.ireturn, 1) := by decide +kernel
theorem dL_law_964 : decode code 964 = .ok (.iload 6, 2) := by decide +kernel
theorem dL_law_966 : decode code 966 = .ok (.ifCond .ne 15, 3) := by decide +kernel
theorem dL_law_969 : decode code 969 = .ok (.aload_n 3, 1) := by decide +kernel
theorem dL_law_970 : decode code 970 = .ok (.iconst 0, 1) := by decide +kernel
theorem dL_law_971 : decode code 971 = .ok (.laload, 1) := by decide +kernel
theorem dL_law_972 : decode code 972 = .ok (.iload 7, 2) := by decide +kernel
theorem dL_law_974 : decode code 974 = .ok (.i2l, 1) := by decide +kernel
theorem dL_law_975 : decode code 975 = .ok (.lcmp, 1) := by decide +kernel
theorem dL_law_976 : decode code 976 = .ok (.ifCond .eq 5, 3) := by decide +kernel
theorem dL_law_979 : decode code 979 = .ok (.iconst 0, 1) := by decide +kernel
theorem dL_law_980 : decode code 980 = .ok (.ireturn, 1) := by decide +kernel
theorem dL_law_981 : decode code 981 = .ok (.goto 903, 3) := by decide +kernel
theorem dL_law_984 : decode code 984 = .ok (.aload_n 1, 1) := by decide +kernel
theorem dL_law_985 : decode code 985 = .ok (.aload_n 0, 1) := by decide +kernel
theorem dL_law_986 : decode code 986 = .ok (.iload 5, 2) := by decide +kernel
theorem dL_law_988 : decode code 988 = .ok (.iconst 1, 1) := by decide +kernel
theorem dL_law_989 : decode code 989 = .ok (.iadd, 1) := by decide +kernel
theorem dL_law_990 : decode code 990 = .ok (.iaload, 1) := by decide +kernel
theorem dL_law_991 : decode code 991 = .ok (.aload_n 0, 1) := by decide +kernel
theorem dL_law_992 : decode code 992 = .ok (.iload 5, 2) := by decide +kernel
theorem dL_law_994 : decode code 994 = .ok (.iconst 2, 1) := by decide +kernel
theorem dL_law_995 : decode code 995 = .ok (.iadd, 1) := by decide +kernel
theorem dL_law_996 : decode code 996 = .ok (.iaload, 1) := by decide +kernel
theorem dL_law_997 : decode code 997 = .ok (.aload_n 3, 1) := by decide +kernel
theorem dL_law_998 : decode code 998 = .ok (.invokestatic 151, 3) := by decide +kernel
theorem dL_law_1001 : decode code 1001 = .ok (.istore 6, 2) := by decide +kernel
theorem dL_law_1003 : decode code 1003 = .ok (.aload_n 2, 1) := by decide +kernel
theorem dL_law_1004 : decode code 1004 = .ok (.aload_n 0, 1) := by decide +kernel
theorem dL_law_1005 : decode code 1005 = .ok (.iload 5, 2) := by decide +kernel
theorem dL_law_1007 : decode code 1007 = .ok (.iconst 1, 1) := by decide +kernel
theorem dL_law_1008 : decode code 1008 = .ok (.iadd, 1) := by decide +kernel
theorem dL_law_1009 : decode code 1009 = .ok (.iaload, 1) := by decide +kernel
theorem dL_law_1010 : decode code 1010 = .ok (.aload_n 0, 1) := by decide +kernel
theorem dL_law_1011 : decode code 1011 = .ok (.iload 5, 2) := by decide +kernel
theorem dL_law_1013 : decode code 1013 = .ok (.iconst 2, 1) := by decide +kernel
theorem dL_law_1014 : decode code 1014 = .ok (.iadd, 1) := by decide +kernel
theorem dL_law_1015 : decode code 1015 = .ok (.iaload, 1) := by decide +kernel
theorem dL_law_1016 : decode code 1016 = .ok (.invokevirtual 153, 3) := by decide +kernel
theorem dL_law_1019 : decode code 1019 = .ok (.istore 7, 2) := by decide +kernel
theorem dL_law_1021 : decode code 1021 = .ok (.aload_n 2, 1) := by decide +kernel
theorem dL_law_1022 : decode code 1022 = .ok (.invokevirtual 111, 3) := by decide +kernel
theorem dL_law_1025 : decode code 1025 = .ok (.iload 6, 2) := by decide +kernel
theorem dL_law_1027 : decode code 1027 = .ok (.if_icmp .eq 5, 3) := by decide +kernel
theorem dL_law_1030 : decode code 1030 = .ok (.iconst 0, 1) := by decide +kernel
theorem dL_law_1031 : decode code 1031 = .ok (.ireturn, 1) := by decide +kernel
theorem dL_law_1032 : decode code 1032 = .ok (.iload 6, 2) := by decide +kernel
theorem dL_law_1034 : decode code 1034 = .ok (.ifCond .ne 15, 3) := by decide +kernel
theorem dL_law_1037 : decode code 1037 = .ok (.aload_n 3, 1) := by decide +kernel
theorem dL_law_1038 : decode code 1038 = .ok (.iconst 0, 1) := by decide +kernel
theorem dL_law_1039 : decode code 1039 = .ok (.laload, 1) := by decide +kernel
theorem dL_law_1040 : decode code 1040 = .ok (.iload 7, 2) := by decide +kernel
theorem dL_law_1042 : decode code 1042 = .ok (.i2l, 1) := by decide +kernel
theorem dL_law_1043 : decode code 1043 = .ok (.lcmp, 1) := by decide +kernel
theorem dL_law_1044 : decode code 1044 = .ok (.ifCond .eq 5, 3) := by decide +kernel
theorem dL_law_1047 : decode code 1047 = .ok (.iconst 0, 1) := by decide +kernel
theorem dL_law_1048 : decode code 1048 = .ok (.ireturn, 1) := by decide +kernel
theorem dL_law_1049 : decode code 1049 = .ok (.goto 835, 3) := by decide +kernel
theorem dL_law_1052 : decode code 1052 = .ok (.aload_n 1, 1) := by decide +kernel
theorem dL_law_1053 : decode code 1053 = .ok (.aload_n 0, 1) := by decide +kernel
theorem dL_law_1054 : decode code 1054 = .ok (.iload 5, 2) := by decide +kernel
theorem dL_law_1056 : decode code 1056 = .ok (.iconst 1, 1) := by decide +kernel
theorem dL_law_1057 : decode code 1057 = .ok (.iadd, 1) := by decide +kernel
theorem dL_law_1058 : decode code 1058 = .ok (.iaload, 1) := by decide +kernel
theorem dL_law_1059 : decode code 1059 = .ok (.invokevirtual 154, 3) := by decide +kernel
theorem dL_law_1062 : decode code 1062 = .ok (.aload_n 2, 1) := by decide +kernel
theorem dL_law_1063 : decode code 1063 = .ok (.aload_n 0, 1) := by decide +kernel
theorem dL_law_1064 : decode code 1064 = .ok (.iload 5, 2) := by decide +kernel
theorem dL_law_1066 : decode code 1066 = .ok (.iconst 1, 1) := by decide +kernel
theorem dL_law_1067 : decode code 1067 = .ok (.iadd, 1) := by decide +kernel
theorem dL_law_1068 : decode code 1068 = .ok (.iaload, 1) := by decide +kernel
theorem dL_law_1069 : decode code 1069 = .ok (.invokevirtual 157, 3) := by decide +kernel
theorem dL_law_1072 : decode code 1072 = .ok (.if_icmp .eq 812, 3) := by decide +kernel
theorem dL_law_1075 : decode code 1075 = .ok (.iconst 0, 1) := by decide +kernel
theorem dL_law_1076 : decode code 1076 = .ok (.ireturn, 1) := by decide +kernel
theorem dL_law_1077 : decode code 1077 = .ok (.aload_n 1, 1) := by decide +kernel
theorem dL_law_1078 : decode code 1078 = .ok (.aload_n 3, 1) := by decide +kernel
theorem dL_law_1079 : decode code 1079 = .ok (.invokestatic 158, 3) := by decide +kernel
theorem dL_law_1082 : decode code 1082 = .ok (.istore 6, 2) := by decide +kernel
theorem dL_law_1084 : decode code 1084 = .ok (.aload_n 2, 1) := by decide +kernel
theorem dL_law_1085 : decode code 1085 = .ok (.invokevirtual 161, 3) := by decide +kernel
theorem dL_law_1088 : decode code 1088 = .ok (.istore 7, 2) := by decide +kernel
theorem dL_law_1090 : decode code 1090 = .ok (.aload_n 2, 1) := by decide +kernel
theorem dL_law_1091 : decode code 1091 = .ok (.invokevirtual 111, 3) := by decide +kernel
theorem dL_law_1094 : decode code 1094 = .ok (.iload 6, 2) := by decide +kernel
theorem dL_law_1096 : decode code 1096 = .ok (.if_icmp .eq 5, 3) := by decide +kernel
theorem dL_law_1099 : decode code 1099 = .ok (.iconst 0, 1) := by decide +kernel
theorem dL_law_1100 : decode code 1100 = .ok (.ireturn, 1) := by decide +kernel
theorem dL_law_1101 : decode code 1101 = .ok (.iload 6, 2) := by decide +kernel
theorem dL_law_1103 : decode code 1103 = .ok (.ifCond .ne 15, 3) := by decide +kernel
theorem dL_law_1106 : decode code 1106 = .ok (.aload_n 3, 1) := by decide +kernel
theorem dL_law_1107 : decode code 1107 = .ok (.iconst 0, 1) := by decide +kernel
theorem dL_law_1108 : decode code 1108 = .ok (.laload, 1) := by decide +kernel
theorem dL_law_1109 : decode code 1109 = .ok (.iload 7, 2) := by decide +kernel
theorem dL_law_1111 : decode code 1111 = .ok (.i2l, 1) := by decide +kernel
theorem dL_law_1112 : decode code 1112 = .ok (.lcmp, 1) := by decide +kernel
theorem dL_law_1113 : decode code 1113 = .ok (.ifCond .eq 5, 3) := by decide +kernel
theorem dL_law_1116 : decode code 1116 = .ok (.iconst 0, 1) := by decide +kernel
theorem dL_law_1117 : decode code 1117 = .ok (.ireturn, 1) := by decide +kernel
theorem dL_law_1118 : decode code 1118 = .ok (.goto 766, 3) := by decide +kernel
theorem dL_law_1121 : decode code 1121 = .ok (.aload_n 1, 1) := by decide +kernel
theorem dL_law_1122 : decode code 1122 = .ok (.aload_n 0, 1) := by decide +kernel
theorem dL_law_1123 : decode code 1123 = .ok (.iload 5, 2) := by decide +kernel
theorem dL_law_1125 : decode code 1125 = .ok (.iconst 1, 1) := by decide +kernel
theorem dL_law_1126 : decode code 1126 = .ok (.iadd, 1) := by decide +kernel
theorem dL_law_1127 : decode code 1127 = .ok (.iaload, 1) := by decide +kernel
theorem dL_law_1128 : decode code 1128 = .ok (.aload_n 0, 1) := by decide +kernel
theorem dL_law_1129 : decode code 1129 = .ok (.iload 5, 2) := by decide +kernel
theorem dL_law_1131 : decode code 1131 = .ok (.iconst 2, 1) := by decide +kernel
theorem dL_law_1132 : decode code 1132 = .ok (.iadd, 1) := by decide +kernel
theorem dL_law_1133 : decode code 1133 = .ok (.iaload, 1) := by decide +kernel
theorem dL_law_1134 : decode code 1134 = .ok (.aload_n 3, 1) := by decide +kernel
theorem dL_law_1135 : decode code 1135 = .ok (.invokestatic 162, 3) := by decide +kernel
theorem dL_law_1138 : decode code 1138 = .ok (.istore 6, 2) := by decide +kernel
theorem dL_law_1140 : decode code 1140 = .ok (.aload_n 2, 1) := by decide +kernel
theorem dL_law_1141 : decode code 1141 = .ok (.aload_n 0, 1) := by decide +kernel
theorem dL_law_1142 : decode code 1142 = .ok (.iload 5, 2) := by decide +kernel
theorem dL_law_1144 : decode code 1144 = .ok (.iconst 1, 1) := by decide +kernel
theorem dL_law_1145 : decode code 1145 = .ok (.iadd, 1) := by decide +kernel
theorem dL_law_1146 : decode code 1146 = .ok (.iaload, 1) := by decide +kernel
theorem dL_law_1147 : decode code 1147 = .ok (.aload_n 0, 1) := by decide +kernel
theorem dL_law_1148 : decode code 1148 = .ok (.iload 5, 2) := by decide +kernel
theorem dL_law_1150 : decode code 1150 = .ok (.iconst 2, 1) := by decide +kernel
theorem dL_law_1151 : decode code 1151 = .ok (.iadd, 1) := by decide +kernel
theorem dL_law_1152 : decode code 1152 = .ok (.iaload, 1) := by decide +kernel
theorem dL_law_1153 : decode code 1153 = .ok (.invokevirtual 164, 3) := by decide +kernel
theorem dL_law_1156 : decode code 1156 = .ok (.istore 7, 2) := by decide +kernel
theorem dL_law_1158 : decode code 1158 = .ok (.aload_n 2, 1) := by decide +kernel
theorem dL_law_1159 : decode code 1159 = .ok (.invokevirtual 111, 3) := by decide +kernel
theorem dL_law_1162 : decode code 1162 = .ok (.iload 6, 2) := by decide +kernel
theorem dL_law_1164 : decode code 1164 = .ok (.if_icmp .eq 5, 3) := by decide +kernel
theorem dL_law_1167 : decode code 1167 = .ok (.iconst 0, 1) := by decide +kernel
theorem dL_law_1168 : decode code 1168 = .ok (.ireturn, 1) := by decide +kernel
theorem dL_law_1169 : decode code 1169 = .ok (.iload 6, 2) := by decide +kernel
theorem dL_law_1171 : decode code 1171 = .ok (.ifCond .ne 15, 3) := by decide +kernel
theorem dL_law_1174 : decode code 1174 = .ok (.aload_n 3, 1) := by decide +kernel
theorem dL_law_1175 : decode code 1175 = .ok (.iconst 0, 1) := by decide +kernel
theorem dL_law_1176 : decode code 1176 = .ok (.laload, 1) := by decide +kernel
theorem dL_law_1177 : decode code 1177 = .ok (.iload 7, 2) := by decide +kernel
theorem dL_law_1179 : decode code 1179 = .ok (.i2l, 1) := by decide +kernel
theorem dL_law_1180 : decode code 1180 = .ok (.lcmp, 1) := by decide +kernel
theorem dL_law_1181 : decode code 1181 = .ok (.ifCond .eq 5, 3) := by decide +kernel
theorem dL_law_1184 : decode code 1184 = .ok (.iconst 0, 1) := by decide +kernel
theorem dL_law_1185 : decode code 1185 = .ok (.ireturn, 1) := by decide +kernel
theorem dL_law_1186 : decode code 1186 = .ok (.goto 698, 3) := by decide +kernel
theorem dL_law_1189 : decode code 1189 = .ok (.aload_n 1, 1) := by decide +kernel
theorem dL_law_1190 : decode code 1190 = .ok (.invokevirtual 165, 3) := by decide +kernel
theorem dL_law_1193 : decode code 1193 = .ok (.aload_n 2, 1) := by decide +kernel
theorem dL_law_1194 : decode code 1194 = .ok (.invokevirtual 168, 3) := by decide +kernel
theorem dL_law_1197 : decode code 1197 = .ok (.if_icmp .eq 687, 3) := by decide +kernel
theorem dL_law_1200 : decode code 1200 = .ok (.iconst 0, 1) := by decide +kernel
theorem dL_law_1201 : decode code 1201 = .ok (.ireturn, 1) := by decide +kernel
theorem dL_law_1202 : decode code 1202 = .ok (.aload_n 1, 1) := by decide +kernel
theorem dL_law_1203 : decode code 1203 = .ok (.aload_n 3, 1) := by decide +kernel
theorem dL_law_1204 : decode code 1204 = .ok (.invokestatic 169, 3) := by decide +kernel
theorem dL_law_1207 : decode code 1207 = .ok (.istore 6, 2) := by decide +kernel
theorem dL_law_1209 : decode code 1209 = .ok (.aload_n 2, 1) := by decide +kernel
theorem dL_law_1210 : decode code 1210 = .ok (.invokevirtual 171, 3) := by decide +kernel
theorem dL_law_1213 : decode code 1213 = .ok (.istore 7, 2) := by decide +kernel
theorem dL_law_1215 : decode code 1215 = .ok (.aload_n 2, 1) := by decide +kernel
theorem dL_law_1216 : decode code 1216 = .ok (.invokevirtual 111, 3) := by decide +kernel
theorem dL_law_1219 : decode code 1219 = .ok (.iload 6, 2) := by decide +kernel
theorem dL_law_1221 : decode code 1221 = .ok (.if_icmp .eq 5, 3) := by decide +kernel
theorem dL_law_1224 : decode code 1224 = .ok (.iconst 0, 1) := by decide +kernel
theorem dL_law_1225 : decode code 1225 = .ok (.ireturn, 1) := by decide +kernel
theorem dL_law_1226 : decode code 1226 = .ok (.iload 6, 2) := by decide +kernel
theorem dL_law_1228 : decode code 1228 = .ok (.ifCond .ne 15, 3) := by decide +kernel
theorem dL_law_1231 : decode code 1231 = .ok (.aload_n 3, 1) := by decide +kernel
theorem dL_law_1232 : decode code 1232 = .ok (.iconst 0, 1) := by decide +kernel
theorem dL_law_1233 : decode code 1233 = .ok (.laload, 1) := by decide +kernel
theorem dL_law_1234 : decode code 1234 = .ok (.iload 7, 2) := by decide +kernel
theorem dL_law_1236 : decode code 1236 = .ok (.i2l, 1) := by decide +kernel
theorem dL_law_1237 : decode code 1237 = .ok (.lcmp, 1) := by decide +kernel
theorem dL_law_1238 : decode code 1238 = .ok (.ifCond .eq 5, 3) := by decide +kernel
theorem dL_law_1241 : decode code 1241 = .ok (.iconst 0, 1) := by decide +kernel
theorem dL_law_1242 : decode code 1242 = .ok (.ireturn, 1) := by decide +kernel
theorem dL_law_1243 : decode code 1243 = .ok (.goto 641, 3) := by decide +kernel
theorem dL_law_1246 : decode code 1246 = .ok (.aload_n 1, 1) := by decide +kernel
theorem dL_law_1247 : decode code 1247 = .ok (.invokevirtual 172, 3) := by decide +kernel
