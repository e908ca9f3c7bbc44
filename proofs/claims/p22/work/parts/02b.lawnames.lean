theorem dL_law_601 : decode cL_law 601 = .ok (.iload 18, 2) := by decide +kernel
theorem dL_law_603 : decode cL_law 603 = .ok (.bipush 6, 2) := by decide +kernel
theorem dL_law_605 : decode cL_law 605 = .ok (.ishr, 1) := by decide +kernel
theorem dL_law_606 : decode cL_law 606 = .ok (.bipush 100, 2) := by decide +kernel
theorem dL_law_608 : decode cL_law 608 = .ok (.invokestatic 20, 3) := by decide +kernel
theorem dL_law_611 : decode cL_law 611 = .ok (.iadd, 1) := by decide +kernel
theorem dL_law_612 : decode cL_law 612 = .ok (.istore 22, 2) := by decide +kernel
theorem dL_law_614 : decode cL_law 614 = .ok (.iconst 1, 1) := by decide +kernel
theorem dL_law_615 : decode cL_law 615 = .ok (.iload 18, 2) := by decide +kernel
theorem dL_law_617 : decode cL_law 617 = .ok (.bipush 14, 2) := by decide +kernel
theorem dL_law_619 : decode cL_law 619 = .ok (.ishr, 1) := by decide +kernel
theorem dL_law_620 : decode cL_law 620 = .ok (.bipush 20, 2) := by decide +kernel
theorem dL_law_622 : decode cL_law 622 = .ok (.invokestatic 20, 3) := by decide +kernel
theorem dL_law_625 : decode cL_law 625 = .ok (.iadd, 1) := by decide +kernel
theorem dL_law_626 : decode cL_law 626 = .ok (.istore 23, 2) := by decide +kernel
theorem dL_law_628 : decode cL_law 628 = .ok (.aload 7, 2) := by decide +kernel
theorem dL_law_630 : decode cL_law 630 = .ok (.iload 21, 2) := by decide +kernel
theorem dL_law_632 : decode cL_law 632 = .ok (.iaload, 1) := by decide +kernel
theorem dL_law_633 : decode cL_law 633 = .ok (.iload 22, 2) := by decide +kernel
theorem dL_law_635 : decode cL_law 635 = .ok (.iadd, 1) := by decide +kernel
theorem dL_law_636 : decode cL_law 636 = .ok (.sipush 1000, 3) := by decide +kernel
theorem dL_law_639 : decode cL_law 639 = .ok (.if_icmp .gt 45, 3) := by decide +kernel
theorem dL_law_642 : decode cL_law 642 = .ok (.aload 7, 2) := by decide +kernel
theorem dL_law_644 : decode cL_law 644 = .ok (.iload 21, 2) := by decide +kernel
theorem dL_law_646 : decode cL_law 646 = .ok (.dup2, 1) := by decide +kernel
theorem dL_law_647 : decode cL_law 647 = .ok (.iaload, 1) := by decide +kernel
theorem dL_law_648 : decode cL_law 648 = .ok (.iload 22, 2) := by decide +kernel
theorem dL_law_650 : decode cL_law 650 = .ok (.iadd, 1) := by decide +kernel
theorem dL_law_651 : decode cL_law 651 = .ok (.iastore, 1) := by decide +kernel
theorem dL_law_652 : decode cL_law 652 = .ok (.aload_n 1, 1) := by decide +kernel
theorem dL_law_653 : decode cL_law 653 = .ok (.iload 21, 2) := by decide +kernel
theorem dL_law_655 : decode cL_law 655 = .ok (.iload 22, 2) := by decide +kernel
theorem dL_law_657 : decode cL_law 657 = .ok (.iload 23, 2) := by decide +kernel
theorem dL_law_659 : decode cL_law 659 = .ok (.invokevirtual 51, 3) := by decide +kernel
theorem dL_law_662 : decode cL_law 662 = .ok (.aload 7, 2) := by decide +kernel
theorem dL_law_664 : decode cL_law 664 = .ok (.iload 21, 2) := by decide +kernel
theorem dL_law_666 : decode cL_law 666 = .ok (.iaload, 1) := by decide +kernel
theorem dL_law_667 : decode cL_law 667 = .ok (.if_icmp .eq 5, 3) := by decide +kernel
theorem dL_law_670 : decode cL_law 670 = .ok (.iconst 0, 1) := by decide +kernel
theorem dL_law_671 : decode cL_law 671 = .ok (.ireturn, 1) := by decide +kernel
theorem dL_law_672 : decode cL_law 672 = .ok (.iload 15, 2) := by decide +kernel
theorem dL_law_674 : decode cL_law 674 = .ok (.iconst 2, 1) := by decide +kernel
theorem dL_law_675 : decode cL_law 675 = .ok (.iload 22, 2) := by decide +kernel
theorem dL_law_677 : decode cL_law 677 = .ok (.imul, 1) := by decide +kernel
theorem dL_law_678 : decode cL_law 678 = .ok (.iload 23, 2) := by decide +kernel
theorem dL_law_680 : decode cL_law 680 = .ok (.imul, 1) := by decide +kernel
theorem dL_law_681 : decode cL_law 681 = .ok (.iadd, 1) := by decide +kernel
theorem dL_law_682 : decode cL_law 682 = .ok (.istore 15, 2) := by decide +kernel
theorem dL_law_684 : decode cL_law 684 = .ok (.goto 367, 3) := by decide +kernel
theorem dL_law_687 : decode cL_law 687 = .ok (.iload 14, 2) := by decide +kernel
theorem dL_law_689 : decode cL_law 689 = .ok (.bipush 56, 2) := by decide +kernel
theorem dL_law_691 : decode cL_law 691 = .ok (.if_icmp .ge 360, 3) := by decide +kernel
theorem dL_law_694 : decode cL_law 694 = .ok (.iconst 1, 1) := by decide +kernel
theorem dL_law_695 : decode cL_law 695 = .ok (.iload 18, 2) := by decide +kernel
theorem dL_law_697 : decode cL_law 697 = .ok (.iconst 4, 1) := by decide +kernel
theorem dL_law_698 : decode cL_law 698 = .ok (.invokestatic 20, 3) := by decide +kernel
theorem dL_law_701 : decode cL_law 701 = .ok (.iadd, 1) := by decide +kernel
theorem dL_law_702 : decode cL_law 702 = .ok (.istore 21, 2) := by decide +kernel
theorem dL_law_704 : decode cL_law 704 = .ok (.aload_n 1, 1) := by decide +kernel
theorem dL_law_705 : decode cL_law 705 = .ok (.iload 21, 2) := by decide +kernel
theorem dL_law_707 : decode cL_law 707 = .ok (.invokevirtual 55, 3) := by decide +kernel
theorem dL_law_710 : decode cL_law 710 = .ok (.iload 14, 2) := by decide +kernel
theorem dL_law_712 : decode cL_law 712 = .ok (.iload 21, 2) := by decide +kernel
theorem dL_law_714 : decode cL_law 714 = .ok (.iadd, 1) := by decide +kernel
theorem dL_law_715 : decode cL_law 715 = .ok (.if_icmp .eq 5, 3) := by decide +kernel
theorem dL_law_718 : decode cL_law 718 = .ok (.iconst 0, 1) := by decide +kernel
theorem dL_law_719 : decode cL_law 719 = .ok (.ireturn, 1) := by decide +kernel
theorem dL_law_720 : decode cL_law 720 = .ok (.iconst 0, 1) := by decide +kernel
theorem dL_law_721 : decode cL_law 721 = .ok (.istore 22, 2) := by decide +kernel
theorem dL_law_723 : decode cL_law 723 = .ok (.iload 22, 2) := by decide +kernel
theorem dL_law_725 : decode cL_law 725 = .ok (.iload 21, 2) := by decide +kernel
theorem dL_law_727 : decode cL_law 727 = .ok (.if_icmp .ge 324, 3) := by decide +kernel
theorem dL_law_730 : decode cL_law 730 = .ok (.aload_n 2, 1) := by decide +kernel
theorem dL_law_731 : decode cL_law 731 = .ok (.iload 14, 2) := by decide +kernel
theorem dL_law_733 : decode cL_law 733 = .ok (.bipush 24, 2) := by decide +kernel
theorem dL_law_735 : decode cL_law 735 = .ok (.irem, 1) := by decide +kernel
theorem dL_law_736 : decode cL_law 736 = .ok (.iaload, 1) := by decide +kernel
theorem dL_law_737 : decode cL_law 737 = .ok (.iload 9, 2) := by decide +kernel
theorem dL_law_739 : decode cL_law 739 = .ok (.iadd, 1) := by decide +kernel
theorem dL_law_740 : decode cL_law 740 = .ok (.istore 23, 2) := by decide +kernel
theorem dL_law_742 : decode cL_law 742 = .ok (.iload 23, 2) := by decide +kernel
theorem dL_law_744 : decode cL_law 744 = .ok (.ifCond .ge 9, 3) := by decide +kernel
theorem dL_law_747 : decode cL_law 747 = .ok (.iload 23, 2) := by decide +kernel
theorem dL_law_749 : decode cL_law 749 = .ok (.ineg, 1) := by decide +kernel
theorem dL_law_750 : decode cL_law 750 = .ok (.goto 5, 3) := by decide +kernel
theorem dL_law_753 : decode cL_law 753 = .ok (.iload 23, 2) := by decide +kernel
theorem dL_law_755 : decode cL_law 755 = .ok (.istore 23, 2) := by decide +kernel
theorem dL_law_757 : decode cL_law 757 = .ok (.iload 11, 2) := by decide +kernel
theorem dL_law_759 : decode cL_law 759 = .ok (.iload 12, 2) := by decide +kernel
theorem dL_law_761 : decode cL_law 761 = .ok (.if_icmp .le 6, 3) := by decide +kernel
theorem dL_law_764 : decode cL_law 764 = .ok (.iconst 3, 1) := by decide +kernel
theorem dL_law_765 : decode cL_law 765 = .ok (.istore 13, 2) := by decide +kernel
theorem dL_law_767 : decode cL_law 767 = .ok (.iconst 0, 1) := by decide +kernel
theorem dL_law_768 : decode cL_law 768 = .ok (.istore 11, 2) := by decide +kernel
theorem dL_law_770 : decode cL_law 770 = .ok (.iconst 0, 1) := by decide +kernel
theorem dL_law_771 : decode cL_law 771 = .ok (.istore 24, 2) := by decide +kernel
theorem dL_law_773 : decode cL_law 773 = .ok (.iconst 0, 1) := by decide +kernel
theorem dL_law_774 : decode cL_law 774 = .ok (.istore 25, 2) := by decide +kernel
theorem dL_law_776 : decode cL_law 776 = .ok (.iload 25, 2) := by decide +kernel
theorem dL_law_778 : decode cL_law 778 = .ok (.iload 10, 2) := by decide +kernel
theorem dL_law_780 : decode cL_law 780 = .ok (.if_icmp .ge 145, 3) := by decide +kernel
theorem dL_law_783 : decode cL_law 783 = .ok (.aload 5, 2) := by decide +kernel
theorem dL_law_785 : decode cL_law 785 = .ok (.iload 25, 2) := by decide +kernel
theorem dL_law_787 : decode cL_law 787 = .ok (.iaload, 1) := by decide +kernel
theorem dL_law_788 : decode cL_law 788 = .ok (.sipush 1000, 3) := by decide +kernel
theorem dL_law_791 : decode cL_law 791 = .ok (.if_icmp .ge 20, 3) := by decide +kernel
theorem dL_law_794 : decode cL_law 794 = .ok (.aload 6, 2) := by decide +kernel
theorem dL_law_796 : decode cL_law 796 = .ok (.iload 25, 2) := by decide +kernel
theorem dL_law_798 : decode cL_law 798 = .ok (.iaload, 1) := by decide +kernel
theorem dL_law_799 : decode cL_law 799 = .ok (.ifCond .ne 12, 3) := by decide +kernel
theorem dL_law_802 : decode cL_law 802 = .ok (.iload 13, 2) := by decide +kernel
theorem dL_law_804 : decode cL_law 804 = .ok (.ifCond .ne 7, 3) := by decide +kernel
theorem dL_law_807 : decode cL_law 807 = .ok (.iconst 1, 1) := by decide +kernel
theorem dL_law_808 : decode cL_law 808 = .ok (.goto 4, 3) := by decide +kernel
theorem dL_law_811 : decode cL_law 811 = .ok (.iconst 0, 1) := by decide +kernel
theorem dL_law_812 : decode cL_law 812 = .ok (.istore 26, 2) := by decide +kernel
theorem dL_law_814 : decode cL_law 814 = .ok (.aload 6, 2) := by decide +kernel
theorem dL_law_816 : decode cL_law 816 = .ok (.iload 25, 2) := by decide +kernel
theorem dL_law_818 : decode cL_law 818 = .ok (.iaload, 1) := by decide +kernel
theorem dL_law_819 : decode cL_law 819 = .ok (.ifCond .le 12, 3) := by decide +kernel
theorem dL_law_822 : decode cL_law 822 = .ok (.aload 6, 2) := by decide +kernel
theorem dL_law_824 : decode cL_law 824 = .ok (.iload 25, 2) := by decide +kernel
theorem dL_law_826 : decode cL_law 826 = .ok (.dup2, 1) := by decide +kernel
theorem dL_law_827 : decode cL_law 827 = .ok (.iaload, 1) := by decide +kernel
theorem dL_law_828 : decode cL_law 828 = .ok (.iconst 1, 1) := by decide +kernel
theorem dL_law_829 : decode cL_law 829 = .ok (.isub, 1) := by decide +kernel
theorem dL_law_830 : decode cL_law 830 = .ok (.iastore, 1) := by decide +kernel
theorem dL_law_831 : decode cL_law 831 = .ok (.iload 26, 2) := by decide +kernel
theorem dL_law_833 : decode cL_law 833 = .ok (.ifCond .ne 6, 3) := by decide +kernel
theorem dL_law_836 : decode cL_law 836 = .ok (.goto 83, 3) := by decide +kernel
theorem dL_law_839 : decode cL_law 839 = .ok (.iload 24, 2) := by decide +kernel
theorem dL_law_841 : decode cL_law 841 = .ok (.iload 23, 2) := by decide +kernel
theorem dL_law_843 : decode cL_law 843 = .ok (.aload 4, 2) := by decide +kernel
theorem dL_law_845 : decode cL_law 845 = .ok (.iload 25, 2) := by decide +kernel
theorem dL_law_847 : decode cL_law 847 = .ok (.iaload, 1) := by decide +kernel
theorem dL_law_848 : decode cL_law 848 = .ok (.imul, 1) := by decide +kernel
theorem dL_law_849 : decode cL_law 849 = .ok (.sipush 1000, 3) := by decide +kernel
theorem dL_law_852 : decode cL_law 852 = .ok (.aload 5, 2) := by decide +kernel
theorem dL_law_854 : decode cL_law 854 = .ok (.iload 25, 2) := by decide +kernel
theorem dL_law_856 : decode cL_law 856 = .ok (.iaload, 1) := by decide +kernel
theorem dL_law_857 : decode cL_law 857 = .ok (.isub, 1) := by decide +kernel
theorem dL_law_858 : decode cL_law 858 = .ok (.imul, 1) := by decide +kernel
theorem dL_law_859 : decode cL_law 859 = .ok (.sipush 8000, 3) := by decide +kernel
theorem dL_law_862 : decode cL_law 862 = .ok (.idiv, 1) := by decide +kernel
theorem dL_law_863 : decode cL_law 863 = .ok (.iadd, 1) := by decide +kernel
theorem dL_law_864 : decode cL_law 864 = .ok (.istore 24, 2) := by decide +kernel
theorem dL_law_866 : decode cL_law 866 = .ok (.aload 4, 2) := by decide +kernel
theorem dL_law_868 : decode cL_law 868 = .ok (.iload 25, 2) := by decide +kernel
theorem dL_law_870 : decode cL_law 870 = .ok (.iaload, 1) := by decide +kernel
theorem dL_law_871 : decode cL_law 871 = .ok (.ifCond .le 29, 3) := by decide +kernel
theorem dL_law_874 : decode cL_law 874 = .ok (.aload 5, 2) := by decide +kernel
theorem dL_law_876 : decode cL_law 876 = .ok (.iload 25, 2) := by decide +kernel
theorem dL_law_878 : decode cL_law 878 = .ok (.dup2, 1) := by decide +kernel
theorem dL_law_879 : decode cL_law 879 = .ok (.iaload, 1) := by decide +kernel
theorem dL_law_880 : decode cL_law 880 = .ok (.aload 4, 2) := by decide +kernel
theorem dL_law_882 : decode cL_law 882 = .ok (.iload 25, 2) := by decide +kernel
theorem dL_law_884 : decode cL_law 884 = .ok (.iaload, 1) := by decide +kernel
theorem dL_law_885 : decode cL_law 885 = .ok (.iload 23, 2) := by decide +kernel
theorem dL_law_887 : decode cL_law 887 = .ok (.bipush 60, 2) := by decide +kernel
theorem dL_law_889 : decode cL_law 889 = .ok (.if_icmp .le 7, 3) := by decide +kernel
theorem dL_law_892 : decode cL_law 892 = .ok (.iconst 2, 1) := by decide +kernel
theorem dL_law_893 : decode cL_law 893 = .ok (.goto 4, 3) := by decide +kernel
theorem dL_law_896 : decode cL_law 896 = .ok (.iconst 0, 1) := by decide +kernel
theorem dL_law_897 : decode cL_law 897 = .ok (.iadd, 1) := by decide +kernel
theorem dL_law_898 : decode cL_law 898 = .ok (.iadd, 1) := by decide +kernel
theorem dL_law_899 : decode cL_law 899 = .ok (.iastore, 1) := by decide +kernel
theorem dL_law_900 : decode cL_law 900 = .ok (.aload 5, 2) := by decide +kernel
theorem dL_law_902 : decode cL_law 902 = .ok (.iload 25, 2) := by decide +kernel
theorem dL_law_904 : decode cL_law 904 = .ok (.iaload, 1) := by decide +kernel
theorem dL_law_905 : decode cL_law 905 = .ok (.sipush 1000, 3) := by decide +kernel
theorem dL_law_908 : decode cL_law 908 = .ok (.if_icmp .le 11, 3) := by decide +kernel
theorem dL_law_911 : decode cL_law 911 = .ok (.aload 5, 2) := by decide +kernel
theorem dL_law_913 : decode cL_law 913 = .ok (.iload 25, 2) := by decide +kernel
theorem dL_law_915 : decode cL_law 915 = .ok (.sipush 1000, 3) := by decide +kernel
theorem dL_law_918 : decode cL_law 918 = .ok (.iastore, 1) := by decide +kernel
theorem dL_law_919 : decode cL_law 919 = .ok (.iinc 25 1, 3) := by decide +kernel
theorem dL_law_922 : decode cL_law 922 = .ok (.goto (-146), 3) := by decide +kernel
theorem dL_law_925 : decode cL_law 925 = .ok (.iload 13, 2) := by decide +kernel
theorem dL_law_927 : decode cL_law 927 = .ok (.ifCond .le 6, 3) := by decide +kernel
theorem dL_law_930 : decode cL_law 930 = .ok (.iinc 13 (-1), 3) := by decide +kernel
theorem dL_law_933 : decode cL_law 933 = .ok (.aload 7, 2) := by decide +kernel
theorem dL_law_935 : decode cL_law 935 = .ok (.iload 14, 2) := by decide +kernel
theorem dL_law_937 : decode cL_law 937 = .ok (.iaload, 1) := by decide +kernel
theorem dL_law_938 : decode cL_law 938 = .ok (.iload 24, 2) := by decide +kernel
theorem dL_law_940 : decode cL_law 940 = .ok (.isub, 1) := by decide +kernel
theorem dL_law_941 : decode cL_law 941 = .ok (.istore 25, 2) := by decide +kernel
theorem dL_law_943 : decode cL_law 943 = .ok (.iload 15, 2) := by decide +kernel
theorem dL_law_945 : decode cL_law 945 = .ok (.iload 25, 2) := by decide +kernel
theorem dL_law_947 : decode cL_law 947 = .ok (.ifCond .le 19, 3) := by decide +kernel
theorem dL_law_950 : decode cL_law 950 = .ok (.bipush (-2), 2) := by decide +kernel
theorem dL_law_952 : decode cL_law 952 = .ok (.iload 25, 2) := by decide +kernel
theorem dL_law_954 : decode cL_law 954 = .ok (.imul, 1) := by decide +kernel
theorem dL_law_955 : decode cL_law 955 = .ok (.aload_n 3, 1) := by decide +kernel
theorem dL_law_956 : decode cL_law 956 = .ok (.iload 14, 2) := by decide +kernel
theorem dL_law_958 : decode cL_law 958 = .ok (.bipush 24, 2) := by decide +kernel
theorem dL_law_960 : decode cL_law 960 = .ok (.irem, 1) := by decide +kernel
theorem dL_law_961 : decode cL_law 961 = .ok (.iaload, 1) := by decide +kernel
theorem dL_law_962 : decode cL_law 962 = .ok (.imul, 1) := by decide +kernel
theorem dL_law_963 : decode cL_law 963 = .ok (.goto 14, 3) := by decide +kernel
theorem dL_law_966 : decode cL_law 966 = .ok (.iload 25, 2) := by decide +kernel
theorem dL_law_968 : decode cL_law 968 = .ok (.ineg, 1) := by decide +kernel
theorem dL_law_969 : decode cL_law 969 = .ok (.aload_n 3, 1) := by decide +kernel
theorem dL_law_970 : decode cL_law 970 = .ok (.iload 14, 2) := by decide +kernel
theorem dL_law_972 : decode cL_law 972 = .ok (.bipush 24, 2) := by decide +kernel
theorem dL_law_974 : decode cL_law 974 = .ok (.irem, 1) := by decide +kernel
theorem dL_law_975 : decode cL_law 975 = .ok (.iaload, 1) := by decide +kernel
theorem dL_law_976 : decode cL_law 976 = .ok (.imul, 1) := by decide +kernel
theorem dL_law_977 : decode cL_law 977 = .ok (.iadd, 1) := by decide +kernel
theorem dL_law_978 : decode cL_law 978 = .ok (.istore 15, 2) := by decide +kernel
theorem dL_law_980 : decode cL_law 980 = .ok (.aload 8, 2) := by decide +kernel
theorem dL_law_982 : decode cL_law 982 = .ok (.iload 14, 2) := by decide +kernel
theorem dL_law_984 : decode cL_law 984 = .ok (.iload 24, 2) := by decide +kernel
theorem dL_law_986 : decode cL_law 986 = .ok (.iastore, 1) := by decide +kernel
theorem dL_law_987 : decode cL_law 987 = .ok (.aload_n 1, 1) := by decide +kernel
theorem dL_law_988 : decode cL_law 988 = .ok (.iload 14, 2) := by decide +kernel
theorem dL_law_990 : decode cL_law 990 = .ok (.invokevirtual 58, 3) := by decide +kernel
theorem dL_law_993 : decode cL_law 993 = .ok (.iload 24, 2) := by decide +kernel
theorem dL_law_995 : decode cL_law 995 = .ok (.if_icmp .ne 45, 3) := by decide +kernel
theorem dL_law_998 : decode cL_law 998 = .ok (.aload_n 1, 1) := by decide +kernel
theorem dL_law_999 : decode cL_law 999 = .ok (.iload 14, 2) := by decide +kernel
theorem dL_law_1001 : decode cL_law 1001 = .ok (.invokevirtual 61, 3) := by decide +kernel
theorem dL_law_1004 : decode cL_law 1004 = .ok (.iload 24, 2) := by decide +kernel
theorem dL_law_1006 : decode cL_law 1006 = .ok (.if_icmp .ne 34, 3) := by decide +kernel
theorem dL_law_1009 : decode cL_law 1009 = .ok (.aload_n 1, 1) := by decide +kernel
theorem dL_law_1010 : decode cL_law 1010 = .ok (.iload 14, 2) := by decide +kernel
theorem dL_law_1012 : decode cL_law 1012 = .ok (.invokevirtual 64, 3) := by decide +kernel
theorem dL_law_1015 : decode cL_law 1015 = .ok (.iload 23, 2) := by decide +kernel
theorem dL_law_1017 : decode cL_law 1017 = .ok (.if_icmp .ne 23, 3) := by decide +kernel
theorem dL_law_1020 : decode cL_law 1020 = .ok (.aload_n 1, 1) := by decide +kernel
theorem dL_law_1021 : decode cL_law 1021 = .ok (.iload 14, 2) := by decide +kernel
theorem dL_law_1023 : decode cL_law 1023 = .ok (.invokevirtual 67, 3) := by decide +kernel
theorem dL_law_1026 : decode cL_law 1026 = .ok (.iload 25, 2) := by decide +kernel
theorem dL_law_1028 : decode cL_law 1028 = .ok (.ifCond .le 8, 3) := by decide +kernel
theorem dL_law_1031 : decode cL_law 1031 = .ok (.iload 25, 2) := by decide +kernel
theorem dL_law_1033 : decode cL_law 1033 = .ok (.goto 4, 3) := by decide +kernel
theorem dL_law_1036 : decode cL_law 1036 = .ok (.iconst 0, 1) := by decide +kernel
theorem dL_law_1037 : decode cL_law 1037 = .ok (.if_icmp .eq 5, 3) := by decide +kernel
theorem dL_law_1040 : decode cL_law 1040 = .ok (.iconst 0, 1) := by decide +kernel
theorem dL_law_1041 : decode cL_law 1041 = .ok (.ireturn, 1) := by decide +kernel
theorem dL_law_1042 : decode cL_law 1042 = .ok (.iinc 14 1, 3) := by decide +kernel
theorem dL_law_1045 : decode cL_law 1045 = .ok (.iinc 22 1, 3) := by decide +kernel
theorem dL_law_1048 : decode cL_law 1048 = .ok (.goto (-325), 3) := by decide +kernel
theorem dL_law_1051 : decode cL_law 1051 = .ok (.iconst 0, 1) := by decide +kernel
theorem dL_law_1052 : decode cL_law 1052 = .ok (.istore 21, 2) := by decide +kernel
theorem dL_law_1054 : decode cL_law 1054 = .ok (.iload 21, 2) := by decide +kernel
theorem dL_law_1056 : decode cL_law 1056 = .ok (.iload 10, 2) := by decide +kernel
theorem dL_law_1058 : decode cL_law 1058 = .ok (.if_icmp .ge 56, 3) := by decide +kernel
theorem dL_law_1061 : decode cL_law 1061 = .ok (.aload_n 1, 1) := by decide +kernel
theorem dL_law_1062 : decode cL_law 1062 = .ok (.iload 21, 2) := by decide +kernel
theorem dL_law_1064 : decode cL_law 1064 = .ok (.iconst 0, 1) := by decide +kernel
theorem dL_law_1065 : decode cL_law 1065 = .ok (.invokevirtual 70, 3) := by decide +kernel
theorem dL_law_1068 : decode cL_law 1068 = .ok (.aload 4, 2) := by decide +kernel
theorem dL_law_1070 : decode cL_law 1070 = .ok (.iload 21, 2) := by decide +kernel
theorem dL_law_1072 : decode cL_law 1072 = .ok (.iaload, 1) := by decide +kernel
theorem dL_law_1073 : decode cL_law 1073 = .ok (.if_icmp .ne 33, 3) := by decide +kernel
theorem dL_law_1076 : decode cL_law 1076 = .ok (.aload_n 1, 1) := by decide +kernel
theorem dL_law_1077 : decode cL_law 1077 = .ok (.iload 21, 2) := by decide +kernel
theorem dL_law_1079 : decode cL_law 1079 = .ok (.iconst 1, 1) := by decide +kernel
theorem dL_law_1080 : decode cL_law 1080 = .ok (.invokevirtual 70, 3) := by decide +kernel
theorem dL_law_1083 : decode cL_law 1083 = .ok (.aload 5, 2) := by decide +kernel
theorem dL_law_1085 : decode cL_law 1085 = .ok (.iload 21, 2) := by decide +kernel
theorem dL_law_1087 : decode cL_law 1087 = .ok (.iaload, 1) := by decide +kernel
theorem dL_law_1088 : decode cL_law 1088 = .ok (.if_icmp .ne 18, 3) := by decide +kernel
theorem dL_law_1091 : decode cL_law 1091 = .ok (.aload_n 1, 1) := by decide +kernel
theorem dL_law_1092 : decode cL_law 1092 = .ok (.iload 21, 2) := by decide +kernel
theorem dL_law_1094 : decode cL_law 1094 = .ok (.iconst 2, 1) := by decide +kernel
theorem dL_law_1095 : decode cL_law 1095 = .ok (.invokevirtual 70, 3) := by decide +kernel
theorem dL_law_1098 : decode cL_law 1098 = .ok (.aload 6, 2) := by decide +kernel
theorem dL_law_1100 : decode cL_law 1100 = .ok (.iload 21, 2) := by decide +kernel
theorem dL_law_1102 : decode cL_law 1102 = .ok (.iaload, 1) := by decide +kernel
theorem dL_law_1103 : decode cL_law 1103 = .ok (.if_icmp .eq 5, 3) := by decide +kernel
theorem dL_law_1106 : decode cL_law 1106 = .ok (.iconst 0, 1) := by decide +kernel
theorem dL_law_1107 : decode cL_law 1107 = .ok (.ireturn, 1) := by decide +kernel
theorem dL_law_1108 : decode cL_law 1108 = .ok (.iinc 21 1, 3) := by decide +kernel
theorem dL_law_1111 : decode cL_law 1111 = .ok (.goto (-57), 3) := by decide +kernel
theorem dL_law_1114 : decode cL_law 1114 = .ok (.aload_n 1, 1) := by decide +kernel
theorem dL_law_1115 : decode cL_law 1115 = .ok (.invokevirtual 73, 3) := by decide +kernel
theorem dL_law_1118 : decode cL_law 1118 = .ok (.iload 14, 2) := by decide +kernel
theorem dL_law_1120 : decode cL_law 1120 = .ok (.if_icmp .ne 78, 3) := by decide +kernel
theorem dL_law_1123 : decode cL_law 1123 = .ok (.aload_n 1, 1) := by decide +kernel
theorem dL_law_1124 : decode cL_law 1124 = .ok (.invokevirtual 76, 3) := by decide +kernel
theorem dL_law_1127 : decode cL_law 1127 = .ok (.iload 13, 2) := by decide +kernel
theorem dL_law_1129 : decode cL_law 1129 = .ok (.if_icmp .ne 69, 3) := by decide +kernel
theorem dL_law_1132 : decode cL_law 1132 = .ok (.aload_n 1, 1) := by decide +kernel
theorem dL_law_1133 : decode cL_law 1133 = .ok (.invokevirtual 79, 3) := by decide +kernel
theorem dL_law_1136 : decode cL_law 1136 = .ok (.iload 15, 2) := by decide +kernel
theorem dL_law_1138 : decode cL_law 1138 = .ok (.invokestatic 82, 3) := by decide +kernel
theorem dL_law_1141 : decode cL_law 1141 = .ok (.if_icmp .ne 57, 3) := by decide +kernel
theorem dL_law_1144 : decode cL_law 1144 = .ok (.iload 14, 2) := by decide +kernel
theorem dL_law_1146 : decode cL_law 1146 = .ok (.ifCond .le 27, 3) := by decide +kernel
theorem dL_law_1149 : decode cL_law 1149 = .ok (.aload_n 1, 1) := by decide +kernel
theorem dL_law_1150 : decode cL_law 1150 = .ok (.iload 18, 2) := by decide +kernel
theorem dL_law_1152 : decode cL_law 1152 = .ok (.iload 14, 2) := by decide +kernel
theorem dL_law_1154 : decode cL_law 1154 = .ok (.invokestatic 20, 3) := by decide +kernel
theorem dL_law_1157 : decode cL_law 1157 = .ok (.invokevirtual 58, 3) := by decide +kernel
theorem dL_law_1160 : decode cL_law 1160 = .ok (.aload 8, 2) := by decide +kernel
theorem dL_law_1162 : decode cL_law 1162 = .ok (.iload 18, 2) := by decide +kernel
theorem dL_law_1164 : decode cL_law 1164 = .ok (.iload 14, 2) := by decide +kernel
theorem dL_law_1166 : decode cL_law 1166 = .ok (.invokestatic 20, 3) := by decide +kernel
theorem dL_law_1169 : decode cL_law 1169 = .ok (.iaload, 1) := by decide +kernel
theorem dL_law_1170 : decode cL_law 1170 = .ok (.if_icmp .ne 28, 3) := by decide +kernel
theorem dL_law_1173 : decode cL_law 1173 = .ok (.aload_n 1, 1) := by decide +kernel
theorem dL_law_1174 : decode cL_law 1174 = .ok (.iload 14, 2) := by decide +kernel
theorem dL_law_1176 : decode cL_law 1176 = .ok (.invokevirtual 85, 3) := by decide +kernel
theorem dL_law_1179 : decode cL_law 1179 = .ok (.iload 14, 2) := by decide +kernel
theorem dL_law_1181 : decode cL_law 1181 = .ok (.bipush 60, 2) := by decide +kernel
theorem dL_law_1183 : decode cL_law 1183 = .ok (.if_icmp .ge 11, 3) := by decide +kernel
theorem dL_law_1186 : decode cL_law 1186 = .ok (.aload 7, 2) := by decide +kernel
theorem dL_law_1188 : decode cL_law 1188 = .ok (.iload 14, 2) := by decide +kernel
theorem dL_law_1190 : decode cL_law 1190 = .ok (.iaload, 1) := by decide +kernel
theorem dL_law_1191 : decode cL_law 1191 = .ok (.goto 4, 3) := by decide +kernel
theorem dL_law_1194 : decode cL_law 1194 = .ok (.iconst 0, 1) := by decide +kernel
theorem dL_law_1195 : decode cL_law 1195 = .ok (.if_icmp .eq 5, 3) := by decide +kernel
theorem dL_law_1198 : decode cL_law 1198 = .ok (.iconst 0, 1) := by decide +kernel
theorem dL_law_1199 : decode cL_law 1199 = .ok (.ireturn, 1) := by decide +kernel
theorem dL_law_1200 : decode cL_law 1200 = .ok (.iinc 16 1, 3) := by decide +kernel
theorem dL_law_1203 : decode cL_law 1203 = .ok (.goto (-1111), 3) := by decide +kernel
theorem dL_law_1206 : decode cL_law 1206 = .ok (.iconst 1, 1) := by decide +kernel
theorem dL_law_1207 : decode cL_law 1207 = .ok (.ireturn, 1) := by decide +kernel
