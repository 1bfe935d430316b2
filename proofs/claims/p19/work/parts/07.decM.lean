theorem dL_law_646 : decode cL_law 646 = .ok (.iconst 0, 1) := by decide +kernel
theorem dL_law_647 : decode cL_law 647 = .ok (.iaload, 1) := by decide +kernel
theorem dL_law_648 : decode cL_law 648 = .ok (.iconst 2, 1) := by decide +kernel
theorem dL_law_649 : decode cL_law 649 = .ok (.if_icmp .ne 7, 3) := by decide +kernel
theorem dL_law_652 : decode cL_law 652 = .ok (.iconst 1, 1) := by decide +kernel
theorem dL_law_653 : decode cL_law 653 = .ok (.goto 4, 3) := by decide +kernel
theorem dL_law_656 : decode cL_law 656 = .ok (.iconst 0, 1) := by decide +kernel
theorem dL_law_657 : decode cL_law 657 = .ok (.if_icmp .eq 5, 3) := by decide +kernel
theorem dL_law_660 : decode cL_law 660 = .ok (.iconst 0, 1) := by decide +kernel
theorem dL_law_661 : decode cL_law 661 = .ok (.ireturn, 1) := by decide +kernel
theorem dL_law_662 : decode cL_law 662 = .ok (.aload_n 1, 1) := by decide +kernel
theorem dL_law_663 : decode cL_law 663 = .ok (.iconst 1, 1) := by decide +kernel
theorem dL_law_664 : decode cL_law 664 = .ok (.invokevirtual 33, 3) := by decide +kernel
theorem dL_law_667 : decode cL_law 667 = .ok (.istore 20, 2) := by decide +kernel
theorem dL_law_669 : decode cL_law 669 = .ok (.iload 20, 2) := by decide +kernel
theorem dL_law_671 : decode cL_law 671 = .ok (.aload 16, 2) := by decide +kernel
theorem dL_law_673 : decode cL_law 673 = .ok (.iconst 0, 1) := by decide +kernel
theorem dL_law_674 : decode cL_law 674 = .ok (.iaload, 1) := by decide +kernel
theorem dL_law_675 : decode cL_law 675 = .ok (.if_icmp .ne 60, 3) := by decide +kernel
theorem dL_law_678 : decode cL_law 678 = .ok (.aload_n 1, 1) := by decide +kernel
theorem dL_law_679 : decode cL_law 679 = .ok (.bipush 7, 2) := by decide +kernel
theorem dL_law_681 : decode cL_law 681 = .ok (.invokevirtual 52, 3) := by decide +kernel
theorem dL_law_684 : decode cL_law 684 = .ok (.iload 12, 2) := by decide +kernel
theorem dL_law_686 : decode cL_law 686 = .ok (.isub, 1) := by decide +kernel
theorem dL_law_687 : decode cL_law 687 = .ok (.aload 16, 2) := by decide +kernel
theorem dL_law_689 : decode cL_law 689 = .ok (.iconst 1, 1) := by decide +kernel
theorem dL_law_690 : decode cL_law 690 = .ok (.iaload, 1) := by decide +kernel
theorem dL_law_691 : decode cL_law 691 = .ok (.if_icmp .ne 44, 3) := by decide +kernel
theorem dL_law_694 : decode cL_law 694 = .ok (.aload_n 1, 1) := by decide +kernel
theorem dL_law_695 : decode cL_law 695 = .ok (.bipush 8, 2) := by decide +kernel
theorem dL_law_697 : decode cL_law 697 = .ok (.invokevirtual 52, 3) := by decide +kernel
theorem dL_law_700 : decode cL_law 700 = .ok (.iload 13, 2) := by decide +kernel
theorem dL_law_702 : decode cL_law 702 = .ok (.isub, 1) := by decide +kernel
theorem dL_law_703 : decode cL_law 703 = .ok (.aload 16, 2) := by decide +kernel
theorem dL_law_705 : decode cL_law 705 = .ok (.iconst 2, 1) := by decide +kernel
theorem dL_law_706 : decode cL_law 706 = .ok (.iaload, 1) := by decide +kernel
theorem dL_law_707 : decode cL_law 707 = .ok (.if_icmp .ne 28, 3) := by decide +kernel
theorem dL_law_710 : decode cL_law 710 = .ok (.aload_n 1, 1) := by decide +kernel
theorem dL_law_711 : decode cL_law 711 = .ok (.bipush 9, 2) := by decide +kernel
theorem dL_law_713 : decode cL_law 713 = .ok (.invokevirtual 52, 3) := by decide +kernel
theorem dL_law_716 : decode cL_law 716 = .ok (.aload 16, 2) := by decide +kernel
theorem dL_law_718 : decode cL_law 718 = .ok (.iconst 3, 1) := by decide +kernel
theorem dL_law_719 : decode cL_law 719 = .ok (.iaload, 1) := by decide +kernel
theorem dL_law_720 : decode cL_law 720 = .ok (.if_icmp .ne 15, 3) := by decide +kernel
theorem dL_law_723 : decode cL_law 723 = .ok (.aload_n 1, 1) := by decide +kernel
theorem dL_law_724 : decode cL_law 724 = .ok (.iconst 0, 1) := by decide +kernel
theorem dL_law_725 : decode cL_law 725 = .ok (.invokevirtual 52, 3) := by decide +kernel
theorem dL_law_728 : decode cL_law 728 = .ok (.iload 7, 2) := by decide +kernel
theorem dL_law_730 : decode cL_law 730 = .ok (.iconst 1, 1) := by decide +kernel
theorem dL_law_731 : decode cL_law 731 = .ok (.iadd, 1) := by decide +kernel
theorem dL_law_732 : decode cL_law 732 = .ok (.if_icmp .eq 5, 3) := by decide +kernel
theorem dL_law_735 : decode cL_law 735 = .ok (.iconst 0, 1) := by decide +kernel
theorem dL_law_736 : decode cL_law 736 = .ok (.ireturn, 1) := by decide +kernel
theorem dL_law_737 : decode cL_law 737 = .ok (.iconst 0, 1) := by decide +kernel
theorem dL_law_738 : decode cL_law 738 = .ok (.istore 21, 2) := by decide +kernel
theorem dL_law_740 : decode cL_law 740 = .ok (.iconst 0, 1) := by decide +kernel
theorem dL_law_741 : decode cL_law 741 = .ok (.istore 22, 2) := by decide +kernel
theorem dL_law_743 : decode cL_law 743 = .ok (.iload 22, 2) := by decide +kernel
theorem dL_law_745 : decode cL_law 745 = .ok (.iload 5, 2) := by decide +kernel
theorem dL_law_747 : decode cL_law 747 = .ok (.if_icmp .ge 364, 3) := by decide +kernel
theorem dL_law_750 : decode cL_law 750 = .ok (.aload_n 1, 1) := by decide +kernel
theorem dL_law_751 : decode cL_law 751 = .ok (.iload 22, 2) := by decide +kernel
theorem dL_law_753 : decode cL_law 753 = .ok (.iconst 0, 1) := by decide +kernel
theorem dL_law_754 : decode cL_law 754 = .ok (.invokevirtual 60, 3) := by decide +kernel
theorem dL_law_757 : decode cL_law 757 = .ok (.istore 23, 2) := by decide +kernel
theorem dL_law_759 : decode cL_law 759 = .ok (.aload_n 1, 1) := by decide +kernel
theorem dL_law_760 : decode cL_law 760 = .ok (.iload 22, 2) := by decide +kernel
theorem dL_law_762 : decode cL_law 762 = .ok (.iconst 1, 1) := by decide +kernel
theorem dL_law_763 : decode cL_law 763 = .ok (.invokevirtual 60, 3) := by decide +kernel
theorem dL_law_766 : decode cL_law 766 = .ok (.istore 24, 2) := by decide +kernel
theorem dL_law_768 : decode cL_law 768 = .ok (.aload_n 1, 1) := by decide +kernel
theorem dL_law_769 : decode cL_law 769 = .ok (.iload 22, 2) := by decide +kernel
theorem dL_law_771 : decode cL_law 771 = .ok (.iconst 2, 1) := by decide +kernel
theorem dL_law_772 : decode cL_law 772 = .ok (.invokevirtual 60, 3) := by decide +kernel
theorem dL_law_775 : decode cL_law 775 = .ok (.istore 25, 2) := by decide +kernel
theorem dL_law_777 : decode cL_law 777 = .ok (.iload 21, 2) := by decide +kernel
theorem dL_law_779 : decode cL_law 779 = .ok (.aload_n 1, 1) := by decide +kernel
theorem dL_law_780 : decode cL_law 780 = .ok (.iload 22, 2) := by decide +kernel
theorem dL_law_782 : decode cL_law 782 = .ok (.iconst 5, 1) := by decide +kernel
theorem dL_law_783 : decode cL_law 783 = .ok (.invokevirtual 60, 3) := by decide +kernel
theorem dL_law_786 : decode cL_law 786 = .ok (.iadd, 1) := by decide +kernel
theorem dL_law_787 : decode cL_law 787 = .ok (.istore 21, 2) := by decide +kernel
theorem dL_law_789 : decode cL_law 789 = .ok (.aload_n 1, 1) := by decide +kernel
theorem dL_law_790 : decode cL_law 790 = .ok (.iload 22, 2) := by decide +kernel
theorem dL_law_792 : decode cL_law 792 = .ok (.iconst 4, 1) := by decide +kernel
theorem dL_law_793 : decode cL_law 793 = .ok (.invokevirtual 60, 3) := by decide +kernel
theorem dL_law_796 : decode cL_law 796 = .ok (.aload_n 1, 1) := by decide +kernel
theorem dL_law_797 : decode cL_law 797 = .ok (.iload 22, 2) := by decide +kernel
theorem dL_law_799 : decode cL_law 799 = .ok (.iconst 3, 1) := by decide +kernel
theorem dL_law_800 : decode cL_law 800 = .ok (.invokevirtual 60, 3) := by decide +kernel
theorem dL_law_803 : decode cL_law 803 = .ok (.if_icmp .gt 37, 3) := by decide +kernel
theorem dL_law_806 : decode cL_law 806 = .ok (.aload_n 1, 1) := by decide +kernel
theorem dL_law_807 : decode cL_law 807 = .ok (.iload 22, 2) := by decide +kernel
theorem dL_law_809 : decode cL_law 809 = .ok (.iconst 3, 1) := by decide +kernel
theorem dL_law_810 : decode cL_law 810 = .ok (.invokevirtual 60, 3) := by decide +kernel
theorem dL_law_813 : decode cL_law 813 = .ok (.aload 9, 2) := by decide +kernel
theorem dL_law_815 : decode cL_law 815 = .ok (.iload 22, 2) := by decide +kernel
theorem dL_law_817 : decode cL_law 817 = .ok (.aaload, 1) := by decide +kernel
theorem dL_law_818 : decode cL_law 818 = .ok (.iconst 3, 1) := by decide +kernel
theorem dL_law_819 : decode cL_law 819 = .ok (.iaload, 1) := by decide +kernel
theorem dL_law_820 : decode cL_law 820 = .ok (.if_icmp .ne 20, 3) := by decide +kernel
theorem dL_law_823 : decode cL_law 823 = .ok (.aload_n 1, 1) := by decide +kernel
theorem dL_law_824 : decode cL_law 824 = .ok (.iload 22, 2) := by decide +kernel
theorem dL_law_826 : decode cL_law 826 = .ok (.iconst 5, 1) := by decide +kernel
theorem dL_law_827 : decode cL_law 827 = .ok (.invokevirtual 60, 3) := by decide +kernel
theorem dL_law_830 : decode cL_law 830 = .ok (.aload 9, 2) := by decide +kernel
theorem dL_law_832 : decode cL_law 832 = .ok (.iload 22, 2) := by decide +kernel
theorem dL_law_834 : decode cL_law 834 = .ok (.aaload, 1) := by decide +kernel
theorem dL_law_835 : decode cL_law 835 = .ok (.iconst 5, 1) := by decide +kernel
theorem dL_law_836 : decode cL_law 836 = .ok (.iaload, 1) := by decide +kernel
theorem dL_law_837 : decode cL_law 837 = .ok (.if_icmp .ge 5, 3) := by decide +kernel
theorem dL_law_840 : decode cL_law 840 = .ok (.iconst 0, 1) := by decide +kernel
theorem dL_law_841 : decode cL_law 841 = .ok (.ireturn, 1) := by decide +kernel
theorem dL_law_842 : decode cL_law 842 = .ok (.aload 9, 2) := by decide +kernel
theorem dL_law_844 : decode cL_law 844 = .ok (.iload 22, 2) := by decide +kernel
theorem dL_law_846 : decode cL_law 846 = .ok (.aaload, 1) := by decide +kernel
theorem dL_law_847 : decode cL_law 847 = .ok (.iconst 1, 1) := by decide +kernel
theorem dL_law_848 : decode cL_law 848 = .ok (.iaload, 1) := by decide +kernel
theorem dL_law_849 : decode cL_law 849 = .ok (.iconst 1, 1) := by decide +kernel
theorem dL_law_850 : decode cL_law 850 = .ok (.if_icmp .ne 79, 3) := by decide +kernel
theorem dL_law_853 : decode cL_law 853 = .ok (.aload 9, 2) := by decide +kernel
theorem dL_law_855 : decode cL_law 855 = .ok (.iload 22, 2) := by decide +kernel
theorem dL_law_857 : decode cL_law 857 = .ok (.aaload, 1) := by decide +kernel
theorem dL_law_858 : decode cL_law 858 = .ok (.iconst 2, 1) := by decide +kernel
theorem dL_law_859 : decode cL_law 859 = .ok (.iaload, 1) := by decide +kernel
theorem dL_law_860 : decode cL_law 860 = .ok (.iconst 1, 1) := by decide +kernel
theorem dL_law_861 : decode cL_law 861 = .ok (.if_icmp .le 38, 3) := by decide +kernel
theorem dL_law_864 : decode cL_law 864 = .ok (.iload 24, 2) := by decide +kernel
theorem dL_law_866 : decode cL_law 866 = .ok (.iconst 1, 1) := by decide +kernel
theorem dL_law_867 : decode cL_law 867 = .ok (.if_icmp .ne 60, 3) := by decide +kernel
theorem dL_law_870 : decode cL_law 870 = .ok (.iload 23, 2) := by decide +kernel
theorem dL_law_872 : decode cL_law 872 = .ok (.aload 9, 2) := by decide +kernel
theorem dL_law_874 : decode cL_law 874 = .ok (.iload 22, 2) := by decide +kernel
theorem dL_law_876 : decode cL_law 876 = .ok (.aaload, 1) := by decide +kernel
theorem dL_law_877 : decode cL_law 877 = .ok (.iconst 0, 1) := by decide +kernel
theorem dL_law_878 : decode cL_law 878 = .ok (.iaload, 1) := by decide +kernel
theorem dL_law_879 : decode cL_law 879 = .ok (.if_icmp .ne 48, 3) := by decide +kernel
theorem dL_law_882 : decode cL_law 882 = .ok (.iload 25, 2) := by decide +kernel
theorem dL_law_884 : decode cL_law 884 = .ok (.aload 9, 2) := by decide +kernel
theorem dL_law_886 : decode cL_law 886 = .ok (.iload 22, 2) := by decide +kernel
theorem dL_law_888 : decode cL_law 888 = .ok (.aaload, 1) := by decide +kernel
theorem dL_law_889 : decode cL_law 889 = .ok (.iconst 2, 1) := by decide +kernel
theorem dL_law_890 : decode cL_law 890 = .ok (.iaload, 1) := by decide +kernel
theorem dL_law_891 : decode cL_law 891 = .ok (.iconst 1, 1) := by decide +kernel
theorem dL_law_892 : decode cL_law 892 = .ok (.isub, 1) := by decide +kernel
theorem dL_law_893 : decode cL_law 893 = .ok (.if_icmp .eq 36, 3) := by decide +kernel
theorem dL_law_896 : decode cL_law 896 = .ok (.goto 31, 3) := by decide +kernel
theorem dL_law_899 : decode cL_law 899 = .ok (.iload 24, 2) := by decide +kernel
theorem dL_law_901 : decode cL_law 901 = .ok (.ifCond .ne 26, 3) := by decide +kernel
theorem dL_law_904 : decode cL_law 904 = .ok (.iload 23, 2) := by decide +kernel
theorem dL_law_906 : decode cL_law 906 = .ok (.aload 9, 2) := by decide +kernel
theorem dL_law_908 : decode cL_law 908 = .ok (.iload 22, 2) := by decide +kernel
theorem dL_law_910 : decode cL_law 910 = .ok (.aaload, 1) := by decide +kernel
theorem dL_law_911 : decode cL_law 911 = .ok (.iconst 0, 1) := by decide +kernel
theorem dL_law_912 : decode cL_law 912 = .ok (.iaload, 1) := by decide +kernel
theorem dL_law_913 : decode cL_law 913 = .ok (.iconst 1, 1) := by decide +kernel
theorem dL_law_914 : decode cL_law 914 = .ok (.iadd, 1) := by decide +kernel
theorem dL_law_915 : decode cL_law 915 = .ok (.bipush 10, 2) := by decide +kernel
theorem dL_law_917 : decode cL_law 917 = .ok (.irem, 1) := by decide +kernel
theorem dL_law_918 : decode cL_law 918 = .ok (.if_icmp .ne 9, 3) := by decide +kernel
theorem dL_law_921 : decode cL_law 921 = .ok (.iload 25, 2) := by decide +kernel
theorem dL_law_923 : decode cL_law 923 = .ok (.iconst 1, 1) := by decide +kernel
theorem dL_law_924 : decode cL_law 924 = .ok (.if_icmp .ge 5, 3) := by decide +kernel
theorem dL_law_927 : decode cL_law 927 = .ok (.iconst 0, 1) := by decide +kernel
theorem dL_law_928 : decode cL_law 928 = .ok (.ireturn, 1) := by decide +kernel
theorem dL_law_929 : decode cL_law 929 = .ok (.aload 9, 2) := by decide +kernel
theorem dL_law_931 : decode cL_law 931 = .ok (.iload 22, 2) := by decide +kernel
theorem dL_law_933 : decode cL_law 933 = .ok (.aaload, 1) := by decide +kernel
theorem dL_law_934 : decode cL_law 934 = .ok (.iconst 1, 1) := by decide +kernel
theorem dL_law_935 : decode cL_law 935 = .ok (.iaload, 1) := by decide +kernel
theorem dL_law_936 : decode cL_law 936 = .ok (.ifCond .ne 79, 3) := by decide +kernel
theorem dL_law_939 : decode cL_law 939 = .ok (.iload 23, 2) := by decide +kernel
theorem dL_law_941 : decode cL_law 941 = .ok (.aload 9, 2) := by decide +kernel
theorem dL_law_943 : decode cL_law 943 = .ok (.iload 22, 2) := by decide +kernel
theorem dL_law_945 : decode cL_law 945 = .ok (.aaload, 1) := by decide +kernel
theorem dL_law_946 : decode cL_law 946 = .ok (.iconst 0, 1) := by decide +kernel
theorem dL_law_947 : decode cL_law 947 = .ok (.iaload, 1) := by decide +kernel
theorem dL_law_948 : decode cL_law 948 = .ok (.if_icmp .ne 65, 3) := by decide +kernel
theorem dL_law_951 : decode cL_law 951 = .ok (.iload 24, 2) := by decide +kernel
theorem dL_law_953 : decode cL_law 953 = .ok (.ifCond .ne 21, 3) := by decide +kernel
theorem dL_law_956 : decode cL_law 956 = .ok (.iload 25, 2) := by decide +kernel
theorem dL_law_958 : decode cL_law 958 = .ok (.iconst 0, 1) := by decide +kernel
theorem dL_law_959 : decode cL_law 959 = .ok (.aload 9, 2) := by decide +kernel
theorem dL_law_961 : decode cL_law 961 = .ok (.iload 22, 2) := by decide +kernel
theorem dL_law_963 : decode cL_law 963 = .ok (.aaload, 1) := by decide +kernel
theorem dL_law_964 : decode cL_law 964 = .ok (.iconst 2, 1) := by decide +kernel
theorem dL_law_965 : decode cL_law 965 = .ok (.iaload, 1) := by decide +kernel
theorem dL_law_966 : decode cL_law 966 = .ok (.iconst 1, 1) := by decide +kernel
theorem dL_law_967 : decode cL_law 967 = .ok (.isub, 1) := by decide +kernel
theorem dL_law_968 : decode cL_law 968 = .ok (.invokestatic 79, 3) := by decide +kernel
theorem dL_law_971 : decode cL_law 971 = .ok (.if_icmp .ne 42, 3) := by decide +kernel
theorem dL_law_974 : decode cL_law 974 = .ok (.iload 24, 2) := by decide +kernel
theorem dL_law_976 : decode cL_law 976 = .ok (.iconst 1, 1) := by decide +kernel
theorem dL_law_977 : decode cL_law 977 = .ok (.if_icmp .ne 38, 3) := by decide +kernel
theorem dL_law_980 : decode cL_law 980 = .ok (.aload 9, 2) := by decide +kernel
theorem dL_law_982 : decode cL_law 982 = .ok (.iload 22, 2) := by decide +kernel
theorem dL_law_984 : decode cL_law 984 = .ok (.aaload, 1) := by decide +kernel
theorem dL_law_985 : decode cL_law 985 = .ok (.iconst 2, 1) := by decide +kernel
theorem dL_law_986 : decode cL_law 986 = .ok (.iaload, 1) := by decide +kernel
theorem dL_law_987 : decode cL_law 987 = .ok (.iconst 1, 1) := by decide +kernel
theorem dL_law_988 : decode cL_law 988 = .ok (.if_icmp .gt 25, 3) := by decide +kernel
theorem dL_law_991 : decode cL_law 991 = .ok (.iload 25, 2) := by decide +kernel
theorem dL_law_993 : decode cL_law 993 = .ok (.aload 11, 2) := by decide +kernel
theorem dL_law_995 : decode cL_law 995 = .ok (.iload 23, 2) := by decide +kernel
theorem dL_law_997 : decode cL_law 997 = .ok (.iaload, 1) := by decide +kernel
theorem dL_law_998 : decode cL_law 998 = .ok (.if_icmp .ne 15, 3) := by decide +kernel
theorem dL_law_1001 : decode cL_law 1001 = .ok (.aload_n 1, 1) := by decide +kernel
theorem dL_law_1002 : decode cL_law 1002 = .ok (.iload 23, 2) := by decide +kernel
theorem dL_law_1004 : decode cL_law 1004 = .ok (.iconst 4, 1) := by decide +kernel
theorem dL_law_1005 : decode cL_law 1005 = .ok (.invokevirtual 63, 3) := by decide +kernel
theorem dL_law_1008 : decode cL_law 1008 = .ok (.iload 7, 2) := by decide +kernel
theorem dL_law_1010 : decode cL_law 1010 = .ok (.if_icmp .eq 5, 3) := by decide +kernel
theorem dL_law_1013 : decode cL_law 1013 = .ok (.iconst 0, 1) := by decide +kernel
theorem dL_law_1014 : decode cL_law 1014 = .ok (.ireturn, 1) := by decide +kernel
theorem dL_law_1015 : decode cL_law 1015 = .ok (.aload 9, 2) := by decide +kernel
theorem dL_law_1017 : decode cL_law 1017 = .ok (.iload 22, 2) := by decide +kernel
theorem dL_law_1019 : decode cL_law 1019 = .ok (.aaload, 1) := by decide +kernel
theorem dL_law_1020 : decode cL_law 1020 = .ok (.iconst 1, 1) := by decide +kernel
theorem dL_law_1021 : decode cL_law 1021 = .ok (.iaload, 1) := by decide +kernel
theorem dL_law_1022 : decode cL_law 1022 = .ok (.ifCond .ne 39, 3) := by decide +kernel
theorem dL_law_1025 : decode cL_law 1025 = .ok (.aload 9, 2) := by decide +kernel
theorem dL_law_1027 : decode cL_law 1027 = .ok (.iload 22, 2) := by decide +kernel
theorem dL_law_1029 : decode cL_law 1029 = .ok (.aaload, 1) := by decide +kernel
theorem dL_law_1030 : decode cL_law 1030 = .ok (.iconst 2, 1) := by decide +kernel
theorem dL_law_1031 : decode cL_law 1031 = .ok (.iaload, 1) := by decide +kernel
theorem dL_law_1032 : decode cL_law 1032 = .ok (.iconst 2, 1) := by decide +kernel
theorem dL_law_1033 : decode cL_law 1033 = .ok (.if_icmp .ge 28, 3) := by decide +kernel
theorem dL_law_1036 : decode cL_law 1036 = .ok (.iload 24, 2) := by decide +kernel
theorem dL_law_1038 : decode cL_law 1038 = .ok (.ifCond .ne 23, 3) := by decide +kernel
theorem dL_law_1041 : decode cL_law 1041 = .ok (.iload 6, 2) := by decide +kernel
theorem dL_law_1043 : decode cL_law 1043 = .ok (.ifCond .eq 60, 3) := by decide +kernel
theorem dL_law_1046 : decode cL_law 1046 = .ok (.iload 7, 2) := by decide +kernel
theorem dL_law_1048 : decode cL_law 1048 = .ok (.aload_n 1, 1) := by decide +kernel
theorem dL_law_1049 : decode cL_law 1049 = .ok (.iload 23, 2) := by decide +kernel
theorem dL_law_1051 : decode cL_law 1051 = .ok (.iconst 4, 1) := by decide +kernel
theorem dL_law_1052 : decode cL_law 1052 = .ok (.invokevirtual 63, 3) := by decide +kernel
theorem dL_law_1055 : decode cL_law 1055 = .ok (.isub, 1) := by decide +kernel
theorem dL_law_1056 : decode cL_law 1056 = .ok (.iload 6, 2) := by decide +kernel
theorem dL_law_1058 : decode cL_law 1058 = .ok (.if_icmp .ge 45, 3) := by decide +kernel
theorem dL_law_1061 : decode cL_law 1061 = .ok (.iload 24, 2) := by decide +kernel
theorem dL_law_1063 : decode cL_law 1063 = .ok (.iconst 1, 1) := by decide +kernel
theorem dL_law_1064 : decode cL_law 1064 = .ok (.if_icmp .ne 41, 3) := by decide +kernel
theorem dL_law_1067 : decode cL_law 1067 = .ok (.aload 9, 2) := by decide +kernel
theorem dL_law_1069 : decode cL_law 1069 = .ok (.iload 22, 2) := by decide +kernel
theorem dL_law_1071 : decode cL_law 1071 = .ok (.aaload, 1) := by decide +kernel
theorem dL_law_1072 : decode cL_law 1072 = .ok (.iconst 1, 1) := by decide +kernel
theorem dL_law_1073 : decode cL_law 1073 = .ok (.iaload, 1) := by decide +kernel
theorem dL_law_1074 : decode cL_law 1074 = .ok (.ifCond .ne 31, 3) := by decide +kernel
theorem dL_law_1077 : decode cL_law 1077 = .ok (.iload 6, 2) := by decide +kernel
theorem dL_law_1079 : decode cL_law 1079 = .ok (.ifCond .le 26, 3) := by decide +kernel
theorem dL_law_1082 : decode cL_law 1082 = .ok (.aload 10, 2) := by decide +kernel
theorem dL_law_1084 : decode cL_law 1084 = .ok (.iload 23, 2) := by decide +kernel
theorem dL_law_1086 : decode cL_law 1086 = .ok (.iaload, 1) := by decide +kernel
theorem dL_law_1087 : decode cL_law 1087 = .ok (.ifCond .lt 18, 3) := by decide +kernel
theorem dL_law_1090 : decode cL_law 1090 = .ok (.iload 7, 2) := by decide +kernel
theorem dL_law_1092 : decode cL_law 1092 = .ok (.aload 10, 2) := by decide +kernel
theorem dL_law_1094 : decode cL_law 1094 = .ok (.iload 23, 2) := by decide +kernel
theorem dL_law_1096 : decode cL_law 1096 = .ok (.iaload, 1) := by decide +kernel
theorem dL_law_1097 : decode cL_law 1097 = .ok (.isub, 1) := by decide +kernel
theorem dL_law_1098 : decode cL_law 1098 = .ok (.iload 6, 2) := by decide +kernel
theorem dL_law_1100 : decode cL_law 1100 = .ok (.if_icmp .ge 5, 3) := by decide +kernel
theorem dL_law_1103 : decode cL_law 1103 = .ok (.iconst 0, 1) := by decide +kernel
theorem dL_law_1104 : decode cL_law 1104 = .ok (.ireturn, 1) := by decide +kernel
theorem dL_law_1105 : decode cL_law 1105 = .ok (.iinc 22 1, 3) := by decide +kernel
theorem dL_law_1108 : decode cL_law 1108 = .ok (.goto (-365), 3) := by decide +kernel
theorem dL_law_1111 : decode cL_law 1111 = .ok (.iconst 0, 1) := by decide +kernel
theorem dL_law_1112 : decode cL_law 1112 = .ok (.istore 22, 2) := by decide +kernel
theorem dL_law_1114 : decode cL_law 1114 = .ok (.iconst 0, 1) := by decide +kernel
theorem dL_law_1115 : decode cL_law 1115 = .ok (.istore 23, 2) := by decide +kernel
theorem dL_law_1117 : decode cL_law 1117 = .ok (.iconst 0, 1) := by decide +kernel
theorem dL_law_1118 : decode cL_law 1118 = .ok (.istore 24, 2) := by decide +kernel
theorem dL_law_1120 : decode cL_law 1120 = .ok (.iload 24, 2) := by decide +kernel
theorem dL_law_1122 : decode cL_law 1122 = .ok (.iload 4, 2) := by decide +kernel
theorem dL_law_1124 : decode cL_law 1124 = .ok (.if_icmp .ge 496, 3) := by decide +kernel
theorem dL_law_1127 : decode cL_law 1127 = .ok (.aload_n 1, 1) := by decide +kernel
theorem dL_law_1128 : decode cL_law 1128 = .ok (.iload 24, 2) := by decide +kernel
theorem dL_law_1130 : decode cL_law 1130 = .ok (.iconst 0, 1) := by decide +kernel
theorem dL_law_1131 : decode cL_law 1131 = .ok (.invokevirtual 55, 3) := by decide +kernel
theorem dL_law_1134 : decode cL_law 1134 = .ok (.istore 25, 2) := by decide +kernel
theorem dL_law_1136 : decode cL_law 1136 = .ok (.aload_n 1, 1) := by decide +kernel
theorem dL_law_1137 : decode cL_law 1137 = .ok (.iload 24, 2) := by decide +kernel
theorem dL_law_1139 : decode cL_law 1139 = .ok (.iconst 4, 1) := by decide +kernel
theorem dL_law_1140 : decode cL_law 1140 = .ok (.invokevirtual 55, 3) := by decide +kernel
theorem dL_law_1143 : decode cL_law 1143 = .ok (.aload 8, 2) := by decide +kernel
theorem dL_law_1145 : decode cL_law 1145 = .ok (.iload 24, 2) := by decide +kernel
theorem dL_law_1147 : decode cL_law 1147 = .ok (.aaload, 1) := by decide +kernel
theorem dL_law_1148 : decode cL_law 1148 = .ok (.iconst 4, 1) := by decide +kernel
theorem dL_law_1149 : decode cL_law 1149 = .ok (.iaload, 1) := by decide +kernel
theorem dL_law_1150 : decode cL_law 1150 = .ok (.isub, 1) := by decide +kernel
theorem dL_law_1151 : decode cL_law 1151 = .ok (.istore 26, 2) := by decide +kernel
theorem dL_law_1153 : decode cL_law 1153 = .ok (.iload 23, 2) := by decide +kernel
theorem dL_law_1155 : decode cL_law 1155 = .ok (.aload_n 1, 1) := by decide +kernel
theorem dL_law_1156 : decode cL_law 1156 = .ok (.iload 24, 2) := by decide +kernel
theorem dL_law_1158 : decode cL_law 1158 = .ok (.iconst 4, 1) := by decide +kernel
theorem dL_law_1159 : decode cL_law 1159 = .ok (.invokevirtual 55, 3) := by decide +kernel
theorem dL_law_1162 : decode cL_law 1162 = .ok (.iadd, 1) := by decide +kernel
theorem dL_law_1163 : decode cL_law 1163 = .ok (.istore 23, 2) := by decide +kernel
theorem dL_law_1165 : decode cL_law 1165 = .ok (.iload 22, 2) := by decide +kernel
theorem dL_law_1167 : decode cL_law 1167 = .ok (.iload 25, 2) := by decide +kernel
theorem dL_law_1169 : decode cL_law 1169 = .ok (.iconst 2, 1) := by decide +kernel
theorem dL_law_1170 : decode cL_law 1170 = .ok (.if_icmp .ne 18, 3) := by decide +kernel
theorem dL_law_1173 : decode cL_law 1173 = .ok (.aload 8, 2) := by decide +kernel
theorem dL_law_1175 : decode cL_law 1175 = .ok (.iload 24, 2) := by decide +kernel
theorem dL_law_1177 : decode cL_law 1177 = .ok (.aaload, 1) := by decide +kernel
theorem dL_law_1178 : decode cL_law 1178 = .ok (.iconst 0, 1) := by decide +kernel
theorem dL_law_1179 : decode cL_law 1179 = .ok (.iaload, 1) := by decide +kernel
theorem dL_law_1180 : decode cL_law 1180 = .ok (.iconst 2, 1) := by decide +kernel
theorem dL_law_1181 : decode cL_law 1181 = .ok (.if_icmp .eq 7, 3) := by decide +kernel
theorem dL_law_1184 : decode cL_law 1184 = .ok (.iconst 1, 1) := by decide +kernel
theorem dL_law_1185 : decode cL_law 1185 = .ok (.goto 4, 3) := by decide +kernel
theorem dL_law_1188 : decode cL_law 1188 = .ok (.iconst 0, 1) := by decide +kernel
theorem dL_law_1189 : decode cL_law 1189 = .ok (.iadd, 1) := by decide +kernel
theorem dL_law_1190 : decode cL_law 1190 = .ok (.istore 22, 2) := by decide +kernel
theorem dL_law_1192 : decode cL_law 1192 = .ok (.aload 8, 2) := by decide +kernel
theorem dL_law_1194 : decode cL_law 1194 = .ok (.iload 24, 2) := by decide +kernel
theorem dL_law_1196 : decode cL_law 1196 = .ok (.aaload, 1) := by decide +kernel
theorem dL_law_1197 : decode cL_law 1197 = .ok (.iconst 0, 1) := by decide +kernel
theorem dL_law_1198 : decode cL_law 1198 = .ok (.iaload, 1) := by decide +kernel
theorem dL_law_1199 : decode cL_law 1199 = .ok (.ifCond .ne 13, 3) := by decide +kernel
theorem dL_law_1202 : decode cL_law 1202 = .ok (.iload 25, 2) := by decide +kernel
theorem dL_law_1204 : decode cL_law 1204 = .ok (.iconst 1, 1) := by decide +kernel
theorem dL_law_1205 : decode cL_law 1205 = .ok (.if_icmp .ne 7, 3) := by decide +kernel
theorem dL_law_1208 : decode cL_law 1208 = .ok (.iconst 1, 1) := by decide +kernel
theorem dL_law_1209 : decode cL_law 1209 = .ok (.goto 4, 3) := by decide +kernel
theorem dL_law_1212 : decode cL_law 1212 = .ok (.iconst 0, 1) := by decide +kernel
theorem dL_law_1213 : decode cL_law 1213 = .ok (.istore 27, 2) := by decide +kernel
theorem dL_law_1215 : decode cL_law 1215 = .ok (.aload_n 1, 1) := by decide +kernel
theorem dL_law_1216 : decode cL_law 1216 = .ok (.aload 8, 2) := by decide +kernel
theorem dL_law_1218 : decode cL_law 1218 = .ok (.iload 24, 2) := by decide +kernel
theorem dL_law_1220 : decode cL_law 1220 = .ok (.aaload, 1) := by decide +kernel
theorem dL_law_1221 : decode cL_law 1221 = .ok (.iconst 1, 1) := by decide +kernel
theorem dL_law_1222 : decode cL_law 1222 = .ok (.iaload, 1) := by decide +kernel
theorem dL_law_1223 : decode cL_law 1223 = .ok (.aload 8, 2) := by decide +kernel
theorem dL_law_1225 : decode cL_law 1225 = .ok (.iload 24, 2) := by decide +kernel
theorem dL_law_1227 : decode cL_law 1227 = .ok (.aaload, 1) := by decide +kernel
theorem dL_law_1228 : decode cL_law 1228 = .ok (.iconst 2, 1) := by decide +kernel
theorem dL_law_1229 : decode cL_law 1229 = .ok (.iaload, 1) := by decide +kernel
theorem dL_law_1230 : decode cL_law 1230 = .ok (.invokevirtual 84, 3) := by decide +kernel
theorem dL_law_1233 : decode cL_law 1233 = .ok (.istore 28, 2) := by decide +kernel
theorem dL_law_1235 : decode cL_law 1235 = .ok (.aload_n 1, 1) := by decide +kernel
theorem dL_law_1236 : decode cL_law 1236 = .ok (.iload 24, 2) := by decide +kernel
theorem dL_law_1238 : decode cL_law 1238 = .ok (.iconst 5, 1) := by decide +kernel
theorem dL_law_1239 : decode cL_law 1239 = .ok (.invokevirtual 55, 3) := by decide +kernel
theorem dL_law_1242 : decode cL_law 1242 = .ok (.aload 8, 2) := by decide +kernel
theorem dL_law_1244 : decode cL_law 1244 = .ok (.iload 24, 2) := by decide +kernel
theorem dL_law_1246 : decode cL_law 1246 = .ok (.aaload, 1) := by decide +kernel
theorem dL_law_1247 : decode cL_law 1247 = .ok (.iconst 5, 1) := by decide +kernel
theorem dL_law_1248 : decode cL_law 1248 = .ok (.iaload, 1) := by decide +kernel
theorem dL_law_1249 : decode cL_law 1249 = .ok (.iload 25, 2) := by decide +kernel
theorem dL_law_1251 : decode cL_law 1251 = .ok (.ifCond .ne 7, 3) := by decide +kernel
theorem dL_law_1254 : decode cL_law 1254 = .ok (.iconst 1, 1) := by decide +kernel
theorem dL_law_1255 : decode cL_law 1255 = .ok (.goto 4, 3) := by decide +kernel
theorem dL_law_1258 : decode cL_law 1258 = .ok (.iconst 0, 1) := by decide +kernel
theorem dL_law_1259 : decode cL_law 1259 = .ok (.iadd, 1) := by decide +kernel
theorem dL_law_1260 : decode cL_law 1260 = .ok (.if_icmp .ne 49, 3) := by decide +kernel
theorem dL_law_1263 : decode cL_law 1263 = .ok (.aload_n 1, 1) := by decide +kernel
theorem dL_law_1264 : decode cL_law 1264 = .ok (.iload 24, 2) := by decide +kernel
theorem dL_law_1266 : decode cL_law 1266 = .ok (.iconst 2, 1) := by decide +kernel
theorem dL_law_1267 : decode cL_law 1267 = .ok (.invokevirtual 55, 3) := by decide +kernel
theorem dL_law_1270 : decode cL_law 1270 = .ok (.aload 8, 2) := by decide +kernel
theorem dL_law_1272 : decode cL_law 1272 = .ok (.iload 24, 2) := by decide +kernel
theorem dL_law_1274 : decode cL_law 1274 = .ok (.aaload, 1) := by decide +kernel
theorem dL_law_1275 : decode cL_law 1275 = .ok (.iconst 2, 1) := by decide +kernel
theorem dL_law_1276 : decode cL_law 1276 = .ok (.iaload, 1) := by decide +kernel
theorem dL_law_1277 : decode cL_law 1277 = .ok (.if_icmp .ne 32, 3) := by decide +kernel
theorem dL_law_1280 : decode cL_law 1280 = .ok (.iload 25, 2) := by decide +kernel
theorem dL_law_1282 : decode cL_law 1282 = .ok (.iconst 1, 1) := by decide +kernel
theorem dL_law_1283 : decode cL_law 1283 = .ok (.if_icmp .ne 7, 3) := by decide +kernel
theorem dL_law_1286 : decode cL_law 1286 = .ok (.iconst 1, 1) := by decide +kernel
theorem dL_law_1287 : decode cL_law 1287 = .ok (.goto 4, 3) := by decide +kernel
theorem dL_law_1290 : decode cL_law 1290 = .ok (.iconst 0, 1) := by decide +kernel
theorem dL_law_1291 : decode cL_law 1291 = .ok (.aload_n 1, 1) := by decide +kernel
theorem dL_law_1292 : decode cL_law 1292 = .ok (.iload 24, 2) := by decide +kernel
theorem dL_law_1294 : decode cL_law 1294 = .ok (.iconst 3, 1) := by decide +kernel
theorem dL_law_1295 : decode cL_law 1295 = .ok (.invokevirtual 55, 3) := by decide +kernel
theorem dL_law_1298 : decode cL_law 1298 = .ok (.ifCond .lt 7, 3) := by decide +kernel
theorem dL_law_1301 : decode cL_law 1301 = .ok (.iconst 1, 1) := by decide +kernel
theorem dL_law_1302 : decode cL_law 1302 = .ok (.goto 4, 3) := by decide +kernel
theorem dL_law_1305 : decode cL_law 1305 = .ok (.iconst 0, 1) := by decide +kernel
theorem dL_law_1306 : decode cL_law 1306 = .ok (.if_icmp .eq 5, 3) := by decide +kernel
theorem dL_law_1309 : decode cL_law 1309 = .ok (.iconst 0, 1) := by decide +kernel
theorem dL_law_1310 : decode cL_law 1310 = .ok (.ireturn, 1) := by decide +kernel
theorem dL_law_1311 : decode cL_law 1311 = .ok (.iload 27, 2) := by decide +kernel
theorem dL_law_1313 : decode cL_law 1313 = .ok (.ifCond .eq 72, 3) := by decide +kernel
theorem dL_law_1316 : decode cL_law 1316 = .ok (.iload 26, 2) := by decide +kernel
theorem dL_law_1318 : decode cL_law 1318 = .ok (.iload 28, 2) := by decide +kernel
theorem dL_law_1320 : decode cL_law 1320 = .ok (.if_icmp .eq 23, 3) := by decide +kernel
theorem dL_law_1323 : decode cL_law 1323 = .ok (.iload 26, 2) := by decide +kernel
theorem dL_law_1325 : decode cL_law 1325 = .ok (.iload 28, 2) := by decide +kernel
theorem dL_law_1327 : decode cL_law 1327 = .ok (.iconst 2, 1) := by decide +kernel
theorem dL_law_1328 : decode cL_law 1328 = .ok (.idiv, 1) := by decide +kernel
theorem dL_law_1329 : decode cL_law 1329 = .ok (.if_icmp .ne 61, 3) := by decide +kernel
theorem dL_law_1332 : decode cL_law 1332 = .ok (.aload 8, 2) := by decide +kernel
theorem dL_law_1334 : decode cL_law 1334 = .ok (.iload 24, 2) := by decide +kernel
theorem dL_law_1336 : decode cL_law 1336 = .ok (.aaload, 1) := by decide +kernel
theorem dL_law_1337 : decode cL_law 1337 = .ok (.bipush 6, 2) := by decide +kernel
theorem dL_law_1339 : decode cL_law 1339 = .ok (.iaload, 1) := by decide +kernel
theorem dL_law_1340 : decode cL_law 1340 = .ok (.ifCond .lt 50, 3) := by decide +kernel
theorem dL_law_1343 : decode cL_law 1343 = .ok (.aload_n 1, 1) := by decide +kernel
theorem dL_law_1344 : decode cL_law 1344 = .ok (.aload_n 1, 1) := by decide +kernel
theorem dL_law_1345 : decode cL_law 1345 = .ok (.iload 24, 2) := by decide +kernel
theorem dL_law_1347 : decode cL_law 1347 = .ok (.iconst 3, 1) := by decide +kernel
theorem dL_law_1348 : decode cL_law 1348 = .ok (.invokevirtual 55, 3) := by decide +kernel
theorem dL_law_1351 : decode cL_law 1351 = .ok (.iconst 0, 1) := by decide +kernel
theorem dL_law_1352 : decode cL_law 1352 = .ok (.invokevirtual 60, 3) := by decide +kernel
theorem dL_law_1355 : decode cL_law 1355 = .ok (.aload 8, 2) := by decide +kernel
theorem dL_law_1357 : decode cL_law 1357 = .ok (.iload 24, 2) := by decide +kernel
theorem dL_law_1359 : decode cL_law 1359 = .ok (.aaload, 1) := by decide +kernel
theorem dL_law_1360 : decode cL_law 1360 = .ok (.iconst 1, 1) := by decide +kernel
theorem dL_law_1361 : decode cL_law 1361 = .ok (.iaload, 1) := by decide +kernel
theorem dL_law_1362 : decode cL_law 1362 = .ok (.if_icmp .ne 28, 3) := by decide +kernel
theorem dL_law_1365 : decode cL_law 1365 = .ok (.aload_n 1, 1) := by decide +kernel
theorem dL_law_1366 : decode cL_law 1366 = .ok (.iload 24, 2) := by decide +kernel
theorem dL_law_1368 : decode cL_law 1368 = .ok (.iconst 1, 1) := by decide +kernel
theorem dL_law_1369 : decode cL_law 1369 = .ok (.invokevirtual 55, 3) := by decide +kernel
theorem dL_law_1372 : decode cL_law 1372 = .ok (.aload 8, 2) := by decide +kernel
theorem dL_law_1374 : decode cL_law 1374 = .ok (.iload 24, 2) := by decide +kernel
theorem dL_law_1376 : decode cL_law 1376 = .ok (.aaload, 1) := by decide +kernel
theorem dL_law_1377 : decode cL_law 1377 = .ok (.iconst 1, 1) := by decide +kernel
theorem dL_law_1378 : decode cL_law 1378 = .ok (.iaload, 1) := by decide +kernel
theorem dL_law_1379 : decode cL_law 1379 = .ok (.if_icmp .eq 13, 3) := by decide +kernel
theorem dL_law_1382 : decode cL_law 1382 = .ok (.goto 8, 3) := by decide +kernel
theorem dL_law_1385 : decode cL_law 1385 = .ok (.iload 26, 2) := by decide +kernel
theorem dL_law_1387 : decode cL_law 1387 = .ok (.ifCond .eq 5, 3) := by decide +kernel
theorem dL_law_1390 : decode cL_law 1390 = .ok (.iconst 0, 1) := by decide +kernel
theorem dL_law_1391 : decode cL_law 1391 = .ok (.ireturn, 1) := by decide +kernel
theorem dL_law_1392 : decode cL_law 1392 = .ok (.aload 8, 2) := by decide +kernel
theorem dL_law_1394 : decode cL_law 1394 = .ok (.iload 24, 2) := by decide +kernel
theorem dL_law_1396 : decode cL_law 1396 = .ok (.aaload, 1) := by decide +kernel
theorem dL_law_1397 : decode cL_law 1397 = .ok (.iconst 0, 1) := by decide +kernel
theorem dL_law_1398 : decode cL_law 1398 = .ok (.iaload, 1) := by decide +kernel
theorem dL_law_1399 : decode cL_law 1399 = .ok (.ifCond .ne 9, 3) := by decide +kernel
theorem dL_law_1402 : decode cL_law 1402 = .ok (.iload 25, 2) := by decide +kernel
theorem dL_law_1404 : decode cL_law 1404 = .ok (.iconst 2, 1) := by decide +kernel
theorem dL_law_1405 : decode cL_law 1405 = .ok (.if_icmp .eq 36, 3) := by decide +kernel
theorem dL_law_1408 : decode cL_law 1408 = .ok (.aload 8, 2) := by decide +kernel
theorem dL_law_1410 : decode cL_law 1410 = .ok (.iload 24, 2) := by decide +kernel
theorem dL_law_1412 : decode cL_law 1412 = .ok (.aaload, 1) := by decide +kernel
theorem dL_law_1413 : decode cL_law 1413 = .ok (.iconst 0, 1) := by decide +kernel
theorem dL_law_1414 : decode cL_law 1414 = .ok (.iaload, 1) := by decide +kernel
theorem dL_law_1415 : decode cL_law 1415 = .ok (.iconst 2, 1) := by decide +kernel
theorem dL_law_1416 : decode cL_law 1416 = .ok (.if_icmp .ne 9, 3) := by decide +kernel
theorem dL_law_1419 : decode cL_law 1419 = .ok (.iload 25, 2) := by decide +kernel
theorem dL_law_1421 : decode cL_law 1421 = .ok (.iconst 2, 1) := by decide +kernel
theorem dL_law_1422 : decode cL_law 1422 = .ok (.if_icmp .ne 19, 3) := by decide +kernel
theorem dL_law_1425 : decode cL_law 1425 = .ok (.aload 8, 2) := by decide +kernel
theorem dL_law_1427 : decode cL_law 1427 = .ok (.iload 24, 2) := by decide +kernel
theorem dL_law_1429 : decode cL_law 1429 = .ok (.aaload, 1) := by decide +kernel
theorem dL_law_1430 : decode cL_law 1430 = .ok (.iconst 0, 1) := by decide +kernel
theorem dL_law_1431 : decode cL_law 1431 = .ok (.iaload, 1) := by decide +kernel
theorem dL_law_1432 : decode cL_law 1432 = .ok (.iconst 1, 1) := by decide +kernel
theorem dL_law_1433 : decode cL_law 1433 = .ok (.if_icmp .ne 10, 3) := by decide +kernel
theorem dL_law_1436 : decode cL_law 1436 = .ok (.iload 25, 2) := by decide +kernel
theorem dL_law_1438 : decode cL_law 1438 = .ok (.ifCond .ne 5, 3) := by decide +kernel
theorem dL_law_1441 : decode cL_law 1441 = .ok (.iconst 0, 1) := by decide +kernel
theorem dL_law_1442 : decode cL_law 1442 = .ok (.ireturn, 1) := by decide +kernel
theorem dL_law_1443 : decode cL_law 1443 = .ok (.aload 8, 2) := by decide +kernel
theorem dL_law_1445 : decode cL_law 1445 = .ok (.iload 24, 2) := by decide +kernel
theorem dL_law_1447 : decode cL_law 1447 = .ok (.aaload, 1) := by decide +kernel
theorem dL_law_1448 : decode cL_law 1448 = .ok (.iconst 0, 1) := by decide +kernel
theorem dL_law_1449 : decode cL_law 1449 = .ok (.iaload, 1) := by decide +kernel
theorem dL_law_1450 : decode cL_law 1450 = .ok (.iconst 1, 1) := by decide +kernel
theorem dL_law_1451 : decode cL_law 1451 = .ok (.if_icmp .ne 63, 3) := by decide +kernel
theorem dL_law_1454 : decode cL_law 1454 = .ok (.iload 25, 2) := by decide +kernel
theorem dL_law_1456 : decode cL_law 1456 = .ok (.iconst 2, 1) := by decide +kernel
theorem dL_law_1457 : decode cL_law 1457 = .ok (.if_icmp .ne 57, 3) := by decide +kernel
theorem dL_law_1460 : decode cL_law 1460 = .ok (.aload_n 1, 1) := by decide +kernel
theorem dL_law_1461 : decode cL_law 1461 = .ok (.iload 24, 2) := by decide +kernel
theorem dL_law_1463 : decode cL_law 1463 = .ok (.iconst 1, 1) := by decide +kernel
theorem dL_law_1464 : decode cL_law 1464 = .ok (.invokevirtual 55, 3) := by decide +kernel
theorem dL_law_1467 : decode cL_law 1467 = .ok (.aload 8, 2) := by decide +kernel
theorem dL_law_1469 : decode cL_law 1469 = .ok (.iload 24, 2) := by decide +kernel
theorem dL_law_1471 : decode cL_law 1471 = .ok (.aaload, 1) := by decide +kernel
theorem dL_law_1472 : decode cL_law 1472 = .ok (.iconst 2, 1) := by decide +kernel
theorem dL_law_1473 : decode cL_law 1473 = .ok (.iaload, 1) := by decide +kernel
theorem dL_law_1474 : decode cL_law 1474 = .ok (.if_icmp .ne 38, 3) := by decide +kernel
theorem dL_law_1477 : decode cL_law 1477 = .ok (.aload_n 1, 1) := by decide +kernel
theorem dL_law_1478 : decode cL_law 1478 = .ok (.iload 24, 2) := by decide +kernel
theorem dL_law_1480 : decode cL_law 1480 = .ok (.bipush 6, 2) := by decide +kernel
theorem dL_law_1482 : decode cL_law 1482 = .ok (.invokevirtual 55, 3) := by decide +kernel
theorem dL_law_1485 : decode cL_law 1485 = .ok (.iload 7, 2) := by decide +kernel
theorem dL_law_1487 : decode cL_law 1487 = .ok (.if_icmp .ne 25, 3) := by decide +kernel
theorem dL_law_1490 : decode cL_law 1490 = .ok (.aload_n 1, 1) := by decide +kernel
theorem dL_law_1491 : decode cL_law 1491 = .ok (.aload 8, 2) := by decide +kernel
theorem dL_law_1493 : decode cL_law 1493 = .ok (.iload 24, 2) := by decide +kernel
theorem dL_law_1495 : decode cL_law 1495 = .ok (.aaload, 1) := by decide +kernel
theorem dL_law_1496 : decode cL_law 1496 = .ok (.iconst 3, 1) := by decide +kernel
theorem dL_law_1497 : decode cL_law 1497 = .ok (.iaload, 1) := by decide +kernel
theorem dL_law_1498 : decode cL_law 1498 = .ok (.iconst 0, 1) := by decide +kernel
theorem dL_law_1499 : decode cL_law 1499 = .ok (.invokevirtual 60, 3) := by decide +kernel
theorem dL_law_1502 : decode cL_law 1502 = .ok (.aload 8, 2) := by decide +kernel
theorem dL_law_1504 : decode cL_law 1504 = .ok (.iload 24, 2) := by decide +kernel
theorem dL_law_1506 : decode cL_law 1506 = .ok (.aaload, 1) := by decide +kernel
theorem dL_law_1507 : decode cL_law 1507 = .ok (.iconst 2, 1) := by decide +kernel
theorem dL_law_1508 : decode cL_law 1508 = .ok (.iaload, 1) := by decide +kernel
theorem dL_law_1509 : decode cL_law 1509 = .ok (.if_icmp .eq 5, 3) := by decide +kernel
theorem dL_law_1512 : decode cL_law 1512 = .ok (.iconst 0, 1) := by decide +kernel
theorem dL_law_1513 : decode cL_law 1513 = .ok (.ireturn, 1) := by decide +kernel
theorem dL_law_1514 : decode cL_law 1514 = .ok (.aload 8, 2) := by decide +kernel
theorem dL_law_1516 : decode cL_law 1516 = .ok (.iload 24, 2) := by decide +kernel
theorem dL_law_1518 : decode cL_law 1518 = .ok (.aaload, 1) := by decide +kernel
theorem dL_law_1519 : decode cL_law 1519 = .ok (.iconst 0, 1) := by decide +kernel
theorem dL_law_1520 : decode cL_law 1520 = .ok (.iaload, 1) := by decide +kernel
theorem dL_law_1521 : decode cL_law 1521 = .ok (.iconst 1, 1) := by decide +kernel
theorem dL_law_1522 : decode cL_law 1522 = .ok (.if_icmp .ne 26, 3) := by decide +kernel
theorem dL_law_1525 : decode cL_law 1525 = .ok (.iload 25, 2) := by decide +kernel
theorem dL_law_1527 : decode cL_law 1527 = .ok (.iconst 1, 1) := by decide +kernel
theorem dL_law_1528 : decode cL_law 1528 = .ok (.if_icmp .ne 20, 3) := by decide +kernel
theorem dL_law_1531 : decode cL_law 1531 = .ok (.aload_n 1, 1) := by decide +kernel
theorem dL_law_1532 : decode cL_law 1532 = .ok (.iload 24, 2) := by decide +kernel
theorem dL_law_1534 : decode cL_law 1534 = .ok (.iconst 3, 1) := by decide +kernel
theorem dL_law_1535 : decode cL_law 1535 = .ok (.invokevirtual 55, 3) := by decide +kernel
theorem dL_law_1538 : decode cL_law 1538 = .ok (.aload 8, 2) := by decide +kernel
theorem dL_law_1540 : decode cL_law 1540 = .ok (.iload 24, 2) := by decide +kernel
theorem dL_law_1542 : decode cL_law 1542 = .ok (.aaload, 1) := by decide +kernel
theorem dL_law_1543 : decode cL_law 1543 = .ok (.iconst 3, 1) := by decide +kernel
theorem dL_law_1544 : decode cL_law 1544 = .ok (.iaload, 1) := by decide +kernel
theorem dL_law_1545 : decode cL_law 1545 = .ok (.if_icmp .ne 28, 3) := by decide +kernel
theorem dL_law_1548 : decode cL_law 1548 = .ok (.iload 25, 2) := by decide +kernel
theorem dL_law_1550 : decode cL_law 1550 = .ok (.iconst 2, 1) := by decide +kernel
theorem dL_law_1551 : decode cL_law 1551 = .ok (.if_icmp .eq 24, 3) := by decide +kernel
theorem dL_law_1554 : decode cL_law 1554 = .ok (.aload_n 1, 1) := by decide +kernel
theorem dL_law_1555 : decode cL_law 1555 = .ok (.iload 24, 2) := by decide +kernel
theorem dL_law_1557 : decode cL_law 1557 = .ok (.bipush 6, 2) := by decide +kernel
theorem dL_law_1559 : decode cL_law 1559 = .ok (.invokevirtual 55, 3) := by decide +kernel
theorem dL_law_1562 : decode cL_law 1562 = .ok (.aload 8, 2) := by decide +kernel
theorem dL_law_1564 : decode cL_law 1564 = .ok (.iload 24, 2) := by decide +kernel
theorem dL_law_1566 : decode cL_law 1566 = .ok (.aaload, 1) := by decide +kernel
theorem dL_law_1567 : decode cL_law 1567 = .ok (.bipush 6, 2) := by decide +kernel
theorem dL_law_1569 : decode cL_law 1569 = .ok (.iaload, 1) := by decide +kernel
theorem dL_law_1570 : decode cL_law 1570 = .ok (.if_icmp .eq 5, 3) := by decide +kernel
theorem dL_law_1573 : decode cL_law 1573 = .ok (.iconst 0, 1) := by decide +kernel
theorem dL_law_1574 : decode cL_law 1574 = .ok (.ireturn, 1) := by decide +kernel
theorem dL_law_1575 : decode cL_law 1575 = .ok (.iload 24, 2) := by decide +kernel
theorem dL_law_1577 : decode cL_law 1577 = .ok (.iload 17, 2) := by decide +kernel
theorem dL_law_1579 : decode cL_law 1579 = .ok (.if_icmp .ne 35, 3) := by decide +kernel
theorem dL_law_1582 : decode cL_law 1582 = .ok (.iload 18, 2) := by decide +kernel
theorem dL_law_1584 : decode cL_law 1584 = .ok (.ifCond .le 30, 3) := by decide +kernel
theorem dL_law_1587 : decode cL_law 1587 = .ok (.iload 18, 2) := by decide +kernel
theorem dL_law_1589 : decode cL_law 1589 = .ok (.iconst 1, 1) := by decide +kernel
theorem dL_law_1590 : decode cL_law 1590 = .ok (.if_icmp .ne 7, 3) := by decide +kernel
theorem dL_law_1593 : decode cL_law 1593 = .ok (.iconst 1, 1) := by decide +kernel
theorem dL_law_1594 : decode cL_law 1594 = .ok (.goto 4, 3) := by decide +kernel
theorem dL_law_1597 : decode cL_law 1597 = .ok (.iconst 0, 1) := by decide +kernel
theorem dL_law_1598 : decode cL_law 1598 = .ok (.iload 25, 2) := by decide +kernel
theorem dL_law_1600 : decode cL_law 1600 = .ok (.iconst 2, 1) := by decide +kernel
theorem dL_law_1601 : decode cL_law 1601 = .ok (.if_icmp .ne 7, 3) := by decide +kernel
theorem dL_law_1604 : decode cL_law 1604 = .ok (.iconst 1, 1) := by decide +kernel
theorem dL_law_1605 : decode cL_law 1605 = .ok (.goto 4, 3) := by decide +kernel
theorem dL_law_1608 : decode cL_law 1608 = .ok (.iconst 0, 1) := by decide +kernel
theorem dL_law_1609 : decode cL_law 1609 = .ok (.if_icmp .eq 5, 3) := by decide +kernel
theorem dL_law_1612 : decode cL_law 1612 = .ok (.iconst 0, 1) := by decide +kernel
theorem dL_law_1613 : decode cL_law 1613 = .ok (.ireturn, 1) := by decide +kernel
theorem dL_law_1614 : decode cL_law 1614 = .ok (.iinc 24 1, 3) := by decide +kernel
theorem dL_law_1617 : decode cL_law 1617 = .ok (.goto (-497), 3) := by decide +kernel
theorem dL_law_1620 : decode cL_law 1620 = .ok (.iload 22, 2) := by decide +kernel
theorem dL_law_1622 : decode cL_law 1622 = .ok (.iload 20, 2) := by decide +kernel
theorem dL_law_1624 : decode cL_law 1624 = .ok (.if_icmp .ne 56, 3) := by decide +kernel
theorem dL_law_1627 : decode cL_law 1627 = .ok (.iload 23, 2) := by decide +kernel
theorem dL_law_1629 : decode cL_law 1629 = .ok (.iload 21, 2) := by decide +kernel
theorem dL_law_1631 : decode cL_law 1631 = .ok (.if_icmp .ne 49, 3) := by decide +kernel
theorem dL_law_1634 : decode cL_law 1634 = .ok (.iload 23, 2) := by decide +kernel
theorem dL_law_1636 : decode cL_law 1636 = .ok (.aload_n 1, 1) := by decide +kernel
theorem dL_law_1637 : decode cL_law 1637 = .ok (.bipush 7, 2) := by decide +kernel
theorem dL_law_1639 : decode cL_law 1639 = .ok (.invokevirtual 52, 3) := by decide +kernel
theorem dL_law_1642 : decode cL_law 1642 = .ok (.if_icmp .ne 38, 3) := by decide +kernel
theorem dL_law_1645 : decode cL_law 1645 = .ok (.aload_n 1, 1) := by decide +kernel
theorem dL_law_1646 : decode cL_law 1646 = .ok (.iconst 4, 1) := by decide +kernel
theorem dL_law_1647 : decode cL_law 1647 = .ok (.invokevirtual 52, 3) := by decide +kernel
theorem dL_law_1650 : decode cL_law 1650 = .ok (.aload_n 1, 1) := by decide +kernel
theorem dL_law_1651 : decode cL_law 1651 = .ok (.iconst 5, 1) := by decide +kernel
theorem dL_law_1652 : decode cL_law 1652 = .ok (.invokevirtual 52, 3) := by decide +kernel
theorem dL_law_1655 : decode cL_law 1655 = .ok (.iadd, 1) := by decide +kernel
theorem dL_law_1656 : decode cL_law 1656 = .ok (.aload_n 1, 1) := by decide +kernel
theorem dL_law_1657 : decode cL_law 1657 = .ok (.bipush 6, 2) := by decide +kernel
theorem dL_law_1659 : decode cL_law 1659 = .ok (.invokevirtual 52, 3) := by decide +kernel
theorem dL_law_1662 : decode cL_law 1662 = .ok (.iadd, 1) := by decide +kernel
theorem dL_law_1663 : decode cL_law 1663 = .ok (.iload 4, 2) := by decide +kernel
theorem dL_law_1665 : decode cL_law 1665 = .ok (.if_icmp .ne 15, 3) := by decide +kernel
theorem dL_law_1668 : decode cL_law 1668 = .ok (.aload_n 1, 1) := by decide +kernel
theorem dL_law_1669 : decode cL_law 1669 = .ok (.iconst 0, 1) := by decide +kernel
theorem dL_law_1670 : decode cL_law 1670 = .ok (.bipush 9, 2) := by decide +kernel
theorem dL_law_1672 : decode cL_law 1672 = .ok (.invokevirtual 84, 3) := by decide +kernel
theorem dL_law_1675 : decode cL_law 1675 = .ok (.bipush 11, 2) := by decide +kernel
theorem dL_law_1677 : decode cL_law 1677 = .ok (.if_icmp .le 5, 3) := by decide +kernel
theorem dL_law_1680 : decode cL_law 1680 = .ok (.iconst 0, 1) := by decide +kernel
theorem dL_law_1681 : decode cL_law 1681 = .ok (.ireturn, 1) := by decide +kernel
theorem dL_law_1682 : decode cL_law 1682 = .ok (.iinc 2 1, 3) := by decide +kernel
theorem dL_law_1685 : decode cL_law 1685 = .ok (.goto (-1678), 3) := by decide +kernel
theorem dL_law_1688 : decode cL_law 1688 = .ok (.iconst 1, 1) := by decide +kernel
theorem dL_law_1689 : decode cL_law 1689 = .ok (.ireturn, 1) := by decide +kernel
