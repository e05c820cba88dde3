theorem dL_act_741 : decode cL_act 741 = .ok (.aload 6, 2) := by decide +kernel
theorem dL_act_743 : decode cL_act 743 = .ok (.getfield 168, 3) := by decide +kernel
theorem dL_act_746 : decode cL_act 746 = .ok (.istore 9, 2) := by decide +kernel
theorem dL_act_748 : decode cL_act 748 = .ok (.aload 6, 2) := by decide +kernel
theorem dL_act_750 : decode cL_act 750 = .ok (.invokevirtual 164, 3) := by decide +kernel
theorem dL_act_753 : decode cL_act 753 = .ok (.ifCond .eq 37, 3) := by decide +kernel
theorem dL_act_756 : decode cL_act 756 = .ok (.aload_n 0, 1) := by decide +kernel
theorem dL_act_757 : decode cL_act 757 = .ok (.bipush 12, 2) := by decide +kernel
theorem dL_act_759 : decode cL_act 759 = .ok (.iconst 3, 1) := by decide +kernel
theorem dL_act_760 : decode cL_act 760 = .ok (.newarray .int, 2) := by decide +kernel
theorem dL_act_762 : decode cL_act 762 = .ok (.dup, 1) := by decide +kernel
theorem dL_act_763 : decode cL_act 763 = .ok (.iconst 0, 1) := by decide +kernel
theorem dL_act_764 : decode cL_act 764 = .ok (.iload 4, 2) := by decide +kernel
theorem dL_act_766 : decode cL_act 766 = .ok (.iastore, 1) := by decide +kernel
theorem dL_act_767 : decode cL_act 767 = .ok (.dup, 1) := by decide +kernel
theorem dL_act_768 : decode cL_act 768 = .ok (.iconst 1, 1) := by decide +kernel
theorem dL_act_769 : decode cL_act 769 = .ok (.iload 7, 2) := by decide +kernel
theorem dL_act_771 : decode cL_act 771 = .ok (.iastore, 1) := by decide +kernel
theorem dL_act_772 : decode cL_act 772 = .ok (.dup, 1) := by decide +kernel
theorem dL_act_773 : decode cL_act 773 = .ok (.iconst 2, 1) := by decide +kernel
theorem dL_act_774 : decode cL_act 774 = .ok (.iload 8, 2) := by decide +kernel
theorem dL_act_776 : decode cL_act 776 = .ok (.iastore, 1) := by decide +kernel
theorem dL_act_777 : decode cL_act 777 = .ok (.invokestatic 110, 3) := by decide +kernel
theorem dL_act_780 : decode cL_act 780 = .ok (.iconst 3, 1) := by decide +kernel
theorem dL_act_781 : decode cL_act 781 = .ok (.if_icmp .ne 7, 3) := by decide +kernel
theorem dL_act_784 : decode cL_act 784 = .ok (.iconst 1, 1) := by decide +kernel
theorem dL_act_785 : decode cL_act 785 = .ok (.goto 4, 3) := by decide +kernel
theorem dL_act_788 : decode cL_act 788 = .ok (.iconst 0, 1) := by decide +kernel
theorem dL_act_789 : decode cL_act 789 = .ok (.ireturn, 1) := by decide +kernel
theorem dL_act_790 : decode cL_act 790 = .ok (.aload 6, 2) := by decide +kernel
theorem dL_act_792 : decode cL_act 792 = .ok (.iload 7, 2) := by decide +kernel
theorem dL_act_794 : decode cL_act 794 = .ok (.putfield 168, 3) := by decide +kernel
theorem dL_act_797 : decode cL_act 797 = .ok (.aload 6, 2) := by decide +kernel
theorem dL_act_799 : decode cL_act 799 = .ok (.iload 8, 2) := by decide +kernel
theorem dL_act_801 : decode cL_act 801 = .ok (.putfield 129, 3) := by decide +kernel
theorem dL_act_804 : decode cL_act 804 = .ok (.aload_n 0, 1) := by decide +kernel
theorem dL_act_805 : decode cL_act 805 = .ok (.bipush 12, 2) := by decide +kernel
theorem dL_act_807 : decode cL_act 807 = .ok (.iconst 3, 1) := by decide +kernel
theorem dL_act_808 : decode cL_act 808 = .ok (.newarray .int, 2) := by decide +kernel
theorem dL_act_810 : decode cL_act 810 = .ok (.dup, 1) := by decide +kernel
theorem dL_act_811 : decode cL_act 811 = .ok (.iconst 0, 1) := by decide +kernel
theorem dL_act_812 : decode cL_act 812 = .ok (.iload 4, 2) := by decide +kernel
theorem dL_act_814 : decode cL_act 814 = .ok (.iastore, 1) := by decide +kernel
theorem dL_act_815 : decode cL_act 815 = .ok (.dup, 1) := by decide +kernel
theorem dL_act_816 : decode cL_act 816 = .ok (.iconst 1, 1) := by decide +kernel
theorem dL_act_817 : decode cL_act 817 = .ok (.bipush 16, 2) := by decide +kernel
theorem dL_act_819 : decode cL_act 819 = .ok (.iastore, 1) := by decide +kernel
theorem dL_act_820 : decode cL_act 820 = .ok (.dup, 1) := by decide +kernel
theorem dL_act_821 : decode cL_act 821 = .ok (.iconst 2, 1) := by decide +kernel
theorem dL_act_822 : decode cL_act 822 = .ok (.iconst 0, 1) := by decide +kernel
theorem dL_act_823 : decode cL_act 823 = .ok (.iastore, 1) := by decide +kernel
theorem dL_act_824 : decode cL_act 824 = .ok (.invokestatic 110, 3) := by decide +kernel
theorem dL_act_827 : decode cL_act 827 = .ok (.iconst 3, 1) := by decide +kernel
theorem dL_act_828 : decode cL_act 828 = .ok (.if_icmp .ne 22, 3) := by decide +kernel
theorem dL_act_831 : decode cL_act 831 = .ok (.aload_n 0, 1) := by decide +kernel
theorem dL_act_832 : decode cL_act 832 = .ok (.iload 4, 2) := by decide +kernel
theorem dL_act_834 : decode cL_act 834 = .ok (.iload 7, 2) := by decide +kernel
theorem dL_act_836 : decode cL_act 836 = .ok (.iload 8, 2) := by decide +kernel
theorem dL_act_838 : decode cL_act 838 = .ok (.invokevirtual 70, 3) := by decide +kernel
theorem dL_act_841 : decode cL_act 841 = .ok (.iload 9, 2) := by decide +kernel
theorem dL_act_843 : decode cL_act 843 = .ok (.if_icmp .ne 7, 3) := by decide +kernel
theorem dL_act_846 : decode cL_act 846 = .ok (.iconst 1, 1) := by decide +kernel
theorem dL_act_847 : decode cL_act 847 = .ok (.goto 4, 3) := by decide +kernel
theorem dL_act_850 : decode cL_act 850 = .ok (.iconst 0, 1) := by decide +kernel
theorem dL_act_851 : decode cL_act 851 = .ok (.ireturn, 1) := by decide +kernel
theorem dL_act_852 : decode cL_act 852 = .ok (.aload_n 2, 1) := by decide +kernel
theorem dL_act_853 : decode cL_act 853 = .ok (.iconst 2, 1) := by decide +kernel
theorem dL_act_854 : decode cL_act 854 = .ok (.iconst 5, 1) := by decide +kernel
theorem dL_act_855 : decode cL_act 855 = .ok (.invokevirtual 198, 3) := by decide +kernel
theorem dL_act_858 : decode cL_act 858 = .ok (.istore 7, 2) := by decide +kernel
theorem dL_act_860 : decode cL_act 860 = .ok (.iload 7, 2) := by decide +kernel
theorem dL_act_862 : decode cL_act 862 = .ok (.iconst 2, 1) := by decide +kernel
theorem dL_act_863 : decode cL_act 863 = .ok (.if_icmp .ne 10, 3) := by decide +kernel
theorem dL_act_866 : decode cL_act 866 = .ok (.aload_n 1, 1) := by decide +kernel
theorem dL_act_867 : decode cL_act 867 = .ok (.getfield 136, 3) := by decide +kernel
theorem dL_act_870 : decode cL_act 870 = .ok (.goto 33, 3) := by decide +kernel
theorem dL_act_873 : decode cL_act 873 = .ok (.iload 7, 2) := by decide +kernel
theorem dL_act_875 : decode cL_act 875 = .ok (.iconst 3, 1) := by decide +kernel
theorem dL_act_876 : decode cL_act 876 = .ok (.if_icmp .ne 10, 3) := by decide +kernel
theorem dL_act_879 : decode cL_act 879 = .ok (.aload_n 1, 1) := by decide +kernel
theorem dL_act_880 : decode cL_act 880 = .ok (.getfield 139, 3) := by decide +kernel
theorem dL_act_883 : decode cL_act 883 = .ok (.goto 20, 3) := by decide +kernel
theorem dL_act_886 : decode cL_act 886 = .ok (.iload 7, 2) := by decide +kernel
theorem dL_act_888 : decode cL_act 888 = .ok (.iconst 4, 1) := by decide +kernel
theorem dL_act_889 : decode cL_act 889 = .ok (.if_icmp .ne 10, 3) := by decide +kernel
theorem dL_act_892 : decode cL_act 892 = .ok (.aload_n 1, 1) := by decide +kernel
theorem dL_act_893 : decode cL_act 893 = .ok (.getfield 142, 3) := by decide +kernel
theorem dL_act_896 : decode cL_act 896 = .ok (.goto 7, 3) := by decide +kernel
theorem dL_act_899 : decode cL_act 899 = .ok (.aload_n 1, 1) := by decide +kernel
theorem dL_act_900 : decode cL_act 900 = .ok (.getfield 145, 3) := by decide +kernel
theorem dL_act_903 : decode cL_act 903 = .ok (.istore 8, 2) := by decide +kernel
theorem dL_act_905 : decode cL_act 905 = .ok (.iload 7, 2) := by decide +kernel
theorem dL_act_907 : decode cL_act 907 = .ok (.iconst 2, 1) := by decide +kernel
theorem dL_act_908 : decode cL_act 908 = .ok (.if_icmp .ne 13, 3) := by decide +kernel
theorem dL_act_911 : decode cL_act 911 = .ok (.aload_n 2, 1) := by decide +kernel
theorem dL_act_912 : decode cL_act 912 = .ok (.iconst 1, 1) := by decide +kernel
theorem dL_act_913 : decode cL_act 913 = .ok (.bipush 20, 2) := by decide +kernel
theorem dL_act_915 : decode cL_act 915 = .ok (.invokevirtual 198, 3) := by decide +kernel
theorem dL_act_918 : decode cL_act 918 = .ok (.goto 51, 3) := by decide +kernel
theorem dL_act_921 : decode cL_act 921 = .ok (.iload 7, 2) := by decide +kernel
theorem dL_act_923 : decode cL_act 923 = .ok (.iconst 3, 1) := by decide +kernel
theorem dL_act_924 : decode cL_act 924 = .ok (.if_icmp .ne 13, 3) := by decide +kernel
theorem dL_act_927 : decode cL_act 927 = .ok (.aload_n 2, 1) := by decide +kernel
theorem dL_act_928 : decode cL_act 928 = .ok (.iconst 1, 1) := by decide +kernel
theorem dL_act_929 : decode cL_act 929 = .ok (.bipush 9, 2) := by decide +kernel
theorem dL_act_931 : decode cL_act 931 = .ok (.invokevirtual 198, 3) := by decide +kernel
theorem dL_act_934 : decode cL_act 934 = .ok (.goto 35, 3) := by decide +kernel
theorem dL_act_937 : decode cL_act 937 = .ok (.iload 7, 2) := by decide +kernel
theorem dL_act_939 : decode cL_act 939 = .ok (.iconst 4, 1) := by decide +kernel
theorem dL_act_940 : decode cL_act 940 = .ok (.if_icmp .ne 13, 3) := by decide +kernel
theorem dL_act_943 : decode cL_act 943 = .ok (.aload_n 2, 1) := by decide +kernel
theorem dL_act_944 : decode cL_act 944 = .ok (.iconst 0, 1) := by decide +kernel
theorem dL_act_945 : decode cL_act 945 = .ok (.bipush 7, 2) := by decide +kernel
theorem dL_act_947 : decode cL_act 947 = .ok (.invokevirtual 198, 3) := by decide +kernel
theorem dL_act_950 : decode cL_act 950 = .ok (.goto 19, 3) := by decide +kernel
theorem dL_act_953 : decode cL_act 953 = .ok (.bipush 99, 2) := by decide +kernel
theorem dL_act_955 : decode cL_act 955 = .ok (.aload_n 1, 1) := by decide +kernel
theorem dL_act_956 : decode cL_act 956 = .ok (.getfield 145, 3) := by decide +kernel
theorem dL_act_959 : decode cL_act 959 = .ok (.aload_n 2, 1) := by decide +kernel
theorem dL_act_960 : decode cL_act 960 = .ok (.iconst 0, 1) := by decide +kernel
theorem dL_act_961 : decode cL_act 961 = .ok (.iconst 3, 1) := by decide +kernel
theorem dL_act_962 : decode cL_act 962 = .ok (.invokevirtual 198, 3) := by decide +kernel
theorem dL_act_965 : decode cL_act 965 = .ok (.iadd, 1) := by decide +kernel
theorem dL_act_966 : decode cL_act 966 = .ok (.invokestatic 212, 3) := by decide +kernel
theorem dL_act_969 : decode cL_act 969 = .ok (.istore 9, 2) := by decide +kernel
theorem dL_act_971 : decode cL_act 971 = .ok (.iload 7, 2) := by decide +kernel
theorem dL_act_973 : decode cL_act 973 = .ok (.iconst 2, 1) := by decide +kernel
theorem dL_act_974 : decode cL_act 974 = .ok (.if_icmp .ne 9, 3) := by decide +kernel
theorem dL_act_977 : decode cL_act 977 = .ok (.aload_n 1, 1) := by decide +kernel
theorem dL_act_978 : decode cL_act 978 = .ok (.iload 9, 2) := by decide +kernel
theorem dL_act_980 : decode cL_act 980 = .ok (.putfield 136, 3) := by decide +kernel
theorem dL_act_983 : decode cL_act 983 = .ok (.iload 7, 2) := by decide +kernel
theorem dL_act_985 : decode cL_act 985 = .ok (.iconst 3, 1) := by decide +kernel
theorem dL_act_986 : decode cL_act 986 = .ok (.if_icmp .ne 9, 3) := by decide +kernel
theorem dL_act_989 : decode cL_act 989 = .ok (.aload_n 1, 1) := by decide +kernel
theorem dL_act_990 : decode cL_act 990 = .ok (.iload 9, 2) := by decide +kernel
theorem dL_act_992 : decode cL_act 992 = .ok (.putfield 139, 3) := by decide +kernel
theorem dL_act_995 : decode cL_act 995 = .ok (.iload 7, 2) := by decide +kernel
theorem dL_act_997 : decode cL_act 997 = .ok (.iconst 4, 1) := by decide +kernel
theorem dL_act_998 : decode cL_act 998 = .ok (.if_icmp .ne 9, 3) := by decide +kernel
theorem dL_act_1001 : decode cL_act 1001 = .ok (.aload_n 1, 1) := by decide +kernel
theorem dL_act_1002 : decode cL_act 1002 = .ok (.iload 9, 2) := by decide +kernel
theorem dL_act_1004 : decode cL_act 1004 = .ok (.putfield 142, 3) := by decide +kernel
theorem dL_act_1007 : decode cL_act 1007 = .ok (.iload 7, 2) := by decide +kernel
theorem dL_act_1009 : decode cL_act 1009 = .ok (.iconst 5, 1) := by decide +kernel
theorem dL_act_1010 : decode cL_act 1010 = .ok (.if_icmp .ne 9, 3) := by decide +kernel
theorem dL_act_1013 : decode cL_act 1013 = .ok (.aload_n 1, 1) := by decide +kernel
theorem dL_act_1014 : decode cL_act 1014 = .ok (.iload 9, 2) := by decide +kernel
theorem dL_act_1016 : decode cL_act 1016 = .ok (.putfield 145, 3) := by decide +kernel
theorem dL_act_1019 : decode cL_act 1019 = .ok (.aload_n 0, 1) := by decide +kernel
theorem dL_act_1020 : decode cL_act 1020 = .ok (.bipush 13, 2) := by decide +kernel
theorem dL_act_1022 : decode cL_act 1022 = .ok (.iconst 2, 1) := by decide +kernel
theorem dL_act_1023 : decode cL_act 1023 = .ok (.newarray .int, 2) := by decide +kernel
theorem dL_act_1025 : decode cL_act 1025 = .ok (.dup, 1) := by decide +kernel
theorem dL_act_1026 : decode cL_act 1026 = .ok (.iconst 0, 1) := by decide +kernel
theorem dL_act_1027 : decode cL_act 1027 = .ok (.bipush 6, 2) := by decide +kernel
theorem dL_act_1029 : decode cL_act 1029 = .ok (.iastore, 1) := by decide +kernel
theorem dL_act_1030 : decode cL_act 1030 = .ok (.dup, 1) := by decide +kernel
theorem dL_act_1031 : decode cL_act 1031 = .ok (.iconst 1, 1) := by decide +kernel
theorem dL_act_1032 : decode cL_act 1032 = .ok (.iconst 1, 1) := by decide +kernel
theorem dL_act_1033 : decode cL_act 1033 = .ok (.iastore, 1) := by decide +kernel
theorem dL_act_1034 : decode cL_act 1034 = .ok (.invokestatic 110, 3) := by decide +kernel
theorem dL_act_1037 : decode cL_act 1037 = .ok (.iconst 3, 1) := by decide +kernel
theorem dL_act_1038 : decode cL_act 1038 = .ok (.if_icmp .ne 42, 3) := by decide +kernel
theorem dL_act_1041 : decode cL_act 1041 = .ok (.aload_n 0, 1) := by decide +kernel
theorem dL_act_1042 : decode cL_act 1042 = .ok (.bipush 13, 2) := by decide +kernel
theorem dL_act_1044 : decode cL_act 1044 = .ok (.iconst 2, 1) := by decide +kernel
theorem dL_act_1045 : decode cL_act 1045 = .ok (.newarray .int, 2) := by decide +kernel
theorem dL_act_1047 : decode cL_act 1047 = .ok (.dup, 1) := by decide +kernel
theorem dL_act_1048 : decode cL_act 1048 = .ok (.iconst 0, 1) := by decide +kernel
theorem dL_act_1049 : decode cL_act 1049 = .ok (.iload 7, 2) := by decide +kernel
theorem dL_act_1051 : decode cL_act 1051 = .ok (.iastore, 1) := by decide +kernel
theorem dL_act_1052 : decode cL_act 1052 = .ok (.dup, 1) := by decide +kernel
theorem dL_act_1053 : decode cL_act 1053 = .ok (.iconst 1, 1) := by decide +kernel
theorem dL_act_1054 : decode cL_act 1054 = .ok (.iconst (-1), 1) := by decide +kernel
theorem dL_act_1055 : decode cL_act 1055 = .ok (.iastore, 1) := by decide +kernel
theorem dL_act_1056 : decode cL_act 1056 = .ok (.invokestatic 110, 3) := by decide +kernel
theorem dL_act_1059 : decode cL_act 1059 = .ok (.iconst 3, 1) := by decide +kernel
theorem dL_act_1060 : decode cL_act 1060 = .ok (.if_icmp .ne 20, 3) := by decide +kernel
theorem dL_act_1063 : decode cL_act 1063 = .ok (.aload_n 0, 1) := by decide +kernel
theorem dL_act_1064 : decode cL_act 1064 = .ok (.iload 7, 2) := by decide +kernel
theorem dL_act_1066 : decode cL_act 1066 = .ok (.iload 9, 2) := by decide +kernel
theorem dL_act_1068 : decode cL_act 1068 = .ok (.invokevirtual 74, 3) := by decide +kernel
theorem dL_act_1071 : decode cL_act 1071 = .ok (.iload 8, 2) := by decide +kernel
theorem dL_act_1073 : decode cL_act 1073 = .ok (.if_icmp .ne 7, 3) := by decide +kernel
theorem dL_act_1076 : decode cL_act 1076 = .ok (.iconst 1, 1) := by decide +kernel
theorem dL_act_1077 : decode cL_act 1077 = .ok (.goto 4, 3) := by decide +kernel
theorem dL_act_1080 : decode cL_act 1080 = .ok (.iconst 0, 1) := by decide +kernel
theorem dL_act_1081 : decode cL_act 1081 = .ok (.ireturn, 1) := by decide +kernel
theorem dL_finds_0 : decode cL_finds 0 = .ok (.iconst (-1), 1) := by decide +kernel
theorem dL_finds_1 : decode cL_finds 1 = .ok (.istore_n 2, 1) := by decide +kernel
theorem dL_finds_2 : decode cL_finds 2 = .ok (.iconst 0, 1) := by decide +kernel
theorem dL_finds_3 : decode cL_finds 3 = .ok (.istore_n 3, 1) := by decide +kernel
theorem dL_finds_4 : decode cL_finds 4 = .ok (.iconst 0, 1) := by decide +kernel
theorem dL_finds_5 : decode cL_finds 5 = .ok (.istore 4, 2) := by decide +kernel
theorem dL_finds_7 : decode cL_finds 7 = .ok (.iconst (-1), 1) := by decide +kernel
theorem dL_finds_8 : decode cL_finds 8 = .ok (.istore 5, 2) := by decide +kernel
theorem dL_finds_10 : decode cL_finds 10 = .ok (.iconst (-1), 1) := by decide +kernel
theorem dL_finds_11 : decode cL_finds 11 = .ok (.istore 6, 2) := by decide +kernel
theorem dL_finds_13 : decode cL_finds 13 = .ok (.iconst 0, 1) := by decide +kernel
theorem dL_finds_14 : decode cL_finds 14 = .ok (.istore 7, 2) := by decide +kernel
theorem dL_finds_16 : decode cL_finds 16 = .ok (.iload 7, 2) := by decide +kernel
theorem dL_finds_18 : decode cL_finds 18 = .ok (.aload_n 1, 1) := by decide +kernel
theorem dL_finds_19 : decode cL_finds 19 = .ok (.getfield 114, 3) := by decide +kernel
theorem dL_finds_22 : decode cL_finds 22 = .ok (.arraylength, 1) := by decide +kernel
theorem dL_finds_23 : decode cL_finds 23 = .ok (.if_icmp .ge 529, 3) := by decide +kernel
theorem dL_finds_26 : decode cL_finds 26 = .ok (.aload_n 1, 1) := by decide +kernel
theorem dL_finds_27 : decode cL_finds 27 = .ok (.getfield 114, 3) := by decide +kernel
theorem dL_finds_30 : decode cL_finds 30 = .ok (.iload 7, 2) := by decide +kernel
theorem dL_finds_32 : decode cL_finds 32 = .ok (.aaload, 1) := by decide +kernel
theorem dL_finds_33 : decode cL_finds 33 = .ok (.astore 8, 2) := by decide +kernel
theorem dL_finds_35 : decode cL_finds 35 = .ok (.iconst 0, 1) := by decide +kernel
theorem dL_finds_36 : decode cL_finds 36 = .ok (.istore 9, 2) := by decide +kernel
theorem dL_finds_38 : decode cL_finds 38 = .ok (.iconst 0, 1) := by decide +kernel
theorem dL_finds_39 : decode cL_finds 39 = .ok (.istore 10, 2) := by decide +kernel
theorem dL_finds_41 : decode cL_finds 41 = .ok (.iconst 0, 1) := by decide +kernel
theorem dL_finds_42 : decode cL_finds 42 = .ok (.istore 11, 2) := by decide +kernel
theorem dL_finds_44 : decode cL_finds 44 = .ok (.iconst 0, 1) := by decide +kernel
theorem dL_finds_45 : decode cL_finds 45 = .ok (.istore 12, 2) := by decide +kernel
theorem dL_finds_47 : decode cL_finds 47 = .ok (.iload 12, 2) := by decide +kernel
theorem dL_finds_49 : decode cL_finds 49 = .ok (.aload_n 1, 1) := by decide +kernel
theorem dL_finds_50 : decode cL_finds 50 = .ok (.getfield 114, 3) := by decide +kernel
theorem dL_finds_53 : decode cL_finds 53 = .ok (.arraylength, 1) := by decide +kernel
theorem dL_finds_54 : decode cL_finds 54 = .ok (.if_icmp .ge 93, 3) := by decide +kernel
theorem dL_finds_57 : decode cL_finds 57 = .ok (.iload 9, 2) := by decide +kernel
theorem dL_finds_59 : decode cL_finds 59 = .ok (.aload_n 1, 1) := by decide +kernel
theorem dL_finds_60 : decode cL_finds 60 = .ok (.iload 12, 2) := by decide +kernel
theorem dL_finds_62 : decode cL_finds 62 = .ok (.invokevirtual 120, 3) := by decide +kernel
theorem dL_finds_65 : decode cL_finds 65 = .ok (.ifCond .ne 22, 3) := by decide +kernel
theorem dL_finds_68 : decode cL_finds 68 = .ok (.aload_n 1, 1) := by decide +kernel
theorem dL_finds_69 : decode cL_finds 69 = .ok (.iload 12, 2) := by decide +kernel
theorem dL_finds_71 : decode cL_finds 71 = .ok (.invokevirtual 217, 3) := by decide +kernel
theorem dL_finds_74 : decode cL_finds 74 = .ok (.aload_n 1, 1) := by decide +kernel
theorem dL_finds_75 : decode cL_finds 75 = .ok (.iload 7, 2) := by decide +kernel
theorem dL_finds_77 : decode cL_finds 77 = .ok (.invokevirtual 217, 3) := by decide +kernel
theorem dL_finds_80 : decode cL_finds 80 = .ok (.if_icmp .le 7, 3) := by decide +kernel
theorem dL_finds_83 : decode cL_finds 83 = .ok (.iconst 1, 1) := by decide +kernel
theorem dL_finds_84 : decode cL_finds 84 = .ok (.goto 4, 3) := by decide +kernel
theorem dL_finds_87 : decode cL_finds 87 = .ok (.iconst 0, 1) := by decide +kernel
theorem dL_finds_88 : decode cL_finds 88 = .ok (.iadd, 1) := by decide +kernel
theorem dL_finds_89 : decode cL_finds 89 = .ok (.istore 9, 2) := by decide +kernel
theorem dL_finds_91 : decode cL_finds 91 = .ok (.iload 10, 2) := by decide +kernel
theorem dL_finds_93 : decode cL_finds 93 = .ok (.iload 12, 2) := by decide +kernel
theorem dL_finds_95 : decode cL_finds 95 = .ok (.iload 7, 2) := by decide +kernel
theorem dL_finds_97 : decode cL_finds 97 = .ok (.if_icmp .eq 40, 3) := by decide +kernel
theorem dL_finds_100 : decode cL_finds 100 = .ok (.aload 8, 2) := by decide +kernel
theorem dL_finds_102 : decode cL_finds 102 = .ok (.invokevirtual 164, 3) := by decide +kernel
theorem dL_finds_105 : decode cL_finds 105 = .ok (.ifCond .ne 32, 3) := by decide +kernel
theorem dL_finds_108 : decode cL_finds 108 = .ok (.aload_n 1, 1) := by decide +kernel
theorem dL_finds_109 : decode cL_finds 109 = .ok (.getfield 114, 3) := by decide +kernel
theorem dL_finds_112 : decode cL_finds 112 = .ok (.iload 12, 2) := by decide +kernel
theorem dL_finds_114 : decode cL_finds 114 = .ok (.aaload, 1) := by decide +kernel
theorem dL_finds_115 : decode cL_finds 115 = .ok (.getfield 183, 3) := by decide +kernel
theorem dL_finds_118 : decode cL_finds 118 = .ok (.iconst 0, 1) := by decide +kernel
theorem dL_finds_119 : decode cL_finds 119 = .ok (.iaload, 1) := by decide +kernel
theorem dL_finds_120 : decode cL_finds 120 = .ok (.aload 8, 2) := by decide +kernel
theorem dL_finds_122 : decode cL_finds 122 = .ok (.getfield 183, 3) := by decide +kernel
theorem dL_finds_125 : decode cL_finds 125 = .ok (.iconst 0, 1) := by decide +kernel
theorem dL_finds_126 : decode cL_finds 126 = .ok (.iaload, 1) := by decide +kernel
theorem dL_finds_127 : decode cL_finds 127 = .ok (.if_icmp .ne 10, 3) := by decide +kernel
theorem dL_finds_130 : decode cL_finds 130 = .ok (.iconst 1, 1) := by decide +kernel
theorem dL_finds_131 : decode cL_finds 131 = .ok (.iload 12, 2) := by decide +kernel
theorem dL_finds_133 : decode cL_finds 133 = .ok (.ishl, 1) := by decide +kernel
theorem dL_finds_134 : decode cL_finds 134 = .ok (.goto 4, 3) := by decide +kernel
theorem dL_finds_137 : decode cL_finds 137 = .ok (.iconst 0, 1) := by decide +kernel
theorem dL_finds_138 : decode cL_finds 138 = .ok (.iadd, 1) := by decide +kernel
theorem dL_finds_139 : decode cL_finds 139 = .ok (.istore 10, 2) := by decide +kernel
theorem dL_finds_141 : decode cL_finds 141 = .ok (.iinc 12 1, 3) := by decide +kernel
theorem dL_finds_144 : decode cL_finds 144 = .ok (.goto (-97), 3) := by decide +kernel
theorem dL_finds_147 : decode cL_finds 147 = .ok (.iconst 0, 1) := by decide +kernel
theorem dL_finds_148 : decode cL_finds 148 = .ok (.aload_n 1, 1) := by decide +kernel
theorem dL_finds_149 : decode cL_finds 149 = .ok (.getfield 194, 3) := by decide +kernel
theorem dL_finds_152 : decode cL_finds 152 = .ok (.arraylength, 1) := by decide +kernel
theorem dL_finds_153 : decode cL_finds 153 = .ok (.bipush 12, 2) := by decide +kernel
theorem dL_finds_155 : decode cL_finds 155 = .ok (.isub, 1) := by decide +kernel
theorem dL_finds_156 : decode cL_finds 156 = .ok (.invokestatic 220, 3) := by decide +kernel
theorem dL_finds_159 : decode cL_finds 159 = .ok (.istore 12, 2) := by decide +kernel
theorem dL_finds_161 : decode cL_finds 161 = .ok (.iload 12, 2) := by decide +kernel
theorem dL_finds_163 : decode cL_finds 163 = .ok (.aload_n 1, 1) := by decide +kernel
theorem dL_finds_164 : decode cL_finds 164 = .ok (.getfield 194, 3) := by decide +kernel
theorem dL_finds_167 : decode cL_finds 167 = .ok (.arraylength, 1) := by decide +kernel
theorem dL_finds_168 : decode cL_finds 168 = .ok (.if_icmp .ge 33, 3) := by decide +kernel
theorem dL_finds_171 : decode cL_finds 171 = .ok (.iload 11, 2) := by decide +kernel
theorem dL_finds_173 : decode cL_finds 173 = .ok (.aload_n 1, 1) := by decide +kernel
theorem dL_finds_174 : decode cL_finds 174 = .ok (.getfield 194, 3) := by decide +kernel
theorem dL_finds_177 : decode cL_finds 177 = .ok (.iload 12, 2) := by decide +kernel
theorem dL_finds_179 : decode cL_finds 179 = .ok (.aaload, 1) := by decide +kernel
theorem dL_finds_180 : decode cL_finds 180 = .ok (.iconst 3, 1) := by decide +kernel
theorem dL_finds_181 : decode cL_finds 181 = .ok (.iaload, 1) := by decide +kernel
theorem dL_finds_182 : decode cL_finds 182 = .ok (.iload 7, 2) := by decide +kernel
theorem dL_finds_184 : decode cL_finds 184 = .ok (.if_icmp .ne 7, 3) := by decide +kernel
theorem dL_finds_187 : decode cL_finds 187 = .ok (.iconst 1, 1) := by decide +kernel
theorem dL_finds_188 : decode cL_finds 188 = .ok (.goto 4, 3) := by decide +kernel
theorem dL_finds_191 : decode cL_finds 191 = .ok (.iconst 0, 1) := by decide +kernel
theorem dL_finds_192 : decode cL_finds 192 = .ok (.iadd, 1) := by decide +kernel
theorem dL_finds_193 : decode cL_finds 193 = .ok (.istore 11, 2) := by decide +kernel
theorem dL_finds_195 : decode cL_finds 195 = .ok (.iinc 12 1, 3) := by decide +kernel
theorem dL_finds_198 : decode cL_finds 198 = .ok (.goto (-37), 3) := by decide +kernel
theorem dL_finds_201 : decode cL_finds 201 = .ok (.aload 8, 2) := by decide +kernel
theorem dL_finds_203 : decode cL_finds 203 = .ok (.invokevirtual 164, 3) := by decide +kernel
theorem dL_finds_206 : decode cL_finds 206 = .ok (.ifCond .ne 56, 3) := by decide +kernel
theorem dL_finds_209 : decode cL_finds 209 = .ok (.aload 8, 2) := by decide +kernel
theorem dL_finds_211 : decode cL_finds 211 = .ok (.getfield 183, 3) := by decide +kernel
theorem dL_finds_214 : decode cL_finds 214 = .ok (.iconst 2, 1) := by decide +kernel
theorem dL_finds_215 : decode cL_finds 215 = .ok (.iaload, 1) := by decide +kernel
theorem dL_finds_216 : decode cL_finds 216 = .ok (.ifCond .eq 20, 3) := by decide +kernel
theorem dL_finds_219 : decode cL_finds 219 = .ok (.aload 8, 2) := by decide +kernel
theorem dL_finds_221 : decode cL_finds 221 = .ok (.getfield 183, 3) := by decide +kernel
theorem dL_finds_224 : decode cL_finds 224 = .ok (.iconst 2, 1) := by decide +kernel
theorem dL_finds_225 : decode cL_finds 225 = .ok (.iaload, 1) := by decide +kernel
theorem dL_finds_226 : decode cL_finds 226 = .ok (.aload 8, 2) := by decide +kernel
theorem dL_finds_228 : decode cL_finds 228 = .ok (.getfield 183, 3) := by decide +kernel
theorem dL_finds_231 : decode cL_finds 231 = .ok (.iconst 1, 1) := by decide +kernel
theorem dL_finds_232 : decode cL_finds 232 = .ok (.iaload, 1) := by decide +kernel
theorem dL_finds_233 : decode cL_finds 233 = .ok (.if_icmp .le 29, 3) := by decide +kernel
theorem dL_finds_236 : decode cL_finds 236 = .ok (.aload 8, 2) := by decide +kernel
theorem dL_finds_238 : decode cL_finds 238 = .ok (.getfield 123, 3) := by decide +kernel
theorem dL_finds_241 : decode cL_finds 241 = .ok (.ifCond .ne 17, 3) := by decide +kernel
theorem dL_finds_244 : decode cL_finds 244 = .ok (.aload 8, 2) := by decide +kernel
theorem dL_finds_246 : decode cL_finds 246 = .ok (.getfield 183, 3) := by decide +kernel
theorem dL_finds_249 : decode cL_finds 249 = .ok (.iconst 1, 1) := by decide +kernel
theorem dL_finds_250 : decode cL_finds 250 = .ok (.iaload, 1) := by decide +kernel
theorem dL_finds_251 : decode cL_finds 251 = .ok (.aload_n 1, 1) := by decide +kernel
theorem dL_finds_252 : decode cL_finds 252 = .ok (.getfield 136, 3) := by decide +kernel
theorem dL_finds_255 : decode cL_finds 255 = .ok (.if_icmp .gt 7, 3) := by decide +kernel
theorem dL_finds_258 : decode cL_finds 258 = .ok (.iconst 1, 1) := by decide +kernel
theorem dL_finds_259 : decode cL_finds 259 = .ok (.goto 4, 3) := by decide +kernel
theorem dL_finds_262 : decode cL_finds 262 = .ok (.iconst 0, 1) := by decide +kernel
theorem dL_finds_263 : decode cL_finds 263 = .ok (.istore 12, 2) := by decide +kernel
theorem dL_finds_265 : decode cL_finds 265 = .ok (.aload_n 0, 1) := by decide +kernel
theorem dL_finds_266 : decode cL_finds 266 = .ok (.iload 7, 2) := by decide +kernel
theorem dL_finds_268 : decode cL_finds 268 = .ok (.invokevirtual 223, 3) := by decide +kernel
theorem dL_finds_271 : decode cL_finds 271 = .ok (.aload_n 1, 1) := by decide +kernel
theorem dL_finds_272 : decode cL_finds 272 = .ok (.iload 7, 2) := by decide +kernel
theorem dL_finds_274 : decode cL_finds 274 = .ok (.invokevirtual 120, 3) := by decide +kernel
theorem dL_finds_277 : decode cL_finds 277 = .ok (.if_icmp .ne 75, 3) := by decide +kernel
theorem dL_finds_280 : decode cL_finds 280 = .ok (.aload_n 0, 1) := by decide +kernel
theorem dL_finds_281 : decode cL_finds 281 = .ok (.iload 7, 2) := by decide +kernel
theorem dL_finds_283 : decode cL_finds 283 = .ok (.invokevirtual 226, 3) := by decide +kernel
theorem dL_finds_286 : decode cL_finds 286 = .ok (.aload_n 1, 1) := by decide +kernel
theorem dL_finds_287 : decode cL_finds 287 = .ok (.iload 7, 2) := by decide +kernel
theorem dL_finds_289 : decode cL_finds 289 = .ok (.invokevirtual 120, 3) := by decide +kernel
theorem dL_finds_292 : decode cL_finds 292 = .ok (.ifCond .ne 8, 3) := by decide +kernel
theorem dL_finds_295 : decode cL_finds 295 = .ok (.iload 9, 2) := by decide +kernel
theorem dL_finds_297 : decode cL_finds 297 = .ok (.goto 4, 3) := by decide +kernel
theorem dL_finds_300 : decode cL_finds 300 = .ok (.iconst (-1), 1) := by decide +kernel
theorem dL_finds_301 : decode cL_finds 301 = .ok (.if_icmp .ne 51, 3) := by decide +kernel
theorem dL_finds_304 : decode cL_finds 304 = .ok (.aload_n 0, 1) := by decide +kernel
theorem dL_finds_305 : decode cL_finds 305 = .ok (.iload 7, 2) := by decide +kernel
theorem dL_finds_307 : decode cL_finds 307 = .ok (.invokevirtual 229, 3) := by decide +kernel
theorem dL_finds_310 : decode cL_finds 310 = .ok (.iload 10, 2) := by decide +kernel
theorem dL_finds_312 : decode cL_finds 312 = .ok (.if_icmp .ne 40, 3) := by decide +kernel
theorem dL_finds_315 : decode cL_finds 315 = .ok (.aload_n 0, 1) := by decide +kernel
theorem dL_finds_316 : decode cL_finds 316 = .ok (.iload 7, 2) := by decide +kernel
theorem dL_finds_318 : decode cL_finds 318 = .ok (.invokevirtual 232, 3) := by decide +kernel
theorem dL_finds_321 : decode cL_finds 321 = .ok (.iload 11, 2) := by decide +kernel
theorem dL_finds_323 : decode cL_finds 323 = .ok (.if_icmp .ne 29, 3) := by decide +kernel
theorem dL_finds_326 : decode cL_finds 326 = .ok (.aload_n 0, 1) := by decide +kernel
theorem dL_finds_327 : decode cL_finds 327 = .ok (.iload 7, 2) := by decide +kernel
theorem dL_finds_329 : decode cL_finds 329 = .ok (.invokevirtual 235, 3) := by decide +kernel
theorem dL_finds_332 : decode cL_finds 332 = .ok (.aload_n 1, 1) := by decide +kernel
theorem dL_finds_333 : decode cL_finds 333 = .ok (.iload 7, 2) := by decide +kernel
theorem dL_finds_335 : decode cL_finds 335 = .ok (.invokevirtual 238, 3) := by decide +kernel
theorem dL_finds_338 : decode cL_finds 338 = .ok (.if_icmp .ne 14, 3) := by decide +kernel
theorem dL_finds_341 : decode cL_finds 341 = .ok (.aload_n 0, 1) := by decide +kernel
theorem dL_finds_342 : decode cL_finds 342 = .ok (.iload 7, 2) := by decide +kernel
theorem dL_finds_344 : decode cL_finds 344 = .ok (.invokevirtual 239, 3) := by decide +kernel
theorem dL_finds_347 : decode cL_finds 347 = .ok (.iload 12, 2) := by decide +kernel
theorem dL_finds_349 : decode cL_finds 349 = .ok (.if_icmp .eq 5, 3) := by decide +kernel
theorem dL_finds_352 : decode cL_finds 352 = .ok (.iconst 0, 1) := by decide +kernel
theorem dL_finds_353 : decode cL_finds 353 = .ok (.ireturn, 1) := by decide +kernel
theorem dL_finds_354 : decode cL_finds 354 = .ok (.aload 8, 2) := by decide +kernel
theorem dL_finds_356 : decode cL_finds 356 = .ok (.invokevirtual 164, 3) := by decide +kernel
theorem dL_finds_359 : decode cL_finds 359 = .ok (.ifCond .ne 31, 3) := by decide +kernel
theorem dL_finds_362 : decode cL_finds 362 = .ok (.iload_n 2, 1) := by decide +kernel
theorem dL_finds_363 : decode cL_finds 363 = .ok (.ifCond .lt 24, 3) := by decide +kernel
theorem dL_finds_366 : decode cL_finds 366 = .ok (.aload 8, 2) := by decide +kernel
theorem dL_finds_368 : decode cL_finds 368 = .ok (.getfield 183, 3) := by decide +kernel
theorem dL_finds_371 : decode cL_finds 371 = .ok (.iconst 0, 1) := by decide +kernel
theorem dL_finds_372 : decode cL_finds 372 = .ok (.iaload, 1) := by decide +kernel
theorem dL_finds_373 : decode cL_finds 373 = .ok (.aload_n 1, 1) := by decide +kernel
theorem dL_finds_374 : decode cL_finds 374 = .ok (.getfield 114, 3) := by decide +kernel
theorem dL_finds_377 : decode cL_finds 377 = .ok (.iload_n 2, 1) := by decide +kernel
theorem dL_finds_378 : decode cL_finds 378 = .ok (.aaload, 1) := by decide +kernel
theorem dL_finds_379 : decode cL_finds 379 = .ok (.getfield 183, 3) := by decide +kernel
theorem dL_finds_382 : decode cL_finds 382 = .ok (.iconst 0, 1) := by decide +kernel
theorem dL_finds_383 : decode cL_finds 383 = .ok (.iaload, 1) := by decide +kernel
theorem dL_finds_384 : decode cL_finds 384 = .ok (.if_icmp .le 6, 3) := by decide +kernel
theorem dL_finds_387 : decode cL_finds 387 = .ok (.iload 7, 2) := by decide +kernel
theorem dL_finds_389 : decode cL_finds 389 = .ok (.istore_n 2, 1) := by decide +kernel
theorem dL_finds_390 : decode cL_finds 390 = .ok (.iload_n 3, 1) := by decide +kernel
theorem dL_finds_391 : decode cL_finds 391 = .ok (.aload 8, 2) := by decide +kernel
theorem dL_finds_393 : decode cL_finds 393 = .ok (.invokevirtual 164, 3) := by decide +kernel
theorem dL_finds_396 : decode cL_finds 396 = .ok (.ifCond .ne 24, 3) := by decide +kernel
theorem dL_finds_399 : decode cL_finds 399 = .ok (.aload 8, 2) := by decide +kernel
theorem dL_finds_401 : decode cL_finds 401 = .ok (.getfield 183, 3) := by decide +kernel
theorem dL_finds_404 : decode cL_finds 404 = .ok (.iconst 0, 1) := by decide +kernel
theorem dL_finds_405 : decode cL_finds 405 = .ok (.iaload, 1) := by decide +kernel
theorem dL_finds_406 : decode cL_finds 406 = .ok (.aload_n 1, 1) := by decide +kernel
theorem dL_finds_407 : decode cL_finds 407 = .ok (.getfield 145, 3) := by decide +kernel
theorem dL_finds_410 : decode cL_finds 410 = .ok (.if_icmp .ge 10, 3) := by decide +kernel
theorem dL_finds_413 : decode cL_finds 413 = .ok (.iconst 1, 1) := by decide +kernel
theorem dL_finds_414 : decode cL_finds 414 = .ok (.iload 7, 2) := by decide +kernel
theorem dL_finds_416 : decode cL_finds 416 = .ok (.ishl, 1) := by decide +kernel
theorem dL_finds_417 : decode cL_finds 417 = .ok (.goto 4, 3) := by decide +kernel
theorem dL_finds_420 : decode cL_finds 420 = .ok (.iconst 0, 1) := by decide +kernel
theorem dL_finds_421 : decode cL_finds 421 = .ok (.ior, 1) := by decide +kernel
theorem dL_finds_422 : decode cL_finds 422 = .ok (.istore_n 3, 1) := by decide +kernel
theorem dL_finds_423 : decode cL_finds 423 = .ok (.iload 4, 2) := by decide +kernel
theorem dL_finds_425 : decode cL_finds 425 = .ok (.aload_n 1, 1) := by decide +kernel
theorem dL_finds_426 : decode cL_finds 426 = .ok (.iload 7, 2) := by decide +kernel
theorem dL_finds_428 : decode cL_finds 428 = .ok (.invokevirtual 120, 3) := by decide +kernel
theorem dL_finds_431 : decode cL_finds 431 = .ok (.ifCond .ne 11, 3) := by decide +kernel
theorem dL_finds_434 : decode cL_finds 434 = .ok (.aload 8, 2) := by decide +kernel
theorem dL_finds_436 : decode cL_finds 436 = .ok (.getfield 129, 3) := by decide +kernel
theorem dL_finds_439 : decode cL_finds 439 = .ok (.goto 4, 3) := by decide +kernel
theorem dL_finds_442 : decode cL_finds 442 = .ok (.iconst 0, 1) := by decide +kernel
theorem dL_finds_443 : decode cL_finds 443 = .ok (.iadd, 1) := by decide +kernel
theorem dL_finds_444 : decode cL_finds 444 = .ok (.istore 4, 2) := by decide +kernel
theorem dL_finds_446 : decode cL_finds 446 = .ok (.aload_n 1, 1) := by decide +kernel
theorem dL_finds_447 : decode cL_finds 447 = .ok (.iload 7, 2) := by decide +kernel
theorem dL_finds_449 : decode cL_finds 449 = .ok (.invokevirtual 120, 3) := by decide +kernel
theorem dL_finds_452 : decode cL_finds 452 = .ok (.ifCond .ne 38, 3) := by decide +kernel
theorem dL_finds_455 : decode cL_finds 455 = .ok (.aload 8, 2) := by decide +kernel
theorem dL_finds_457 : decode cL_finds 457 = .ok (.getfield 123, 3) := by decide +kernel
theorem dL_finds_460 : decode cL_finds 460 = .ok (.ifCond .ne 30, 3) := by decide +kernel
theorem dL_finds_463 : decode cL_finds 463 = .ok (.iload 5, 2) := by decide +kernel
theorem dL_finds_465 : decode cL_finds 465 = .ok (.ifCond .lt 21, 3) := by decide +kernel
theorem dL_finds_468 : decode cL_finds 468 = .ok (.aload 8, 2) := by decide +kernel
theorem dL_finds_470 : decode cL_finds 470 = .ok (.getfield 129, 3) := by decide +kernel
theorem dL_finds_473 : decode cL_finds 473 = .ok (.aload_n 1, 1) := by decide +kernel
theorem dL_finds_474 : decode cL_finds 474 = .ok (.getfield 114, 3) := by decide +kernel
theorem dL_finds_477 : decode cL_finds 477 = .ok (.iload 5, 2) := by decide +kernel
theorem dL_finds_479 : decode cL_finds 479 = .ok (.aaload, 1) := by decide +kernel
theorem dL_finds_480 : decode cL_finds 480 = .ok (.getfield 129, 3) := by decide +kernel
theorem dL_finds_483 : decode cL_finds 483 = .ok (.if_icmp .ge 7, 3) := by decide +kernel
theorem dL_finds_486 : decode cL_finds 486 = .ok (.iload 7, 2) := by decide +kernel
theorem dL_finds_488 : decode cL_finds 488 = .ok (.istore 5, 2) := by decide +kernel
theorem dL_finds_490 : decode cL_finds 490 = .ok (.aload 8, 2) := by decide +kernel
theorem dL_finds_492 : decode cL_finds 492 = .ok (.invokevirtual 164, 3) := by decide +kernel
theorem dL_finds_495 : decode cL_finds 495 = .ok (.ifCond .ne 51, 3) := by decide +kernel
theorem dL_finds_498 : decode cL_finds 498 = .ok (.aload 8, 2) := by decide +kernel
theorem dL_finds_500 : decode cL_finds 500 = .ok (.getfield 183, 3) := by decide +kernel
theorem dL_finds_503 : decode cL_finds 503 = .ok (.iconst 3, 1) := by decide +kernel
theorem dL_finds_504 : decode cL_finds 504 = .ok (.iaload, 1) := by decide +kernel
theorem dL_finds_505 : decode cL_finds 505 = .ok (.ifCond .ne 41, 3) := by decide +kernel
theorem dL_finds_508 : decode cL_finds 508 = .ok (.aload 8, 2) := by decide +kernel
theorem dL_finds_510 : decode cL_finds 510 = .ok (.getfield 168, 3) := by decide +kernel
theorem dL_finds_513 : decode cL_finds 513 = .ok (.ifCond .le 33, 3) := by decide +kernel
theorem dL_finds_516 : decode cL_finds 516 = .ok (.aload 8, 2) := by decide +kernel
theorem dL_finds_518 : decode cL_finds 518 = .ok (.getfield 123, 3) := by decide +kernel
theorem dL_finds_521 : decode cL_finds 521 = .ok (.ifCond .ne 11, 3) := by decide +kernel
theorem dL_finds_524 : decode cL_finds 524 = .ok (.aload 8, 2) := by decide +kernel
theorem dL_finds_526 : decode cL_finds 526 = .ok (.getfield 129, 3) := by decide +kernel
theorem dL_finds_529 : decode cL_finds 529 = .ok (.ifCond .le 17, 3) := by decide +kernel
theorem dL_finds_532 : decode cL_finds 532 = .ok (.iload 6, 2) := by decide +kernel
theorem dL_finds_534 : decode cL_finds 534 = .ok (.aload 8, 2) := by decide +kernel
theorem dL_finds_536 : decode cL_finds 536 = .ok (.getfield 183, 3) := by decide +kernel
theorem dL_finds_539 : decode cL_finds 539 = .ok (.iconst 0, 1) := by decide +kernel
theorem dL_finds_540 : decode cL_finds 540 = .ok (.iaload, 1) := by decide +kernel
theorem dL_finds_541 : decode cL_finds 541 = .ok (.invokestatic 220, 3) := by decide +kernel
theorem dL_finds_544 : decode cL_finds 544 = .ok (.istore 6, 2) := by decide +kernel
theorem dL_finds_546 : decode cL_finds 546 = .ok (.iinc 7 1, 3) := by decide +kernel
theorem dL_finds_549 : decode cL_finds 549 = .ok (.goto (-533), 3) := by decide +kernel
theorem dL_finds_552 : decode cL_finds 552 = .ok (.aload_n 0, 1) := by decide +kernel
theorem dL_finds_553 : decode cL_finds 553 = .ok (.invokevirtual 243, 3) := by decide +kernel
theorem dL_finds_556 : decode cL_finds 556 = .ok (.iload_n 2, 1) := by decide +kernel
theorem dL_finds_557 : decode cL_finds 557 = .ok (.if_icmp .ne 92, 3) := by decide +kernel
theorem dL_finds_560 : decode cL_finds 560 = .ok (.aload_n 0, 1) := by decide +kernel
theorem dL_finds_561 : decode cL_finds 561 = .ok (.invokevirtual 246, 3) := by decide +kernel
theorem dL_finds_564 : decode cL_finds 564 = .ok (.iload_n 3, 1) := by decide +kernel
theorem dL_finds_565 : decode cL_finds 565 = .ok (.if_icmp .ne 84, 3) := by decide +kernel
theorem dL_finds_568 : decode cL_finds 568 = .ok (.aload_n 0, 1) := by decide +kernel
theorem dL_finds_569 : decode cL_finds 569 = .ok (.invokevirtual 249, 3) := by decide +kernel
theorem dL_finds_572 : decode cL_finds 572 = .ok (.iload 4, 2) := by decide +kernel
theorem dL_finds_574 : decode cL_finds 574 = .ok (.if_icmp .ne 75, 3) := by decide +kernel
theorem dL_finds_577 : decode cL_finds 577 = .ok (.aload_n 0, 1) := by decide +kernel
theorem dL_finds_578 : decode cL_finds 578 = .ok (.invokevirtual 252, 3) := by decide +kernel
theorem dL_finds_581 : decode cL_finds 581 = .ok (.iload 5, 2) := by decide +kernel
theorem dL_finds_583 : decode cL_finds 583 = .ok (.if_icmp .ne 66, 3) := by decide +kernel
theorem dL_finds_586 : decode cL_finds 586 = .ok (.aload_n 0, 1) := by decide +kernel
theorem dL_finds_587 : decode cL_finds 587 = .ok (.invokevirtual 255, 3) := by decide +kernel
theorem dL_finds_590 : decode cL_finds 590 = .ok (.iload 6, 2) := by decide +kernel
theorem dL_finds_592 : decode cL_finds 592 = .ok (.if_icmp .ne 57, 3) := by decide +kernel
theorem dL_finds_595 : decode cL_finds 595 = .ok (.aload_n 0, 1) := by decide +kernel
theorem dL_finds_596 : decode cL_finds 596 = .ok (.invokevirtual 258, 3) := by decide +kernel
theorem dL_finds_599 : decode cL_finds 599 = .ok (.aload_n 1, 1) := by decide +kernel
theorem dL_finds_600 : decode cL_finds 600 = .ok (.iconst (-1), 1) := by decide +kernel
theorem dL_finds_601 : decode cL_finds 601 = .ok (.invokevirtual 261, 3) := by decide +kernel
theorem dL_finds_604 : decode cL_finds 604 = .ok (.if_icmp .ne 45, 3) := by decide +kernel
theorem dL_finds_607 : decode cL_finds 607 = .ok (.aload_n 0, 1) := by decide +kernel
theorem dL_finds_608 : decode cL_finds 608 = .ok (.invokevirtual 263, 3) := by decide +kernel
theorem dL_finds_611 : decode cL_finds 611 = .ok (.aload_n 1, 1) := by decide +kernel
theorem dL_finds_612 : decode cL_finds 612 = .ok (.getfield 148, 3) := by decide +kernel
theorem dL_finds_615 : decode cL_finds 615 = .ok (.iconst 1, 1) := by decide +kernel
theorem dL_finds_616 : decode cL_finds 616 = .ok (.if_icmp .ne 14, 3) := by decide +kernel
theorem dL_finds_619 : decode cL_finds 619 = .ok (.aload_n 1, 1) := by decide +kernel
theorem dL_finds_620 : decode cL_finds 620 = .ok (.aload_n 1, 1) := by decide +kernel
theorem dL_finds_621 : decode cL_finds 621 = .ok (.getfield 151, 3) := by decide +kernel
theorem dL_finds_624 : decode cL_finds 624 = .ok (.invokevirtual 261, 3) := by decide +kernel
theorem dL_finds_627 : decode cL_finds 627 = .ok (.goto 4, 3) := by decide +kernel
theorem dL_finds_630 : decode cL_finds 630 = .ok (.iconst (-1), 1) := by decide +kernel
theorem dL_finds_631 : decode cL_finds 631 = .ok (.if_icmp .ne 18, 3) := by decide +kernel
theorem dL_finds_634 : decode cL_finds 634 = .ok (.aload_n 0, 1) := by decide +kernel
theorem dL_finds_635 : decode cL_finds 635 = .ok (.invokevirtual 266, 3) := by decide +kernel
theorem dL_finds_638 : decode cL_finds 638 = .ok (.aload_n 1, 1) := by decide +kernel
theorem dL_finds_639 : decode cL_finds 639 = .ok (.invokestatic 269, 3) := by decide +kernel
theorem dL_finds_642 : decode cL_finds 642 = .ok (.if_icmp .ne 7, 3) := by decide +kernel
theorem dL_finds_645 : decode cL_finds 645 = .ok (.iconst 1, 1) := by decide +kernel
theorem dL_finds_646 : decode cL_finds 646 = .ok (.goto 4, 3) := by decide +kernel
theorem dL_finds_649 : decode cL_finds 649 = .ok (.iconst 0, 1) := by decide +kernel
theorem dL_finds_650 : decode cL_finds 650 = .ok (.ireturn, 1) := by decide +kernel
theorem dL_spare_0 : decode cL_spare 0 = .ok (.iconst (-1), 1) := by decide +kernel
theorem dL_spare_1 : decode cL_spare 1 = .ok (.istore_n 1, 1) := by decide +kernel
theorem dL_spare_2 : decode cL_spare 2 = .ok (.iconst 0, 1) := by decide +kernel
theorem dL_spare_3 : decode cL_spare 3 = .ok (.istore_n 2, 1) := by decide +kernel
theorem dL_spare_4 : decode cL_spare 4 = .ok (.aload_n 0, 1) := by decide +kernel
theorem dL_spare_5 : decode cL_spare 5 = .ok (.getfield 114, 3) := by decide +kernel
theorem dL_spare_8 : decode cL_spare 8 = .ok (.arraylength, 1) := by decide +kernel
theorem dL_spare_9 : decode cL_spare 9 = .ok (.iconst 1, 1) := by decide +kernel
theorem dL_spare_10 : decode cL_spare 10 = .ok (.isub, 1) := by decide +kernel
theorem dL_spare_11 : decode cL_spare 11 = .ok (.istore_n 3, 1) := by decide +kernel
theorem dL_spare_12 : decode cL_spare 12 = .ok (.iload_n 3, 1) := by decide +kernel
theorem dL_spare_13 : decode cL_spare 13 = .ok (.ifCond .lt 82, 3) := by decide +kernel
theorem dL_spare_16 : decode cL_spare 16 = .ok (.iload_n 3, 1) := by decide +kernel
theorem dL_spare_17 : decode cL_spare 17 = .ok (.aload_n 0, 1) := by decide +kernel
theorem dL_spare_18 : decode cL_spare 18 = .ok (.getfield 151, 3) := by decide +kernel
theorem dL_spare_21 : decode cL_spare 21 = .ok (.if_icmp .eq 68, 3) := by decide +kernel
theorem dL_spare_24 : decode cL_spare 24 = .ok (.iload_n 3, 1) := by decide +kernel
theorem dL_spare_25 : decode cL_spare 25 = .ok (.aload_n 0, 1) := by decide +kernel
theorem dL_spare_26 : decode cL_spare 26 = .ok (.getfield 185, 3) := by decide +kernel
theorem dL_spare_29 : decode cL_spare 29 = .ok (.if_icmp .ne 6, 3) := by decide +kernel
theorem dL_spare_32 : decode cL_spare 32 = .ok (.goto 57, 3) := by decide +kernel
theorem dL_spare_35 : decode cL_spare 35 = .ok (.aload_n 0, 1) := by decide +kernel
theorem dL_spare_36 : decode cL_spare 36 = .ok (.getfield 114, 3) := by decide +kernel
theorem dL_spare_39 : decode cL_spare 39 = .ok (.iload_n 3, 1) := by decide +kernel
theorem dL_spare_40 : decode cL_spare 40 = .ok (.aaload, 1) := by decide +kernel
theorem dL_spare_41 : decode cL_spare 41 = .ok (.invokevirtual 164, 3) := by decide +kernel
theorem dL_spare_44 : decode cL_spare 44 = .ok (.ifCond .eq 8, 3) := by decide +kernel
theorem dL_spare_47 : decode cL_spare 47 = .ok (.bipush (-2), 2) := by decide +kernel
theorem dL_spare_49 : decode cL_spare 49 = .ok (.goto 20, 3) := by decide +kernel
theorem dL_spare_52 : decode cL_spare 52 = .ok (.aload_n 0, 1) := by decide +kernel
theorem dL_spare_53 : decode cL_spare 53 = .ok (.iload_n 3, 1) := by decide +kernel
theorem dL_spare_54 : decode cL_spare 54 = .ok (.invokevirtual 120, 3) := by decide +kernel
theorem dL_spare_57 : decode cL_spare 57 = .ok (.ifCond .eq 7, 3) := by decide +kernel
theorem dL_spare_60 : decode cL_spare 60 = .ok (.iconst (-1), 1) := by decide +kernel
theorem dL_spare_61 : decode cL_spare 61 = .ok (.goto 8, 3) := by decide +kernel
theorem dL_spare_64 : decode cL_spare 64 = .ok (.aload_n 0, 1) := by decide +kernel
theorem dL_spare_65 : decode cL_spare 65 = .ok (.iload_n 3, 1) := by decide +kernel
theorem dL_spare_66 : decode cL_spare 66 = .ok (.invokevirtual 217, 3) := by decide +kernel
theorem dL_spare_69 : decode cL_spare 69 = .ok (.istore 4, 2) := by decide +kernel
theorem dL_spare_71 : decode cL_spare 71 = .ok (.iload_n 1, 1) := by decide +kernel
theorem dL_spare_72 : decode cL_spare 72 = .ok (.ifCond .lt 12, 3) := by decide +kernel
theorem dL_spare_75 : decode cL_spare 75 = .ok (.iload 4, 2) := by decide +kernel
theorem dL_spare_77 : decode cL_spare 77 = .ok (.iload_n 2, 1) := by decide +kernel
theorem dL_spare_78 : decode cL_spare 78 = .ok (.if_icmp .le 6, 3) := by decide +kernel
theorem dL_spare_81 : decode cL_spare 81 = .ok (.goto 8, 3) := by decide +kernel
theorem dL_spare_84 : decode cL_spare 84 = .ok (.iload_n 3, 1) := by decide +kernel
theorem dL_spare_85 : decode cL_spare 85 = .ok (.istore_n 1, 1) := by decide +kernel
theorem dL_spare_86 : decode cL_spare 86 = .ok (.iload 4, 2) := by decide +kernel
