/-! the law's decode rows, 3 (wip/whole/gen31.py) -/
theorem d_L_776 : decode code 776 = .ok (.iadd, 1) := by decide +kernel
theorem d_L_777 : decode code 777 = .ok (.iaload, 1) := by decide +kernel
theorem d_L_778 : decode code 778 = .ok (.aload_n 0, 1) := by decide +kernel
theorem d_L_779 : decode code 779 = .ok (.iload_n 3, 1) := by decide +kernel
theorem d_L_780 : decode code 780 = .ok (.iconst 2, 1) := by decide +kernel
theorem d_L_781 : decode code 781 = .ok (.iadd, 1) := by decide +kernel
theorem d_L_782 : decode code 782 = .ok (.iaload, 1) := by decide +kernel
theorem d_L_783 : decode code 783 = .ok (.invokevirtual 85, 3) := by decide +kernel
theorem d_L_786 : decode code 786 = .ok (.if_icmp .eq 628, 3) := by decide +kernel
theorem d_L_791 : decode code 791 = .ok (.aload_n 1, 1) := by decide +kernel
theorem d_L_792 : decode code 792 = .ok (.invokevirtual 86, 3) := by decide +kernel
theorem d_L_795 : decode code 795 = .ok (.aload_n 2, 1) := by decide +kernel
theorem d_L_796 : decode code 796 = .ok (.invokevirtual 89, 3) := by decide +kernel
theorem d_L_799 : decode code 799 = .ok (.if_icmp .eq 615, 3) := by decide +kernel
theorem d_L_804 : decode code 804 = .ok (.aload_n 1, 1) := by decide +kernel
theorem d_L_805 : decode code 805 = .ok (.aload_n 0, 1) := by decide +kernel
theorem d_L_806 : decode code 806 = .ok (.iload_n 3, 1) := by decide +kernel
theorem d_L_807 : decode code 807 = .ok (.iconst 1, 1) := by decide +kernel
theorem d_L_808 : decode code 808 = .ok (.iadd, 1) := by decide +kernel
theorem d_L_809 : decode code 809 = .ok (.iaload, 1) := by decide +kernel
theorem d_L_810 : decode code 810 = .ok (.invokevirtual 90, 3) := by decide +kernel
theorem d_L_813 : decode code 813 = .ok (.aload_n 2, 1) := by decide +kernel
theorem d_L_814 : decode code 814 = .ok (.aload_n 0, 1) := by decide +kernel
theorem d_L_815 : decode code 815 = .ok (.iload_n 3, 1) := by decide +kernel
theorem d_L_816 : decode code 816 = .ok (.iconst 1, 1) := by decide +kernel
theorem d_L_817 : decode code 817 = .ok (.iadd, 1) := by decide +kernel
theorem d_L_818 : decode code 818 = .ok (.iaload, 1) := by decide +kernel
theorem d_L_819 : decode code 819 = .ok (.invokevirtual 93, 3) := by decide +kernel
theorem d_L_822 : decode code 822 = .ok (.if_icmp .eq 592, 3) := by decide +kernel
theorem d_L_827 : decode code 827 = .ok (.aload_n 1, 1) := by decide +kernel
theorem d_L_828 : decode code 828 = .ok (.aload_n 0, 1) := by decide +kernel
theorem d_L_829 : decode code 829 = .ok (.iload_n 3, 1) := by decide +kernel
theorem d_L_830 : decode code 830 = .ok (.iconst 1, 1) := by decide +kernel
theorem d_L_831 : decode code 831 = .ok (.iadd, 1) := by decide +kernel
theorem d_L_832 : decode code 832 = .ok (.iaload, 1) := by decide +kernel
theorem d_L_833 : decode code 833 = .ok (.invokevirtual 94, 3) := by decide +kernel
theorem d_L_836 : decode code 836 = .ok (.aload_n 2, 1) := by decide +kernel
theorem d_L_837 : decode code 837 = .ok (.aload_n 0, 1) := by decide +kernel
theorem d_L_838 : decode code 838 = .ok (.iload_n 3, 1) := by decide +kernel
theorem d_L_839 : decode code 839 = .ok (.iconst 1, 1) := by decide +kernel
theorem d_L_840 : decode code 840 = .ok (.iadd, 1) := by decide +kernel
theorem d_L_841 : decode code 841 = .ok (.iaload, 1) := by decide +kernel
theorem d_L_842 : decode code 842 = .ok (.invokevirtual 97, 3) := by decide +kernel
theorem d_L_845 : decode code 845 = .ok (.if_icmp .eq 569, 3) := by decide +kernel
theorem d_L_850 : decode code 850 = .ok (.aload_n 1, 1) := by decide +kernel
theorem d_L_851 : decode code 851 = .ok (.aload_n 0, 1) := by decide +kernel
theorem d_L_852 : decode code 852 = .ok (.iload_n 3, 1) := by decide +kernel
theorem d_L_853 : decode code 853 = .ok (.iconst 1, 1) := by decide +kernel
theorem d_L_854 : decode code 854 = .ok (.iadd, 1) := by decide +kernel
theorem d_L_855 : decode code 855 = .ok (.iaload, 1) := by decide +kernel
theorem d_L_856 : decode code 856 = .ok (.aload_n 0, 1) := by decide +kernel
theorem d_L_857 : decode code 857 = .ok (.iload_n 3, 1) := by decide +kernel
theorem d_L_858 : decode code 858 = .ok (.iconst 2, 1) := by decide +kernel
theorem d_L_859 : decode code 859 = .ok (.iadd, 1) := by decide +kernel
theorem d_L_860 : decode code 860 = .ok (.iaload, 1) := by decide +kernel
theorem d_L_861 : decode code 861 = .ok (.invokevirtual 98, 3) := by decide +kernel
theorem d_L_864 : decode code 864 = .ok (.aload_n 2, 1) := by decide +kernel
theorem d_L_865 : decode code 865 = .ok (.aload_n 0, 1) := by decide +kernel
theorem d_L_866 : decode code 866 = .ok (.iload_n 3, 1) := by decide +kernel
theorem d_L_867 : decode code 867 = .ok (.iconst 1, 1) := by decide +kernel
theorem d_L_868 : decode code 868 = .ok (.iadd, 1) := by decide +kernel
theorem d_L_869 : decode code 869 = .ok (.iaload, 1) := by decide +kernel
theorem d_L_870 : decode code 870 = .ok (.aload_n 0, 1) := by decide +kernel
theorem d_L_871 : decode code 871 = .ok (.iload_n 3, 1) := by decide +kernel
theorem d_L_872 : decode code 872 = .ok (.iconst 2, 1) := by decide +kernel
theorem d_L_873 : decode code 873 = .ok (.iadd, 1) := by decide +kernel
theorem d_L_874 : decode code 874 = .ok (.iaload, 1) := by decide +kernel
theorem d_L_875 : decode code 875 = .ok (.invokevirtual 101, 3) := by decide +kernel
theorem d_L_878 : decode code 878 = .ok (.if_icmp .eq 536, 3) := by decide +kernel
theorem d_L_883 : decode code 883 = .ok (.aload_n 1, 1) := by decide +kernel
theorem d_L_884 : decode code 884 = .ok (.aload_n 0, 1) := by decide +kernel
theorem d_L_885 : decode code 885 = .ok (.iload_n 3, 1) := by decide +kernel
theorem d_L_886 : decode code 886 = .ok (.iconst 1, 1) := by decide +kernel
theorem d_L_887 : decode code 887 = .ok (.iadd, 1) := by decide +kernel
theorem d_L_888 : decode code 888 = .ok (.iaload, 1) := by decide +kernel
theorem d_L_889 : decode code 889 = .ok (.aload_n 0, 1) := by decide +kernel
theorem d_L_890 : decode code 890 = .ok (.iload_n 3, 1) := by decide +kernel
theorem d_L_891 : decode code 891 = .ok (.iconst 2, 1) := by decide +kernel
theorem d_L_892 : decode code 892 = .ok (.iadd, 1) := by decide +kernel
theorem d_L_893 : decode code 893 = .ok (.iaload, 1) := by decide +kernel
theorem d_L_894 : decode code 894 = .ok (.invokevirtual 102, 3) := by decide +kernel
theorem d_L_897 : decode code 897 = .ok (.aload_n 2, 1) := by decide +kernel
theorem d_L_898 : decode code 898 = .ok (.aload_n 0, 1) := by decide +kernel
theorem d_L_899 : decode code 899 = .ok (.iload_n 3, 1) := by decide +kernel
theorem d_L_900 : decode code 900 = .ok (.iconst 1, 1) := by decide +kernel
theorem d_L_901 : decode code 901 = .ok (.iadd, 1) := by decide +kernel
theorem d_L_902 : decode code 902 = .ok (.iaload, 1) := by decide +kernel
theorem d_L_903 : decode code 903 = .ok (.aload_n 0, 1) := by decide +kernel
theorem d_L_904 : decode code 904 = .ok (.iload_n 3, 1) := by decide +kernel
theorem d_L_905 : decode code 905 = .ok (.iconst 2, 1) := by decide +kernel
theorem d_L_906 : decode code 906 = .ok (.iadd, 1) := by decide +kernel
theorem d_L_907 : decode code 907 = .ok (.iaload, 1) := by decide +kernel
theorem d_L_908 : decode code 908 = .ok (.invokevirtual 105, 3) := by decide +kernel
theorem d_L_911 : decode code 911 = .ok (.if_icmp .eq 503, 3) := by decide +kernel
theorem d_L_916 : decode code 916 = .ok (.aload_n 1, 1) := by decide +kernel
theorem d_L_917 : decode code 917 = .ok (.aload_n 0, 1) := by decide +kernel
theorem d_L_918 : decode code 918 = .ok (.iload_n 3, 1) := by decide +kernel
theorem d_L_919 : decode code 919 = .ok (.iconst 1, 1) := by decide +kernel
theorem d_L_920 : decode code 920 = .ok (.iadd, 1) := by decide +kernel
theorem d_L_921 : decode code 921 = .ok (.iaload, 1) := by decide +kernel
theorem d_L_922 : decode code 922 = .ok (.aload_n 0, 1) := by decide +kernel
theorem d_L_923 : decode code 923 = .ok (.iload_n 3, 1) := by decide +kernel
theorem d_L_924 : decode code 924 = .ok (.iconst 2, 1) := by decide +kernel
theorem d_L_925 : decode code 925 = .ok (.iadd, 1) := by decide +kernel
theorem d_L_926 : decode code 926 = .ok (.iaload, 1) := by decide +kernel
theorem d_L_927 : decode code 927 = .ok (.invokevirtual 106, 3) := by decide +kernel
theorem d_L_930 : decode code 930 = .ok (.aload_n 2, 1) := by decide +kernel
theorem d_L_931 : decode code 931 = .ok (.aload_n 0, 1) := by decide +kernel
theorem d_L_932 : decode code 932 = .ok (.iload_n 3, 1) := by decide +kernel
theorem d_L_933 : decode code 933 = .ok (.iconst 1, 1) := by decide +kernel
theorem d_L_934 : decode code 934 = .ok (.iadd, 1) := by decide +kernel
theorem d_L_935 : decode code 935 = .ok (.iaload, 1) := by decide +kernel
theorem d_L_936 : decode code 936 = .ok (.aload_n 0, 1) := by decide +kernel
theorem d_L_937 : decode code 937 = .ok (.iload_n 3, 1) := by decide +kernel
theorem d_L_938 : decode code 938 = .ok (.iconst 2, 1) := by decide +kernel
theorem d_L_939 : decode code 939 = .ok (.iadd, 1) := by decide +kernel
theorem d_L_940 : decode code 940 = .ok (.iaload, 1) := by decide +kernel
theorem d_L_941 : decode code 941 = .ok (.invokevirtual 109, 3) := by decide +kernel
theorem d_L_944 : decode code 944 = .ok (.if_icmp .eq 470, 3) := by decide +kernel
theorem d_L_949 : decode code 949 = .ok (.aload_n 1, 1) := by decide +kernel
theorem d_L_950 : decode code 950 = .ok (.aload_n 0, 1) := by decide +kernel
theorem d_L_951 : decode code 951 = .ok (.iload_n 3, 1) := by decide +kernel
theorem d_L_952 : decode code 952 = .ok (.iconst 1, 1) := by decide +kernel
theorem d_L_953 : decode code 953 = .ok (.iadd, 1) := by decide +kernel
theorem d_L_954 : decode code 954 = .ok (.iaload, 1) := by decide +kernel
theorem d_L_955 : decode code 955 = .ok (.aload_n 0, 1) := by decide +kernel
theorem d_L_956 : decode code 956 = .ok (.iload_n 3, 1) := by decide +kernel
theorem d_L_957 : decode code 957 = .ok (.iconst 2, 1) := by decide +kernel
theorem d_L_958 : decode code 958 = .ok (.iadd, 1) := by decide +kernel
theorem d_L_959 : decode code 959 = .ok (.iaload, 1) := by decide +kernel
theorem d_L_960 : decode code 960 = .ok (.invokevirtual 110, 3) := by decide +kernel
theorem d_L_963 : decode code 963 = .ok (.aload_n 2, 1) := by decide +kernel
theorem d_L_964 : decode code 964 = .ok (.aload_n 0, 1) := by decide +kernel
theorem d_L_965 : decode code 965 = .ok (.iload_n 3, 1) := by decide +kernel
theorem d_L_966 : decode code 966 = .ok (.iconst 1, 1) := by decide +kernel
theorem d_L_967 : decode code 967 = .ok (.iadd, 1) := by decide +kernel
theorem d_L_968 : decode code 968 = .ok (.iaload, 1) := by decide +kernel
theorem d_L_969 : decode code 969 = .ok (.aload_n 0, 1) := by decide +kernel
theorem d_L_970 : decode code 970 = .ok (.iload_n 3, 1) := by decide +kernel
theorem d_L_971 : decode code 971 = .ok (.iconst 2, 1) := by decide +kernel
theorem d_L_972 : decode code 972 = .ok (.iadd, 1) := by decide +kernel
theorem d_L_973 : decode code 973 = .ok (.iaload, 1) := by decide +kernel
theorem d_L_974 : decode code 974 = .ok (.invokevirtual 113, 3) := by decide +kernel
theorem d_L_977 : decode code 977 = .ok (.if_icmp .eq 437, 3) := by decide +kernel
theorem d_L_982 : decode code 982 = .ok (.aload_n 1, 1) := by decide +kernel
theorem d_L_983 : decode code 983 = .ok (.invokevirtual 114, 3) := by decide +kernel
theorem d_L_986 : decode code 986 = .ok (.aload_n 2, 1) := by decide +kernel
theorem d_L_987 : decode code 987 = .ok (.invokevirtual 117, 3) := by decide +kernel
theorem d_L_990 : decode code 990 = .ok (.if_icmp .eq 424, 3) := by decide +kernel
theorem d_L_995 : decode code 995 = .ok (.aload_n 1, 1) := by decide +kernel
theorem d_L_996 : decode code 996 = .ok (.aload_n 0, 1) := by decide +kernel
theorem d_L_997 : decode code 997 = .ok (.iload_n 3, 1) := by decide +kernel
theorem d_L_998 : decode code 998 = .ok (.iconst 1, 1) := by decide +kernel
theorem d_L_999 : decode code 999 = .ok (.iadd, 1) := by decide +kernel
theorem d_L_1000 : decode code 1000 = .ok (.iaload, 1) := by decide +kernel
theorem d_L_1001 : decode code 1001 = .ok (.invokevirtual 118, 3) := by decide +kernel
theorem d_L_1004 : decode code 1004 = .ok (.aload_n 2, 1) := by decide +kernel
theorem d_L_1005 : decode code 1005 = .ok (.aload_n 0, 1) := by decide +kernel
theorem d_L_1006 : decode code 1006 = .ok (.iload_n 3, 1) := by decide +kernel
theorem d_L_1007 : decode code 1007 = .ok (.iconst 1, 1) := by decide +kernel
theorem d_L_1008 : decode code 1008 = .ok (.iadd, 1) := by decide +kernel
theorem d_L_1009 : decode code 1009 = .ok (.iaload, 1) := by decide +kernel
theorem d_L_1010 : decode code 1010 = .ok (.invokevirtual 121, 3) := by decide +kernel
theorem d_L_1013 : decode code 1013 = .ok (.if_icmp .eq 401, 3) := by decide +kernel
theorem d_L_1018 : decode code 1018 = .ok (.aload_n 1, 1) := by decide +kernel
theorem d_L_1019 : decode code 1019 = .ok (.aload_n 0, 1) := by decide +kernel
theorem d_L_1020 : decode code 1020 = .ok (.iload_n 3, 1) := by decide +kernel
theorem d_L_1021 : decode code 1021 = .ok (.iconst 1, 1) := by decide +kernel
theorem d_L_1022 : decode code 1022 = .ok (.iadd, 1) := by decide +kernel
theorem d_L_1023 : decode code 1023 = .ok (.iaload, 1) := by decide +kernel
theorem d_L_1024 : decode code 1024 = .ok (.invokevirtual 122, 3) := by decide +kernel
theorem d_L_1027 : decode code 1027 = .ok (.aload_n 2, 1) := by decide +kernel
theorem d_L_1028 : decode code 1028 = .ok (.aload_n 0, 1) := by decide +kernel
theorem d_L_1029 : decode code 1029 = .ok (.iload_n 3, 1) := by decide +kernel
theorem d_L_1030 : decode code 1030 = .ok (.iconst 1, 1) := by decide +kernel
theorem d_L_1031 : decode code 1031 = .ok (.iadd, 1) := by decide +kernel
theorem d_L_1032 : decode code 1032 = .ok (.iaload, 1) := by decide +kernel
theorem d_L_1033 : decode code 1033 = .ok (.invokevirtual 125, 3) := by decide +kernel
theorem d_L_1036 : decode code 1036 = .ok (.if_icmp .eq 378, 3) := by decide +kernel
theorem d_L_1041 : decode code 1041 = .ok (.aload_n 1, 1) := by decide +kernel
theorem d_L_1042 : decode code 1042 = .ok (.aload_n 0, 1) := by decide +kernel
theorem d_L_1043 : decode code 1043 = .ok (.iload_n 3, 1) := by decide +kernel
theorem d_L_1044 : decode code 1044 = .ok (.iconst 1, 1) := by decide +kernel
theorem d_L_1045 : decode code 1045 = .ok (.iadd, 1) := by decide +kernel
theorem d_L_1046 : decode code 1046 = .ok (.iaload, 1) := by decide +kernel
theorem d_L_1047 : decode code 1047 = .ok (.invokevirtual 126, 3) := by decide +kernel
theorem d_L_1050 : decode code 1050 = .ok (.aload_n 2, 1) := by decide +kernel
theorem d_L_1051 : decode code 1051 = .ok (.aload_n 0, 1) := by decide +kernel
theorem d_L_1052 : decode code 1052 = .ok (.iload_n 3, 1) := by decide +kernel
theorem d_L_1053 : decode code 1053 = .ok (.iconst 1, 1) := by decide +kernel
theorem d_L_1054 : decode code 1054 = .ok (.iadd, 1) := by decide +kernel
theorem d_L_1055 : decode code 1055 = .ok (.iaload, 1) := by decide +kernel
theorem d_L_1056 : decode code 1056 = .ok (.invokevirtual 129, 3) := by decide +kernel
theorem d_L_1059 : decode code 1059 = .ok (.if_icmp .eq 355, 3) := by decide +kernel
theorem d_L_1064 : decode code 1064 = .ok (.aload_n 1, 1) := by decide +kernel
theorem d_L_1065 : decode code 1065 = .ok (.aload_n 0, 1) := by decide +kernel
theorem d_L_1066 : decode code 1066 = .ok (.iload_n 3, 1) := by decide +kernel
theorem d_L_1067 : decode code 1067 = .ok (.iconst 1, 1) := by decide +kernel
theorem d_L_1068 : decode code 1068 = .ok (.iadd, 1) := by decide +kernel
theorem d_L_1069 : decode code 1069 = .ok (.iaload, 1) := by decide +kernel
theorem d_L_1070 : decode code 1070 = .ok (.aload_n 0, 1) := by decide +kernel
theorem d_L_1071 : decode code 1071 = .ok (.iload_n 3, 1) := by decide +kernel
theorem d_L_1072 : decode code 1072 = .ok (.iconst 2, 1) := by decide +kernel
theorem d_L_1073 : decode code 1073 = .ok (.iadd, 1) := by decide +kernel
theorem d_L_1074 : decode code 1074 = .ok (.iaload, 1) := by decide +kernel
theorem d_L_1075 : decode code 1075 = .ok (.invokevirtual 130, 3) := by decide +kernel
theorem d_L_1078 : decode code 1078 = .ok (.aload_n 2, 1) := by decide +kernel
theorem d_L_1079 : decode code 1079 = .ok (.aload_n 0, 1) := by decide +kernel
theorem d_L_1080 : decode code 1080 = .ok (.iload_n 3, 1) := by decide +kernel
theorem d_L_1081 : decode code 1081 = .ok (.iconst 1, 1) := by decide +kernel
theorem d_L_1082 : decode code 1082 = .ok (.iadd, 1) := by decide +kernel
theorem d_L_1083 : decode code 1083 = .ok (.iaload, 1) := by decide +kernel
theorem d_L_1084 : decode code 1084 = .ok (.aload_n 0, 1) := by decide +kernel
theorem d_L_1085 : decode code 1085 = .ok (.iload_n 3, 1) := by decide +kernel
theorem d_L_1086 : decode code 1086 = .ok (.iconst 2, 1) := by decide +kernel
theorem d_L_1087 : decode code 1087 = .ok (.iadd, 1) := by decide +kernel
theorem d_L_1088 : decode code 1088 = .ok (.iaload, 1) := by decide +kernel
theorem d_L_1089 : decode code 1089 = .ok (.invokevirtual 133, 3) := by decide +kernel
theorem d_L_1092 : decode code 1092 = .ok (.if_icmp .eq 322, 3) := by decide +kernel
theorem d_L_1097 : decode code 1097 = .ok (.aload_n 1, 1) := by decide +kernel
theorem d_L_1098 : decode code 1098 = .ok (.aload_n 0, 1) := by decide +kernel
theorem d_L_1099 : decode code 1099 = .ok (.iload_n 3, 1) := by decide +kernel
theorem d_L_1100 : decode code 1100 = .ok (.iconst 1, 1) := by decide +kernel
theorem d_L_1101 : decode code 1101 = .ok (.iadd, 1) := by decide +kernel
theorem d_L_1102 : decode code 1102 = .ok (.iaload, 1) := by decide +kernel
theorem d_L_1103 : decode code 1103 = .ok (.invokevirtual 134, 3) := by decide +kernel
theorem d_L_1106 : decode code 1106 = .ok (.aload_n 2, 1) := by decide +kernel
theorem d_L_1107 : decode code 1107 = .ok (.aload_n 0, 1) := by decide +kernel
theorem d_L_1108 : decode code 1108 = .ok (.iload_n 3, 1) := by decide +kernel
theorem d_L_1109 : decode code 1109 = .ok (.iconst 1, 1) := by decide +kernel
theorem d_L_1110 : decode code 1110 = .ok (.iadd, 1) := by decide +kernel
theorem d_L_1111 : decode code 1111 = .ok (.iaload, 1) := by decide +kernel
theorem d_L_1112 : decode code 1112 = .ok (.invokevirtual 137, 3) := by decide +kernel
theorem d_L_1115 : decode code 1115 = .ok (.if_icmp .eq 299, 3) := by decide +kernel
