theorem d_LC_792 : decode code 792 = .ok (.iload 4, 2) := by decide +kernel
theorem d_LC_794 : decode code 794 = .ok (.iconst 2, 1) := by decide +kernel
theorem d_LC_795 : decode code 795 = .ok (.iadd, 1) := by decide +kernel
theorem d_LC_796 : decode code 796 = .ok (.iaload, 1) := by decide +kernel
theorem d_LC_797 : decode code 797 = .ok (.aload_n 3, 1) := by decide +kernel
theorem d_LC_798 : decode code 798 = .ok (.invokestatic 118, 3) := by decide +kernel
theorem d_LC_801 : decode code 801 = .ok (.istore 5, 2) := by decide +kernel
theorem d_LC_803 : decode code 803 = .ok (.aload_n 2, 1) := by decide +kernel
theorem d_LC_804 : decode code 804 = .ok (.aload_n 0, 1) := by decide +kernel
theorem d_LC_805 : decode code 805 = .ok (.iload 4, 2) := by decide +kernel
theorem d_LC_807 : decode code 807 = .ok (.iconst 1, 1) := by decide +kernel
theorem d_LC_808 : decode code 808 = .ok (.iadd, 1) := by decide +kernel
theorem d_LC_809 : decode code 809 = .ok (.iaload, 1) := by decide +kernel
theorem d_LC_810 : decode code 810 = .ok (.aload_n 0, 1) := by decide +kernel
theorem d_LC_811 : decode code 811 = .ok (.iload 4, 2) := by decide +kernel
theorem d_LC_813 : decode code 813 = .ok (.iconst 2, 1) := by decide +kernel
theorem d_LC_814 : decode code 814 = .ok (.iadd, 1) := by decide +kernel
theorem d_LC_815 : decode code 815 = .ok (.iaload, 1) := by decide +kernel
theorem d_LC_816 : decode code 816 = .ok (.invokevirtual 120, 3) := by decide +kernel
theorem d_LC_819 : decode code 819 = .ok (.istore 6, 2) := by decide +kernel
theorem d_LC_821 : decode code 821 = .ok (.aload_n 2, 1) := by decide +kernel
theorem d_LC_822 : decode code 822 = .ok (.invokevirtual 84, 3) := by decide +kernel
theorem d_LC_825 : decode code 825 = .ok (.iload 5, 2) := by decide +kernel
theorem d_LC_827 : decode code 827 = .ok (.if_icmp .eq 5, 3) := by decide +kernel
theorem d_LC_830 : decode code 830 = .ok (.iconst 0, 1) := by decide +kernel
theorem d_LC_831 : decode code 831 = .ok (.ireturn, 1) := by decide +kernel
theorem d_LC_832 : decode code 832 = .ok (.iload 5, 2) := by decide +kernel
theorem d_LC_834 : decode code 834 = .ok (.ifCond .ne 22, 3) := by decide +kernel
theorem d_LC_837 : decode code 837 = .ok (.aload_n 3, 1) := by decide +kernel
theorem d_LC_838 : decode code 838 = .ok (.iconst 0, 1) := by decide +kernel
theorem d_LC_839 : decode code 839 = .ok (.laload, 1) := by decide +kernel
theorem d_LC_840 : decode code 840 = .ok (.iload 6, 2) := by decide +kernel
theorem d_LC_842 : decode code 842 = .ok (.ifCond .eq 7, 3) := by decide +kernel
theorem d_LC_845 : decode code 845 = .ok (.lconst 1, 1) := by decide +kernel
theorem d_LC_846 : decode code 846 = .ok (.goto 4, 3) := by decide +kernel
theorem d_LC_849 : decode code 849 = .ok (.lconst 0, 1) := by decide +kernel
theorem d_LC_850 : decode code 850 = .ok (.lcmp, 1) := by decide +kernel
theorem d_LC_851 : decode code 851 = .ok (.ifCond .eq 5, 3) := by decide +kernel
theorem d_LC_854 : decode code 854 = .ok (.iconst 0, 1) := by decide +kernel
theorem d_LC_855 : decode code 855 = .ok (.ireturn, 1) := by decide +kernel
theorem d_LC_856 : decode code 856 = .ok (.goto 288, 3) := by decide +kernel
theorem d_LC_859 : decode code 859 = .ok (.aload_n 1, 1) := by decide +kernel
theorem d_LC_860 : decode code 860 = .ok (.aload_n 0, 1) := by decide +kernel
theorem d_LC_861 : decode code 861 = .ok (.iload 4, 2) := by decide +kernel
theorem d_LC_863 : decode code 863 = .ok (.iconst 1, 1) := by decide +kernel
theorem d_LC_864 : decode code 864 = .ok (.iadd, 1) := by decide +kernel
theorem d_LC_865 : decode code 865 = .ok (.iaload, 1) := by decide +kernel
theorem d_LC_866 : decode code 866 = .ok (.aload_n 0, 1) := by decide +kernel
theorem d_LC_867 : decode code 867 = .ok (.iload 4, 2) := by decide +kernel
theorem d_LC_869 : decode code 869 = .ok (.iconst 2, 1) := by decide +kernel
theorem d_LC_870 : decode code 870 = .ok (.iadd, 1) := by decide +kernel
theorem d_LC_871 : decode code 871 = .ok (.iaload, 1) := by decide +kernel
theorem d_LC_872 : decode code 872 = .ok (.aload_n 0, 1) := by decide +kernel
theorem d_LC_873 : decode code 873 = .ok (.iload 4, 2) := by decide +kernel
theorem d_LC_875 : decode code 875 = .ok (.iconst 3, 1) := by decide +kernel
theorem d_LC_876 : decode code 876 = .ok (.iadd, 1) := by decide +kernel
theorem d_LC_877 : decode code 877 = .ok (.iaload, 1) := by decide +kernel
theorem d_LC_878 : decode code 878 = .ok (.aload_n 3, 1) := by decide +kernel
theorem d_LC_879 : decode code 879 = .ok (.invokestatic 121, 3) := by decide +kernel
theorem d_LC_882 : decode code 882 = .ok (.istore 5, 2) := by decide +kernel
theorem d_LC_884 : decode code 884 = .ok (.aload_n 2, 1) := by decide +kernel
theorem d_LC_885 : decode code 885 = .ok (.aload_n 0, 1) := by decide +kernel
theorem d_LC_886 : decode code 886 = .ok (.iload 4, 2) := by decide +kernel
theorem d_LC_888 : decode code 888 = .ok (.iconst 1, 1) := by decide +kernel
theorem d_LC_889 : decode code 889 = .ok (.iadd, 1) := by decide +kernel
theorem d_LC_890 : decode code 890 = .ok (.iaload, 1) := by decide +kernel
theorem d_LC_891 : decode code 891 = .ok (.aload_n 0, 1) := by decide +kernel
theorem d_LC_892 : decode code 892 = .ok (.iload 4, 2) := by decide +kernel
theorem d_LC_894 : decode code 894 = .ok (.iconst 2, 1) := by decide +kernel
theorem d_LC_895 : decode code 895 = .ok (.iadd, 1) := by decide +kernel
theorem d_LC_896 : decode code 896 = .ok (.iaload, 1) := by decide +kernel
theorem d_LC_897 : decode code 897 = .ok (.aload_n 0, 1) := by decide +kernel
theorem d_LC_898 : decode code 898 = .ok (.iload 4, 2) := by decide +kernel
theorem d_LC_900 : decode code 900 = .ok (.iconst 3, 1) := by decide +kernel
theorem d_LC_901 : decode code 901 = .ok (.iadd, 1) := by decide +kernel
theorem d_LC_902 : decode code 902 = .ok (.iaload, 1) := by decide +kernel
theorem d_LC_903 : decode code 903 = .ok (.invokevirtual 123, 3) := by decide +kernel
theorem d_LC_906 : decode code 906 = .ok (.istore 6, 2) := by decide +kernel
theorem d_LC_908 : decode code 908 = .ok (.aload_n 2, 1) := by decide +kernel
theorem d_LC_909 : decode code 909 = .ok (.invokevirtual 84, 3) := by decide +kernel
theorem d_LC_912 : decode code 912 = .ok (.iload 5, 2) := by decide +kernel
theorem d_LC_914 : decode code 914 = .ok (.if_icmp .eq 5, 3) := by decide +kernel
theorem d_LC_917 : decode code 917 = .ok (.iconst 0, 1) := by decide +kernel
theorem d_LC_918 : decode code 918 = .ok (.ireturn, 1) := by decide +kernel
theorem d_LC_919 : decode code 919 = .ok (.iload 5, 2) := by decide +kernel
theorem d_LC_921 : decode code 921 = .ok (.ifCond .ne 15, 3) := by decide +kernel
theorem d_LC_924 : decode code 924 = .ok (.aload_n 3, 1) := by decide +kernel
theorem d_LC_925 : decode code 925 = .ok (.iconst 0, 1) := by decide +kernel
theorem d_LC_926 : decode code 926 = .ok (.laload, 1) := by decide +kernel
theorem d_LC_927 : decode code 927 = .ok (.iload 6, 2) := by decide +kernel
theorem d_LC_929 : decode code 929 = .ok (.i2l, 1) := by decide +kernel
theorem d_LC_930 : decode code 930 = .ok (.lcmp, 1) := by decide +kernel
theorem d_LC_931 : decode code 931 = .ok (.ifCond .eq 5, 3) := by decide +kernel
theorem d_LC_934 : decode code 934 = .ok (.iconst 0, 1) := by decide +kernel
theorem d_LC_935 : decode code 935 = .ok (.ireturn, 1) := by decide +kernel
theorem d_LC_936 : decode code 936 = .ok (.goto 208, 3) := by decide +kernel
theorem d_LC_939 : decode code 939 = .ok (.aload_n 1, 1) := by decide +kernel
theorem d_LC_940 : decode code 940 = .ok (.aload_n 3, 1) := by decide +kernel
theorem d_LC_941 : decode code 941 = .ok (.invokestatic 124, 3) := by decide +kernel
theorem d_LC_944 : decode code 944 = .ok (.istore 5, 2) := by decide +kernel
theorem d_LC_946 : decode code 946 = .ok (.aload_n 2, 1) := by decide +kernel
theorem d_LC_947 : decode code 947 = .ok (.invokevirtual 126, 3) := by decide +kernel
theorem d_LC_950 : decode code 950 = .ok (.istore 6, 2) := by decide +kernel
theorem d_LC_952 : decode code 952 = .ok (.aload_n 2, 1) := by decide +kernel
theorem d_LC_953 : decode code 953 = .ok (.invokevirtual 84, 3) := by decide +kernel
theorem d_LC_956 : decode code 956 = .ok (.iload 5, 2) := by decide +kernel
theorem d_LC_958 : decode code 958 = .ok (.if_icmp .eq 5, 3) := by decide +kernel
theorem d_LC_961 : decode code 961 = .ok (.iconst 0, 1) := by decide +kernel
theorem d_LC_962 : decode code 962 = .ok (.ireturn, 1) := by decide +kernel
theorem d_LC_963 : decode code 963 = .ok (.iload 5, 2) := by decide +kernel
theorem d_LC_965 : decode code 965 = .ok (.ifCond .ne 15, 3) := by decide +kernel
theorem d_LC_968 : decode code 968 = .ok (.aload_n 3, 1) := by decide +kernel
theorem d_LC_969 : decode code 969 = .ok (.iconst 0, 1) := by decide +kernel
theorem d_LC_970 : decode code 970 = .ok (.laload, 1) := by decide +kernel
theorem d_LC_971 : decode code 971 = .ok (.iload 6, 2) := by decide +kernel
theorem d_LC_973 : decode code 973 = .ok (.i2l, 1) := by decide +kernel
theorem d_LC_974 : decode code 974 = .ok (.lcmp, 1) := by decide +kernel
theorem d_LC_975 : decode code 975 = .ok (.ifCond .eq 5, 3) := by decide +kernel
theorem d_LC_978 : decode code 978 = .ok (.iconst 0, 1) := by decide +kernel
theorem d_LC_979 : decode code 979 = .ok (.ireturn, 1) := by decide +kernel
theorem d_LC_980 : decode code 980 = .ok (.goto 164, 3) := by decide +kernel
theorem d_LC_983 : decode code 983 = .ok (.aload_n 1, 1) := by decide +kernel
theorem d_LC_984 : decode code 984 = .ok (.aload_n 0, 1) := by decide +kernel
theorem d_LC_985 : decode code 985 = .ok (.iload 4, 2) := by decide +kernel
theorem d_LC_987 : decode code 987 = .ok (.iconst 1, 1) := by decide +kernel
theorem d_LC_988 : decode code 988 = .ok (.iadd, 1) := by decide +kernel
theorem d_LC_989 : decode code 989 = .ok (.iaload, 1) := by decide +kernel
theorem d_LC_990 : decode code 990 = .ok (.aload_n 3, 1) := by decide +kernel
theorem d_LC_991 : decode code 991 = .ok (.invokestatic 127, 3) := by decide +kernel
theorem d_LC_994 : decode code 994 = .ok (.istore 5, 2) := by decide +kernel
theorem d_LC_996 : decode code 996 = .ok (.aload_n 2, 1) := by decide +kernel
theorem d_LC_997 : decode code 997 = .ok (.aload_n 0, 1) := by decide +kernel
theorem d_LC_998 : decode code 998 = .ok (.iload 4, 2) := by decide +kernel
theorem d_LC_1000 : decode code 1000 = .ok (.iconst 1, 1) := by decide +kernel
theorem d_LC_1001 : decode code 1001 = .ok (.iadd, 1) := by decide +kernel
theorem d_LC_1002 : decode code 1002 = .ok (.iaload, 1) := by decide +kernel
theorem d_LC_1003 : decode code 1003 = .ok (.invokevirtual 129, 3) := by decide +kernel
theorem d_LC_1006 : decode code 1006 = .ok (.istore 6, 2) := by decide +kernel
theorem d_LC_1008 : decode code 1008 = .ok (.aload_n 2, 1) := by decide +kernel
theorem d_LC_1009 : decode code 1009 = .ok (.invokevirtual 84, 3) := by decide +kernel
theorem d_LC_1012 : decode code 1012 = .ok (.iload 5, 2) := by decide +kernel
theorem d_LC_1014 : decode code 1014 = .ok (.if_icmp .eq 5, 3) := by decide +kernel
theorem d_LC_1017 : decode code 1017 = .ok (.iconst 0, 1) := by decide +kernel
theorem d_LC_1018 : decode code 1018 = .ok (.ireturn, 1) := by decide +kernel
theorem d_LC_1019 : decode code 1019 = .ok (.iload 5, 2) := by decide +kernel
theorem d_LC_1021 : decode code 1021 = .ok (.ifCond .ne 15, 3) := by decide +kernel
theorem d_LC_1024 : decode code 1024 = .ok (.aload_n 3, 1) := by decide +kernel
theorem d_LC_1025 : decode code 1025 = .ok (.iconst 0, 1) := by decide +kernel
theorem d_LC_1026 : decode code 1026 = .ok (.laload, 1) := by decide +kernel
theorem d_LC_1027 : decode code 1027 = .ok (.iload 6, 2) := by decide +kernel
theorem d_LC_1029 : decode code 1029 = .ok (.i2l, 1) := by decide +kernel
theorem d_LC_1030 : decode code 1030 = .ok (.lcmp, 1) := by decide +kernel
theorem d_LC_1031 : decode code 1031 = .ok (.ifCond .eq 5, 3) := by decide +kernel
theorem d_LC_1034 : decode code 1034 = .ok (.iconst 0, 1) := by decide +kernel
theorem d_LC_1035 : decode code 1035 = .ok (.ireturn, 1) := by decide +kernel
theorem d_LC_1036 : decode code 1036 = .ok (.goto 108, 3) := by decide +kernel
theorem d_LC_1039 : decode code 1039 = .ok (.aload_n 1, 1) := by decide +kernel
theorem d_LC_1040 : decode code 1040 = .ok (.aload_n 0, 1) := by decide +kernel
theorem d_LC_1041 : decode code 1041 = .ok (.iload 4, 2) := by decide +kernel
theorem d_LC_1043 : decode code 1043 = .ok (.iconst 1, 1) := by decide +kernel
theorem d_LC_1044 : decode code 1044 = .ok (.iadd, 1) := by decide +kernel
theorem d_LC_1045 : decode code 1045 = .ok (.iaload, 1) := by decide +kernel
theorem d_LC_1046 : decode code 1046 = .ok (.aload_n 0, 1) := by decide +kernel
theorem d_LC_1047 : decode code 1047 = .ok (.iload 4, 2) := by decide +kernel
theorem d_LC_1049 : decode code 1049 = .ok (.iconst 2, 1) := by decide +kernel
theorem d_LC_1050 : decode code 1050 = .ok (.iadd, 1) := by decide +kernel
theorem d_LC_1051 : decode code 1051 = .ok (.iaload, 1) := by decide +kernel
theorem d_LC_1052 : decode code 1052 = .ok (.aload_n 0, 1) := by decide +kernel
theorem d_LC_1053 : decode code 1053 = .ok (.iload 4, 2) := by decide +kernel
theorem d_LC_1055 : decode code 1055 = .ok (.iconst 3, 1) := by decide +kernel
theorem d_LC_1056 : decode code 1056 = .ok (.iadd, 1) := by decide +kernel
theorem d_LC_1057 : decode code 1057 = .ok (.iaload, 1) := by decide +kernel
theorem d_LC_1058 : decode code 1058 = .ok (.aload_n 3, 1) := by decide +kernel
theorem d_LC_1059 : decode code 1059 = .ok (.invokestatic 130, 3) := by decide +kernel
theorem d_LC_1062 : decode code 1062 = .ok (.istore 5, 2) := by decide +kernel
theorem d_LC_1064 : decode code 1064 = .ok (.aload_n 2, 1) := by decide +kernel
theorem d_LC_1065 : decode code 1065 = .ok (.aload_n 0, 1) := by decide +kernel
theorem d_LC_1066 : decode code 1066 = .ok (.iload 4, 2) := by decide +kernel
theorem d_LC_1068 : decode code 1068 = .ok (.iconst 1, 1) := by decide +kernel
theorem d_LC_1069 : decode code 1069 = .ok (.iadd, 1) := by decide +kernel
theorem d_LC_1070 : decode code 1070 = .ok (.iaload, 1) := by decide +kernel
theorem d_LC_1071 : decode code 1071 = .ok (.aload_n 0, 1) := by decide +kernel
theorem d_LC_1072 : decode code 1072 = .ok (.iload 4, 2) := by decide +kernel
theorem d_LC_1074 : decode code 1074 = .ok (.iconst 2, 1) := by decide +kernel
theorem d_LC_1075 : decode code 1075 = .ok (.iadd, 1) := by decide +kernel
theorem d_LC_1076 : decode code 1076 = .ok (.iaload, 1) := by decide +kernel
theorem d_LC_1077 : decode code 1077 = .ok (.aload_n 0, 1) := by decide +kernel
theorem d_LC_1078 : decode code 1078 = .ok (.iload 4, 2) := by decide +kernel
theorem d_LC_1080 : decode code 1080 = .ok (.iconst 3, 1) := by decide +kernel
theorem d_LC_1081 : decode code 1081 = .ok (.iadd, 1) := by decide +kernel
theorem d_LC_1082 : decode code 1082 = .ok (.iaload, 1) := by decide +kernel
theorem d_LC_1083 : decode code 1083 = .ok (.invokevirtual 132, 3) := by decide +kernel
theorem d_LC_1086 : decode code 1086 = .ok (.istore 6, 2) := by decide +kernel
theorem d_LC_1088 : decode code 1088 = .ok (.aload_n 2, 1) := by decide +kernel
theorem d_LC_1089 : decode code 1089 = .ok (.invokevirtual 84, 3) := by decide +kernel
theorem d_LC_1092 : decode code 1092 = .ok (.iload 5, 2) := by decide +kernel
theorem d_LC_1094 : decode code 1094 = .ok (.if_icmp .eq 5, 3) := by decide +kernel
theorem d_LC_1097 : decode code 1097 = .ok (.iconst 0, 1) := by decide +kernel
theorem d_LC_1098 : decode code 1098 = .ok (.ireturn, 1) := by decide +kernel
theorem d_LC_1099 : decode code 1099 = .ok (.iload 5, 2) := by decide +kernel
theorem d_LC_1101 : decode code 1101 = .ok (.ifCond .ne 15, 3) := by decide +kernel
theorem d_LC_1104 : decode code 1104 = .ok (.aload_n 3, 1) := by decide +kernel
theorem d_LC_1105 : decode code 1105 = .ok (.iconst 0, 1) := by decide +kernel
theorem d_LC_1106 : decode code 1106 = .ok (.laload, 1) := by decide +kernel
theorem d_LC_1107 : decode code 1107 = .ok (.iload 6, 2) := by decide +kernel
theorem d_LC_1109 : decode code 1109 = .ok (.i2l, 1) := by decide +kernel
theorem d_LC_1110 : decode code 1110 = .ok (.lcmp, 1) := by decide +kernel
theorem d_LC_1111 : decode code 1111 = .ok (.ifCond .eq 5, 3) := by decide +kernel
theorem d_LC_1114 : decode code 1114 = .ok (.iconst 0, 1) := by decide +kernel
theorem d_LC_1115 : decode code 1115 = .ok (.ireturn, 1) := by decide +kernel
theorem d_LC_1116 : decode code 1116 = .ok (.goto 28, 3) := by decide +kernel
theorem d_LC_1119 : decode code 1119 = .ok (.aload_n 1, 1) := by decide +kernel
theorem d_LC_1120 : decode code 1120 = .ok (.aload_n 0, 1) := by decide +kernel
theorem d_LC_1121 : decode code 1121 = .ok (.iload 4, 2) := by decide +kernel
theorem d_LC_1123 : decode code 1123 = .ok (.iconst 1, 1) := by decide +kernel
theorem d_LC_1124 : decode code 1124 = .ok (.iadd, 1) := by decide +kernel
theorem d_LC_1125 : decode code 1125 = .ok (.iaload, 1) := by decide +kernel
theorem d_LC_1126 : decode code 1126 = .ok (.invokevirtual 133, 3) := by decide +kernel
theorem d_LC_1129 : decode code 1129 = .ok (.aload_n 2, 1) := by decide +kernel
theorem d_LC_1130 : decode code 1130 = .ok (.aload_n 0, 1) := by decide +kernel
theorem d_LC_1131 : decode code 1131 = .ok (.iload 4, 2) := by decide +kernel
theorem d_LC_1133 : decode code 1133 = .ok (.iconst 1, 1) := by decide +kernel
theorem d_LC_1134 : decode code 1134 = .ok (.iadd, 1) := by decide +kernel
theorem d_LC_1135 : decode code 1135 = .ok (.iaload, 1) := by decide +kernel
theorem d_LC_1136 : decode code 1136 = .ok (.invokevirtual 136, 3) := by decide +kernel
theorem d_LC_1139 : decode code 1139 = .ok (.if_icmp .eq 5, 3) := by decide +kernel
theorem d_LC_1142 : decode code 1142 = .ok (.iconst 0, 1) := by decide +kernel
theorem d_LC_1143 : decode code 1143 = .ok (.ireturn, 1) := by decide +kernel
theorem d_LC_1144 : decode code 1144 = .ok (.iinc 4 6, 3) := by decide +kernel
theorem d_LC_1147 : decode code 1147 = .ok (.goto (-1114), 3) := by decide +kernel
theorem d_LC_1150 : decode code 1150 = .ok (.iconst 1, 1) := by decide +kernel
theorem d_LC_1151 : decode code 1151 = .ok (.ireturn, 1) := by decide +kernel
