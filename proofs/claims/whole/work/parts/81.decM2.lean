theorem dL_law_840 : decode code 840 = .ok (.istore 5, 2) := by decide +kernel
theorem dL_law_842 : decode code 842 = .ok (.aload_n 2, 1) := by decide +kernel
theorem dL_law_843 : decode code 843 = .ok (.aload_n 0, 1) := by decide +kernel
theorem dL_law_844 : decode code 844 = .ok (.iload 4, 2) := by decide +kernel
theorem dL_law_846 : decode code 846 = .ok (.iconst 1, 1) := by decide +kernel
theorem dL_law_847 : decode code 847 = .ok (.iadd, 1) := by decide +kernel
theorem dL_law_848 : decode code 848 = .ok (.iaload, 1) := by decide +kernel
theorem dL_law_849 : decode code 849 = .ok (.aload_n 0, 1) := by decide +kernel
theorem dL_law_850 : decode code 850 = .ok (.iload 4, 2) := by decide +kernel
theorem dL_law_852 : decode code 852 = .ok (.iconst 2, 1) := by decide +kernel
theorem dL_law_853 : decode code 853 = .ok (.iadd, 1) := by decide +kernel
theorem dL_law_854 : decode code 854 = .ok (.iaload, 1) := by decide +kernel
theorem dL_law_855 : decode code 855 = .ok (.i2l, 1) := by decide +kernel
theorem dL_law_856 : decode code 856 = .ok (.bipush 32, 2) := by decide +kernel
theorem dL_law_858 : decode code 858 = .ok (.lshl, 1) := by decide +kernel
theorem dL_law_859 : decode code 859 = .ok (.aload_n 0, 1) := by decide +kernel
theorem dL_law_860 : decode code 860 = .ok (.iload 4, 2) := by decide +kernel
theorem dL_law_862 : decode code 862 = .ok (.iconst 3, 1) := by decide +kernel
theorem dL_law_863 : decode code 863 = .ok (.iadd, 1) := by decide +kernel
theorem dL_law_864 : decode code 864 = .ok (.iaload, 1) := by decide +kernel
theorem dL_law_865 : decode code 865 = .ok (.i2l, 1) := by decide +kernel
theorem dL_law_866 : decode code 866 = .ok (.ldc2_w 91, 3) := by decide +kernel
theorem dL_law_869 : decode code 869 = .ok (.land, 1) := by decide +kernel
theorem dL_law_870 : decode code 870 = .ok (.lor, 1) := by decide +kernel
theorem dL_law_871 : decode code 871 = .ok (.aload_n 0, 1) := by decide +kernel
theorem dL_law_872 : decode code 872 = .ok (.iload 4, 2) := by decide +kernel
theorem dL_law_874 : decode code 874 = .ok (.iconst 4, 1) := by decide +kernel
theorem dL_law_875 : decode code 875 = .ok (.iadd, 1) := by decide +kernel
theorem dL_law_876 : decode code 876 = .ok (.iaload, 1) := by decide +kernel
theorem dL_law_877 : decode code 877 = .ok (.i2l, 1) := by decide +kernel
theorem dL_law_878 : decode code 878 = .ok (.bipush 32, 2) := by decide +kernel
theorem dL_law_880 : decode code 880 = .ok (.lshl, 1) := by decide +kernel
theorem dL_law_881 : decode code 881 = .ok (.aload_n 0, 1) := by decide +kernel
theorem dL_law_882 : decode code 882 = .ok (.iload 4, 2) := by decide +kernel
theorem dL_law_884 : decode code 884 = .ok (.iconst 5, 1) := by decide +kernel
theorem dL_law_885 : decode code 885 = .ok (.iadd, 1) := by decide +kernel
theorem dL_law_886 : decode code 886 = .ok (.iaload, 1) := by decide +kernel
theorem dL_law_887 : decode code 887 = .ok (.i2l, 1) := by decide +kernel
theorem dL_law_888 : decode code 888 = .ok (.ldc2_w 91, 3) := by decide +kernel
theorem dL_law_891 : decode code 891 = .ok (.land, 1) := by decide +kernel
theorem dL_law_892 : decode code 892 = .ok (.lor, 1) := by decide +kernel
theorem dL_law_893 : decode code 893 = .ok (.aload_n 0, 1) := by decide +kernel
theorem dL_law_894 : decode code 894 = .ok (.iload 4, 2) := by decide +kernel
theorem dL_law_896 : decode code 896 = .ok (.bipush 6, 2) := by decide +kernel
theorem dL_law_898 : decode code 898 = .ok (.iadd, 1) := by decide +kernel
theorem dL_law_899 : decode code 899 = .ok (.iaload, 1) := by decide +kernel
theorem dL_law_900 : decode code 900 = .ok (.i2l, 1) := by decide +kernel
theorem dL_law_901 : decode code 901 = .ok (.bipush 32, 2) := by decide +kernel
theorem dL_law_903 : decode code 903 = .ok (.lshl, 1) := by decide +kernel
theorem dL_law_904 : decode code 904 = .ok (.aload_n 0, 1) := by decide +kernel
theorem dL_law_905 : decode code 905 = .ok (.iload 4, 2) := by decide +kernel
theorem dL_law_907 : decode code 907 = .ok (.bipush 7, 2) := by decide +kernel
theorem dL_law_909 : decode code 909 = .ok (.iadd, 1) := by decide +kernel
theorem dL_law_910 : decode code 910 = .ok (.iaload, 1) := by decide +kernel
theorem dL_law_911 : decode code 911 = .ok (.i2l, 1) := by decide +kernel
theorem dL_law_912 : decode code 912 = .ok (.ldc2_w 91, 3) := by decide +kernel
theorem dL_law_915 : decode code 915 = .ok (.land, 1) := by decide +kernel
theorem dL_law_916 : decode code 916 = .ok (.lor, 1) := by decide +kernel
theorem dL_law_917 : decode code 917 = .ok (.aload_n 0, 1) := by decide +kernel
theorem dL_law_918 : decode code 918 = .ok (.iload 4, 2) := by decide +kernel
theorem dL_law_920 : decode code 920 = .ok (.bipush 8, 2) := by decide +kernel
theorem dL_law_922 : decode code 922 = .ok (.iadd, 1) := by decide +kernel
theorem dL_law_923 : decode code 923 = .ok (.iaload, 1) := by decide +kernel
theorem dL_law_924 : decode code 924 = .ok (.i2l, 1) := by decide +kernel
theorem dL_law_925 : decode code 925 = .ok (.bipush 32, 2) := by decide +kernel
theorem dL_law_927 : decode code 927 = .ok (.lshl, 1) := by decide +kernel
theorem dL_law_928 : decode code 928 = .ok (.aload_n 0, 1) := by decide +kernel
theorem dL_law_929 : decode code 929 = .ok (.iload 4, 2) := by decide +kernel
theorem dL_law_931 : decode code 931 = .ok (.bipush 9, 2) := by decide +kernel
theorem dL_law_933 : decode code 933 = .ok (.iadd, 1) := by decide +kernel
theorem dL_law_934 : decode code 934 = .ok (.iaload, 1) := by decide +kernel
theorem dL_law_935 : decode code 935 = .ok (.i2l, 1) := by decide +kernel
theorem dL_law_936 : decode code 936 = .ok (.ldc2_w 91, 3) := by decide +kernel
theorem dL_law_939 : decode code 939 = .ok (.land, 1) := by decide +kernel
theorem dL_law_940 : decode code 940 = .ok (.lor, 1) := by decide +kernel
theorem dL_law_941 : decode code 941 = .ok (.invokevirtual 119, 3) := by decide +kernel
theorem dL_law_944 : decode code 944 = .ok (.istore 6, 2) := by decide +kernel
theorem dL_law_946 : decode code 946 = .ok (.aload_n 2, 1) := by decide +kernel
theorem dL_law_947 : decode code 947 = .ok (.invokevirtual 83, 3) := by decide +kernel
theorem dL_law_950 : decode code 950 = .ok (.iload 5, 2) := by decide +kernel
theorem dL_law_952 : decode code 952 = .ok (.if_icmp .eq 5, 3) := by decide +kernel
theorem dL_law_955 : decode code 955 = .ok (.iconst 0, 1) := by decide +kernel
theorem dL_law_956 : decode code 956 = .ok (.ireturn, 1) := by decide +kernel
theorem dL_law_957 : decode code 957 = .ok (.iload 5, 2) := by decide +kernel
theorem dL_law_959 : decode code 959 = .ok (.ifCond .ne 22, 3) := by decide +kernel
theorem dL_law_962 : decode code 962 = .ok (.aload_n 3, 1) := by decide +kernel
theorem dL_law_963 : decode code 963 = .ok (.iconst 0, 1) := by decide +kernel
theorem dL_law_964 : decode code 964 = .ok (.laload, 1) := by decide +kernel
theorem dL_law_965 : decode code 965 = .ok (.iload 6, 2) := by decide +kernel
theorem dL_law_967 : decode code 967 = .ok (.ifCond .eq 7, 3) := by decide +kernel
theorem dL_law_970 : decode code 970 = .ok (.lconst 1, 1) := by decide +kernel
theorem dL_law_971 : decode code 971 = .ok (.goto 4, 3) := by decide +kernel
theorem dL_law_974 : decode code 974 = .ok (.lconst 0, 1) := by decide +kernel
theorem dL_law_975 : decode code 975 = .ok (.lcmp, 1) := by decide +kernel
theorem dL_law_976 : decode code 976 = .ok (.ifCond .eq 5, 3) := by decide +kernel
theorem dL_law_979 : decode code 979 = .ok (.iconst 0, 1) := by decide +kernel
theorem dL_law_980 : decode code 980 = .ok (.ireturn, 1) := by decide +kernel
theorem dL_law_981 : decode code 981 = .ok (.goto 570, 3) := by decide +kernel
theorem dL_law_984 : decode code 984 = .ok (.aload_n 1, 1) := by decide +kernel
theorem dL_law_985 : decode code 985 = .ok (.aload_n 0, 1) := by decide +kernel
theorem dL_law_986 : decode code 986 = .ok (.iload 4, 2) := by decide +kernel
theorem dL_law_988 : decode code 988 = .ok (.iconst 1, 1) := by decide +kernel
theorem dL_law_989 : decode code 989 = .ok (.iadd, 1) := by decide +kernel
theorem dL_law_990 : decode code 990 = .ok (.iaload, 1) := by decide +kernel
theorem dL_law_991 : decode code 991 = .ok (.aload_n 0, 1) := by decide +kernel
theorem dL_law_992 : decode code 992 = .ok (.iload 4, 2) := by decide +kernel
theorem dL_law_994 : decode code 994 = .ok (.iconst 2, 1) := by decide +kernel
theorem dL_law_995 : decode code 995 = .ok (.iadd, 1) := by decide +kernel
theorem dL_law_996 : decode code 996 = .ok (.iaload, 1) := by decide +kernel
theorem dL_law_997 : decode code 997 = .ok (.aload_n 0, 1) := by decide +kernel
theorem dL_law_998 : decode code 998 = .ok (.iload 4, 2) := by decide +kernel
theorem dL_law_1000 : decode code 1000 = .ok (.iconst 3, 1) := by decide +kernel
theorem dL_law_1001 : decode code 1001 = .ok (.iadd, 1) := by decide +kernel
theorem dL_law_1002 : decode code 1002 = .ok (.iaload, 1) := by decide +kernel
theorem dL_law_1003 : decode code 1003 = .ok (.i2l, 1) := by decide +kernel
theorem dL_law_1004 : decode code 1004 = .ok (.bipush 32, 2) := by decide +kernel
theorem dL_law_1006 : decode code 1006 = .ok (.lshl, 1) := by decide +kernel
theorem dL_law_1007 : decode code 1007 = .ok (.aload_n 0, 1) := by decide +kernel
theorem dL_law_1008 : decode code 1008 = .ok (.iload 4, 2) := by decide +kernel
theorem dL_law_1010 : decode code 1010 = .ok (.iconst 4, 1) := by decide +kernel
theorem dL_law_1011 : decode code 1011 = .ok (.iadd, 1) := by decide +kernel
theorem dL_law_1012 : decode code 1012 = .ok (.iaload, 1) := by decide +kernel
theorem dL_law_1013 : decode code 1013 = .ok (.i2l, 1) := by decide +kernel
theorem dL_law_1014 : decode code 1014 = .ok (.ldc2_w 91, 3) := by decide +kernel
theorem dL_law_1017 : decode code 1017 = .ok (.land, 1) := by decide +kernel
theorem dL_law_1018 : decode code 1018 = .ok (.lor, 1) := by decide +kernel
theorem dL_law_1019 : decode code 1019 = .ok (.aload_n 3, 1) := by decide +kernel
theorem dL_law_1020 : decode code 1020 = .ok (.invokestatic 120, 3) := by decide +kernel
theorem dL_law_1023 : decode code 1023 = .ok (.istore 5, 2) := by decide +kernel
theorem dL_law_1025 : decode code 1025 = .ok (.aload_n 2, 1) := by decide +kernel
theorem dL_law_1026 : decode code 1026 = .ok (.aload_n 0, 1) := by decide +kernel
theorem dL_law_1027 : decode code 1027 = .ok (.iload 4, 2) := by decide +kernel
theorem dL_law_1029 : decode code 1029 = .ok (.iconst 1, 1) := by decide +kernel
theorem dL_law_1030 : decode code 1030 = .ok (.iadd, 1) := by decide +kernel
theorem dL_law_1031 : decode code 1031 = .ok (.iaload, 1) := by decide +kernel
theorem dL_law_1032 : decode code 1032 = .ok (.aload_n 0, 1) := by decide +kernel
theorem dL_law_1033 : decode code 1033 = .ok (.iload 4, 2) := by decide +kernel
theorem dL_law_1035 : decode code 1035 = .ok (.iconst 2, 1) := by decide +kernel
theorem dL_law_1036 : decode code 1036 = .ok (.iadd, 1) := by decide +kernel
theorem dL_law_1037 : decode code 1037 = .ok (.iaload, 1) := by decide +kernel
theorem dL_law_1038 : decode code 1038 = .ok (.aload_n 0, 1) := by decide +kernel
theorem dL_law_1039 : decode code 1039 = .ok (.iload 4, 2) := by decide +kernel
theorem dL_law_1041 : decode code 1041 = .ok (.iconst 3, 1) := by decide +kernel
theorem dL_law_1042 : decode code 1042 = .ok (.iadd, 1) := by decide +kernel
theorem dL_law_1043 : decode code 1043 = .ok (.iaload, 1) := by decide +kernel
theorem dL_law_1044 : decode code 1044 = .ok (.i2l, 1) := by decide +kernel
theorem dL_law_1045 : decode code 1045 = .ok (.bipush 32, 2) := by decide +kernel
theorem dL_law_1047 : decode code 1047 = .ok (.lshl, 1) := by decide +kernel
theorem dL_law_1048 : decode code 1048 = .ok (.aload_n 0, 1) := by decide +kernel
theorem dL_law_1049 : decode code 1049 = .ok (.iload 4, 2) := by decide +kernel
theorem dL_law_1051 : decode code 1051 = .ok (.iconst 4, 1) := by decide +kernel
theorem dL_law_1052 : decode code 1052 = .ok (.iadd, 1) := by decide +kernel
theorem dL_law_1053 : decode code 1053 = .ok (.iaload, 1) := by decide +kernel
theorem dL_law_1054 : decode code 1054 = .ok (.i2l, 1) := by decide +kernel
theorem dL_law_1055 : decode code 1055 = .ok (.ldc2_w 91, 3) := by decide +kernel
theorem dL_law_1058 : decode code 1058 = .ok (.land, 1) := by decide +kernel
theorem dL_law_1059 : decode code 1059 = .ok (.lor, 1) := by decide +kernel
theorem dL_law_1060 : decode code 1060 = .ok (.invokevirtual 123, 3) := by decide +kernel
theorem dL_law_1063 : decode code 1063 = .ok (.istore 6, 2) := by decide +kernel
theorem dL_law_1065 : decode code 1065 = .ok (.aload_n 2, 1) := by decide +kernel
theorem dL_law_1066 : decode code 1066 = .ok (.invokevirtual 83, 3) := by decide +kernel
theorem dL_law_1069 : decode code 1069 = .ok (.iload 5, 2) := by decide +kernel
theorem dL_law_1071 : decode code 1071 = .ok (.if_icmp .eq 5, 3) := by decide +kernel
theorem dL_law_1074 : decode code 1074 = .ok (.iconst 0, 1) := by decide +kernel
theorem dL_law_1075 : decode code 1075 = .ok (.ireturn, 1) := by decide +kernel
theorem dL_law_1076 : decode code 1076 = .ok (.iload 5, 2) := by decide +kernel
theorem dL_law_1078 : decode code 1078 = .ok (.ifCond .ne 22, 3) := by decide +kernel
theorem dL_law_1081 : decode code 1081 = .ok (.aload_n 3, 1) := by decide +kernel
theorem dL_law_1082 : decode code 1082 = .ok (.iconst 0, 1) := by decide +kernel
theorem dL_law_1083 : decode code 1083 = .ok (.laload, 1) := by decide +kernel
theorem dL_law_1084 : decode code 1084 = .ok (.iload 6, 2) := by decide +kernel
theorem dL_law_1086 : decode code 1086 = .ok (.ifCond .eq 7, 3) := by decide +kernel
theorem dL_law_1089 : decode code 1089 = .ok (.lconst 1, 1) := by decide +kernel
theorem dL_law_1090 : decode code 1090 = .ok (.goto 4, 3) := by decide +kernel
theorem dL_law_1093 : decode code 1093 = .ok (.lconst 0, 1) := by decide +kernel
theorem dL_law_1094 : decode code 1094 = .ok (.lcmp, 1) := by decide +kernel
theorem dL_law_1095 : decode code 1095 = .ok (.ifCond .eq 5, 3) := by decide +kernel
theorem dL_law_1098 : decode code 1098 = .ok (.iconst 0, 1) := by decide +kernel
theorem dL_law_1099 : decode code 1099 = .ok (.ireturn, 1) := by decide +kernel
theorem dL_law_1100 : decode code 1100 = .ok (.goto 451, 3) := by decide +kernel
theorem dL_law_1103 : decode code 1103 = .ok (.aload_n 1, 1) := by decide +kernel
theorem dL_law_1104 : decode code 1104 = .ok (.aload_n 0, 1) := by decide +kernel
theorem dL_law_1105 : decode code 1105 = .ok (.iload 4, 2) := by decide +kernel
theorem dL_law_1107 : decode code 1107 = .ok (.iconst 1, 1) := by decide +kernel
theorem dL_law_1108 : decode code 1108 = .ok (.iadd, 1) := by decide +kernel
theorem dL_law_1109 : decode code 1109 = .ok (.iaload, 1) := by decide +kernel
theorem dL_law_1110 : decode code 1110 = .ok (.aload_n 0, 1) := by decide +kernel
theorem dL_law_1111 : decode code 1111 = .ok (.iload 4, 2) := by decide +kernel
theorem dL_law_1113 : decode code 1113 = .ok (.iconst 2, 1) := by decide +kernel
theorem dL_law_1114 : decode code 1114 = .ok (.iadd, 1) := by decide +kernel
theorem dL_law_1115 : decode code 1115 = .ok (.iaload, 1) := by decide +kernel
theorem dL_law_1116 : decode code 1116 = .ok (.aload_n 3, 1) := by decide +kernel
theorem dL_law_1117 : decode code 1117 = .ok (.invokestatic 124, 3) := by decide +kernel
theorem dL_law_1120 : decode code 1120 = .ok (.istore 5, 2) := by decide +kernel
theorem dL_law_1122 : decode code 1122 = .ok (.aload_n 2, 1) := by decide +kernel
theorem dL_law_1123 : decode code 1123 = .ok (.aload_n 0, 1) := by decide +kernel
theorem dL_law_1124 : decode code 1124 = .ok (.iload 4, 2) := by decide +kernel
theorem dL_law_1126 : decode code 1126 = .ok (.iconst 1, 1) := by decide +kernel
theorem dL_law_1127 : decode code 1127 = .ok (.iadd, 1) := by decide +kernel
theorem dL_law_1128 : decode code 1128 = .ok (.iaload, 1) := by decide +kernel
theorem dL_law_1129 : decode code 1129 = .ok (.aload_n 0, 1) := by decide +kernel
theorem dL_law_1130 : decode code 1130 = .ok (.iload 4, 2) := by decide +kernel
theorem dL_law_1132 : decode code 1132 = .ok (.iconst 2, 1) := by decide +kernel
theorem dL_law_1133 : decode code 1133 = .ok (.iadd, 1) := by decide +kernel
theorem dL_law_1134 : decode code 1134 = .ok (.iaload, 1) := by decide +kernel
theorem dL_law_1135 : decode code 1135 = .ok (.invokevirtual 126, 3) := by decide +kernel
theorem dL_law_1138 : decode code 1138 = .ok (.istore 6, 2) := by decide +kernel
theorem dL_law_1140 : decode code 1140 = .ok (.aload_n 2, 1) := by decide +kernel
theorem dL_law_1141 : decode code 1141 = .ok (.invokevirtual 83, 3) := by decide +kernel
theorem dL_law_1144 : decode code 1144 = .ok (.iload 5, 2) := by decide +kernel
theorem dL_law_1146 : decode code 1146 = .ok (.if_icmp .eq 5, 3) := by decide +kernel
theorem dL_law_1149 : decode code 1149 = .ok (.iconst 0, 1) := by decide +kernel
theorem dL_law_1150 : decode code 1150 = .ok (.ireturn, 1) := by decide +kernel
theorem dL_law_1151 : decode code 1151 = .ok (.iload 5, 2) := by decide +kernel
theorem dL_law_1153 : decode code 1153 = .ok (.ifCond .ne 15, 3) := by decide +kernel
theorem dL_law_1156 : decode code 1156 = .ok (.aload_n 3, 1) := by decide +kernel
theorem dL_law_1157 : decode code 1157 = .ok (.iconst 0, 1) := by decide +kernel
theorem dL_law_1158 : decode code 1158 = .ok (.laload, 1) := by decide +kernel
theorem dL_law_1159 : decode code 1159 = .ok (.iload 6, 2) := by decide +kernel
theorem dL_law_1161 : decode code 1161 = .ok (.i2l, 1) := by decide +kernel
theorem dL_law_1162 : decode code 1162 = .ok (.lcmp, 1) := by decide +kernel
theorem dL_law_1163 : decode code 1163 = .ok (.ifCond .eq 5, 3) := by decide +kernel
theorem dL_law_1166 : decode code 1166 = .ok (.iconst 0, 1) := by decide +kernel
theorem dL_law_1167 : decode code 1167 = .ok (.ireturn, 1) := by decide +kernel
theorem dL_law_1168 : decode code 1168 = .ok (.goto 383, 3) := by decide +kernel
theorem dL_law_1171 : decode code 1171 = .ok (.aload_n 1, 1) := by decide +kernel
theorem dL_law_1172 : decode code 1172 = .ok (.invokevirtual 127, 3) := by decide +kernel
theorem dL_law_1175 : decode code 1175 = .ok (.aload_n 2, 1) := by decide +kernel
theorem dL_law_1176 : decode code 1176 = .ok (.invokevirtual 130, 3) := by decide +kernel
theorem dL_law_1179 : decode code 1179 = .ok (.if_icmp .eq 372, 3) := by decide +kernel
theorem dL_law_1182 : decode code 1182 = .ok (.iconst 0, 1) := by decide +kernel
theorem dL_law_1183 : decode code 1183 = .ok (.ireturn, 1) := by decide +kernel
theorem dL_law_1184 : decode code 1184 = .ok (.aload_n 1, 1) := by decide +kernel
theorem dL_law_1185 : decode code 1185 = .ok (.aload_n 0, 1) := by decide +kernel
theorem dL_law_1186 : decode code 1186 = .ok (.iload 4, 2) := by decide +kernel
theorem dL_law_1188 : decode code 1188 = .ok (.iconst 1, 1) := by decide +kernel
theorem dL_law_1189 : decode code 1189 = .ok (.iadd, 1) := by decide +kernel
theorem dL_law_1190 : decode code 1190 = .ok (.iaload, 1) := by decide +kernel
theorem dL_law_1191 : decode code 1191 = .ok (.aload_n 0, 1) := by decide +kernel
theorem dL_law_1192 : decode code 1192 = .ok (.iload 4, 2) := by decide +kernel
theorem dL_law_1194 : decode code 1194 = .ok (.iconst 2, 1) := by decide +kernel
theorem dL_law_1195 : decode code 1195 = .ok (.iadd, 1) := by decide +kernel
theorem dL_law_1196 : decode code 1196 = .ok (.iaload, 1) := by decide +kernel
theorem dL_law_1197 : decode code 1197 = .ok (.aload_n 0, 1) := by decide +kernel
theorem dL_law_1198 : decode code 1198 = .ok (.iload 4, 2) := by decide +kernel
theorem dL_law_1200 : decode code 1200 = .ok (.iconst 3, 1) := by decide +kernel
theorem dL_law_1201 : decode code 1201 = .ok (.iadd, 1) := by decide +kernel
theorem dL_law_1202 : decode code 1202 = .ok (.iaload, 1) := by decide +kernel
theorem dL_law_1203 : decode code 1203 = .ok (.aload_n 3, 1) := by decide +kernel
theorem dL_law_1204 : decode code 1204 = .ok (.invokestatic 131, 3) := by decide +kernel
