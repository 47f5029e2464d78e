theorem dL_law_852 : decode cL_law 852 = .ok (.iload 12, 2) := by decide +kernel
theorem dL_law_854 : decode cL_law 854 = .ok (.iconst 1, 1) := by decide +kernel
theorem dL_law_855 : decode cL_law 855 = .ok (.iload 19, 2) := by decide +kernel
theorem dL_law_857 : decode cL_law 857 = .ok (.iadd, 1) := by decide +kernel
theorem dL_law_858 : decode cL_law 858 = .ok (.invokestatic 29, 3) := by decide +kernel
theorem dL_law_861 : decode cL_law 861 = .ok (.istore 20, 2) := by decide +kernel
theorem dL_law_863 : decode cL_law 863 = .ok (.aload_n 3, 1) := by decide +kernel
theorem dL_law_864 : decode cL_law 864 = .ok (.aload 4, 2) := by decide +kernel
theorem dL_law_866 : decode cL_law 866 = .ok (.iload 13, 2) := by decide +kernel
theorem dL_law_868 : decode cL_law 868 = .ok (.iconst 1, 1) := by decide +kernel
theorem dL_law_869 : decode cL_law 869 = .ok (.iload 19, 2) := by decide +kernel
theorem dL_law_871 : decode cL_law 871 = .ok (.iadd, 1) := by decide +kernel
theorem dL_law_872 : decode cL_law 872 = .ok (.invokestatic 29, 3) := by decide +kernel
theorem dL_law_875 : decode cL_law 875 = .ok (.istore 21, 2) := by decide +kernel
theorem dL_law_877 : decode cL_law 877 = .ok (.iload 20, 2) := by decide +kernel
theorem dL_law_879 : decode cL_law 879 = .ok (.iload 21, 2) := by decide +kernel
theorem dL_law_881 : decode cL_law 881 = .ok (.invokestatic 45, 3) := by decide +kernel
theorem dL_law_884 : decode cL_law 884 = .ok (.iload 17, 2) := by decide +kernel
theorem dL_law_886 : decode cL_law 886 = .ok (.imul, 1) := by decide +kernel
theorem dL_law_887 : decode cL_law 887 = .ok (.istore 22, 2) := by decide +kernel
theorem dL_law_889 : decode cL_law 889 = .ok (.iload 22, 2) := by decide +kernel
theorem dL_law_891 : decode cL_law 891 = .ok (.iload 22, 2) := by decide +kernel
theorem dL_law_893 : decode cL_law 893 = .ok (.bipush 10, 2) := by decide +kernel
theorem dL_law_895 : decode cL_law 895 = .ok (.irem, 1) := by decide +kernel
theorem dL_law_896 : decode cL_law 896 = .ok (.isub, 1) := by decide +kernel
theorem dL_law_897 : decode cL_law 897 = .ok (.bipush 10, 2) := by decide +kernel
theorem dL_law_899 : decode cL_law 899 = .ok (.idiv, 1) := by decide +kernel
theorem dL_law_900 : decode cL_law 900 = .ok (.istore 22, 2) := by decide +kernel
theorem dL_law_902 : decode cL_law 902 = .ok (.iload 21, 2) := by decide +kernel
theorem dL_law_904 : decode cL_law 904 = .ok (.iload 20, 2) := by decide +kernel
theorem dL_law_906 : decode cL_law 906 = .ok (.if_icmp .ge 11, 3) := by decide +kernel
theorem dL_law_909 : decode cL_law 909 = .ok (.iload 20, 2) := by decide +kernel
theorem dL_law_911 : decode cL_law 911 = .ok (.iload 22, 2) := by decide +kernel
theorem dL_law_913 : decode cL_law 913 = .ok (.isub, 1) := by decide +kernel
theorem dL_law_914 : decode cL_law 914 = .ok (.goto 8, 3) := by decide +kernel
theorem dL_law_917 : decode cL_law 917 = .ok (.iload 20, 2) := by decide +kernel
theorem dL_law_919 : decode cL_law 919 = .ok (.iload 22, 2) := by decide +kernel
theorem dL_law_921 : decode cL_law 921 = .ok (.iadd, 1) := by decide +kernel
theorem dL_law_922 : decode cL_law 922 = .ok (.istore 23, 2) := by decide +kernel
theorem dL_law_924 : decode cL_law 924 = .ok (.iload 18, 2) := by decide +kernel
theorem dL_law_926 : decode cL_law 926 = .ok (.bipush 8, 2) := by decide +kernel
theorem dL_law_928 : decode cL_law 928 = .ok (.iload 23, 2) := by decide +kernel
theorem dL_law_930 : decode cL_law 930 = .ok (.iload 21, 2) := by decide +kernel
theorem dL_law_932 : decode cL_law 932 = .ok (.invokestatic 45, 3) := by decide +kernel
theorem dL_law_935 : decode cL_law 935 = .ok (.imul, 1) := by decide +kernel
theorem dL_law_936 : decode cL_law 936 = .ok (.iadd, 1) := by decide +kernel
theorem dL_law_937 : decode cL_law 937 = .ok (.istore 18, 2) := by decide +kernel
theorem dL_law_939 : decode cL_law 939 = .ok (.aload_n 1, 1) := by decide +kernel
theorem dL_law_940 : decode cL_law 940 = .ok (.iload 12, 2) := by decide +kernel
theorem dL_law_942 : decode cL_law 942 = .ok (.iload 13, 2) := by decide +kernel
theorem dL_law_944 : decode cL_law 944 = .ok (.iload 17, 2) := by decide +kernel
theorem dL_law_946 : decode cL_law 946 = .ok (.iload 19, 2) := by decide +kernel
theorem dL_law_948 : decode cL_law 948 = .ok (.invokevirtual 85, 3) := by decide +kernel
theorem dL_law_951 : decode cL_law 951 = .ok (.iload 23, 2) := by decide +kernel
theorem dL_law_953 : decode cL_law 953 = .ok (.if_icmp .eq 5, 3) := by decide +kernel
theorem dL_law_956 : decode cL_law 956 = .ok (.iconst 0, 1) := by decide +kernel
theorem dL_law_957 : decode cL_law 957 = .ok (.ireturn, 1) := by decide +kernel
theorem dL_law_958 : decode cL_law 958 = .ok (.iinc 19 1, 3) := by decide +kernel
theorem dL_law_961 : decode cL_law 961 = .ok (.goto (-119), 3) := by decide +kernel
theorem dL_law_964 : decode cL_law 964 = .ok (.iload 18, 2) := by decide +kernel
theorem dL_law_966 : decode cL_law 966 = .ok (.iload 10, 2) := by decide +kernel
theorem dL_law_968 : decode cL_law 968 = .ok (.if_icmp .gt 8, 3) := by decide +kernel
theorem dL_law_971 : decode cL_law 971 = .ok (.iload 17, 2) := by decide +kernel
theorem dL_law_973 : decode cL_law 973 = .ok (.goto 5, 3) := by decide +kernel
theorem dL_law_976 : decode cL_law 976 = .ok (.iload 16, 2) := by decide +kernel
theorem dL_law_978 : decode cL_law 978 = .ok (.istore 16, 2) := by decide +kernel
theorem dL_law_980 : decode cL_law 980 = .ok (.iinc 17 (-1), 3) := by decide +kernel
theorem dL_law_983 : decode cL_law 983 = .ok (.goto (-152), 3) := by decide +kernel
theorem dL_law_986 : decode cL_law 986 = .ok (.aload_n 1, 1) := by decide +kernel
theorem dL_law_987 : decode cL_law 987 = .ok (.iload 12, 2) := by decide +kernel
theorem dL_law_989 : decode cL_law 989 = .ok (.iload 13, 2) := by decide +kernel
theorem dL_law_991 : decode cL_law 991 = .ok (.invokevirtual 88, 3) := by decide +kernel
theorem dL_law_994 : decode cL_law 994 = .ok (.iload 16, 2) := by decide +kernel
theorem dL_law_996 : decode cL_law 996 = .ok (.if_icmp .ne 44, 3) := by decide +kernel
theorem dL_law_999 : decode cL_law 999 = .ok (.aload_n 1, 1) := by decide +kernel
theorem dL_law_1000 : decode cL_law 1000 = .ok (.iload 12, 2) := by decide +kernel
theorem dL_law_1002 : decode cL_law 1002 = .ok (.iload 12, 2) := by decide +kernel
theorem dL_law_1004 : decode cL_law 1004 = .ok (.invokevirtual 88, 3) := by decide +kernel
theorem dL_law_1007 : decode cL_law 1007 = .ok (.iconst (-1), 1) := by decide +kernel
theorem dL_law_1008 : decode cL_law 1008 = .ok (.if_icmp .ne 32, 3) := by decide +kernel
theorem dL_law_1011 : decode cL_law 1011 = .ok (.aload_n 1, 1) := by decide +kernel
theorem dL_law_1012 : decode cL_law 1012 = .ok (.iload 12, 2) := by decide +kernel
theorem dL_law_1014 : decode cL_law 1014 = .ok (.iload 13, 2) := by decide +kernel
theorem dL_law_1016 : decode cL_law 1016 = .ok (.iconst (-1), 1) := by decide +kernel
theorem dL_law_1017 : decode cL_law 1017 = .ok (.iconst 0, 1) := by decide +kernel
theorem dL_law_1018 : decode cL_law 1018 = .ok (.invokevirtual 85, 3) := by decide +kernel
theorem dL_law_1021 : decode cL_law 1021 = .ok (.bipush (-2), 2) := by decide +kernel
theorem dL_law_1023 : decode cL_law 1023 = .ok (.if_icmp .ne 17, 3) := by decide +kernel
theorem dL_law_1026 : decode cL_law 1026 = .ok (.aload_n 1, 1) := by decide +kernel
theorem dL_law_1027 : decode cL_law 1027 = .ok (.iload 12, 2) := by decide +kernel
theorem dL_law_1029 : decode cL_law 1029 = .ok (.iload 5, 2) := by decide +kernel
theorem dL_law_1031 : decode cL_law 1031 = .ok (.iconst 0, 1) := by decide +kernel
theorem dL_law_1032 : decode cL_law 1032 = .ok (.iconst 0, 1) := by decide +kernel
theorem dL_law_1033 : decode cL_law 1033 = .ok (.invokevirtual 85, 3) := by decide +kernel
theorem dL_law_1036 : decode cL_law 1036 = .ok (.iconst (-1), 1) := by decide +kernel
theorem dL_law_1037 : decode cL_law 1037 = .ok (.if_icmp .eq 5, 3) := by decide +kernel
theorem dL_law_1040 : decode cL_law 1040 = .ok (.iconst 0, 1) := by decide +kernel
theorem dL_law_1041 : decode cL_law 1041 = .ok (.ireturn, 1) := by decide +kernel
theorem dL_law_1042 : decode cL_law 1042 = .ok (.iload 6, 2) := by decide +kernel
theorem dL_law_1044 : decode cL_law 1044 = .ok (.ifCond .ne 284, 3) := by decide +kernel
theorem dL_law_1047 : decode cL_law 1047 = .ok (.iconst (-1), 1) := by decide +kernel
theorem dL_law_1048 : decode cL_law 1048 = .ok (.istore 17, 2) := by decide +kernel
theorem dL_law_1050 : decode cL_law 1050 = .ok (.iconst 0, 1) := by decide +kernel
theorem dL_law_1051 : decode cL_law 1051 = .ok (.istore 18, 2) := by decide +kernel
theorem dL_law_1053 : decode cL_law 1053 = .ok (.bipush 80, 2) := by decide +kernel
theorem dL_law_1055 : decode cL_law 1055 = .ok (.istore 19, 2) := by decide +kernel
theorem dL_law_1057 : decode cL_law 1057 = .ok (.iload 19, 2) := by decide +kernel
theorem dL_law_1059 : decode cL_law 1059 = .ok (.ifCond .lt 188, 3) := by decide +kernel
theorem dL_law_1062 : decode cL_law 1062 = .ok (.bipush 99, 2) := by decide +kernel
theorem dL_law_1064 : decode cL_law 1064 = .ok (.istore 20, 2) := by decide +kernel
theorem dL_law_1066 : decode cL_law 1066 = .ok (.iload 20, 2) := by decide +kernel
theorem dL_law_1068 : decode cL_law 1068 = .ok (.ifCond .lt 173, 3) := by decide +kernel
theorem dL_law_1071 : decode cL_law 1071 = .ok (.iload 19, 2) := by decide +kernel
theorem dL_law_1073 : decode cL_law 1073 = .ok (.bipush 9, 2) := by decide +kernel
theorem dL_law_1075 : decode cL_law 1075 = .ok (.idiv, 1) := by decide +kernel
theorem dL_law_1076 : decode cL_law 1076 = .ok (.iload 19, 2) := by decide +kernel
theorem dL_law_1078 : decode cL_law 1078 = .ok (.bipush 9, 2) := by decide +kernel
theorem dL_law_1080 : decode cL_law 1080 = .ok (.irem, 1) := by decide +kernel
theorem dL_law_1081 : decode cL_law 1081 = .ok (.if_icmp .ge 160, 3) := by decide +kernel
theorem dL_law_1084 : decode cL_law 1084 = .ok (.sipush 9999, 3) := by decide +kernel
theorem dL_law_1087 : decode cL_law 1087 = .ok (.istore 21, 2) := by decide +kernel
theorem dL_law_1089 : decode cL_law 1089 = .ok (.iconst 0, 1) := by decide +kernel
theorem dL_law_1090 : decode cL_law 1090 = .ok (.istore 22, 2) := by decide +kernel
theorem dL_law_1092 : decode cL_law 1092 = .ok (.iload 22, 2) := by decide +kernel
theorem dL_law_1094 : decode cL_law 1094 = .ok (.iload 5, 2) := by decide +kernel
theorem dL_law_1096 : decode cL_law 1096 = .ok (.if_icmp .ge 101, 3) := by decide +kernel
theorem dL_law_1099 : decode cL_law 1099 = .ok (.iconst 0, 1) := by decide +kernel
theorem dL_law_1100 : decode cL_law 1100 = .ok (.istore 23, 2) := by decide +kernel
theorem dL_law_1102 : decode cL_law 1102 = .ok (.iconst 0, 1) := by decide +kernel
theorem dL_law_1103 : decode cL_law 1103 = .ok (.istore 24, 2) := by decide +kernel
theorem dL_law_1105 : decode cL_law 1105 = .ok (.iload 24, 2) := by decide +kernel
theorem dL_law_1107 : decode cL_law 1107 = .ok (.bipush 9, 2) := by decide +kernel
theorem dL_law_1109 : decode cL_law 1109 = .ok (.if_icmp .ge 66, 3) := by decide +kernel
theorem dL_law_1112 : decode cL_law 1112 = .ok (.iload 23, 2) := by decide +kernel
theorem dL_law_1114 : decode cL_law 1114 = .ok (.aload_n 3, 1) := by decide +kernel
theorem dL_law_1115 : decode cL_law 1115 = .ok (.aload 4, 2) := by decide +kernel
theorem dL_law_1117 : decode cL_law 1117 = .ok (.iload 22, 2) := by decide +kernel
theorem dL_law_1119 : decode cL_law 1119 = .ok (.iconst 1, 1) := by decide +kernel
theorem dL_law_1120 : decode cL_law 1120 = .ok (.iload 24, 2) := by decide +kernel
theorem dL_law_1122 : decode cL_law 1122 = .ok (.iadd, 1) := by decide +kernel
theorem dL_law_1123 : decode cL_law 1123 = .ok (.invokestatic 29, 3) := by decide +kernel
theorem dL_law_1126 : decode cL_law 1126 = .ok (.iload 24, 2) := by decide +kernel
theorem dL_law_1128 : decode cL_law 1128 = .ok (.iload 19, 2) := by decide +kernel
theorem dL_law_1130 : decode cL_law 1130 = .ok (.bipush 9, 2) := by decide +kernel
theorem dL_law_1132 : decode cL_law 1132 = .ok (.idiv, 1) := by decide +kernel
theorem dL_law_1133 : decode cL_law 1133 = .ok (.if_icmp .ne 11, 3) := by decide +kernel
theorem dL_law_1136 : decode cL_law 1136 = .ok (.iload 20, 2) := by decide +kernel
theorem dL_law_1138 : decode cL_law 1138 = .ok (.bipush 10, 2) := by decide +kernel
theorem dL_law_1140 : decode cL_law 1140 = .ok (.idiv, 1) := by decide +kernel
theorem dL_law_1141 : decode cL_law 1141 = .ok (.goto 22, 3) := by decide +kernel
theorem dL_law_1144 : decode cL_law 1144 = .ok (.iload 24, 2) := by decide +kernel
theorem dL_law_1146 : decode cL_law 1146 = .ok (.iload 19, 2) := by decide +kernel
theorem dL_law_1148 : decode cL_law 1148 = .ok (.bipush 9, 2) := by decide +kernel
theorem dL_law_1150 : decode cL_law 1150 = .ok (.irem, 1) := by decide +kernel
theorem dL_law_1151 : decode cL_law 1151 = .ok (.if_icmp .ne 11, 3) := by decide +kernel
theorem dL_law_1154 : decode cL_law 1154 = .ok (.iload 20, 2) := by decide +kernel
theorem dL_law_1156 : decode cL_law 1156 = .ok (.bipush 10, 2) := by decide +kernel
theorem dL_law_1158 : decode cL_law 1158 = .ok (.irem, 1) := by decide +kernel
theorem dL_law_1159 : decode cL_law 1159 = .ok (.goto 4, 3) := by decide +kernel
theorem dL_law_1162 : decode cL_law 1162 = .ok (.iconst 0, 1) := by decide +kernel
theorem dL_law_1163 : decode cL_law 1163 = .ok (.invokestatic 45, 3) := by decide +kernel
theorem dL_law_1166 : decode cL_law 1166 = .ok (.iadd, 1) := by decide +kernel
theorem dL_law_1167 : decode cL_law 1167 = .ok (.istore 23, 2) := by decide +kernel
theorem dL_law_1169 : decode cL_law 1169 = .ok (.iinc 24 1, 3) := by decide +kernel
theorem dL_law_1172 : decode cL_law 1172 = .ok (.goto (-67), 3) := by decide +kernel
theorem dL_law_1175 : decode cL_law 1175 = .ok (.iload 23, 2) := by decide +kernel
theorem dL_law_1177 : decode cL_law 1177 = .ok (.iload 21, 2) := by decide +kernel
theorem dL_law_1179 : decode cL_law 1179 = .ok (.if_icmp .ge 8, 3) := by decide +kernel
theorem dL_law_1182 : decode cL_law 1182 = .ok (.iload 23, 2) := by decide +kernel
theorem dL_law_1184 : decode cL_law 1184 = .ok (.goto 5, 3) := by decide +kernel
theorem dL_law_1187 : decode cL_law 1187 = .ok (.iload 21, 2) := by decide +kernel
theorem dL_law_1189 : decode cL_law 1189 = .ok (.istore 21, 2) := by decide +kernel
theorem dL_law_1191 : decode cL_law 1191 = .ok (.iinc 22 1, 3) := by decide +kernel
theorem dL_law_1194 : decode cL_law 1194 = .ok (.goto (-102), 3) := by decide +kernel
theorem dL_law_1197 : decode cL_law 1197 = .ok (.iload 21, 2) := by decide +kernel
theorem dL_law_1199 : decode cL_law 1199 = .ok (.iload 17, 2) := by decide +kernel
theorem dL_law_1201 : decode cL_law 1201 = .ok (.if_icmp .lt 14, 3) := by decide +kernel
theorem dL_law_1204 : decode cL_law 1204 = .ok (.bipush 100, 2) := by decide +kernel
theorem dL_law_1206 : decode cL_law 1206 = .ok (.iload 19, 2) := by decide +kernel
theorem dL_law_1208 : decode cL_law 1208 = .ok (.imul, 1) := by decide +kernel
theorem dL_law_1209 : decode cL_law 1209 = .ok (.iload 20, 2) := by decide +kernel
theorem dL_law_1211 : decode cL_law 1211 = .ok (.iadd, 1) := by decide +kernel
theorem dL_law_1212 : decode cL_law 1212 = .ok (.goto 5, 3) := by decide +kernel
theorem dL_law_1215 : decode cL_law 1215 = .ok (.iload 18, 2) := by decide +kernel
theorem dL_law_1217 : decode cL_law 1217 = .ok (.istore 18, 2) := by decide +kernel
theorem dL_law_1219 : decode cL_law 1219 = .ok (.iload 21, 2) := by decide +kernel
theorem dL_law_1221 : decode cL_law 1221 = .ok (.iload 17, 2) := by decide +kernel
theorem dL_law_1223 : decode cL_law 1223 = .ok (.if_icmp .le 8, 3) := by decide +kernel
theorem dL_law_1226 : decode cL_law 1226 = .ok (.iload 21, 2) := by decide +kernel
theorem dL_law_1228 : decode cL_law 1228 = .ok (.goto 5, 3) := by decide +kernel
theorem dL_law_1231 : decode cL_law 1231 = .ok (.iload 17, 2) := by decide +kernel
theorem dL_law_1233 : decode cL_law 1233 = .ok (.istore 17, 2) := by decide +kernel
theorem dL_law_1235 : decode cL_law 1235 = .ok (.iinc 20 (-1), 3) := by decide +kernel
theorem dL_law_1238 : decode cL_law 1238 = .ok (.goto (-172), 3) := by decide +kernel
theorem dL_law_1241 : decode cL_law 1241 = .ok (.iinc 19 (-1), 3) := by decide +kernel
theorem dL_law_1244 : decode cL_law 1244 = .ok (.goto (-187), 3) := by decide +kernel
theorem dL_law_1247 : decode cL_law 1247 = .ok (.aload_n 1, 1) := by decide +kernel
theorem dL_law_1248 : decode cL_law 1248 = .ok (.iconst 0, 1) := by decide +kernel
theorem dL_law_1249 : decode cL_law 1249 = .ok (.invokevirtual 91, 3) := by decide +kernel
theorem dL_law_1252 : decode cL_law 1252 = .ok (.iload 17, 2) := by decide +kernel
theorem dL_law_1254 : decode cL_law 1254 = .ok (.if_icmp .ne 72, 3) := by decide +kernel
theorem dL_law_1257 : decode cL_law 1257 = .ok (.aload_n 1, 1) := by decide +kernel
theorem dL_law_1258 : decode cL_law 1258 = .ok (.iconst 1, 1) := by decide +kernel
theorem dL_law_1259 : decode cL_law 1259 = .ok (.invokevirtual 91, 3) := by decide +kernel
theorem dL_law_1262 : decode cL_law 1262 = .ok (.iload 18, 2) := by decide +kernel
theorem dL_law_1264 : decode cL_law 1264 = .ok (.sipush 900, 3) := by decide +kernel
theorem dL_law_1267 : decode cL_law 1267 = .ok (.idiv, 1) := by decide +kernel
theorem dL_law_1268 : decode cL_law 1268 = .ok (.if_icmp .ne 58, 3) := by decide +kernel
theorem dL_law_1271 : decode cL_law 1271 = .ok (.aload_n 1, 1) := by decide +kernel
theorem dL_law_1272 : decode cL_law 1272 = .ok (.iconst 2, 1) := by decide +kernel
theorem dL_law_1273 : decode cL_law 1273 = .ok (.invokevirtual 91, 3) := by decide +kernel
theorem dL_law_1276 : decode cL_law 1276 = .ok (.iload 18, 2) := by decide +kernel
theorem dL_law_1278 : decode cL_law 1278 = .ok (.bipush 100, 2) := by decide +kernel
theorem dL_law_1280 : decode cL_law 1280 = .ok (.idiv, 1) := by decide +kernel
theorem dL_law_1281 : decode cL_law 1281 = .ok (.bipush 9, 2) := by decide +kernel
theorem dL_law_1283 : decode cL_law 1283 = .ok (.irem, 1) := by decide +kernel
theorem dL_law_1284 : decode cL_law 1284 = .ok (.if_icmp .ne 42, 3) := by decide +kernel
theorem dL_law_1287 : decode cL_law 1287 = .ok (.aload_n 1, 1) := by decide +kernel
theorem dL_law_1288 : decode cL_law 1288 = .ok (.iconst 3, 1) := by decide +kernel
theorem dL_law_1289 : decode cL_law 1289 = .ok (.invokevirtual 91, 3) := by decide +kernel
theorem dL_law_1292 : decode cL_law 1292 = .ok (.iload 18, 2) := by decide +kernel
theorem dL_law_1294 : decode cL_law 1294 = .ok (.bipush 10, 2) := by decide +kernel
theorem dL_law_1296 : decode cL_law 1296 = .ok (.idiv, 1) := by decide +kernel
theorem dL_law_1297 : decode cL_law 1297 = .ok (.bipush 10, 2) := by decide +kernel
theorem dL_law_1299 : decode cL_law 1299 = .ok (.irem, 1) := by decide +kernel
theorem dL_law_1300 : decode cL_law 1300 = .ok (.if_icmp .ne 26, 3) := by decide +kernel
theorem dL_law_1303 : decode cL_law 1303 = .ok (.aload_n 1, 1) := by decide +kernel
theorem dL_law_1304 : decode cL_law 1304 = .ok (.iconst 4, 1) := by decide +kernel
theorem dL_law_1305 : decode cL_law 1305 = .ok (.invokevirtual 91, 3) := by decide +kernel
theorem dL_law_1308 : decode cL_law 1308 = .ok (.iload 18, 2) := by decide +kernel
theorem dL_law_1310 : decode cL_law 1310 = .ok (.bipush 10, 2) := by decide +kernel
theorem dL_law_1312 : decode cL_law 1312 = .ok (.irem, 1) := by decide +kernel
theorem dL_law_1313 : decode cL_law 1313 = .ok (.if_icmp .ne 13, 3) := by decide +kernel
theorem dL_law_1316 : decode cL_law 1316 = .ok (.aload_n 1, 1) := by decide +kernel
theorem dL_law_1317 : decode cL_law 1317 = .ok (.iconst (-1), 1) := by decide +kernel
theorem dL_law_1318 : decode cL_law 1318 = .ok (.invokevirtual 91, 3) := by decide +kernel
theorem dL_law_1321 : decode cL_law 1321 = .ok (.bipush (-2), 2) := by decide +kernel
theorem dL_law_1323 : decode cL_law 1323 = .ok (.if_icmp .eq 5, 3) := by decide +kernel
theorem dL_law_1326 : decode cL_law 1326 = .ok (.iconst 0, 1) := by decide +kernel
theorem dL_law_1327 : decode cL_law 1327 = .ok (.ireturn, 1) := by decide +kernel
theorem dL_law_1328 : decode cL_law 1328 = .ok (.aload_n 0, 1) := by decide +kernel
theorem dL_law_1329 : decode cL_law 1329 = .ok (.bipush 18, 2) := by decide +kernel
theorem dL_law_1331 : decode cL_law 1331 = .ok (.iload 6, 2) := by decide +kernel
theorem dL_law_1333 : decode cL_law 1333 = .ok (.iadd, 1) := by decide +kernel
theorem dL_law_1334 : decode cL_law 1334 = .ok (.invokestatic 9, 3) := by decide +kernel
theorem dL_law_1337 : decode cL_law 1337 = .ok (.istore 17, 2) := by decide +kernel
theorem dL_law_1339 : decode cL_law 1339 = .ok (.iload 17, 2) := by decide +kernel
theorem dL_law_1341 : decode cL_law 1341 = .ok (.iload 5, 2) := by decide +kernel
theorem dL_law_1343 : decode cL_law 1343 = .ok (.invokestatic 15, 3) := by decide +kernel
theorem dL_law_1346 : decode cL_law 1346 = .ok (.istore 18, 2) := by decide +kernel
theorem dL_law_1348 : decode cL_law 1348 = .ok (.iload 17, 2) := by decide +kernel
theorem dL_law_1350 : decode cL_law 1350 = .ok (.iconst 3, 1) := by decide +kernel
theorem dL_law_1351 : decode cL_law 1351 = .ok (.ishr, 1) := by decide +kernel
theorem dL_law_1352 : decode cL_law 1352 = .ok (.bipush 10, 2) := by decide +kernel
theorem dL_law_1354 : decode cL_law 1354 = .ok (.invokestatic 15, 3) := by decide +kernel
theorem dL_law_1357 : decode cL_law 1357 = .ok (.istore 19, 2) := by decide +kernel
theorem dL_law_1359 : decode cL_law 1359 = .ok (.iload 17, 2) := by decide +kernel
theorem dL_law_1361 : decode cL_law 1361 = .ok (.bipush 7, 2) := by decide +kernel
theorem dL_law_1363 : decode cL_law 1363 = .ok (.ishr, 1) := by decide +kernel
theorem dL_law_1364 : decode cL_law 1364 = .ok (.iconst 4, 1) := by decide +kernel
theorem dL_law_1365 : decode cL_law 1365 = .ok (.invokestatic 15, 3) := by decide +kernel
theorem dL_law_1368 : decode cL_law 1368 = .ok (.istore 20, 2) := by decide +kernel
theorem dL_law_1370 : decode cL_law 1370 = .ok (.bipush 9, 2) := by decide +kernel
theorem dL_law_1372 : decode cL_law 1372 = .ok (.newarray .int, 2) := by decide +kernel
theorem dL_law_1374 : decode cL_law 1374 = .ok (.astore 21, 2) := by decide +kernel
theorem dL_law_1376 : decode cL_law 1376 = .ok (.iconst 0, 1) := by decide +kernel
theorem dL_law_1377 : decode cL_law 1377 = .ok (.istore 22, 2) := by decide +kernel
theorem dL_law_1379 : decode cL_law 1379 = .ok (.iload 22, 2) := by decide +kernel
theorem dL_law_1381 : decode cL_law 1381 = .ok (.bipush 9, 2) := by decide +kernel
theorem dL_law_1383 : decode cL_law 1383 = .ok (.if_icmp .ge 87, 3) := by decide +kernel
theorem dL_law_1386 : decode cL_law 1386 = .ok (.aload_n 2, 1) := by decide +kernel
theorem dL_law_1387 : decode cL_law 1387 = .ok (.aload_n 3, 1) := by decide +kernel
theorem dL_law_1388 : decode cL_law 1388 = .ok (.aload 4, 2) := by decide +kernel
theorem dL_law_1390 : decode cL_law 1390 = .ok (.iload 18, 2) := by decide +kernel
theorem dL_law_1392 : decode cL_law 1392 = .ok (.iconst 0, 1) := by decide +kernel
theorem dL_law_1393 : decode cL_law 1393 = .ok (.invokestatic 29, 3) := by decide +kernel
theorem dL_law_1396 : decode cL_law 1396 = .ok (.iload 22, 2) := by decide +kernel
theorem dL_law_1398 : decode cL_law 1398 = .ok (.bipush 8, 2) := by decide +kernel
theorem dL_law_1400 : decode cL_law 1400 = .ok (.aload_n 3, 1) := by decide +kernel
theorem dL_law_1401 : decode cL_law 1401 = .ok (.aload 4, 2) := by decide +kernel
theorem dL_law_1403 : decode cL_law 1403 = .ok (.iload 18, 2) := by decide +kernel
theorem dL_law_1405 : decode cL_law 1405 = .ok (.iconst 1, 1) := by decide +kernel
theorem dL_law_1406 : decode cL_law 1406 = .ok (.iload 22, 2) := by decide +kernel
theorem dL_law_1408 : decode cL_law 1408 = .ok (.iadd, 1) := by decide +kernel
theorem dL_law_1409 : decode cL_law 1409 = .ok (.invokestatic 29, 3) := by decide +kernel
theorem dL_law_1412 : decode cL_law 1412 = .ok (.imul, 1) := by decide +kernel
theorem dL_law_1413 : decode cL_law 1413 = .ok (.iload 19, 2) := by decide +kernel
theorem dL_law_1415 : decode cL_law 1415 = .ok (.iload 19, 2) := by decide +kernel
theorem dL_law_1417 : decode cL_law 1417 = .ok (.iload 20, 2) := by decide +kernel
theorem dL_law_1419 : decode cL_law 1419 = .ok (.imul, 1) := by decide +kernel
theorem dL_law_1420 : decode cL_law 1420 = .ok (.iadd, 1) := by decide +kernel
theorem dL_law_1421 : decode cL_law 1421 = .ok (.invokestatic 37, 3) := by decide +kernel
theorem dL_law_1424 : decode cL_law 1424 = .ok (.iload 17, 2) := by decide +kernel
theorem dL_law_1426 : decode cL_law 1426 = .ok (.bipush 9, 2) := by decide +kernel
theorem dL_law_1428 : decode cL_law 1428 = .ok (.iload 22, 2) := by decide +kernel
theorem dL_law_1430 : decode cL_law 1430 = .ok (.iadd, 1) := by decide +kernel
theorem dL_law_1431 : decode cL_law 1431 = .ok (.ishr, 1) := by decide +kernel
theorem dL_law_1432 : decode cL_law 1432 = .ok (.iconst 3, 1) := by decide +kernel
theorem dL_law_1433 : decode cL_law 1433 = .ok (.invokestatic 15, 3) := by decide +kernel
theorem dL_law_1436 : decode cL_law 1436 = .ok (.iadd, 1) := by decide +kernel
theorem dL_law_1437 : decode cL_law 1437 = .ok (.istore 23, 2) := by decide +kernel
theorem dL_law_1439 : decode cL_law 1439 = .ok (.aload 21, 2) := by decide +kernel
theorem dL_law_1441 : decode cL_law 1441 = .ok (.iload 22, 2) := by decide +kernel
theorem dL_law_1443 : decode cL_law 1443 = .ok (.iload 23, 2) := by decide +kernel
theorem dL_law_1445 : decode cL_law 1445 = .ok (.iastore, 1) := by decide +kernel
theorem dL_law_1446 : decode cL_law 1446 = .ok (.aload_n 1, 1) := by decide +kernel
theorem dL_law_1447 : decode cL_law 1447 = .ok (.iconst 1, 1) := by decide +kernel
theorem dL_law_1448 : decode cL_law 1448 = .ok (.bipush 10, 2) := by decide +kernel
theorem dL_law_1450 : decode cL_law 1450 = .ok (.iload 22, 2) := by decide +kernel
theorem dL_law_1452 : decode cL_law 1452 = .ok (.iadd, 1) := by decide +kernel
theorem dL_law_1453 : decode cL_law 1453 = .ok (.iload 23, 2) := by decide +kernel
theorem dL_law_1455 : decode cL_law 1455 = .ok (.invokevirtual 19, 3) := by decide +kernel
theorem dL_law_1458 : decode cL_law 1458 = .ok (.iconst 1, 1) := by decide +kernel
theorem dL_law_1459 : decode cL_law 1459 = .ok (.if_icmp .eq 5, 3) := by decide +kernel
theorem dL_law_1462 : decode cL_law 1462 = .ok (.iconst 0, 1) := by decide +kernel
theorem dL_law_1463 : decode cL_law 1463 = .ok (.ireturn, 1) := by decide +kernel
theorem dL_law_1464 : decode cL_law 1464 = .ok (.iinc 22 1, 3) := by decide +kernel
theorem dL_law_1467 : decode cL_law 1467 = .ok (.goto (-88), 3) := by decide +kernel
theorem dL_law_1470 : decode cL_law 1470 = .ok (.iconst 0, 1) := by decide +kernel
theorem dL_law_1471 : decode cL_law 1471 = .ok (.istore 22, 2) := by decide +kernel
theorem dL_law_1473 : decode cL_law 1473 = .ok (.bipush 8, 2) := by decide +kernel
theorem dL_law_1475 : decode cL_law 1475 = .ok (.newarray .int, 2) := by decide +kernel
theorem dL_law_1477 : decode cL_law 1477 = .ok (.astore 23, 2) := by decide +kernel
theorem dL_law_1479 : decode cL_law 1479 = .ok (.iconst 0, 1) := by decide +kernel
theorem dL_law_1480 : decode cL_law 1480 = .ok (.istore 24, 2) := by decide +kernel
theorem dL_law_1482 : decode cL_law 1482 = .ok (.iload 24, 2) := by decide +kernel
theorem dL_law_1484 : decode cL_law 1484 = .ok (.iload 5, 2) := by decide +kernel
theorem dL_law_1486 : decode cL_law 1486 = .ok (.if_icmp .ge 124, 3) := by decide +kernel
theorem dL_law_1489 : decode cL_law 1489 = .ok (.iconst 0, 1) := by decide +kernel
theorem dL_law_1490 : decode cL_law 1490 = .ok (.istore 25, 2) := by decide +kernel
theorem dL_law_1492 : decode cL_law 1492 = .ok (.iload 25, 2) := by decide +kernel
theorem dL_law_1494 : decode cL_law 1494 = .ok (.bipush 10, 2) := by decide +kernel
theorem dL_law_1496 : decode cL_law 1496 = .ok (.if_icmp .ge 98, 3) := by decide +kernel
theorem dL_law_1499 : decode cL_law 1499 = .ok (.iconst 0, 1) := by decide +kernel
theorem dL_law_1500 : decode cL_law 1500 = .ok (.istore 26, 2) := by decide +kernel
theorem dL_law_1502 : decode cL_law 1502 = .ok (.iconst 0, 1) := by decide +kernel
theorem dL_law_1503 : decode cL_law 1503 = .ok (.istore 27, 2) := by decide +kernel
theorem dL_law_1505 : decode cL_law 1505 = .ok (.iload 27, 2) := by decide +kernel
theorem dL_law_1507 : decode cL_law 1507 = .ok (.bipush 9, 2) := by decide +kernel
theorem dL_law_1509 : decode cL_law 1509 = .ok (.if_icmp .ge 59, 3) := by decide +kernel
theorem dL_law_1512 : decode cL_law 1512 = .ok (.iload 26, 2) := by decide +kernel
theorem dL_law_1514 : decode cL_law 1514 = .ok (.aload_n 2, 1) := by decide +kernel
theorem dL_law_1515 : decode cL_law 1515 = .ok (.aload_n 3, 1) := by decide +kernel
theorem dL_law_1516 : decode cL_law 1516 = .ok (.aload 4, 2) := by decide +kernel
theorem dL_law_1518 : decode cL_law 1518 = .ok (.iload 24, 2) := by decide +kernel
theorem dL_law_1520 : decode cL_law 1520 = .ok (.iconst 0, 1) := by decide +kernel
theorem dL_law_1521 : decode cL_law 1521 = .ok (.invokestatic 29, 3) := by decide +kernel
theorem dL_law_1524 : decode cL_law 1524 = .ok (.iload 27, 2) := by decide +kernel
theorem dL_law_1526 : decode cL_law 1526 = .ok (.bipush 8, 2) := by decide +kernel
theorem dL_law_1528 : decode cL_law 1528 = .ok (.aload_n 3, 1) := by decide +kernel
theorem dL_law_1529 : decode cL_law 1529 = .ok (.aload 4, 2) := by decide +kernel
theorem dL_law_1531 : decode cL_law 1531 = .ok (.iload 24, 2) := by decide +kernel
theorem dL_law_1533 : decode cL_law 1533 = .ok (.iconst 1, 1) := by decide +kernel
theorem dL_law_1534 : decode cL_law 1534 = .ok (.iload 27, 2) := by decide +kernel
theorem dL_law_1536 : decode cL_law 1536 = .ok (.iadd, 1) := by decide +kernel
theorem dL_law_1537 : decode cL_law 1537 = .ok (.invokestatic 29, 3) := by decide +kernel
theorem dL_law_1540 : decode cL_law 1540 = .ok (.imul, 1) := by decide +kernel
theorem dL_law_1541 : decode cL_law 1541 = .ok (.iload 25, 2) := by decide +kernel
theorem dL_law_1543 : decode cL_law 1543 = .ok (.iconst 1, 1) := by decide +kernel
theorem dL_law_1544 : decode cL_law 1544 = .ok (.iload 20, 2) := by decide +kernel
theorem dL_law_1546 : decode cL_law 1546 = .ok (.iadd, 1) := by decide +kernel
theorem dL_law_1547 : decode cL_law 1547 = .ok (.imul, 1) := by decide +kernel
theorem dL_law_1548 : decode cL_law 1548 = .ok (.invokestatic 37, 3) := by decide +kernel
theorem dL_law_1551 : decode cL_law 1551 = .ok (.aload 21, 2) := by decide +kernel
theorem dL_law_1553 : decode cL_law 1553 = .ok (.iload 27, 2) := by decide +kernel
theorem dL_law_1555 : decode cL_law 1555 = .ok (.iaload, 1) := by decide +kernel
theorem dL_law_1556 : decode cL_law 1556 = .ok (.invokestatic 45, 3) := by decide +kernel
theorem dL_law_1559 : decode cL_law 1559 = .ok (.iadd, 1) := by decide +kernel
theorem dL_law_1560 : decode cL_law 1560 = .ok (.istore 26, 2) := by decide +kernel
theorem dL_law_1562 : decode cL_law 1562 = .ok (.iinc 27 1, 3) := by decide +kernel
theorem dL_law_1565 : decode cL_law 1565 = .ok (.goto (-60), 3) := by decide +kernel
theorem dL_law_1568 : decode cL_law 1568 = .ok (.aload 23, 2) := by decide +kernel
theorem dL_law_1570 : decode cL_law 1570 = .ok (.iload 24, 2) := by decide +kernel
theorem dL_law_1572 : decode cL_law 1572 = .ok (.dup2, 1) := by decide +kernel
theorem dL_law_1573 : decode cL_law 1573 = .ok (.iaload, 1) := by decide +kernel
theorem dL_law_1574 : decode cL_law 1574 = .ok (.iload 26, 2) := by decide +kernel
theorem dL_law_1576 : decode cL_law 1576 = .ok (.iload 10, 2) := by decide +kernel
theorem dL_law_1578 : decode cL_law 1578 = .ok (.if_icmp .gt 7, 3) := by decide +kernel
theorem dL_law_1581 : decode cL_law 1581 = .ok (.iconst 1, 1) := by decide +kernel
theorem dL_law_1582 : decode cL_law 1582 = .ok (.goto 4, 3) := by decide +kernel
theorem dL_law_1585 : decode cL_law 1585 = .ok (.iconst 0, 1) := by decide +kernel
theorem dL_law_1586 : decode cL_law 1586 = .ok (.iadd, 1) := by decide +kernel
theorem dL_law_1587 : decode cL_law 1587 = .ok (.iastore, 1) := by decide +kernel
theorem dL_law_1588 : decode cL_law 1588 = .ok (.iinc 25 1, 3) := by decide +kernel
theorem dL_law_1591 : decode cL_law 1591 = .ok (.goto (-99), 3) := by decide +kernel
theorem dL_law_1594 : decode cL_law 1594 = .ok (.iload 22, 2) := by decide +kernel
theorem dL_law_1596 : decode cL_law 1596 = .ok (.aload 23, 2) := by decide +kernel
theorem dL_law_1598 : decode cL_law 1598 = .ok (.iload 24, 2) := by decide +kernel
theorem dL_law_1600 : decode cL_law 1600 = .ok (.iaload, 1) := by decide +kernel
theorem dL_law_1601 : decode cL_law 1601 = .ok (.iadd, 1) := by decide +kernel
theorem dL_law_1602 : decode cL_law 1602 = .ok (.istore 22, 2) := by decide +kernel
theorem dL_law_1604 : decode cL_law 1604 = .ok (.iinc 24 1, 3) := by decide +kernel
theorem dL_law_1607 : decode cL_law 1607 = .ok (.goto (-125), 3) := by decide +kernel
theorem dL_law_1610 : decode cL_law 1610 = .ok (.bipush (-9), 2) := by decide +kernel
theorem dL_law_1612 : decode cL_law 1612 = .ok (.istore 24, 2) := by decide +kernel
theorem dL_law_1614 : decode cL_law 1614 = .ok (.iload 5, 2) := by decide +kernel
theorem dL_law_1616 : decode cL_law 1616 = .ok (.iconst 1, 1) := by decide +kernel
theorem dL_law_1617 : decode cL_law 1617 = .ok (.isub, 1) := by decide +kernel
theorem dL_law_1618 : decode cL_law 1618 = .ok (.istore 25, 2) := by decide +kernel
theorem dL_law_1620 : decode cL_law 1620 = .ok (.iload 25, 2) := by decide +kernel
theorem dL_law_1622 : decode cL_law 1622 = .ok (.ifCond .lt 130, 3) := by decide +kernel
theorem dL_law_1625 : decode cL_law 1625 = .ok (.aload 23, 2) := by decide +kernel
theorem dL_law_1627 : decode cL_law 1627 = .ok (.iload 25, 2) := by decide +kernel
theorem dL_law_1629 : decode cL_law 1629 = .ok (.iaload, 1) := by decide +kernel
theorem dL_law_1630 : decode cL_law 1630 = .ok (.ifCond .le 26, 3) := by decide +kernel
theorem dL_law_1633 : decode cL_law 1633 = .ok (.iload 24, 2) := by decide +kernel
theorem dL_law_1635 : decode cL_law 1635 = .ok (.ifCond .lt 16, 3) := by decide +kernel
theorem dL_law_1638 : decode cL_law 1638 = .ok (.aload 23, 2) := by decide +kernel
theorem dL_law_1640 : decode cL_law 1640 = .ok (.iload 25, 2) := by decide +kernel
theorem dL_law_1642 : decode cL_law 1642 = .ok (.iaload, 1) := by decide +kernel
theorem dL_law_1643 : decode cL_law 1643 = .ok (.aload 23, 2) := by decide +kernel
theorem dL_law_1645 : decode cL_law 1645 = .ok (.iload 24, 2) := by decide +kernel
theorem dL_law_1647 : decode cL_law 1647 = .ok (.iaload, 1) := by decide +kernel
theorem dL_law_1648 : decode cL_law 1648 = .ok (.if_icmp .lt 8, 3) := by decide +kernel
theorem dL_law_1651 : decode cL_law 1651 = .ok (.iload 25, 2) := by decide +kernel
theorem dL_law_1653 : decode cL_law 1653 = .ok (.goto 5, 3) := by decide +kernel
theorem dL_law_1656 : decode cL_law 1656 = .ok (.iload 24, 2) := by decide +kernel
theorem dL_law_1658 : decode cL_law 1658 = .ok (.istore 24, 2) := by decide +kernel
theorem dL_law_1660 : decode cL_law 1660 = .ok (.aload_n 1, 1) := by decide +kernel
theorem dL_law_1661 : decode cL_law 1661 = .ok (.iload 25, 2) := by decide +kernel
theorem dL_law_1663 : decode cL_law 1663 = .ok (.iload 20, 2) := by decide +kernel
theorem dL_law_1665 : decode cL_law 1665 = .ok (.iconst 1, 1) := by decide +kernel
theorem dL_law_1666 : decode cL_law 1666 = .ok (.iconst 1, 1) := by decide +kernel
theorem dL_law_1667 : decode cL_law 1667 = .ok (.bipush 10, 2) := by decide +kernel
theorem dL_law_1669 : decode cL_law 1669 = .ok (.iconst 0, 1) := by decide +kernel
theorem dL_law_1670 : decode cL_law 1670 = .ok (.invokevirtual 94, 3) := by decide +kernel
theorem dL_law_1673 : decode cL_law 1673 = .ok (.lstore 26, 2) := by decide +kernel
theorem dL_law_1675 : decode cL_law 1675 = .ok (.aload_n 1, 1) := by decide +kernel
theorem dL_law_1676 : decode cL_law 1676 = .ok (.iload 25, 2) := by decide +kernel
theorem dL_law_1678 : decode cL_law 1678 = .ok (.iload 20, 2) := by decide +kernel
theorem dL_law_1680 : decode cL_law 1680 = .ok (.iconst 1, 1) := by decide +kernel
theorem dL_law_1681 : decode cL_law 1681 = .ok (.iconst 1, 1) := by decide +kernel
theorem dL_law_1682 : decode cL_law 1682 = .ok (.bipush 10, 2) := by decide +kernel
theorem dL_law_1684 : decode cL_law 1684 = .ok (.iconst 1, 1) := by decide +kernel
theorem dL_law_1685 : decode cL_law 1685 = .ok (.invokevirtual 94, 3) := by decide +kernel
theorem dL_law_1688 : decode cL_law 1688 = .ok (.lstore 28, 2) := by decide +kernel
theorem dL_law_1690 : decode cL_law 1690 = .ok (.iload 22, 2) := by decide +kernel
theorem dL_law_1692 : decode cL_law 1692 = .ok (.ifCond .ne 15, 3) := by decide +kernel
theorem dL_law_1695 : decode cL_law 1695 = .ok (.lload 26, 2) := by decide +kernel
theorem dL_law_1697 : decode cL_law 1697 = .ok (.ldc2_w 98, 3) := by decide +kernel
theorem dL_law_1700 : decode cL_law 1700 = .ok (.lcmp, 1) := by decide +kernel
theorem dL_law_1701 : decode cL_law 1701 = .ok (.ifCond .eq 45, 3) := by decide +kernel
theorem dL_law_1704 : decode cL_law 1704 = .ok (.goto 40, 3) := by decide +kernel
theorem dL_law_1707 : decode cL_law 1707 = .ok (.lload 28, 2) := by decide +kernel
theorem dL_law_1709 : decode cL_law 1709 = .ok (.lconst 1, 1) := by decide +kernel
theorem dL_law_1710 : decode cL_law 1710 = .ok (.lcmp, 1) := by decide +kernel
theorem dL_law_1711 : decode cL_law 1711 = .ok (.ifCond .lt 33, 3) := by decide +kernel
theorem dL_law_1714 : decode cL_law 1714 = .ok (.iload 22, 2) := by decide +kernel
theorem dL_law_1716 : decode cL_law 1716 = .ok (.i2l, 1) := by decide +kernel
theorem dL_law_1717 : decode cL_law 1717 = .ok (.lload 28, 2) := by decide +kernel
theorem dL_law_1719 : decode cL_law 1719 = .ok (.lrem, 1) := by decide +kernel
theorem dL_law_1720 : decode cL_law 1720 = .ok (.lconst 0, 1) := by decide +kernel
theorem dL_law_1721 : decode cL_law 1721 = .ok (.lcmp, 1) := by decide +kernel
theorem dL_law_1722 : decode cL_law 1722 = .ok (.ifCond .ne 22, 3) := by decide +kernel
theorem dL_law_1725 : decode cL_law 1725 = .ok (.lload 26, 2) := by decide +kernel
theorem dL_law_1727 : decode cL_law 1727 = .ok (.iload 22, 2) := by decide +kernel
theorem dL_law_1729 : decode cL_law 1729 = .ok (.i2l, 1) := by decide +kernel
theorem dL_law_1730 : decode cL_law 1730 = .ok (.lload 28, 2) := by decide +kernel
theorem dL_law_1732 : decode cL_law 1732 = .ok (.ldiv, 1) := by decide +kernel
theorem dL_law_1733 : decode cL_law 1733 = .ok (.lmul, 1) := by decide +kernel
theorem dL_law_1734 : decode cL_law 1734 = .ok (.aload 23, 2) := by decide +kernel
theorem dL_law_1736 : decode cL_law 1736 = .ok (.iload 25, 2) := by decide +kernel
theorem dL_law_1738 : decode cL_law 1738 = .ok (.iaload, 1) := by decide +kernel
theorem dL_law_1739 : decode cL_law 1739 = .ok (.i2l, 1) := by decide +kernel
theorem dL_law_1740 : decode cL_law 1740 = .ok (.lcmp, 1) := by decide +kernel
theorem dL_law_1741 : decode cL_law 1741 = .ok (.ifCond .eq 5, 3) := by decide +kernel
theorem dL_law_1744 : decode cL_law 1744 = .ok (.iconst 0, 1) := by decide +kernel
theorem dL_law_1745 : decode cL_law 1745 = .ok (.ireturn, 1) := by decide +kernel
theorem dL_law_1746 : decode cL_law 1746 = .ok (.iinc 25 (-1), 3) := by decide +kernel
theorem dL_law_1749 : decode cL_law 1749 = .ok (.goto (-129), 3) := by decide +kernel
theorem dL_law_1752 : decode cL_law 1752 = .ok (.aload_n 1, 1) := by decide +kernel
theorem dL_law_1753 : decode cL_law 1753 = .ok (.iload 20, 2) := by decide +kernel
theorem dL_law_1755 : decode cL_law 1755 = .ok (.iconst 1, 1) := by decide +kernel
theorem dL_law_1756 : decode cL_law 1756 = .ok (.iconst 1, 1) := by decide +kernel
theorem dL_law_1757 : decode cL_law 1757 = .ok (.bipush 10, 2) := by decide +kernel
theorem dL_law_1759 : decode cL_law 1759 = .ok (.invokevirtual 100, 3) := by decide +kernel
theorem dL_law_1762 : decode cL_law 1762 = .ok (.iload 24, 2) := by decide +kernel
theorem dL_law_1764 : decode cL_law 1764 = .ok (.if_icmp .ne 128, 3) := by decide +kernel
theorem dL_law_1767 : decode cL_law 1767 = .ok (.aload_n 1, 1) := by decide +kernel
theorem dL_law_1768 : decode cL_law 1768 = .ok (.iconst 4, 1) := by decide +kernel
theorem dL_law_1769 : decode cL_law 1769 = .ok (.iconst 1, 1) := by decide +kernel
theorem dL_law_1770 : decode cL_law 1770 = .ok (.iconst 1, 1) := by decide +kernel
theorem dL_law_1771 : decode cL_law 1771 = .ok (.bipush 10, 2) := by decide +kernel
theorem dL_law_1773 : decode cL_law 1773 = .ok (.invokevirtual 100, 3) := by decide +kernel
theorem dL_law_1776 : decode cL_law 1776 = .ok (.bipush (-2), 2) := by decide +kernel
theorem dL_law_1778 : decode cL_law 1778 = .ok (.if_icmp .ne 114, 3) := by decide +kernel
theorem dL_law_1781 : decode cL_law 1781 = .ok (.aload_n 1, 1) := by decide +kernel
theorem dL_law_1782 : decode cL_law 1782 = .ok (.iload 20, 2) := by decide +kernel
theorem dL_law_1784 : decode cL_law 1784 = .ok (.iconst 1, 1) := by decide +kernel
theorem dL_law_1785 : decode cL_law 1785 = .ok (.iconst 1, 1) := by decide +kernel
theorem dL_law_1786 : decode cL_law 1786 = .ok (.bipush 16, 2) := by decide +kernel
theorem dL_law_1788 : decode cL_law 1788 = .ok (.invokevirtual 100, 3) := by decide +kernel
theorem dL_law_1791 : decode cL_law 1791 = .ok (.bipush (-13), 2) := by decide +kernel
theorem dL_law_1793 : decode cL_law 1793 = .ok (.if_icmp .ne 99, 3) := by decide +kernel
theorem dL_law_1796 : decode cL_law 1796 = .ok (.aload_n 1, 1) := by decide +kernel
theorem dL_law_1797 : decode cL_law 1797 = .ok (.iload 20, 2) := by decide +kernel
theorem dL_law_1799 : decode cL_law 1799 = .ok (.iconst 1, 1) := by decide +kernel
theorem dL_law_1800 : decode cL_law 1800 = .ok (.iconst 0, 1) := by decide +kernel
theorem dL_law_1801 : decode cL_law 1801 = .ok (.bipush 10, 2) := by decide +kernel
theorem dL_law_1803 : decode cL_law 1803 = .ok (.invokevirtual 100, 3) := by decide +kernel
theorem dL_law_1806 : decode cL_law 1806 = .ok (.bipush (-12), 2) := by decide +kernel
theorem dL_law_1808 : decode cL_law 1808 = .ok (.if_icmp .ne 84, 3) := by decide +kernel
theorem dL_law_1811 : decode cL_law 1811 = .ok (.aload_n 1, 1) := by decide +kernel
theorem dL_law_1812 : decode cL_law 1812 = .ok (.iload 5, 2) := by decide +kernel
theorem dL_law_1814 : decode cL_law 1814 = .ok (.iload 20, 2) := by decide +kernel
theorem dL_law_1816 : decode cL_law 1816 = .ok (.iconst 1, 1) := by decide +kernel
theorem dL_law_1817 : decode cL_law 1817 = .ok (.iconst 1, 1) := by decide +kernel
theorem dL_law_1818 : decode cL_law 1818 = .ok (.bipush 10, 2) := by decide +kernel
theorem dL_law_1820 : decode cL_law 1820 = .ok (.iconst 0, 1) := by decide +kernel
theorem dL_law_1821 : decode cL_law 1821 = .ok (.invokevirtual 94, 3) := by decide +kernel
theorem dL_law_1824 : decode cL_law 1824 = .ok (.ldc2_w 98, 3) := by decide +kernel
theorem dL_law_1827 : decode cL_law 1827 = .ok (.lcmp, 1) := by decide +kernel
theorem dL_law_1828 : decode cL_law 1828 = .ok (.ifCond .ne 64, 3) := by decide +kernel
theorem dL_law_1831 : decode cL_law 1831 = .ok (.aload_n 1, 1) := by decide +kernel
theorem dL_law_1832 : decode cL_law 1832 = .ok (.invokevirtual 103, 3) := by decide +kernel
theorem dL_law_1835 : decode cL_law 1835 = .ok (.ifCond .ne 57, 3) := by decide +kernel
theorem dL_law_1838 : decode cL_law 1838 = .ok (.aload_n 1, 1) := by decide +kernel
theorem dL_law_1839 : decode cL_law 1839 = .ok (.iconst 0, 1) := by decide +kernel
theorem dL_law_1840 : decode cL_law 1840 = .ok (.iload 20, 2) := by decide +kernel
theorem dL_law_1842 : decode cL_law 1842 = .ok (.iconst 1, 1) := by decide +kernel
theorem dL_law_1843 : decode cL_law 1843 = .ok (.iconst 1, 1) := by decide +kernel
theorem dL_law_1844 : decode cL_law 1844 = .ok (.bipush 16, 2) := by decide +kernel
theorem dL_law_1846 : decode cL_law 1846 = .ok (.iconst 0, 1) := by decide +kernel
theorem dL_law_1847 : decode cL_law 1847 = .ok (.invokevirtual 94, 3) := by decide +kernel
theorem dL_law_1850 : decode cL_law 1850 = .ok (.ldc2_w 98, 3) := by decide +kernel
theorem dL_law_1853 : decode cL_law 1853 = .ok (.lcmp, 1) := by decide +kernel
theorem dL_law_1854 : decode cL_law 1854 = .ok (.ifCond .ne 38, 3) := by decide +kernel
theorem dL_law_1857 : decode cL_law 1857 = .ok (.aload_n 1, 1) := by decide +kernel
theorem dL_law_1858 : decode cL_law 1858 = .ok (.invokevirtual 103, 3) := by decide +kernel
theorem dL_law_1861 : decode cL_law 1861 = .ok (.iconst 3, 1) := by decide +kernel
theorem dL_law_1862 : decode cL_law 1862 = .ok (.if_icmp .ne 30, 3) := by decide +kernel
theorem dL_law_1865 : decode cL_law 1865 = .ok (.aload_n 1, 1) := by decide +kernel
theorem dL_law_1866 : decode cL_law 1866 = .ok (.iconst 1, 1) := by decide +kernel
theorem dL_law_1867 : decode cL_law 1867 = .ok (.bipush 18, 2) := by decide +kernel
theorem dL_law_1869 : decode cL_law 1869 = .ok (.iconst (-1), 1) := by decide +kernel
theorem dL_law_1870 : decode cL_law 1870 = .ok (.invokevirtual 19, 3) := by decide +kernel
theorem dL_law_1873 : decode cL_law 1873 = .ok (.iconst 1, 1) := by decide +kernel
theorem dL_law_1874 : decode cL_law 1874 = .ok (.if_icmp .ne 18, 3) := by decide +kernel
theorem dL_law_1877 : decode cL_law 1877 = .ok (.aload_n 1, 1) := by decide +kernel
theorem dL_law_1878 : decode cL_law 1878 = .ok (.iload 20, 2) := by decide +kernel
theorem dL_law_1880 : decode cL_law 1880 = .ok (.iconst 1, 1) := by decide +kernel
theorem dL_law_1881 : decode cL_law 1881 = .ok (.iconst 1, 1) := by decide +kernel
theorem dL_law_1882 : decode cL_law 1882 = .ok (.bipush 10, 2) := by decide +kernel
theorem dL_law_1884 : decode cL_law 1884 = .ok (.invokevirtual 100, 3) := by decide +kernel
theorem dL_law_1887 : decode cL_law 1887 = .ok (.bipush (-2), 2) := by decide +kernel
theorem dL_law_1889 : decode cL_law 1889 = .ok (.if_icmp .eq 5, 3) := by decide +kernel
theorem dL_law_1892 : decode cL_law 1892 = .ok (.iconst 0, 1) := by decide +kernel
theorem dL_law_1893 : decode cL_law 1893 = .ok (.ireturn, 1) := by decide +kernel
theorem dL_law_1894 : decode cL_law 1894 = .ok (.iinc 6 1, 3) := by decide +kernel
theorem dL_law_1897 : decode cL_law 1897 = .ok (.goto (-1823), 3) := by decide +kernel
theorem dL_law_1900 : decode cL_law 1900 = .ok (.aload_n 1, 1) := by decide +kernel
theorem dL_law_1901 : decode cL_law 1901 = .ok (.iconst 0, 1) := by decide +kernel
theorem dL_law_1902 : decode cL_law 1902 = .ok (.iconst 4, 1) := by decide +kernel
theorem dL_law_1903 : decode cL_law 1903 = .ok (.iconst 1, 1) := by decide +kernel
theorem dL_law_1904 : decode cL_law 1904 = .ok (.iconst 0, 1) := by decide +kernel
theorem dL_law_1905 : decode cL_law 1905 = .ok (.invokevirtual 100, 3) := by decide +kernel
theorem dL_law_1908 : decode cL_law 1908 = .ok (.iconst (-1), 1) := by decide +kernel
theorem dL_law_1909 : decode cL_law 1909 = .ok (.if_icmp .ne 24, 3) := by decide +kernel
theorem dL_law_1912 : decode cL_law 1912 = .ok (.aload_n 1, 1) := by decide +kernel
theorem dL_law_1913 : decode cL_law 1913 = .ok (.iconst 0, 1) := by decide +kernel
theorem dL_law_1914 : decode cL_law 1914 = .ok (.iconst 0, 1) := by decide +kernel
theorem dL_law_1915 : decode cL_law 1915 = .ok (.iconst 4, 1) := by decide +kernel
theorem dL_law_1916 : decode cL_law 1916 = .ok (.iconst 1, 1) := by decide +kernel
theorem dL_law_1917 : decode cL_law 1917 = .ok (.iconst 0, 1) := by decide +kernel
theorem dL_law_1918 : decode cL_law 1918 = .ok (.iconst 0, 1) := by decide +kernel
theorem dL_law_1919 : decode cL_law 1919 = .ok (.invokevirtual 94, 3) := by decide +kernel
theorem dL_law_1922 : decode cL_law 1922 = .ok (.ldc2_w 98, 3) := by decide +kernel
theorem dL_law_1925 : decode cL_law 1925 = .ok (.lcmp, 1) := by decide +kernel
theorem dL_law_1926 : decode cL_law 1926 = .ok (.ifCond .ne 7, 3) := by decide +kernel
theorem dL_law_1929 : decode cL_law 1929 = .ok (.iconst 1, 1) := by decide +kernel
theorem dL_law_1930 : decode cL_law 1930 = .ok (.goto 4, 3) := by decide +kernel
theorem dL_law_1933 : decode cL_law 1933 = .ok (.iconst 0, 1) := by decide +kernel
theorem dL_law_1934 : decode cL_law 1934 = .ok (.ireturn, 1) := by decide +kernel
