theorem d_W_law_979 : decode b_W_law 979 = .ok (.ifCond .ne 15, 3) := by decide +kernel
theorem d_W_law_982 : decode b_W_law 982 = .ok (.aload_n 3, 1) := by decide +kernel
theorem d_W_law_983 : decode b_W_law 983 = .ok (.iconst 0, 1) := by decide +kernel
theorem d_W_law_984 : decode b_W_law 984 = .ok (.laload, 1) := by decide +kernel
theorem d_W_law_985 : decode b_W_law 985 = .ok (.iload 6, 2) := by decide +kernel
theorem d_W_law_987 : decode b_W_law 987 = .ok (.i2l, 1) := by decide +kernel
theorem d_W_law_988 : decode b_W_law 988 = .ok (.lcmp, 1) := by decide +kernel
theorem d_W_law_989 : decode b_W_law 989 = .ok (.ifCond .eq 5, 3) := by decide +kernel
theorem d_W_law_992 : decode b_W_law 992 = .ok (.iconst 0, 1) := by decide +kernel
theorem d_W_law_993 : decode b_W_law 993 = .ok (.ireturn, 1) := by decide +kernel
theorem d_W_law_994 : decode b_W_law 994 = .ok (.goto 491, 3) := by decide +kernel
theorem d_W_law_997 : decode b_W_law 997 = .ok (.aload_n 1, 1) := by decide +kernel
theorem d_W_law_998 : decode b_W_law 998 = .ok (.aload_n 0, 1) := by decide +kernel
theorem d_W_law_999 : decode b_W_law 999 = .ok (.iload 4, 2) := by decide +kernel
theorem d_W_law_1001 : decode b_W_law 1001 = .ok (.iconst 1, 1) := by decide +kernel
theorem d_W_law_1002 : decode b_W_law 1002 = .ok (.iadd, 1) := by decide +kernel
theorem d_W_law_1003 : decode b_W_law 1003 = .ok (.iaload, 1) := by decide +kernel
theorem d_W_law_1004 : decode b_W_law 1004 = .ok (.aload_n 0, 1) := by decide +kernel
theorem d_W_law_1005 : decode b_W_law 1005 = .ok (.iload 4, 2) := by decide +kernel
theorem d_W_law_1007 : decode b_W_law 1007 = .ok (.iconst 2, 1) := by decide +kernel
theorem d_W_law_1008 : decode b_W_law 1008 = .ok (.iadd, 1) := by decide +kernel
theorem d_W_law_1009 : decode b_W_law 1009 = .ok (.iaload, 1) := by decide +kernel
theorem d_W_law_1010 : decode b_W_law 1010 = .ok (.aload_n 0, 1) := by decide +kernel
theorem d_W_law_1011 : decode b_W_law 1011 = .ok (.iload 4, 2) := by decide +kernel
theorem d_W_law_1013 : decode b_W_law 1013 = .ok (.iconst 3, 1) := by decide +kernel
theorem d_W_law_1014 : decode b_W_law 1014 = .ok (.iadd, 1) := by decide +kernel
theorem d_W_law_1015 : decode b_W_law 1015 = .ok (.iaload, 1) := by decide +kernel
theorem d_W_law_1016 : decode b_W_law 1016 = .ok (.aload_n 0, 1) := by decide +kernel
theorem d_W_law_1017 : decode b_W_law 1017 = .ok (.iload 4, 2) := by decide +kernel
theorem d_W_law_1019 : decode b_W_law 1019 = .ok (.iconst 4, 1) := by decide +kernel
theorem d_W_law_1020 : decode b_W_law 1020 = .ok (.iadd, 1) := by decide +kernel
theorem d_W_law_1021 : decode b_W_law 1021 = .ok (.iaload, 1) := by decide +kernel
theorem d_W_law_1022 : decode b_W_law 1022 = .ok (.aload_n 3, 1) := by decide +kernel
theorem d_W_law_1023 : decode b_W_law 1023 = .ok (.invokestatic 139, 3) := by decide +kernel
theorem d_W_law_1026 : decode b_W_law 1026 = .ok (.istore 5, 2) := by decide +kernel
theorem d_W_law_1028 : decode b_W_law 1028 = .ok (.aload_n 2, 1) := by decide +kernel
theorem d_W_law_1029 : decode b_W_law 1029 = .ok (.aload_n 0, 1) := by decide +kernel
theorem d_W_law_1030 : decode b_W_law 1030 = .ok (.iload 4, 2) := by decide +kernel
theorem d_W_law_1032 : decode b_W_law 1032 = .ok (.iconst 1, 1) := by decide +kernel
theorem d_W_law_1033 : decode b_W_law 1033 = .ok (.iadd, 1) := by decide +kernel
theorem d_W_law_1034 : decode b_W_law 1034 = .ok (.iaload, 1) := by decide +kernel
theorem d_W_law_1035 : decode b_W_law 1035 = .ok (.aload_n 0, 1) := by decide +kernel
theorem d_W_law_1036 : decode b_W_law 1036 = .ok (.iload 4, 2) := by decide +kernel
theorem d_W_law_1038 : decode b_W_law 1038 = .ok (.iconst 2, 1) := by decide +kernel
theorem d_W_law_1039 : decode b_W_law 1039 = .ok (.iadd, 1) := by decide +kernel
theorem d_W_law_1040 : decode b_W_law 1040 = .ok (.iaload, 1) := by decide +kernel
theorem d_W_law_1041 : decode b_W_law 1041 = .ok (.aload_n 0, 1) := by decide +kernel
theorem d_W_law_1042 : decode b_W_law 1042 = .ok (.iload 4, 2) := by decide +kernel
theorem d_W_law_1044 : decode b_W_law 1044 = .ok (.iconst 3, 1) := by decide +kernel
theorem d_W_law_1045 : decode b_W_law 1045 = .ok (.iadd, 1) := by decide +kernel
theorem d_W_law_1046 : decode b_W_law 1046 = .ok (.iaload, 1) := by decide +kernel
theorem d_W_law_1047 : decode b_W_law 1047 = .ok (.aload_n 0, 1) := by decide +kernel
theorem d_W_law_1048 : decode b_W_law 1048 = .ok (.iload 4, 2) := by decide +kernel
theorem d_W_law_1050 : decode b_W_law 1050 = .ok (.iconst 4, 1) := by decide +kernel
theorem d_W_law_1051 : decode b_W_law 1051 = .ok (.iadd, 1) := by decide +kernel
theorem d_W_law_1052 : decode b_W_law 1052 = .ok (.iaload, 1) := by decide +kernel
theorem d_W_law_1053 : decode b_W_law 1053 = .ok (.invokevirtual 141, 3) := by decide +kernel
theorem d_W_law_1056 : decode b_W_law 1056 = .ok (.istore 6, 2) := by decide +kernel
theorem d_W_law_1058 : decode b_W_law 1058 = .ok (.aload_n 2, 1) := by decide +kernel
theorem d_W_law_1059 : decode b_W_law 1059 = .ok (.invokevirtual 90, 3) := by decide +kernel
theorem d_W_law_1062 : decode b_W_law 1062 = .ok (.iload 5, 2) := by decide +kernel
theorem d_W_law_1064 : decode b_W_law 1064 = .ok (.if_icmp .eq 5, 3) := by decide +kernel
theorem d_W_law_1067 : decode b_W_law 1067 = .ok (.iconst 0, 1) := by decide +kernel
theorem d_W_law_1068 : decode b_W_law 1068 = .ok (.ireturn, 1) := by decide +kernel
theorem d_W_law_1069 : decode b_W_law 1069 = .ok (.iload 5, 2) := by decide +kernel
theorem d_W_law_1071 : decode b_W_law 1071 = .ok (.ifCond .ne 15, 3) := by decide +kernel
theorem d_W_law_1074 : decode b_W_law 1074 = .ok (.aload_n 3, 1) := by decide +kernel
theorem d_W_law_1075 : decode b_W_law 1075 = .ok (.iconst 0, 1) := by decide +kernel
theorem d_W_law_1076 : decode b_W_law 1076 = .ok (.laload, 1) := by decide +kernel
theorem d_W_law_1077 : decode b_W_law 1077 = .ok (.iload 6, 2) := by decide +kernel
theorem d_W_law_1079 : decode b_W_law 1079 = .ok (.i2l, 1) := by decide +kernel
theorem d_W_law_1080 : decode b_W_law 1080 = .ok (.lcmp, 1) := by decide +kernel
theorem d_W_law_1081 : decode b_W_law 1081 = .ok (.ifCond .eq 5, 3) := by decide +kernel
theorem d_W_law_1084 : decode b_W_law 1084 = .ok (.iconst 0, 1) := by decide +kernel
theorem d_W_law_1085 : decode b_W_law 1085 = .ok (.ireturn, 1) := by decide +kernel
theorem d_W_law_1086 : decode b_W_law 1086 = .ok (.goto 399, 3) := by decide +kernel
theorem d_W_law_1089 : decode b_W_law 1089 = .ok (.aload_n 1, 1) := by decide +kernel
theorem d_W_law_1090 : decode b_W_law 1090 = .ok (.aload_n 0, 1) := by decide +kernel
theorem d_W_law_1091 : decode b_W_law 1091 = .ok (.iload 4, 2) := by decide +kernel
theorem d_W_law_1093 : decode b_W_law 1093 = .ok (.iconst 1, 1) := by decide +kernel
theorem d_W_law_1094 : decode b_W_law 1094 = .ok (.iadd, 1) := by decide +kernel
theorem d_W_law_1095 : decode b_W_law 1095 = .ok (.iaload, 1) := by decide +kernel
theorem d_W_law_1096 : decode b_W_law 1096 = .ok (.aload_n 0, 1) := by decide +kernel
theorem d_W_law_1097 : decode b_W_law 1097 = .ok (.iload 4, 2) := by decide +kernel
theorem d_W_law_1099 : decode b_W_law 1099 = .ok (.iconst 2, 1) := by decide +kernel
theorem d_W_law_1100 : decode b_W_law 1100 = .ok (.iadd, 1) := by decide +kernel
theorem d_W_law_1101 : decode b_W_law 1101 = .ok (.iaload, 1) := by decide +kernel
theorem d_W_law_1102 : decode b_W_law 1102 = .ok (.aload_n 0, 1) := by decide +kernel
theorem d_W_law_1103 : decode b_W_law 1103 = .ok (.iload 4, 2) := by decide +kernel
theorem d_W_law_1105 : decode b_W_law 1105 = .ok (.iconst 3, 1) := by decide +kernel
theorem d_W_law_1106 : decode b_W_law 1106 = .ok (.iadd, 1) := by decide +kernel
theorem d_W_law_1107 : decode b_W_law 1107 = .ok (.iaload, 1) := by decide +kernel
theorem d_W_law_1108 : decode b_W_law 1108 = .ok (.aload_n 3, 1) := by decide +kernel
theorem d_W_law_1109 : decode b_W_law 1109 = .ok (.invokestatic 142, 3) := by decide +kernel
theorem d_W_law_1112 : decode b_W_law 1112 = .ok (.istore 5, 2) := by decide +kernel
theorem d_W_law_1114 : decode b_W_law 1114 = .ok (.aload_n 2, 1) := by decide +kernel
theorem d_W_law_1115 : decode b_W_law 1115 = .ok (.aload_n 0, 1) := by decide +kernel
theorem d_W_law_1116 : decode b_W_law 1116 = .ok (.iload 4, 2) := by decide +kernel
theorem d_W_law_1118 : decode b_W_law 1118 = .ok (.iconst 1, 1) := by decide +kernel
theorem d_W_law_1119 : decode b_W_law 1119 = .ok (.iadd, 1) := by decide +kernel
theorem d_W_law_1120 : decode b_W_law 1120 = .ok (.iaload, 1) := by decide +kernel
theorem d_W_law_1121 : decode b_W_law 1121 = .ok (.aload_n 0, 1) := by decide +kernel
theorem d_W_law_1122 : decode b_W_law 1122 = .ok (.iload 4, 2) := by decide +kernel
theorem d_W_law_1124 : decode b_W_law 1124 = .ok (.iconst 2, 1) := by decide +kernel
theorem d_W_law_1125 : decode b_W_law 1125 = .ok (.iadd, 1) := by decide +kernel
theorem d_W_law_1126 : decode b_W_law 1126 = .ok (.iaload, 1) := by decide +kernel
theorem d_W_law_1127 : decode b_W_law 1127 = .ok (.aload_n 0, 1) := by decide +kernel
theorem d_W_law_1128 : decode b_W_law 1128 = .ok (.iload 4, 2) := by decide +kernel
theorem d_W_law_1130 : decode b_W_law 1130 = .ok (.iconst 3, 1) := by decide +kernel
theorem d_W_law_1131 : decode b_W_law 1131 = .ok (.iadd, 1) := by decide +kernel
theorem d_W_law_1132 : decode b_W_law 1132 = .ok (.iaload, 1) := by decide +kernel
theorem d_W_law_1133 : decode b_W_law 1133 = .ok (.invokevirtual 144, 3) := by decide +kernel
theorem d_W_law_1136 : decode b_W_law 1136 = .ok (.istore 6, 2) := by decide +kernel
theorem d_W_law_1138 : decode b_W_law 1138 = .ok (.aload_n 2, 1) := by decide +kernel
theorem d_W_law_1139 : decode b_W_law 1139 = .ok (.invokevirtual 90, 3) := by decide +kernel
theorem d_W_law_1142 : decode b_W_law 1142 = .ok (.iload 5, 2) := by decide +kernel
theorem d_W_law_1144 : decode b_W_law 1144 = .ok (.if_icmp .eq 5, 3) := by decide +kernel
theorem d_W_law_1147 : decode b_W_law 1147 = .ok (.iconst 0, 1) := by decide +kernel
theorem d_W_law_1148 : decode b_W_law 1148 = .ok (.ireturn, 1) := by decide +kernel
theorem d_W_law_1149 : decode b_W_law 1149 = .ok (.iload 5, 2) := by decide +kernel
theorem d_W_law_1151 : decode b_W_law 1151 = .ok (.ifCond .ne 15, 3) := by decide +kernel
theorem d_W_law_1154 : decode b_W_law 1154 = .ok (.aload_n 3, 1) := by decide +kernel
theorem d_W_law_1155 : decode b_W_law 1155 = .ok (.iconst 0, 1) := by decide +kernel
theorem d_W_law_1156 : decode b_W_law 1156 = .ok (.laload, 1) := by decide +kernel
theorem d_W_law_1157 : decode b_W_law 1157 = .ok (.iload 6, 2) := by decide +kernel
theorem d_W_law_1159 : decode b_W_law 1159 = .ok (.i2l, 1) := by decide +kernel
theorem d_W_law_1160 : decode b_W_law 1160 = .ok (.lcmp, 1) := by decide +kernel
theorem d_W_law_1161 : decode b_W_law 1161 = .ok (.ifCond .eq 5, 3) := by decide +kernel
theorem d_W_law_1164 : decode b_W_law 1164 = .ok (.iconst 0, 1) := by decide +kernel
theorem d_W_law_1165 : decode b_W_law 1165 = .ok (.ireturn, 1) := by decide +kernel
theorem d_W_law_1166 : decode b_W_law 1166 = .ok (.goto 319, 3) := by decide +kernel
theorem d_W_law_1169 : decode b_W_law 1169 = .ok (.aload_n 1, 1) := by decide +kernel
theorem d_W_law_1170 : decode b_W_law 1170 = .ok (.aload_n 0, 1) := by decide +kernel
theorem d_W_law_1171 : decode b_W_law 1171 = .ok (.iload 4, 2) := by decide +kernel
theorem d_W_law_1173 : decode b_W_law 1173 = .ok (.iconst 1, 1) := by decide +kernel
theorem d_W_law_1174 : decode b_W_law 1174 = .ok (.iadd, 1) := by decide +kernel
theorem d_W_law_1175 : decode b_W_law 1175 = .ok (.iaload, 1) := by decide +kernel
theorem d_W_law_1176 : decode b_W_law 1176 = .ok (.aload_n 3, 1) := by decide +kernel
theorem d_W_law_1177 : decode b_W_law 1177 = .ok (.invokestatic 145, 3) := by decide +kernel
theorem d_W_law_1180 : decode b_W_law 1180 = .ok (.istore 5, 2) := by decide +kernel
theorem d_W_law_1182 : decode b_W_law 1182 = .ok (.aload_n 2, 1) := by decide +kernel
theorem d_W_law_1183 : decode b_W_law 1183 = .ok (.aload_n 0, 1) := by decide +kernel
theorem d_W_law_1184 : decode b_W_law 1184 = .ok (.iload 4, 2) := by decide +kernel
theorem d_W_law_1186 : decode b_W_law 1186 = .ok (.iconst 1, 1) := by decide +kernel
theorem d_W_law_1187 : decode b_W_law 1187 = .ok (.iadd, 1) := by decide +kernel
theorem d_W_law_1188 : decode b_W_law 1188 = .ok (.iaload, 1) := by decide +kernel
theorem d_W_law_1189 : decode b_W_law 1189 = .ok (.invokevirtual 147, 3) := by decide +kernel
theorem d_W_law_1192 : decode b_W_law 1192 = .ok (.istore 6, 2) := by decide +kernel
theorem d_W_law_1194 : decode b_W_law 1194 = .ok (.aload_n 2, 1) := by decide +kernel
theorem d_W_law_1195 : decode b_W_law 1195 = .ok (.invokevirtual 90, 3) := by decide +kernel
