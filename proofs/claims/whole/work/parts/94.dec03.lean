theorem dL_994 : decode code 994 = .ok (.invokevirtual 106, 3) := by decide +kernel
theorem dL_997 : decode code 997 = .ok (.if_icmp .eq 748, 3) := by decide +kernel
theorem dL_1000 : decode code 1000 = .ok (.iconst 0, 1) := by decide +kernel
theorem dL_1001 : decode code 1001 = .ok (.ireturn, 1) := by decide +kernel
theorem dL_1002 : decode code 1002 = .ok (.aload_n 1, 1) := by decide +kernel
theorem dL_1003 : decode code 1003 = .ok (.aload_n 0, 1) := by decide +kernel
theorem dL_1004 : decode code 1004 = .ok (.iload_n 3, 1) := by decide +kernel
theorem dL_1005 : decode code 1005 = .ok (.iconst 1, 1) := by decide +kernel
theorem dL_1006 : decode code 1006 = .ok (.iadd, 1) := by decide +kernel
theorem dL_1007 : decode code 1007 = .ok (.iaload, 1) := by decide +kernel
theorem dL_1008 : decode code 1008 = .ok (.aload_n 0, 1) := by decide +kernel
theorem dL_1009 : decode code 1009 = .ok (.iload_n 3, 1) := by decide +kernel
theorem dL_1010 : decode code 1010 = .ok (.iconst 2, 1) := by decide +kernel
theorem dL_1011 : decode code 1011 = .ok (.iadd, 1) := by decide +kernel
theorem dL_1012 : decode code 1012 = .ok (.iaload, 1) := by decide +kernel
theorem dL_1013 : decode code 1013 = .ok (.aload_n 0, 1) := by decide +kernel
theorem dL_1014 : decode code 1014 = .ok (.iload_n 3, 1) := by decide +kernel
theorem dL_1015 : decode code 1015 = .ok (.iconst 3, 1) := by decide +kernel
theorem dL_1016 : decode code 1016 = .ok (.iadd, 1) := by decide +kernel
theorem dL_1017 : decode code 1017 = .ok (.iaload, 1) := by decide +kernel
theorem dL_1018 : decode code 1018 = .ok (.aload_n 0, 1) := by decide +kernel
theorem dL_1019 : decode code 1019 = .ok (.iload_n 3, 1) := by decide +kernel
theorem dL_1020 : decode code 1020 = .ok (.iconst 4, 1) := by decide +kernel
theorem dL_1021 : decode code 1021 = .ok (.iadd, 1) := by decide +kernel
theorem dL_1022 : decode code 1022 = .ok (.iaload, 1) := by decide +kernel
theorem dL_1023 : decode code 1023 = .ok (.invokevirtual 107, 3) := by decide +kernel
theorem dL_1026 : decode code 1026 = .ok (.aload_n 2, 1) := by decide +kernel
theorem dL_1027 : decode code 1027 = .ok (.aload_n 0, 1) := by decide +kernel
theorem dL_1028 : decode code 1028 = .ok (.iload_n 3, 1) := by decide +kernel
theorem dL_1029 : decode code 1029 = .ok (.iconst 1, 1) := by decide +kernel
theorem dL_1030 : decode code 1030 = .ok (.iadd, 1) := by decide +kernel
theorem dL_1031 : decode code 1031 = .ok (.iaload, 1) := by decide +kernel
theorem dL_1032 : decode code 1032 = .ok (.aload_n 0, 1) := by decide +kernel
theorem dL_1033 : decode code 1033 = .ok (.iload_n 3, 1) := by decide +kernel
theorem dL_1034 : decode code 1034 = .ok (.iconst 2, 1) := by decide +kernel
theorem dL_1035 : decode code 1035 = .ok (.iadd, 1) := by decide +kernel
theorem dL_1036 : decode code 1036 = .ok (.iaload, 1) := by decide +kernel
theorem dL_1037 : decode code 1037 = .ok (.aload_n 0, 1) := by decide +kernel
theorem dL_1038 : decode code 1038 = .ok (.iload_n 3, 1) := by decide +kernel
theorem dL_1039 : decode code 1039 = .ok (.iconst 3, 1) := by decide +kernel
theorem dL_1040 : decode code 1040 = .ok (.iadd, 1) := by decide +kernel
theorem dL_1041 : decode code 1041 = .ok (.iaload, 1) := by decide +kernel
theorem dL_1042 : decode code 1042 = .ok (.aload_n 0, 1) := by decide +kernel
theorem dL_1043 : decode code 1043 = .ok (.iload_n 3, 1) := by decide +kernel
theorem dL_1044 : decode code 1044 = .ok (.iconst 4, 1) := by decide +kernel
theorem dL_1045 : decode code 1045 = .ok (.iadd, 1) := by decide +kernel
theorem dL_1046 : decode code 1046 = .ok (.iaload, 1) := by decide +kernel
theorem dL_1047 : decode code 1047 = .ok (.invokevirtual 110, 3) := by decide +kernel
theorem dL_1050 : decode code 1050 = .ok (.if_icmp .eq 695, 3) := by decide +kernel
theorem dL_1053 : decode code 1053 = .ok (.iconst 0, 1) := by decide +kernel
theorem dL_1054 : decode code 1054 = .ok (.ireturn, 1) := by decide +kernel
theorem dL_1055 : decode code 1055 = .ok (.aload_n 1, 1) := by decide +kernel
theorem dL_1056 : decode code 1056 = .ok (.aload_n 0, 1) := by decide +kernel
theorem dL_1057 : decode code 1057 = .ok (.iload_n 3, 1) := by decide +kernel
theorem dL_1058 : decode code 1058 = .ok (.iconst 1, 1) := by decide +kernel
theorem dL_1059 : decode code 1059 = .ok (.iadd, 1) := by decide +kernel
theorem dL_1060 : decode code 1060 = .ok (.iaload, 1) := by decide +kernel
theorem dL_1061 : decode code 1061 = .ok (.aload_n 0, 1) := by decide +kernel
theorem dL_1062 : decode code 1062 = .ok (.iload_n 3, 1) := by decide +kernel
theorem dL_1063 : decode code 1063 = .ok (.iconst 2, 1) := by decide +kernel
theorem dL_1064 : decode code 1064 = .ok (.iadd, 1) := by decide +kernel
theorem dL_1065 : decode code 1065 = .ok (.iaload, 1) := by decide +kernel
theorem dL_1066 : decode code 1066 = .ok (.invokevirtual 111, 3) := by decide +kernel
theorem dL_1069 : decode code 1069 = .ok (.aload_n 2, 1) := by decide +kernel
theorem dL_1070 : decode code 1070 = .ok (.aload_n 0, 1) := by decide +kernel
theorem dL_1071 : decode code 1071 = .ok (.iload_n 3, 1) := by decide +kernel
theorem dL_1072 : decode code 1072 = .ok (.iconst 1, 1) := by decide +kernel
theorem dL_1073 : decode code 1073 = .ok (.iadd, 1) := by decide +kernel
theorem dL_1074 : decode code 1074 = .ok (.iaload, 1) := by decide +kernel
theorem dL_1075 : decode code 1075 = .ok (.aload_n 0, 1) := by decide +kernel
theorem dL_1076 : decode code 1076 = .ok (.iload_n 3, 1) := by decide +kernel
theorem dL_1077 : decode code 1077 = .ok (.iconst 2, 1) := by decide +kernel
theorem dL_1078 : decode code 1078 = .ok (.iadd, 1) := by decide +kernel
theorem dL_1079 : decode code 1079 = .ok (.iaload, 1) := by decide +kernel
theorem dL_1080 : decode code 1080 = .ok (.invokevirtual 114, 3) := by decide +kernel
theorem dL_1083 : decode code 1083 = .ok (.if_icmp .eq 662, 3) := by decide +kernel
theorem dL_1086 : decode code 1086 = .ok (.iconst 0, 1) := by decide +kernel
theorem dL_1087 : decode code 1087 = .ok (.ireturn, 1) := by decide +kernel
theorem dL_1088 : decode code 1088 = .ok (.aload_n 1, 1) := by decide +kernel
theorem dL_1089 : decode code 1089 = .ok (.invokevirtual 115, 3) := by decide +kernel
theorem dL_1092 : decode code 1092 = .ok (.aload_n 2, 1) := by decide +kernel
theorem dL_1093 : decode code 1093 = .ok (.invokevirtual 118, 3) := by decide +kernel
theorem dL_1096 : decode code 1096 = .ok (.if_icmp .eq 649, 3) := by decide +kernel
theorem dL_1099 : decode code 1099 = .ok (.iconst 0, 1) := by decide +kernel
theorem dL_1100 : decode code 1100 = .ok (.ireturn, 1) := by decide +kernel
theorem dL_1101 : decode code 1101 = .ok (.aload_n 1, 1) := by decide +kernel
theorem dL_1102 : decode code 1102 = .ok (.invokevirtual 119, 3) := by decide +kernel
theorem dL_1105 : decode code 1105 = .ok (.aload_n 2, 1) := by decide +kernel
theorem dL_1106 : decode code 1106 = .ok (.invokevirtual 122, 3) := by decide +kernel
theorem dL_1109 : decode code 1109 = .ok (.if_icmp .eq 636, 3) := by decide +kernel
theorem dL_1112 : decode code 1112 = .ok (.iconst 0, 1) := by decide +kernel
theorem dL_1113 : decode code 1113 = .ok (.ireturn, 1) := by decide +kernel
theorem dL_1114 : decode code 1114 = .ok (.aload_n 1, 1) := by decide +kernel
theorem dL_1115 : decode code 1115 = .ok (.aload_n 0, 1) := by decide +kernel
theorem dL_1116 : decode code 1116 = .ok (.iload_n 3, 1) := by decide +kernel
theorem dL_1117 : decode code 1117 = .ok (.iconst 1, 1) := by decide +kernel
theorem dL_1118 : decode code 1118 = .ok (.iadd, 1) := by decide +kernel
theorem dL_1119 : decode code 1119 = .ok (.iaload, 1) := by decide +kernel
theorem dL_1120 : decode code 1120 = .ok (.aload_n 0, 1) := by decide +kernel
theorem dL_1121 : decode code 1121 = .ok (.iload_n 3, 1) := by decide +kernel
theorem dL_1122 : decode code 1122 = .ok (.iconst 2, 1) := by decide +kernel
theorem dL_1123 : decode code 1123 = .ok (.iadd, 1) := by decide +kernel
theorem dL_1124 : decode code 1124 = .ok (.iaload, 1) := by decide +kernel
theorem dL_1125 : decode code 1125 = .ok (.aload_n 0, 1) := by decide +kernel
theorem dL_1126 : decode code 1126 = .ok (.iload_n 3, 1) := by decide +kernel
theorem dL_1127 : decode code 1127 = .ok (.iconst 3, 1) := by decide +kernel
theorem dL_1128 : decode code 1128 = .ok (.iadd, 1) := by decide +kernel
theorem dL_1129 : decode code 1129 = .ok (.iaload, 1) := by decide +kernel
theorem dL_1130 : decode code 1130 = .ok (.invokevirtual 123, 3) := by decide +kernel
theorem dL_1133 : decode code 1133 = .ok (.aload_n 2, 1) := by decide +kernel
theorem dL_1134 : decode code 1134 = .ok (.aload_n 0, 1) := by decide +kernel
theorem dL_1135 : decode code 1135 = .ok (.iload_n 3, 1) := by decide +kernel
theorem dL_1136 : decode code 1136 = .ok (.iconst 1, 1) := by decide +kernel
theorem dL_1137 : decode code 1137 = .ok (.iadd, 1) := by decide +kernel
theorem dL_1138 : decode code 1138 = .ok (.iaload, 1) := by decide +kernel
theorem dL_1139 : decode code 1139 = .ok (.aload_n 0, 1) := by decide +kernel
theorem dL_1140 : decode code 1140 = .ok (.iload_n 3, 1) := by decide +kernel
theorem dL_1141 : decode code 1141 = .ok (.iconst 2, 1) := by decide +kernel
theorem dL_1142 : decode code 1142 = .ok (.iadd, 1) := by decide +kernel
theorem dL_1143 : decode code 1143 = .ok (.iaload, 1) := by decide +kernel
theorem dL_1144 : decode code 1144 = .ok (.aload_n 0, 1) := by decide +kernel
theorem dL_1145 : decode code 1145 = .ok (.iload_n 3, 1) := by decide +kernel
theorem dL_1146 : decode code 1146 = .ok (.iconst 3, 1) := by decide +kernel
theorem dL_1147 : decode code 1147 = .ok (.iadd, 1) := by decide +kernel
theorem dL_1148 : decode code 1148 = .ok (.iaload, 1) := by decide +kernel
theorem dL_1149 : decode code 1149 = .ok (.invokevirtual 126, 3) := by decide +kernel
theorem dL_1152 : decode code 1152 = .ok (.if_icmp .eq 593, 3) := by decide +kernel
theorem dL_1155 : decode code 1155 = .ok (.iconst 0, 1) := by decide +kernel
theorem dL_1156 : decode code 1156 = .ok (.ireturn, 1) := by decide +kernel
theorem dL_1157 : decode code 1157 = .ok (.aload_n 1, 1) := by decide +kernel
theorem dL_1158 : decode code 1158 = .ok (.aload_n 0, 1) := by decide +kernel
theorem dL_1159 : decode code 1159 = .ok (.iload_n 3, 1) := by decide +kernel
theorem dL_1160 : decode code 1160 = .ok (.iconst 1, 1) := by decide +kernel
theorem dL_1161 : decode code 1161 = .ok (.iadd, 1) := by decide +kernel
theorem dL_1162 : decode code 1162 = .ok (.iaload, 1) := by decide +kernel
theorem dL_1163 : decode code 1163 = .ok (.aload_n 0, 1) := by decide +kernel
theorem dL_1164 : decode code 1164 = .ok (.iload_n 3, 1) := by decide +kernel
theorem dL_1165 : decode code 1165 = .ok (.iconst 2, 1) := by decide +kernel
theorem dL_1166 : decode code 1166 = .ok (.iadd, 1) := by decide +kernel
theorem dL_1167 : decode code 1167 = .ok (.iaload, 1) := by decide +kernel
theorem dL_1168 : decode code 1168 = .ok (.aload_n 0, 1) := by decide +kernel
theorem dL_1169 : decode code 1169 = .ok (.iload_n 3, 1) := by decide +kernel
theorem dL_1170 : decode code 1170 = .ok (.iconst 3, 1) := by decide +kernel
theorem dL_1171 : decode code 1171 = .ok (.iadd, 1) := by decide +kernel
theorem dL_1172 : decode code 1172 = .ok (.iaload, 1) := by decide +kernel
theorem dL_1173 : decode code 1173 = .ok (.invokevirtual 127, 3) := by decide +kernel
theorem dL_1176 : decode code 1176 = .ok (.aload_n 2, 1) := by decide +kernel
theorem dL_1177 : decode code 1177 = .ok (.aload_n 0, 1) := by decide +kernel
theorem dL_1178 : decode code 1178 = .ok (.iload_n 3, 1) := by decide +kernel
theorem dL_1179 : decode code 1179 = .ok (.iconst 1, 1) := by decide +kernel
theorem dL_1180 : decode code 1180 = .ok (.iadd, 1) := by decide +kernel
theorem dL_1181 : decode code 1181 = .ok (.iaload, 1) := by decide +kernel
theorem dL_1182 : decode code 1182 = .ok (.aload_n 0, 1) := by decide +kernel
theorem dL_1183 : decode code 1183 = .ok (.iload_n 3, 1) := by decide +kernel
theorem dL_1184 : decode code 1184 = .ok (.iconst 2, 1) := by decide +kernel
theorem dL_1185 : decode code 1185 = .ok (.iadd, 1) := by decide +kernel
theorem dL_1186 : decode code 1186 = .ok (.iaload, 1) := by decide +kernel
theorem dL_1187 : decode code 1187 = .ok (.aload_n 0, 1) := by decide +kernel
theorem dL_1188 : decode code 1188 = .ok (.iload_n 3, 1) := by decide +kernel
theorem dL_1189 : decode code 1189 = .ok (.iconst 3, 1) := by decide +kernel
theorem dL_1190 : decode code 1190 = .ok (.iadd, 1) := by decide +kernel
theorem dL_1191 : decode code 1191 = .ok (.iaload, 1) := by decide +kernel
theorem dL_1192 : decode code 1192 = .ok (.invokevirtual 130, 3) := by decide +kernel
theorem dL_1195 : decode code 1195 = .ok (.if_icmp .eq 550, 3) := by decide +kernel
theorem dL_1198 : decode code 1198 = .ok (.iconst 0, 1) := by decide +kernel
theorem dL_1199 : decode code 1199 = .ok (.ireturn, 1) := by decide +kernel
theorem dL_1200 : decode code 1200 = .ok (.aload_n 1, 1) := by decide +kernel
theorem dL_1201 : decode code 1201 = .ok (.aload_n 0, 1) := by decide +kernel
theorem dL_1202 : decode code 1202 = .ok (.iload_n 3, 1) := by decide +kernel
theorem dL_1203 : decode code 1203 = .ok (.iconst 1, 1) := by decide +kernel
theorem dL_1204 : decode code 1204 = .ok (.iadd, 1) := by decide +kernel
theorem dL_1205 : decode code 1205 = .ok (.iaload, 1) := by decide +kernel
theorem dL_1206 : decode code 1206 = .ok (.aload_n 0, 1) := by decide +kernel
theorem dL_1207 : decode code 1207 = .ok (.iload_n 3, 1) := by decide +kernel
theorem dL_1208 : decode code 1208 = .ok (.iconst 2, 1) := by decide +kernel
theorem dL_1209 : decode code 1209 = .ok (.iadd, 1) := by decide +kernel
theorem dL_1210 : decode code 1210 = .ok (.iaload, 1) := by decide +kernel
theorem dL_1211 : decode code 1211 = .ok (.aload_n 0, 1) := by decide +kernel
theorem dL_1212 : decode code 1212 = .ok (.iload_n 3, 1) := by decide +kernel
theorem dL_1213 : decode code 1213 = .ok (.iconst 3, 1) := by decide +kernel
theorem dL_1214 : decode code 1214 = .ok (.iadd, 1) := by decide +kernel
theorem dL_1215 : decode code 1215 = .ok (.iaload, 1) := by decide +kernel
theorem dL_1216 : decode code 1216 = .ok (.invokevirtual 131, 3) := by decide +kernel
theorem dL_1219 : decode code 1219 = .ok (.aload_n 2, 1) := by decide +kernel
theorem dL_1220 : decode code 1220 = .ok (.aload_n 0, 1) := by decide +kernel
theorem dL_1221 : decode code 1221 = .ok (.iload_n 3, 1) := by decide +kernel
theorem dL_1222 : decode code 1222 = .ok (.iconst 1, 1) := by decide +kernel
theorem dL_1223 : decode code 1223 = .ok (.iadd, 1) := by decide +kernel
theorem dL_1224 : decode code 1224 = .ok (.iaload, 1) := by decide +kernel
theorem dL_1225 : decode code 1225 = .ok (.aload_n 0, 1) := by decide +kernel
theorem dL_1226 : decode code 1226 = .ok (.iload_n 3, 1) := by decide +kernel
theorem dL_1227 : decode code 1227 = .ok (.iconst 2, 1) := by decide +kernel
theorem dL_1228 : decode code 1228 = .ok (.iadd, 1) := by decide +kernel
theorem dL_1229 : decode code 1229 = .ok (.iaload, 1) := by decide +kernel
theorem dL_1230 : decode code 1230 = .ok (.aload_n 0, 1) := by decide +kernel
theorem dL_1231 : decode code 1231 = .ok (.iload_n 3, 1) := by decide +kernel
theorem dL_1232 : decode code 1232 = .ok (.iconst 3, 1) := by decide +kernel
theorem dL_1233 : decode code 1233 = .ok (.iadd, 1) := by decide +kernel
theorem dL_1234 : decode code 1234 = .ok (.iaload, 1) := by decide +kernel
theorem dL_1235 : decode code 1235 = .ok (.invokevirtual 134, 3) := by decide +kernel
theorem dL_1238 : decode code 1238 = .ok (.if_icmp .eq 507, 3) := by decide +kernel
theorem dL_1241 : decode code 1241 = .ok (.iconst 0, 1) := by decide +kernel
theorem dL_1242 : decode code 1242 = .ok (.ireturn, 1) := by decide +kernel
theorem dL_1243 : decode code 1243 = .ok (.aload_n 1, 1) := by decide +kernel
theorem dL_1244 : decode code 1244 = .ok (.aload_n 0, 1) := by decide +kernel
theorem dL_1245 : decode code 1245 = .ok (.iload_n 3, 1) := by decide +kernel
theorem dL_1246 : decode code 1246 = .ok (.iconst 1, 1) := by decide +kernel
theorem dL_1247 : decode code 1247 = .ok (.iadd, 1) := by decide +kernel
theorem dL_1248 : decode code 1248 = .ok (.iaload, 1) := by decide +kernel
theorem dL_1249 : decode code 1249 = .ok (.aload_n 0, 1) := by decide +kernel
theorem dL_1250 : decode code 1250 = .ok (.iload_n 3, 1) := by decide +kernel
theorem dL_1251 : decode code 1251 = .ok (.iconst 2, 1) := by decide +kernel
theorem dL_1252 : decode code 1252 = .ok (.iadd, 1) := by decide +kernel
theorem dL_1253 : decode code 1253 = .ok (.iaload, 1) := by decide +kernel
theorem dL_1254 : decode code 1254 = .ok (.aload_n 0, 1) := by decide +kernel
theorem dL_1255 : decode code 1255 = .ok (.iload_n 3, 1) := by decide +kernel
theorem dL_1256 : decode code 1256 = .ok (.iconst 3, 1) := by decide +kernel
theorem dL_1257 : decode code 1257 = .ok (.iadd, 1) := by decide +kernel
theorem dL_1258 : decode code 1258 = .ok (.iaload, 1) := by decide +kernel
theorem dL_1259 : decode code 1259 = .ok (.aload_n 0, 1) := by decide +kernel
