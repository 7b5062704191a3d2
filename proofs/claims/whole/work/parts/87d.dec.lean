theorem dl_1021 : decode code 1021 = .ok (.iadd, 1) := by decide +kernel
theorem dl_1022 : decode code 1022 = .ok (.iaload, 1) := by decide +kernel
theorem dl_1023 : decode code 1023 = .ok (.invokevirtual 109, 3) := by decide +kernel
theorem dl_1026 : decode code 1026 = .ok (.if_icmp .eq (286), 3) := by decide +kernel
theorem dl_1029 : decode code 1029 = .ok (.iconst 0, 1) := by decide +kernel
theorem dl_1030 : decode code 1030 = .ok (.ireturn, 1) := by decide +kernel
theorem dl_1031 : decode code 1031 = .ok (.aload_n 1, 1) := by decide +kernel
theorem dl_1032 : decode code 1032 = .ok (.aload_n 0, 1) := by decide +kernel
theorem dl_1033 : decode code 1033 = .ok (.iload_n 3, 1) := by decide +kernel
theorem dl_1034 : decode code 1034 = .ok (.iconst 1, 1) := by decide +kernel
theorem dl_1035 : decode code 1035 = .ok (.iadd, 1) := by decide +kernel
theorem dl_1036 : decode code 1036 = .ok (.iaload, 1) := by decide +kernel
theorem dl_1037 : decode code 1037 = .ok (.invokevirtual 110, 3) := by decide +kernel
theorem dl_1040 : decode code 1040 = .ok (.aload_n 2, 1) := by decide +kernel
theorem dl_1041 : decode code 1041 = .ok (.aload_n 0, 1) := by decide +kernel
theorem dl_1042 : decode code 1042 = .ok (.iload_n 3, 1) := by decide +kernel
theorem dl_1043 : decode code 1043 = .ok (.iconst 1, 1) := by decide +kernel
theorem dl_1044 : decode code 1044 = .ok (.iadd, 1) := by decide +kernel
theorem dl_1045 : decode code 1045 = .ok (.iaload, 1) := by decide +kernel
theorem dl_1046 : decode code 1046 = .ok (.invokevirtual 113, 3) := by decide +kernel
theorem dl_1049 : decode code 1049 = .ok (.if_icmp .eq (263), 3) := by decide +kernel
theorem dl_1052 : decode code 1052 = .ok (.iconst 0, 1) := by decide +kernel
theorem dl_1053 : decode code 1053 = .ok (.ireturn, 1) := by decide +kernel
theorem dl_1054 : decode code 1054 = .ok (.aload_n 1, 1) := by decide +kernel
theorem dl_1055 : decode code 1055 = .ok (.aload_n 0, 1) := by decide +kernel
theorem dl_1056 : decode code 1056 = .ok (.iload_n 3, 1) := by decide +kernel
theorem dl_1057 : decode code 1057 = .ok (.iconst 1, 1) := by decide +kernel
theorem dl_1058 : decode code 1058 = .ok (.iadd, 1) := by decide +kernel
theorem dl_1059 : decode code 1059 = .ok (.iaload, 1) := by decide +kernel
theorem dl_1060 : decode code 1060 = .ok (.invokevirtual 114, 3) := by decide +kernel
theorem dl_1063 : decode code 1063 = .ok (.aload_n 2, 1) := by decide +kernel
theorem dl_1064 : decode code 1064 = .ok (.aload_n 0, 1) := by decide +kernel
theorem dl_1065 : decode code 1065 = .ok (.iload_n 3, 1) := by decide +kernel
theorem dl_1066 : decode code 1066 = .ok (.iconst 1, 1) := by decide +kernel
theorem dl_1067 : decode code 1067 = .ok (.iadd, 1) := by decide +kernel
theorem dl_1068 : decode code 1068 = .ok (.iaload, 1) := by decide +kernel
theorem dl_1069 : decode code 1069 = .ok (.invokevirtual 117, 3) := by decide +kernel
theorem dl_1072 : decode code 1072 = .ok (.if_icmp .eq (240), 3) := by decide +kernel
theorem dl_1075 : decode code 1075 = .ok (.iconst 0, 1) := by decide +kernel
theorem dl_1076 : decode code 1076 = .ok (.ireturn, 1) := by decide +kernel
theorem dl_1077 : decode code 1077 = .ok (.aload_n 1, 1) := by decide +kernel
theorem dl_1078 : decode code 1078 = .ok (.aload_n 0, 1) := by decide +kernel
theorem dl_1079 : decode code 1079 = .ok (.iload_n 3, 1) := by decide +kernel
theorem dl_1080 : decode code 1080 = .ok (.iconst 1, 1) := by decide +kernel
theorem dl_1081 : decode code 1081 = .ok (.iadd, 1) := by decide +kernel
theorem dl_1082 : decode code 1082 = .ok (.iaload, 1) := by decide +kernel
theorem dl_1083 : decode code 1083 = .ok (.aload_n 0, 1) := by decide +kernel
theorem dl_1084 : decode code 1084 = .ok (.iload_n 3, 1) := by decide +kernel
theorem dl_1085 : decode code 1085 = .ok (.iconst 2, 1) := by decide +kernel
theorem dl_1086 : decode code 1086 = .ok (.iadd, 1) := by decide +kernel
theorem dl_1087 : decode code 1087 = .ok (.iaload, 1) := by decide +kernel
theorem dl_1088 : decode code 1088 = .ok (.aload_n 0, 1) := by decide +kernel
theorem dl_1089 : decode code 1089 = .ok (.iload_n 3, 1) := by decide +kernel
theorem dl_1090 : decode code 1090 = .ok (.iconst 3, 1) := by decide +kernel
theorem dl_1091 : decode code 1091 = .ok (.iadd, 1) := by decide +kernel
theorem dl_1092 : decode code 1092 = .ok (.iaload, 1) := by decide +kernel
theorem dl_1093 : decode code 1093 = .ok (.invokevirtual 118, 3) := by decide +kernel
theorem dl_1096 : decode code 1096 = .ok (.aload_n 2, 1) := by decide +kernel
theorem dl_1097 : decode code 1097 = .ok (.aload_n 0, 1) := by decide +kernel
theorem dl_1098 : decode code 1098 = .ok (.iload_n 3, 1) := by decide +kernel
theorem dl_1099 : decode code 1099 = .ok (.iconst 1, 1) := by decide +kernel
theorem dl_1100 : decode code 1100 = .ok (.iadd, 1) := by decide +kernel
theorem dl_1101 : decode code 1101 = .ok (.iaload, 1) := by decide +kernel
theorem dl_1102 : decode code 1102 = .ok (.aload_n 0, 1) := by decide +kernel
theorem dl_1103 : decode code 1103 = .ok (.iload_n 3, 1) := by decide +kernel
theorem dl_1104 : decode code 1104 = .ok (.iconst 2, 1) := by decide +kernel
theorem dl_1105 : decode code 1105 = .ok (.iadd, 1) := by decide +kernel
theorem dl_1106 : decode code 1106 = .ok (.iaload, 1) := by decide +kernel
theorem dl_1107 : decode code 1107 = .ok (.aload_n 0, 1) := by decide +kernel
theorem dl_1108 : decode code 1108 = .ok (.iload_n 3, 1) := by decide +kernel
theorem dl_1109 : decode code 1109 = .ok (.iconst 3, 1) := by decide +kernel
theorem dl_1110 : decode code 1110 = .ok (.iadd, 1) := by decide +kernel
theorem dl_1111 : decode code 1111 = .ok (.iaload, 1) := by decide +kernel
theorem dl_1112 : decode code 1112 = .ok (.invokevirtual 121, 3) := by decide +kernel
theorem dl_1115 : decode code 1115 = .ok (.if_icmp .eq (197), 3) := by decide +kernel
theorem dl_1118 : decode code 1118 = .ok (.iconst 0, 1) := by decide +kernel
theorem dl_1119 : decode code 1119 = .ok (.ireturn, 1) := by decide +kernel
theorem dl_1120 : decode code 1120 = .ok (.aload_n 1, 1) := by decide +kernel
theorem dl_1121 : decode code 1121 = .ok (.aload_n 0, 1) := by decide +kernel
theorem dl_1122 : decode code 1122 = .ok (.iload_n 3, 1) := by decide +kernel
theorem dl_1123 : decode code 1123 = .ok (.iconst 1, 1) := by decide +kernel
theorem dl_1124 : decode code 1124 = .ok (.iadd, 1) := by decide +kernel
theorem dl_1125 : decode code 1125 = .ok (.iaload, 1) := by decide +kernel
theorem dl_1126 : decode code 1126 = .ok (.aload_n 0, 1) := by decide +kernel
theorem dl_1127 : decode code 1127 = .ok (.iload_n 3, 1) := by decide +kernel
theorem dl_1128 : decode code 1128 = .ok (.iconst 2, 1) := by decide +kernel
theorem dl_1129 : decode code 1129 = .ok (.iadd, 1) := by decide +kernel
theorem dl_1130 : decode code 1130 = .ok (.iaload, 1) := by decide +kernel
theorem dl_1131 : decode code 1131 = .ok (.aload_n 0, 1) := by decide +kernel
theorem dl_1132 : decode code 1132 = .ok (.iload_n 3, 1) := by decide +kernel
theorem dl_1133 : decode code 1133 = .ok (.iconst 3, 1) := by decide +kernel
theorem dl_1134 : decode code 1134 = .ok (.iadd, 1) := by decide +kernel
theorem dl_1135 : decode code 1135 = .ok (.iaload, 1) := by decide +kernel
theorem dl_1136 : decode code 1136 = .ok (.invokevirtual 122, 3) := by decide +kernel
theorem dl_1139 : decode code 1139 = .ok (.aload_n 2, 1) := by decide +kernel
theorem dl_1140 : decode code 1140 = .ok (.aload_n 0, 1) := by decide +kernel
theorem dl_1141 : decode code 1141 = .ok (.iload_n 3, 1) := by decide +kernel
theorem dl_1142 : decode code 1142 = .ok (.iconst 1, 1) := by decide +kernel
theorem dl_1143 : decode code 1143 = .ok (.iadd, 1) := by decide +kernel
theorem dl_1144 : decode code 1144 = .ok (.iaload, 1) := by decide +kernel
theorem dl_1145 : decode code 1145 = .ok (.aload_n 0, 1) := by decide +kernel
theorem dl_1146 : decode code 1146 = .ok (.iload_n 3, 1) := by decide +kernel
theorem dl_1147 : decode code 1147 = .ok (.iconst 2, 1) := by decide +kernel
theorem dl_1148 : decode code 1148 = .ok (.iadd, 1) := by decide +kernel
theorem dl_1149 : decode code 1149 = .ok (.iaload, 1) := by decide +kernel
theorem dl_1150 : decode code 1150 = .ok (.aload_n 0, 1) := by decide +kernel
theorem dl_1151 : decode code 1151 = .ok (.iload_n 3, 1) := by decide +kernel
theorem dl_1152 : decode code 1152 = .ok (.iconst 3, 1) := by decide +kernel
theorem dl_1153 : decode code 1153 = .ok (.iadd, 1) := by decide +kernel
theorem dl_1154 : decode code 1154 = .ok (.iaload, 1) := by decide +kernel
theorem dl_1155 : decode code 1155 = .ok (.invokevirtual 125, 3) := by decide +kernel
theorem dl_1158 : decode code 1158 = .ok (.if_icmp .eq (154), 3) := by decide +kernel
theorem dl_1161 : decode code 1161 = .ok (.iconst 0, 1) := by decide +kernel
theorem dl_1162 : decode code 1162 = .ok (.ireturn, 1) := by decide +kernel
theorem dl_1163 : decode code 1163 = .ok (.aload_n 1, 1) := by decide +kernel
theorem dl_1164 : decode code 1164 = .ok (.aload_n 0, 1) := by decide +kernel
theorem dl_1165 : decode code 1165 = .ok (.iload_n 3, 1) := by decide +kernel
theorem dl_1166 : decode code 1166 = .ok (.iconst 1, 1) := by decide +kernel
theorem dl_1167 : decode code 1167 = .ok (.iadd, 1) := by decide +kernel
theorem dl_1168 : decode code 1168 = .ok (.iaload, 1) := by decide +kernel
theorem dl_1169 : decode code 1169 = .ok (.aload_n 0, 1) := by decide +kernel
theorem dl_1170 : decode code 1170 = .ok (.iload_n 3, 1) := by decide +kernel
theorem dl_1171 : decode code 1171 = .ok (.iconst 2, 1) := by decide +kernel
theorem dl_1172 : decode code 1172 = .ok (.iadd, 1) := by decide +kernel
theorem dl_1173 : decode code 1173 = .ok (.iaload, 1) := by decide +kernel
theorem dl_1174 : decode code 1174 = .ok (.aload_n 0, 1) := by decide +kernel
theorem dl_1175 : decode code 1175 = .ok (.iload_n 3, 1) := by decide +kernel
theorem dl_1176 : decode code 1176 = .ok (.iconst 3, 1) := by decide +kernel
theorem dl_1177 : decode code 1177 = .ok (.iadd, 1) := by decide +kernel
theorem dl_1178 : decode code 1178 = .ok (.iaload, 1) := by decide +kernel
theorem dl_1179 : decode code 1179 = .ok (.aload_n 0, 1) := by decide +kernel
theorem dl_1180 : decode code 1180 = .ok (.iload_n 3, 1) := by decide +kernel
theorem dl_1181 : decode code 1181 = .ok (.iconst 4, 1) := by decide +kernel
theorem dl_1182 : decode code 1182 = .ok (.iadd, 1) := by decide +kernel
theorem dl_1183 : decode code 1183 = .ok (.iaload, 1) := by decide +kernel
theorem dl_1184 : decode code 1184 = .ok (.invokevirtual 126, 3) := by decide +kernel
theorem dl_1187 : decode code 1187 = .ok (.aload_n 2, 1) := by decide +kernel
theorem dl_1188 : decode code 1188 = .ok (.aload_n 0, 1) := by decide +kernel
theorem dl_1189 : decode code 1189 = .ok (.iload_n 3, 1) := by decide +kernel
theorem dl_1190 : decode code 1190 = .ok (.iconst 1, 1) := by decide +kernel
theorem dl_1191 : decode code 1191 = .ok (.iadd, 1) := by decide +kernel
theorem dl_1192 : decode code 1192 = .ok (.iaload, 1) := by decide +kernel
theorem dl_1193 : decode code 1193 = .ok (.aload_n 0, 1) := by decide +kernel
theorem dl_1194 : decode code 1194 = .ok (.iload_n 3, 1) := by decide +kernel
theorem dl_1195 : decode code 1195 = .ok (.iconst 2, 1) := by decide +kernel
theorem dl_1196 : decode code 1196 = .ok (.iadd, 1) := by decide +kernel
theorem dl_1197 : decode code 1197 = .ok (.iaload, 1) := by decide +kernel
theorem dl_1198 : decode code 1198 = .ok (.aload_n 0, 1) := by decide +kernel
theorem dl_1199 : decode code 1199 = .ok (.iload_n 3, 1) := by decide +kernel
theorem dl_1200 : decode code 1200 = .ok (.iconst 3, 1) := by decide +kernel
theorem dl_1201 : decode code 1201 = .ok (.iadd, 1) := by decide +kernel
theorem dl_1202 : decode code 1202 = .ok (.iaload, 1) := by decide +kernel
theorem dl_1203 : decode code 1203 = .ok (.aload_n 0, 1) := by decide +kernel
theorem dl_1204 : decode code 1204 = .ok (.iload_n 3, 1) := by decide +kernel
theorem dl_1205 : decode code 1205 = .ok (.iconst 4, 1) := by decide +kernel
theorem dl_1206 : decode code 1206 = .ok (.iadd, 1) := by decide +kernel
theorem dl_1207 : decode code 1207 = .ok (.iaload, 1) := by decide +kernel
theorem dl_1208 : decode code 1208 = .ok (.invokevirtual 129, 3) := by decide +kernel
theorem dl_1211 : decode code 1211 = .ok (.if_icmp .eq (101), 3) := by decide +kernel
theorem dl_1214 : decode code 1214 = .ok (.iconst 0, 1) := by decide +kernel
theorem dl_1215 : decode code 1215 = .ok (.ireturn, 1) := by decide +kernel
theorem dl_1216 : decode code 1216 = .ok (.aload_n 1, 1) := by decide +kernel
theorem dl_1217 : decode code 1217 = .ok (.aload_n 0, 1) := by decide +kernel
theorem dl_1218 : decode code 1218 = .ok (.iload_n 3, 1) := by decide +kernel
theorem dl_1219 : decode code 1219 = .ok (.iconst 1, 1) := by decide +kernel
theorem dl_1220 : decode code 1220 = .ok (.iadd, 1) := by decide +kernel
theorem dl_1221 : decode code 1221 = .ok (.iaload, 1) := by decide +kernel
theorem dl_1222 : decode code 1222 = .ok (.aload_n 0, 1) := by decide +kernel
theorem dl_1223 : decode code 1223 = .ok (.iload_n 3, 1) := by decide +kernel
theorem dl_1224 : decode code 1224 = .ok (.iconst 2, 1) := by decide +kernel
theorem dl_1225 : decode code 1225 = .ok (.iadd, 1) := by decide +kernel
theorem dl_1226 : decode code 1226 = .ok (.iaload, 1) := by decide +kernel
theorem dl_1227 : decode code 1227 = .ok (.aload_n 0, 1) := by decide +kernel
theorem dl_1228 : decode code 1228 = .ok (.iload_n 3, 1) := by decide +kernel
theorem dl_1229 : decode code 1229 = .ok (.iconst 3, 1) := by decide +kernel
theorem dl_1230 : decode code 1230 = .ok (.iadd, 1) := by decide +kernel
theorem dl_1231 : decode code 1231 = .ok (.iaload, 1) := by decide +kernel
theorem dl_1232 : decode code 1232 = .ok (.aload_n 0, 1) := by decide +kernel
theorem dl_1233 : decode code 1233 = .ok (.iload_n 3, 1) := by decide +kernel
theorem dl_1234 : decode code 1234 = .ok (.iconst 4, 1) := by decide +kernel
theorem dl_1235 : decode code 1235 = .ok (.iadd, 1) := by decide +kernel
theorem dl_1236 : decode code 1236 = .ok (.iaload, 1) := by decide +kernel
theorem dl_1237 : decode code 1237 = .ok (.aload_n 0, 1) := by decide +kernel
theorem dl_1238 : decode code 1238 = .ok (.iload_n 3, 1) := by decide +kernel
theorem dl_1239 : decode code 1239 = .ok (.iconst 5, 1) := by decide +kernel
theorem dl_1240 : decode code 1240 = .ok (.iadd, 1) := by decide +kernel
theorem dl_1241 : decode code 1241 = .ok (.iaload, 1) := by decide +kernel
theorem dl_1242 : decode code 1242 = .ok (.invokevirtual 130, 3) := by decide +kernel
theorem dl_1245 : decode code 1245 = .ok (.aload_n 2, 1) := by decide +kernel
theorem dl_1246 : decode code 1246 = .ok (.aload_n 0, 1) := by decide +kernel
theorem dl_1247 : decode code 1247 = .ok (.iload_n 3, 1) := by decide +kernel
theorem dl_1248 : decode code 1248 = .ok (.iconst 1, 1) := by decide +kernel
theorem dl_1249 : decode code 1249 = .ok (.iadd, 1) := by decide +kernel
theorem dl_1250 : decode code 1250 = .ok (.iaload, 1) := by decide +kernel
theorem dl_1251 : decode code 1251 = .ok (.aload_n 0, 1) := by decide +kernel
theorem dl_1252 : decode code 1252 = .ok (.iload_n 3, 1) := by decide +kernel
theorem dl_1253 : decode code 1253 = .ok (.iconst 2, 1) := by decide +kernel
theorem dl_1254 : decode code 1254 = .ok (.iadd, 1) := by decide +kernel
theorem dl_1255 : decode code 1255 = .ok (.iaload, 1) := by decide +kernel
theorem dl_1256 : decode code 1256 = .ok (.aload_n 0, 1) := by decide +kernel
theorem dl_1257 : decode code 1257 = .ok (.iload_n 3, 1) := by decide +kernel
theorem dl_1258 : decode code 1258 = .ok (.iconst 3, 1) := by decide +kernel
theorem dl_1259 : decode code 1259 = .ok (.iadd, 1) := by decide +kernel
theorem dl_1260 : decode code 1260 = .ok (.iaload, 1) := by decide +kernel
theorem dl_1261 : decode code 1261 = .ok (.aload_n 0, 1) := by decide +kernel
theorem dl_1262 : decode code 1262 = .ok (.iload_n 3, 1) := by decide +kernel
theorem dl_1263 : decode code 1263 = .ok (.iconst 4, 1) := by decide +kernel
theorem dl_1264 : decode code 1264 = .ok (.iadd, 1) := by decide +kernel
theorem dl_1265 : decode code 1265 = .ok (.iaload, 1) := by decide +kernel
theorem dl_1266 : decode code 1266 = .ok (.aload_n 0, 1) := by decide +kernel
theorem dl_1267 : decode code 1267 = .ok (.iload_n 3, 1) := by decide +kernel
theorem dl_1268 : decode code 1268 = .ok (.iconst 5, 1) := by decide +kernel
theorem dl_1269 : decode code 1269 = .ok (.iadd, 1) := by decide +kernel
theorem dl_1270 : decode code 1270 = .ok (.iaload, 1) := by decide +kernel
theorem dl_1271 : decode code 1271 = .ok (.invokevirtual 133, 3) := by decide +kernel
theorem dl_1274 : decode code 1274 = .ok (.if_icmp .eq (38), 3) := by decide +kernel
theorem dl_1277 : decode code 1277 = .ok (.iconst 0, 1) := by decide +kernel
theorem dl_1278 : decode code 1278 = .ok (.ireturn, 1) := by decide +kernel
theorem dl_1279 : decode code 1279 = .ok (.aload_n 1, 1) := by decide +kernel
theorem dl_1280 : decode code 1280 = .ok (.aload_n 0, 1) := by decide +kernel
theorem dl_1281 : decode code 1281 = .ok (.iload_n 3, 1) := by decide +kernel
theorem dl_1282 : decode code 1282 = .ok (.iconst 1, 1) := by decide +kernel
theorem dl_1283 : decode code 1283 = .ok (.iadd, 1) := by decide +kernel
theorem dl_1284 : decode code 1284 = .ok (.iaload, 1) := by decide +kernel
theorem dl_1285 : decode code 1285 = .ok (.aload_n 0, 1) := by decide +kernel
theorem dl_1286 : decode code 1286 = .ok (.iload_n 3, 1) := by decide +kernel
theorem dl_1287 : decode code 1287 = .ok (.iconst 2, 1) := by decide +kernel
theorem dl_1288 : decode code 1288 = .ok (.iadd, 1) := by decide +kernel
theorem dl_1289 : decode code 1289 = .ok (.iaload, 1) := by decide +kernel
theorem dl_1290 : decode code 1290 = .ok (.invokevirtual 134, 3) := by decide +kernel
theorem dl_1293 : decode code 1293 = .ok (.aload_n 2, 1) := by decide +kernel
theorem dl_1294 : decode code 1294 = .ok (.aload_n 0, 1) := by decide +kernel
theorem dl_1295 : decode code 1295 = .ok (.iload_n 3, 1) := by decide +kernel
theorem dl_1296 : decode code 1296 = .ok (.iconst 1, 1) := by decide +kernel
theorem dl_1297 : decode code 1297 = .ok (.iadd, 1) := by decide +kernel
theorem dl_1298 : decode code 1298 = .ok (.iaload, 1) := by decide +kernel
theorem dl_1299 : decode code 1299 = .ok (.aload_n 0, 1) := by decide +kernel
theorem dl_1300 : decode code 1300 = .ok (.iload_n 3, 1) := by decide +kernel
theorem dl_1301 : decode code 1301 = .ok (.iconst 2, 1) := by decide +kernel
theorem dl_1302 : decode code 1302 = .ok (.iadd, 1) := by decide +kernel
theorem dl_1303 : decode code 1303 = .ok (.iaload, 1) := by decide +kernel
theorem dl_1304 : decode code 1304 = .ok (.invokevirtual 137, 3) := by decide +kernel
theorem dl_1307 : decode code 1307 = .ok (.if_icmp .eq (5), 3) := by decide +kernel
theorem dl_1310 : decode code 1310 = .ok (.iconst 0, 1) := by decide +kernel
theorem dl_1311 : decode code 1311 = .ok (.ireturn, 1) := by decide +kernel
theorem dl_1312 : decode code 1312 = .ok (.iinc 3 7, 3) := by decide +kernel
theorem dl_1315 : decode code 1315 = .ok (.goto (-1297), 3) := by decide +kernel
theorem dl_1318 : decode code 1318 = .ok (.iconst 1, 1) := by decide +kernel
theorem dl_1319 : decode code 1319 = .ok (.ireturn, 1) := by decide +kernel
