theorem dL_law_955 : decode code 955 = .ok (.ifCond .ne 15, 3) := by decide +kernel
theorem dL_law_958 : decode code 958 = .ok (.aload_n 3, 1) := by decide +kernel
theorem dL_law_959 : decode code 959 = .ok (.iconst 0, 1) := by decide +kernel
theorem dL_law_960 : decode code 960 = .ok (.laload, 1) := by decide +kernel
theorem dL_law_961 : decode code 961 = .ok (.iload 6, 2) := by decide +kernel
theorem dL_law_963 : decode code 963 = .ok (.i2l, 1) := by decide +kernel
theorem dL_law_964 : decode code 964 = .ok (.lcmp, 1) := by decide +kernel
theorem dL_law_965 : decode code 965 = .ok (.ifCond .eq 5, 3) := by decide +kernel
theorem dL_law_970 : decode code 970 = .ok (.goto 732, 3) := by decide +kernel
theorem dL_law_973 : decode code 973 = .ok (.aload_n 1, 1) := by decide +kernel
theorem dL_law_974 : decode code 974 = .ok (.aload_n 0, 1) := by decide +kernel
theorem dL_law_975 : decode code 975 = .ok (.iload 4, 2) := by decide +kernel
theorem dL_law_977 : decode code 977 = .ok (.iconst 1, 1) := by decide +kernel
theorem dL_law_978 : decode code 978 = .ok (.iadd, 1) := by decide +kernel
theorem dL_law_979 : decode code 979 = .ok (.iaload, 1) := by decide +kernel
theorem dL_law_980 : decode code 980 = .ok (.aload_n 0, 1) := by decide +kernel
theorem dL_law_981 : decode code 981 = .ok (.iload 4, 2) := by decide +kernel
theorem dL_law_983 : decode code 983 = .ok (.iconst 2, 1) := by decide +kernel
theorem dL_law_984 : decode code 984 = .ok (.iadd, 1) := by decide +kernel
theorem dL_law_985 : decode code 985 = .ok (.iaload, 1) := by decide +kernel
theorem dL_law_986 : decode code 986 = .ok (.aload_n 3, 1) := by decide +kernel
theorem dL_law_987 : decode code 987 = .ok (.invokestatic 135, 3) := by decide +kernel
theorem dL_law_990 : decode code 990 = .ok (.istore 5, 2) := by decide +kernel
theorem dL_law_992 : decode code 992 = .ok (.aload_n 2, 1) := by decide +kernel
theorem dL_law_993 : decode code 993 = .ok (.aload_n 0, 1) := by decide +kernel
theorem dL_law_994 : decode code 994 = .ok (.iload 4, 2) := by decide +kernel
theorem dL_law_996 : decode code 996 = .ok (.iconst 1, 1) := by decide +kernel
theorem dL_law_997 : decode code 997 = .ok (.iadd, 1) := by decide +kernel
theorem dL_law_998 : decode code 998 = .ok (.iaload, 1) := by decide +kernel
theorem dL_law_999 : decode code 999 = .ok (.aload_n 0, 1) := by decide +kernel
theorem dL_law_1000 : decode code 1000 = .ok (.iload 4, 2) := by decide +kernel
theorem dL_law_1002 : decode code 1002 = .ok (.iconst 2, 1) := by decide +kernel
theorem dL_law_1003 : decode code 1003 = .ok (.iadd, 1) := by decide +kernel
theorem dL_law_1004 : decode code 1004 = .ok (.iaload, 1) := by decide +kernel
theorem dL_law_1005 : decode code 1005 = .ok (.invokevirtual 137, 3) := by decide +kernel
theorem dL_law_1008 : decode code 1008 = .ok (.istore 6, 2) := by decide +kernel
theorem dL_law_1010 : decode code 1010 = .ok (.aload_n 2, 1) := by decide +kernel
theorem dL_law_1011 : decode code 1011 = .ok (.invokevirtual 89, 3) := by decide +kernel
theorem dL_law_1014 : decode code 1014 = .ok (.iload 5, 2) := by decide +kernel
theorem dL_law_1016 : decode code 1016 = .ok (.if_icmp .eq 5, 3) := by decide +kernel
theorem dL_law_1021 : decode code 1021 = .ok (.iload 5, 2) := by decide +kernel
theorem dL_law_1023 : decode code 1023 = .ok (.ifCond .ne 15, 3) := by decide +kernel
theorem dL_law_1026 : decode code 1026 = .ok (.aload_n 3, 1) := by decide +kernel
theorem dL_law_1027 : decode code 1027 = .ok (.iconst 0, 1) := by decide +kernel
theorem dL_law_1028 : decode code 1028 = .ok (.laload, 1) := by decide +kernel
theorem dL_law_1029 : decode code 1029 = .ok (.iload 6, 2) := by decide +kernel
theorem dL_law_1031 : decode code 1031 = .ok (.i2l, 1) := by decide +kernel
theorem dL_law_1032 : decode code 1032 = .ok (.lcmp, 1) := by decide +kernel
theorem dL_law_1033 : decode code 1033 = .ok (.ifCond .eq 5, 3) := by decide +kernel
theorem dL_law_1038 : decode code 1038 = .ok (.goto 664, 3) := by decide +kernel
theorem dL_law_1041 : decode code 1041 = .ok (.aload_n 1, 1) := by decide +kernel
theorem dL_law_1042 : decode code 1042 = .ok (.aload_n 0, 1) := by decide +kernel
theorem dL_law_1043 : decode code 1043 = .ok (.iload 4, 2) := by decide +kernel
theorem dL_law_1045 : decode code 1045 = .ok (.iconst 1, 1) := by decide +kernel
theorem dL_law_1046 : decode code 1046 = .ok (.iadd, 1) := by decide +kernel
theorem dL_law_1047 : decode code 1047 = .ok (.iaload, 1) := by decide +kernel
theorem dL_law_1048 : decode code 1048 = .ok (.aload_n 0, 1) := by decide +kernel
theorem dL_law_1049 : decode code 1049 = .ok (.iload 4, 2) := by decide +kernel
theorem dL_law_1051 : decode code 1051 = .ok (.iconst 2, 1) := by decide +kernel
theorem dL_law_1052 : decode code 1052 = .ok (.iadd, 1) := by decide +kernel
theorem dL_law_1053 : decode code 1053 = .ok (.iaload, 1) := by decide +kernel
theorem dL_law_1054 : decode code 1054 = .ok (.aload_n 3, 1) := by decide +kernel
theorem dL_law_1055 : decode code 1055 = .ok (.invokestatic 138, 3) := by decide +kernel
theorem dL_law_1058 : decode code 1058 = .ok (.istore 5, 2) := by decide +kernel
theorem dL_law_1060 : decode code 1060 = .ok (.aload_n 2, 1) := by decide +kernel
theorem dL_law_1061 : decode code 1061 = .ok (.aload_n 0, 1) := by decide +kernel
theorem dL_law_1062 : decode code 1062 = .ok (.iload 4, 2) := by decide +kernel
theorem dL_law_1064 : decode code 1064 = .ok (.iconst 1, 1) := by decide +kernel
theorem dL_law_1065 : decode code 1065 = .ok (.iadd, 1) := by decide +kernel
theorem dL_law_1066 : decode code 1066 = .ok (.iaload, 1) := by decide +kernel
theorem dL_law_1067 : decode code 1067 = .ok (.aload_n 0, 1) := by decide +kernel
theorem dL_law_1068 : decode code 1068 = .ok (.iload 4, 2) := by decide +kernel
theorem dL_law_1070 : decode code 1070 = .ok (.iconst 2, 1) := by decide +kernel
theorem dL_law_1071 : decode code 1071 = .ok (.iadd, 1) := by decide +kernel
theorem dL_law_1072 : decode code 1072 = .ok (.iaload, 1) := by decide +kernel
theorem dL_law_1073 : decode code 1073 = .ok (.invokevirtual 140, 3) := by decide +kernel
theorem dL_law_1076 : decode code 1076 = .ok (.istore 6, 2) := by decide +kernel
theorem dL_law_1078 : decode code 1078 = .ok (.aload_n 2, 1) := by decide +kernel
theorem dL_law_1079 : decode code 1079 = .ok (.invokevirtual 89, 3) := by decide +kernel
theorem dL_law_1082 : decode code 1082 = .ok (.iload 5, 2) := by decide +kernel
theorem dL_law_1084 : decode code 1084 = .ok (.if_icmp .eq 5, 3) := by decide +kernel
theorem dL_law_1089 : decode code 1089 = .ok (.iload 5, 2) := by decide +kernel
theorem dL_law_1091 : decode code 1091 = .ok (.ifCond .ne 15, 3) := by decide +kernel
theorem dL_law_1094 : decode code 1094 = .ok (.aload_n 3, 1) := by decide +kernel
theorem dL_law_1095 : decode code 1095 = .ok (.iconst 0, 1) := by decide +kernel
theorem dL_law_1096 : decode code 1096 = .ok (.laload, 1) := by decide +kernel
theorem dL_law_1097 : decode code 1097 = .ok (.iload 6, 2) := by decide +kernel
theorem dL_law_1099 : decode code 1099 = .ok (.i2l, 1) := by decide +kernel
theorem dL_law_1100 : decode code 1100 = .ok (.lcmp, 1) := by decide +kernel
theorem dL_law_1101 : decode code 1101 = .ok (.ifCond .eq 5, 3) := by decide +kernel
theorem dL_law_1106 : decode code 1106 = .ok (.goto 596, 3) := by decide +kernel
theorem dL_law_1109 : decode code 1109 = .ok (.aload_n 1, 1) := by decide +kernel
theorem dL_law_1110 : decode code 1110 = .ok (.aload_n 0, 1) := by decide +kernel
theorem dL_law_1111 : decode code 1111 = .ok (.iload 4, 2) := by decide +kernel
theorem dL_law_1113 : decode code 1113 = .ok (.iconst 1, 1) := by decide +kernel
theorem dL_law_1114 : decode code 1114 = .ok (.iadd, 1) := by decide +kernel
theorem dL_law_1115 : decode code 1115 = .ok (.iaload, 1) := by decide +kernel
theorem dL_law_1116 : decode code 1116 = .ok (.aload_n 3, 1) := by decide +kernel
theorem dL_law_1117 : decode code 1117 = .ok (.invokestatic 141, 3) := by decide +kernel
theorem dL_law_1120 : decode code 1120 = .ok (.istore 5, 2) := by decide +kernel
theorem dL_law_1122 : decode code 1122 = .ok (.aload_n 2, 1) := by decide +kernel
theorem dL_law_1123 : decode code 1123 = .ok (.aload_n 0, 1) := by decide +kernel
theorem dL_law_1124 : decode code 1124 = .ok (.iload 4, 2) := by decide +kernel
theorem dL_law_1126 : decode code 1126 = .ok (.iconst 1, 1) := by decide +kernel
theorem dL_law_1127 : decode code 1127 = .ok (.iadd, 1) := by decide +kernel
theorem dL_law_1128 : decode code 1128 = .ok (.iaload, 1) := by decide +kernel
theorem dL_law_1129 : decode code 1129 = .ok (.invokevirtual 143, 3) := by decide +kernel
theorem dL_law_1132 : decode code 1132 = .ok (.istore 6, 2) := by decide +kernel
theorem dL_law_1134 : decode code 1134 = .ok (.aload_n 2, 1) := by decide +kernel
theorem dL_law_1135 : decode code 1135 = .ok (.invokevirtual 89, 3) := by decide +kernel
theorem dL_law_1138 : decode code 1138 = .ok (.iload 5, 2) := by decide +kernel
theorem dL_law_1140 : decode code 1140 = .ok (.if_icmp .eq 5, 3) := by decide +kernel
theorem dL_law_1145 : decode code 1145 = .ok (.iload 5, 2) := by decide +kernel
theorem dL_law_1147 : decode code 1147 = .ok (.ifCond .ne 15, 3) := by decide +kernel
theorem dL_law_1150 : decode code 1150 = .ok (.aload_n 3, 1) := by decide +kernel
theorem dL_law_1151 : decode code 1151 = .ok (.iconst 0, 1) := by decide +kernel
theorem dL_law_1152 : decode code 1152 = .ok (.laload, 1) := by decide +kernel
theorem dL_law_1153 : decode code 1153 = .ok (.iload 6, 2) := by decide +kernel
theorem dL_law_1155 : decode code 1155 = .ok (.i2l, 1) := by decide +kernel
theorem dL_law_1156 : decode code 1156 = .ok (.lcmp, 1) := by decide +kernel
theorem dL_law_1157 : decode code 1157 = .ok (.ifCond .eq 5, 3) := by decide +kernel
theorem dL_law_1162 : decode code 1162 = .ok (.goto 540, 3) := by decide +kernel
theorem dL_law_1165 : decode code 1165 = .ok (.aload_n 1, 1) := by decide +kernel
theorem dL_law_1166 : decode code 1166 = .ok (.aload_n 0, 1) := by decide +kernel
theorem dL_law_1167 : decode code 1167 = .ok (.iload 4, 2) := by decide +kernel
theorem dL_law_1169 : decode code 1169 = .ok (.iconst 1, 1) := by decide +kernel
theorem dL_law_1170 : decode code 1170 = .ok (.iadd, 1) := by decide +kernel
theorem dL_law_1171 : decode code 1171 = .ok (.iaload, 1) := by decide +kernel
theorem dL_law_1172 : decode code 1172 = .ok (.aload_n 3, 1) := by decide +kernel
theorem dL_law_1173 : decode code 1173 = .ok (.invokestatic 144, 3) := by decide +kernel
theorem dL_law_1176 : decode code 1176 = .ok (.istore 5, 2) := by decide +kernel
theorem dL_law_1178 : decode code 1178 = .ok (.aload_n 2, 1) := by decide +kernel
theorem dL_law_1179 : decode code 1179 = .ok (.aload_n 0, 1) := by decide +kernel
theorem dL_law_1180 : decode code 1180 = .ok (.iload 4, 2) := by decide +kernel
theorem dL_law_1182 : decode code 1182 = .ok (.iconst 1, 1) := by decide +kernel
theorem dL_law_1183 : decode code 1183 = .ok (.iadd, 1) := by decide +kernel
theorem dL_law_1184 : decode code 1184 = .ok (.iaload, 1) := by decide +kernel
theorem dL_law_1185 : decode code 1185 = .ok (.invokevirtual 146, 3) := by decide +kernel
theorem dL_law_1188 : decode code 1188 = .ok (.istore 6, 2) := by decide +kernel
theorem dL_law_1190 : decode code 1190 = .ok (.aload_n 2, 1) := by decide +kernel
theorem dL_law_1191 : decode code 1191 = .ok (.invokevirtual 89, 3) := by decide +kernel
theorem dL_law_1194 : decode code 1194 = .ok (.iload 5, 2) := by decide +kernel
theorem dL_law_1196 : decode code 1196 = .ok (.if_icmp .eq 5, 3) := by decide +kernel
theorem dL_law_1201 : decode code 1201 = .ok (.iload 5, 2) := by decide +kernel
theorem dL_law_1203 : decode code 1203 = .ok (.ifCond .ne 15, 3) := by decide +kernel
theorem dL_law_1206 : decode code 1206 = .ok (.aload_n 3, 1) := by decide +kernel
theorem dL_law_1207 : decode code 1207 = .ok (.iconst 0, 1) := by decide +kernel
theorem dL_law_1208 : decode code 1208 = .ok (.laload, 1) := by decide +kernel
theorem dL_law_1209 : decode code 1209 = .ok (.iload 6, 2) := by decide +kernel
theorem dL_law_1211 : decode code 1211 = .ok (.i2l, 1) := by decide +kernel
theorem dL_law_1212 : decode code 1212 = .ok (.lcmp, 1) := by decide +kernel
theorem dL_law_1213 : decode code 1213 = .ok (.ifCond .eq 5, 3) := by decide +kernel
theorem dL_law_1218 : decode code 1218 = .ok (.goto 484, 3) := by decide +kernel
theorem dL_law_1221 : decode code 1221 = .ok (.aload_n 1, 1) := by decide +kernel
theorem dL_law_1222 : decode code 1222 = .ok (.aload_n 0, 1) := by decide +kernel
theorem dL_law_1223 : decode code 1223 = .ok (.iload 4, 2) := by decide +kernel
theorem dL_law_1225 : decode code 1225 = .ok (.iconst 1, 1) := by decide +kernel
theorem dL_law_1226 : decode code 1226 = .ok (.iadd, 1) := by decide +kernel
theorem dL_law_1227 : decode code 1227 = .ok (.iaload, 1) := by decide +kernel
theorem dL_law_1228 : decode code 1228 = .ok (.aload_n 0, 1) := by decide +kernel
theorem dL_law_1229 : decode code 1229 = .ok (.iload 4, 2) := by decide +kernel
theorem dL_law_1231 : decode code 1231 = .ok (.iconst 2, 1) := by decide +kernel
theorem dL_law_1232 : decode code 1232 = .ok (.iadd, 1) := by decide +kernel
theorem dL_law_1233 : decode code 1233 = .ok (.iaload, 1) := by decide +kernel
theorem dL_law_1234 : decode code 1234 = .ok (.aload_n 3, 1) := by decide +kernel
theorem dL_law_1235 : decode code 1235 = .ok (.invokestatic 147, 3) := by decide +kernel
theorem dL_law_1238 : decode code 1238 = .ok (.istore 5, 2) := by decide +kernel
theorem dL_law_1240 : decode code 1240 = .ok (.aload_n 2, 1) := by decide +kernel
theorem dL_law_1241 : decode code 1241 = .ok (.aload_n 0, 1) := by decide +kernel
theorem dL_law_1242 : decode code 1242 = .ok (.iload 4, 2) := by decide +kernel
theorem dL_law_1244 : decode code 1244 = .ok (.iconst 1, 1) := by decide +kernel
theorem dL_law_1245 : decode code 1245 = .ok (.iadd, 1) := by decide +kernel
theorem dL_law_1246 : decode code 1246 = .ok (.iaload, 1) := by decide +kernel
theorem dL_law_1247 : decode code 1247 = .ok (.aload_n 0, 1) := by decide +kernel
theorem dL_law_1248 : decode code 1248 = .ok (.iload 4, 2) := by decide +kernel
theorem dL_law_1250 : decode code 1250 = .ok (.iconst 2, 1) := by decide +kernel
theorem dL_law_1251 : decode code 1251 = .ok (.iadd, 1) := by decide +kernel
theorem dL_law_1252 : decode code 1252 = .ok (.iaload, 1) := by decide +kernel
theorem dL_law_1253 : decode code 1253 = .ok (.invokevirtual 149, 3) := by decide +kernel
theorem dL_law_1256 : decode code 1256 = .ok (.istore 6, 2) := by decide +kernel
theorem dL_law_1258 : decode code 1258 = .ok (.aload_n 2, 1) := by decide +kernel
theorem dL_law_1259 : decode code 1259 = .ok (.invokevirtual 89, 3) := by decide +kernel
theorem dL_law_1262 : decode code 1262 = .ok (.iload 5, 2) := by decide +kernel
theorem dL_law_1264 : decode code 1264 = .ok (.if_icmp .eq 5, 3) := by decide +kernel
theorem dL_law_1269 : decode code 1269 = .ok (.iload 5, 2) := by decide +kernel
theorem dL_law_1271 : decode code 1271 = .ok (.ifCond .ne 15, 3) := by decide +kernel
theorem dL_law_1274 : decode code 1274 = .ok (.aload_n 3, 1) := by decide +kernel
theorem dL_law_1275 : decode code 1275 = .ok (.iconst 0, 1) := by decide +kernel
theorem dL_law_1276 : decode code 1276 = .ok (.laload, 1) := by decide +kernel
theorem dL_law_1277 : decode code 1277 = .ok (.iload 6, 2) := by decide +kernel
theorem dL_law_1279 : decode code 1279 = .ok (.i2l, 1) := by decide +kernel
theorem dL_law_1280 : decode code 1280 = .ok (.lcmp, 1) := by decide +kernel
theorem dL_law_1281 : decode code 1281 = .ok (.ifCond .eq 5, 3) := by decide +kernel
theorem dL_law_1286 : decode code 1286 = .ok (.goto 416, 3) := by decide +kernel
theorem dL_law_1289 : decode code 1289 = .ok (.aload_n 1, 1) := by decide +kernel
theorem dL_law_1290 : decode code 1290 = .ok (.aload_n 0, 1) := by decide +kernel
theorem dL_law_1291 : decode code 1291 = .ok (.iload 4, 2) := by decide +kernel
theorem dL_law_1293 : decode code 1293 = .ok (.iconst 1, 1) := by decide +kernel
theorem dL_law_1294 : decode code 1294 = .ok (.iadd, 1) := by decide +kernel
theorem dL_law_1295 : decode code 1295 = .ok (.iaload, 1) := by decide +kernel
theorem dL_law_1296 : decode code 1296 = .ok (.aload_n 0, 1) := by decide +kernel
theorem dL_law_1297 : decode code 1297 = .ok (.iload 4, 2) := by decide +kernel
theorem dL_law_1299 : decode code 1299 = .ok (.iconst 2, 1) := by decide +kernel
theorem dL_law_1300 : decode code 1300 = .ok (.iadd, 1) := by decide +kernel
theorem dL_law_1301 : decode code 1301 = .ok (.iaload, 1) := by decide +kernel
theorem dL_law_1302 : decode code 1302 = .ok (.aload_n 0, 1) := by decide +kernel
theorem dL_law_1303 : decode code 1303 = .ok (.iload 4, 2) := by decide +kernel
theorem dL_law_1305 : decode code 1305 = .ok (.iconst 3, 1) := by decide +kernel
theorem dL_law_1306 : decode code 1306 = .ok (.iadd, 1) := by decide +kernel
theorem dL_law_1307 : decode code 1307 = .ok (.iaload, 1) := by decide +kernel
theorem dL_law_1308 : decode code 1308 = .ok (.invokevirtual 150, 3) := by decide +kernel
theorem dL_law_1311 : decode code 1311 = .ok (.aload_n 2, 1) := by decide +kernel
theorem dL_law_1312 : decode code 1312 = .ok (.aload_n 0, 1) := by decide +kernel
theorem dL_law_1313 : decode code 1313 = .ok (.iload 4, 2) := by decide +kernel
theorem dL_law_1315 : decode code 1315 = .ok (.iconst 1, 1) := by decide +kernel
theorem dL_law_1316 : decode code 1316 = .ok (.iadd, 1) := by decide +kernel
theorem dL_law_1317 : decode code 1317 = .ok (.iaload, 1) := by decide +kernel
theorem dL_law_1318 : decode code 1318 = .ok (.aload_n 0, 1) := by decide +kernel
theorem dL_law_1319 : decode code 1319 = .ok (.iload 4, 2) := by decide +kernel
theorem dL_law_1321 : decode code 1321 = .ok (.iconst 2, 1) := by decide +kernel
theorem dL_law_1322 : decode code 1322 = .ok (.iadd, 1) := by decide +kernel
theorem dL_law_1323 : decode code 1323 = .ok (.iaload, 1) := by decide +kernel
theorem dL_law_1324 : decode code 1324 = .ok (.aload_n 0, 1) := by decide +kernel
theorem dL_law_1325 : decode code 1325 = .ok (.iload 4, 2) := by decide +kernel
theorem dL_law_1327 : decode code 1327 = .ok (.iconst 3, 1) := by decide +kernel
theorem dL_law_1328 : decode code 1328 = .ok (.iadd, 1) := by decide +kernel
theorem dL_law_1329 : decode code 1329 = .ok (.iaload, 1) := by decide +kernel
theorem dL_law_1330 : decode code 1330 = .ok (.invokevirtual 153, 3) := by decide +kernel
theorem dL_law_1333 : decode code 1333 = .ok (.if_icmp .eq 369, 3) := by decide +kernel
theorem dL_law_1338 : decode code 1338 = .ok (.aload_n 1, 1) := by decide +kernel
theorem dL_law_1339 : decode code 1339 = .ok (.aload_n 0, 1) := by decide +kernel
theorem dL_law_1340 : decode code 1340 = .ok (.iload 4, 2) := by decide +kernel
theorem dL_law_1342 : decode code 1342 = .ok (.iconst 1, 1) := by decide +kernel
theorem dL_law_1343 : decode code 1343 = .ok (.iadd, 1) := by decide +kernel
theorem dL_law_1344 : decode code 1344 = .ok (.iaload, 1) := by decide +kernel
theorem dL_law_1345 : decode code 1345 = .ok (.aload_n 3, 1) := by decide +kernel
theorem dL_law_1346 : decode code 1346 = .ok (.invokestatic 154, 3) := by decide +kernel
theorem dL_law_1349 : decode code 1349 = .ok (.istore 5, 2) := by decide +kernel
theorem dL_law_1351 : decode code 1351 = .ok (.aload_n 2, 1) := by decide +kernel
theorem dL_law_1352 : decode code 1352 = .ok (.aload_n 0, 1) := by decide +kernel
theorem dL_law_1353 : decode code 1353 = .ok (.iload 4, 2) := by decide +kernel
theorem dL_law_1355 : decode code 1355 = .ok (.iconst 1, 1) := by decide +kernel
theorem dL_law_1356 : decode code 1356 = .ok (.iadd, 1) := by decide +kernel
theorem dL_law_1357 : decode code 1357 = .ok (.iaload, 1) := by decide +kernel
theorem dL_law_1358 : decode code 1358 = .ok (.invokevirtual 156, 3) := by decide +kernel
theorem dL_law_1361 : decode code 1361 = .ok (.istore 6, 2) := by decide +kernel
theorem dL_law_1363 : decode code 1363 = .ok (.aload_n 2, 1) := by decide +kernel
theorem dL_law_1364 : decode code 1364 = .ok (.invokevirtual 89, 3) := by decide +kernel
theorem dL_law_1367 : decode code 1367 = .ok (.iload 5, 2) := by decide +kernel
theorem dL_law_1369 : decode code 1369 = .ok (.if_icmp .eq 5, 3) := by decide +kernel
theorem dL_law_1374 : decode code 1374 = .ok (.iload 5, 2) := by decide +kernel
theorem dL_law_1376 : decode code 1376 = .ok (.ifCond .ne 15, 3) := by decide +kernel
theorem dL_law_1379 : decode code 1379 = .ok (.aload_n 3, 1) := by decide +kernel
theorem dL_law_1380 : decode code 1380 = .ok (.iconst 0, 1) := by decide +kernel
theorem dL_law_1381 : decode code 1381 = .ok (.laload, 1) := by decide +kernel
theorem dL_law_1382 : decode code 1382 = .ok (.iload 6, 2) := by decide +kernel
theorem dL_law_1384 : decode code 1384 = .ok (.i2l, 1) := by decide +kernel
theorem dL_law_1385 : decode code 1385 = .ok (.lcmp, 1) := by decide +kernel
theorem dL_law_1386 : decode code 1386 = .ok (.ifCond .eq 5, 3) := by decide +kernel
theorem dL_law_1391 : decode code 1391 = .ok (.goto 311, 3) := by decide +kernel
