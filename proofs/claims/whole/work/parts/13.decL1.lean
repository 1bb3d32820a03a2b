theorem dL_law_1130 : decode cL_law 1130 = .ok (.iconst 2, 1) := by decide +kernel
theorem dL_law_1131 : decode cL_law 1131 = .ok (.iadd, 1) := by decide +kernel
theorem dL_law_1132 : decode cL_law 1132 = .ok (.iaload, 1) := by decide +kernel
theorem dL_law_1133 : decode cL_law 1133 = .ok (.aload_n 0, 1) := by decide +kernel
theorem dL_law_1134 : decode cL_law 1134 = .ok (.iload_n 3, 1) := by decide +kernel
theorem dL_law_1135 : decode cL_law 1135 = .ok (.iconst 3, 1) := by decide +kernel
theorem dL_law_1136 : decode cL_law 1136 = .ok (.iadd, 1) := by decide +kernel
theorem dL_law_1137 : decode cL_law 1137 = .ok (.iaload, 1) := by decide +kernel
theorem dL_law_1138 : decode cL_law 1138 = .ok (.aload_n 0, 1) := by decide +kernel
theorem dL_law_1139 : decode cL_law 1139 = .ok (.iload_n 3, 1) := by decide +kernel
theorem dL_law_1140 : decode cL_law 1140 = .ok (.iconst 4, 1) := by decide +kernel
theorem dL_law_1141 : decode cL_law 1141 = .ok (.iadd, 1) := by decide +kernel
theorem dL_law_1142 : decode cL_law 1142 = .ok (.iaload, 1) := by decide +kernel
theorem dL_law_1143 : decode cL_law 1143 = .ok (.aload_n 0, 1) := by decide +kernel
theorem dL_law_1144 : decode cL_law 1144 = .ok (.iload_n 3, 1) := by decide +kernel
theorem dL_law_1145 : decode cL_law 1145 = .ok (.iconst 5, 1) := by decide +kernel
theorem dL_law_1146 : decode cL_law 1146 = .ok (.iadd, 1) := by decide +kernel
theorem dL_law_1147 : decode cL_law 1147 = .ok (.iaload, 1) := by decide +kernel
theorem dL_law_1148 : decode cL_law 1148 = .ok (.invokevirtual 134, 3) := by decide +kernel
theorem dL_law_1151 : decode cL_law 1151 = .ok (.aload_n 2, 1) := by decide +kernel
theorem dL_law_1152 : decode cL_law 1152 = .ok (.aload_n 0, 1) := by decide +kernel
theorem dL_law_1153 : decode cL_law 1153 = .ok (.iload_n 3, 1) := by decide +kernel
theorem dL_law_1154 : decode cL_law 1154 = .ok (.iconst 1, 1) := by decide +kernel
theorem dL_law_1155 : decode cL_law 1155 = .ok (.iadd, 1) := by decide +kernel
theorem dL_law_1156 : decode cL_law 1156 = .ok (.iaload, 1) := by decide +kernel
theorem dL_law_1157 : decode cL_law 1157 = .ok (.aload_n 0, 1) := by decide +kernel
theorem dL_law_1158 : decode cL_law 1158 = .ok (.iload_n 3, 1) := by decide +kernel
theorem dL_law_1159 : decode cL_law 1159 = .ok (.iconst 2, 1) := by decide +kernel
theorem dL_law_1160 : decode cL_law 1160 = .ok (.iadd, 1) := by decide +kernel
theorem dL_law_1161 : decode cL_law 1161 = .ok (.iaload, 1) := by decide +kernel
theorem dL_law_1162 : decode cL_law 1162 = .ok (.aload_n 0, 1) := by decide +kernel
theorem dL_law_1163 : decode cL_law 1163 = .ok (.iload_n 3, 1) := by decide +kernel
theorem dL_law_1164 : decode cL_law 1164 = .ok (.iconst 3, 1) := by decide +kernel
theorem dL_law_1165 : decode cL_law 1165 = .ok (.iadd, 1) := by decide +kernel
theorem dL_law_1166 : decode cL_law 1166 = .ok (.iaload, 1) := by decide +kernel
theorem dL_law_1167 : decode cL_law 1167 = .ok (.aload_n 0, 1) := by decide +kernel
theorem dL_law_1168 : decode cL_law 1168 = .ok (.iload_n 3, 1) := by decide +kernel
theorem dL_law_1169 : decode cL_law 1169 = .ok (.iconst 4, 1) := by decide +kernel
theorem dL_law_1170 : decode cL_law 1170 = .ok (.iadd, 1) := by decide +kernel
theorem dL_law_1171 : decode cL_law 1171 = .ok (.iaload, 1) := by decide +kernel
theorem dL_law_1172 : decode cL_law 1172 = .ok (.aload_n 0, 1) := by decide +kernel
theorem dL_law_1173 : decode cL_law 1173 = .ok (.iload_n 3, 1) := by decide +kernel
theorem dL_law_1174 : decode cL_law 1174 = .ok (.iconst 5, 1) := by decide +kernel
theorem dL_law_1175 : decode cL_law 1175 = .ok (.iadd, 1) := by decide +kernel
theorem dL_law_1176 : decode cL_law 1176 = .ok (.iaload, 1) := by decide +kernel
theorem dL_law_1177 : decode cL_law 1177 = .ok (.invokevirtual 137, 3) := by decide +kernel
theorem dL_law_1180 : decode cL_law 1180 = .ok (.if_icmp .eq 668, 3) := by decide +kernel
theorem dL_law_1183 : decode cL_law 1183 = .ok (.iconst 0, 1) := by decide +kernel
theorem dL_law_1184 : decode cL_law 1184 = .ok (.ireturn, 1) := by decide +kernel
theorem dL_law_1185 : decode cL_law 1185 = .ok (.aload_n 1, 1) := by decide +kernel
theorem dL_law_1186 : decode cL_law 1186 = .ok (.aload_n 0, 1) := by decide +kernel
theorem dL_law_1187 : decode cL_law 1187 = .ok (.iload_n 3, 1) := by decide +kernel
theorem dL_law_1188 : decode cL_law 1188 = .ok (.iconst 1, 1) := by decide +kernel
theorem dL_law_1189 : decode cL_law 1189 = .ok (.iadd, 1) := by decide +kernel
theorem dL_law_1190 : decode cL_law 1190 = .ok (.iaload, 1) := by decide +kernel
theorem dL_law_1191 : decode cL_law 1191 = .ok (.aload_n 0, 1) := by decide +kernel
theorem dL_law_1192 : decode cL_law 1192 = .ok (.iload_n 3, 1) := by decide +kernel
theorem dL_law_1193 : decode cL_law 1193 = .ok (.iconst 2, 1) := by decide +kernel
theorem dL_law_1194 : decode cL_law 1194 = .ok (.iadd, 1) := by decide +kernel
theorem dL_law_1195 : decode cL_law 1195 = .ok (.iaload, 1) := by decide +kernel
theorem dL_law_1196 : decode cL_law 1196 = .ok (.invokevirtual 138, 3) := by decide +kernel
theorem dL_law_1199 : decode cL_law 1199 = .ok (.aload_n 2, 1) := by decide +kernel
theorem dL_law_1200 : decode cL_law 1200 = .ok (.aload_n 0, 1) := by decide +kernel
theorem dL_law_1201 : decode cL_law 1201 = .ok (.iload_n 3, 1) := by decide +kernel
theorem dL_law_1202 : decode cL_law 1202 = .ok (.iconst 1, 1) := by decide +kernel
theorem dL_law_1203 : decode cL_law 1203 = .ok (.iadd, 1) := by decide +kernel
theorem dL_law_1204 : decode cL_law 1204 = .ok (.iaload, 1) := by decide +kernel
theorem dL_law_1205 : decode cL_law 1205 = .ok (.aload_n 0, 1) := by decide +kernel
theorem dL_law_1206 : decode cL_law 1206 = .ok (.iload_n 3, 1) := by decide +kernel
theorem dL_law_1207 : decode cL_law 1207 = .ok (.iconst 2, 1) := by decide +kernel
theorem dL_law_1208 : decode cL_law 1208 = .ok (.iadd, 1) := by decide +kernel
theorem dL_law_1209 : decode cL_law 1209 = .ok (.iaload, 1) := by decide +kernel
theorem dL_law_1210 : decode cL_law 1210 = .ok (.invokevirtual 141, 3) := by decide +kernel
theorem dL_law_1213 : decode cL_law 1213 = .ok (.if_icmp .eq 635, 3) := by decide +kernel
theorem dL_law_1216 : decode cL_law 1216 = .ok (.iconst 0, 1) := by decide +kernel
theorem dL_law_1217 : decode cL_law 1217 = .ok (.ireturn, 1) := by decide +kernel
theorem dL_law_1218 : decode cL_law 1218 = .ok (.aload_n 1, 1) := by decide +kernel
theorem dL_law_1219 : decode cL_law 1219 = .ok (.aload_n 0, 1) := by decide +kernel
theorem dL_law_1220 : decode cL_law 1220 = .ok (.iload_n 3, 1) := by decide +kernel
theorem dL_law_1221 : decode cL_law 1221 = .ok (.iconst 1, 1) := by decide +kernel
theorem dL_law_1222 : decode cL_law 1222 = .ok (.iadd, 1) := by decide +kernel
theorem dL_law_1223 : decode cL_law 1223 = .ok (.iaload, 1) := by decide +kernel
theorem dL_law_1224 : decode cL_law 1224 = .ok (.aload_n 0, 1) := by decide +kernel
theorem dL_law_1225 : decode cL_law 1225 = .ok (.iload_n 3, 1) := by decide +kernel
theorem dL_law_1226 : decode cL_law 1226 = .ok (.iconst 2, 1) := by decide +kernel
theorem dL_law_1227 : decode cL_law 1227 = .ok (.iadd, 1) := by decide +kernel
theorem dL_law_1228 : decode cL_law 1228 = .ok (.iaload, 1) := by decide +kernel
theorem dL_law_1229 : decode cL_law 1229 = .ok (.invokevirtual 142, 3) := by decide +kernel
theorem dL_law_1232 : decode cL_law 1232 = .ok (.aload_n 2, 1) := by decide +kernel
theorem dL_law_1233 : decode cL_law 1233 = .ok (.aload_n 0, 1) := by decide +kernel
theorem dL_law_1234 : decode cL_law 1234 = .ok (.iload_n 3, 1) := by decide +kernel
theorem dL_law_1235 : decode cL_law 1235 = .ok (.iconst 1, 1) := by decide +kernel
theorem dL_law_1236 : decode cL_law 1236 = .ok (.iadd, 1) := by decide +kernel
theorem dL_law_1237 : decode cL_law 1237 = .ok (.iaload, 1) := by decide +kernel
theorem dL_law_1238 : decode cL_law 1238 = .ok (.aload_n 0, 1) := by decide +kernel
theorem dL_law_1239 : decode cL_law 1239 = .ok (.iload_n 3, 1) := by decide +kernel
theorem dL_law_1240 : decode cL_law 1240 = .ok (.iconst 2, 1) := by decide +kernel
theorem dL_law_1241 : decode cL_law 1241 = .ok (.iadd, 1) := by decide +kernel
theorem dL_law_1242 : decode cL_law 1242 = .ok (.iaload, 1) := by decide +kernel
theorem dL_law_1243 : decode cL_law 1243 = .ok (.invokevirtual 145, 3) := by decide +kernel
theorem dL_law_1246 : decode cL_law 1246 = .ok (.if_icmp .eq 602, 3) := by decide +kernel
theorem dL_law_1249 : decode cL_law 1249 = .ok (.iconst 0, 1) := by decide +kernel
theorem dL_law_1250 : decode cL_law 1250 = .ok (.ireturn, 1) := by decide +kernel
theorem dL_law_1251 : decode cL_law 1251 = .ok (.aload_n 1, 1) := by decide +kernel
theorem dL_law_1252 : decode cL_law 1252 = .ok (.invokevirtual 146, 3) := by decide +kernel
theorem dL_law_1255 : decode cL_law 1255 = .ok (.aload_n 2, 1) := by decide +kernel
theorem dL_law_1256 : decode cL_law 1256 = .ok (.invokevirtual 149, 3) := by decide +kernel
theorem dL_law_1259 : decode cL_law 1259 = .ok (.if_icmp .eq 589, 3) := by decide +kernel
theorem dL_law_1262 : decode cL_law 1262 = .ok (.iconst 0, 1) := by decide +kernel
theorem dL_law_1263 : decode cL_law 1263 = .ok (.ireturn, 1) := by decide +kernel
theorem dL_law_1264 : decode cL_law 1264 = .ok (.aload_n 1, 1) := by decide +kernel
theorem dL_law_1265 : decode cL_law 1265 = .ok (.aload_n 0, 1) := by decide +kernel
theorem dL_law_1266 : decode cL_law 1266 = .ok (.iload_n 3, 1) := by decide +kernel
theorem dL_law_1267 : decode cL_law 1267 = .ok (.iconst 1, 1) := by decide +kernel
theorem dL_law_1268 : decode cL_law 1268 = .ok (.iadd, 1) := by decide +kernel
theorem dL_law_1269 : decode cL_law 1269 = .ok (.iaload, 1) := by decide +kernel
theorem dL_law_1270 : decode cL_law 1270 = .ok (.aload_n 0, 1) := by decide +kernel
theorem dL_law_1271 : decode cL_law 1271 = .ok (.iload_n 3, 1) := by decide +kernel
theorem dL_law_1272 : decode cL_law 1272 = .ok (.iconst 2, 1) := by decide +kernel
theorem dL_law_1273 : decode cL_law 1273 = .ok (.iadd, 1) := by decide +kernel
theorem dL_law_1274 : decode cL_law 1274 = .ok (.iaload, 1) := by decide +kernel
theorem dL_law_1275 : decode cL_law 1275 = .ok (.invokevirtual 150, 3) := by decide +kernel
theorem dL_law_1278 : decode cL_law 1278 = .ok (.aload_n 2, 1) := by decide +kernel
theorem dL_law_1279 : decode cL_law 1279 = .ok (.aload_n 0, 1) := by decide +kernel
theorem dL_law_1280 : decode cL_law 1280 = .ok (.iload_n 3, 1) := by decide +kernel
theorem dL_law_1281 : decode cL_law 1281 = .ok (.iconst 1, 1) := by decide +kernel
theorem dL_law_1282 : decode cL_law 1282 = .ok (.iadd, 1) := by decide +kernel
theorem dL_law_1283 : decode cL_law 1283 = .ok (.iaload, 1) := by decide +kernel
theorem dL_law_1284 : decode cL_law 1284 = .ok (.aload_n 0, 1) := by decide +kernel
theorem dL_law_1285 : decode cL_law 1285 = .ok (.iload_n 3, 1) := by decide +kernel
theorem dL_law_1286 : decode cL_law 1286 = .ok (.iconst 2, 1) := by decide +kernel
theorem dL_law_1287 : decode cL_law 1287 = .ok (.iadd, 1) := by decide +kernel
theorem dL_law_1288 : decode cL_law 1288 = .ok (.iaload, 1) := by decide +kernel
theorem dL_law_1289 : decode cL_law 1289 = .ok (.invokevirtual 154, 3) := by decide +kernel
theorem dL_law_1292 : decode cL_law 1292 = .ok (.lcmp, 1) := by decide +kernel
theorem dL_law_1293 : decode cL_law 1293 = .ok (.ifCond .eq 555, 3) := by decide +kernel
theorem dL_law_1296 : decode cL_law 1296 = .ok (.iconst 0, 1) := by decide +kernel
theorem dL_law_1297 : decode cL_law 1297 = .ok (.ireturn, 1) := by decide +kernel
theorem dL_law_1298 : decode cL_law 1298 = .ok (.aload_n 1, 1) := by decide +kernel
theorem dL_law_1299 : decode cL_law 1299 = .ok (.aload_n 0, 1) := by decide +kernel
theorem dL_law_1300 : decode cL_law 1300 = .ok (.iload_n 3, 1) := by decide +kernel
theorem dL_law_1301 : decode cL_law 1301 = .ok (.iconst 1, 1) := by decide +kernel
theorem dL_law_1302 : decode cL_law 1302 = .ok (.iadd, 1) := by decide +kernel
theorem dL_law_1303 : decode cL_law 1303 = .ok (.iaload, 1) := by decide +kernel
theorem dL_law_1304 : decode cL_law 1304 = .ok (.aload_n 0, 1) := by decide +kernel
theorem dL_law_1305 : decode cL_law 1305 = .ok (.iload_n 3, 1) := by decide +kernel
theorem dL_law_1306 : decode cL_law 1306 = .ok (.iconst 2, 1) := by decide +kernel
theorem dL_law_1307 : decode cL_law 1307 = .ok (.iadd, 1) := by decide +kernel
theorem dL_law_1308 : decode cL_law 1308 = .ok (.iaload, 1) := by decide +kernel
theorem dL_law_1309 : decode cL_law 1309 = .ok (.aload_n 0, 1) := by decide +kernel
theorem dL_law_1310 : decode cL_law 1310 = .ok (.iload_n 3, 1) := by decide +kernel
theorem dL_law_1311 : decode cL_law 1311 = .ok (.iconst 3, 1) := by decide +kernel
theorem dL_law_1312 : decode cL_law 1312 = .ok (.iadd, 1) := by decide +kernel
theorem dL_law_1313 : decode cL_law 1313 = .ok (.iaload, 1) := by decide +kernel
theorem dL_law_1314 : decode cL_law 1314 = .ok (.invokevirtual 155, 3) := by decide +kernel
theorem dL_law_1317 : decode cL_law 1317 = .ok (.aload_n 2, 1) := by decide +kernel
theorem dL_law_1318 : decode cL_law 1318 = .ok (.aload_n 0, 1) := by decide +kernel
theorem dL_law_1319 : decode cL_law 1319 = .ok (.iload_n 3, 1) := by decide +kernel
theorem dL_law_1320 : decode cL_law 1320 = .ok (.iconst 1, 1) := by decide +kernel
theorem dL_law_1321 : decode cL_law 1321 = .ok (.iadd, 1) := by decide +kernel
theorem dL_law_1322 : decode cL_law 1322 = .ok (.iaload, 1) := by decide +kernel
theorem dL_law_1323 : decode cL_law 1323 = .ok (.aload_n 0, 1) := by decide +kernel
theorem dL_law_1324 : decode cL_law 1324 = .ok (.iload_n 3, 1) := by decide +kernel
theorem dL_law_1325 : decode cL_law 1325 = .ok (.iconst 2, 1) := by decide +kernel
theorem dL_law_1326 : decode cL_law 1326 = .ok (.iadd, 1) := by decide +kernel
theorem dL_law_1327 : decode cL_law 1327 = .ok (.iaload, 1) := by decide +kernel
theorem dL_law_1328 : decode cL_law 1328 = .ok (.aload_n 0, 1) := by decide +kernel
theorem dL_law_1329 : decode cL_law 1329 = .ok (.iload_n 3, 1) := by decide +kernel
theorem dL_law_1330 : decode cL_law 1330 = .ok (.iconst 3, 1) := by decide +kernel
theorem dL_law_1331 : decode cL_law 1331 = .ok (.iadd, 1) := by decide +kernel
theorem dL_law_1332 : decode cL_law 1332 = .ok (.iaload, 1) := by decide +kernel
theorem dL_law_1333 : decode cL_law 1333 = .ok (.invokevirtual 158, 3) := by decide +kernel
theorem dL_law_1336 : decode cL_law 1336 = .ok (.if_icmp .eq 512, 3) := by decide +kernel
theorem dL_law_1339 : decode cL_law 1339 = .ok (.iconst 0, 1) := by decide +kernel
theorem dL_law_1340 : decode cL_law 1340 = .ok (.ireturn, 1) := by decide +kernel
theorem dL_law_1341 : decode cL_law 1341 = .ok (.aload_n 1, 1) := by decide +kernel
theorem dL_law_1342 : decode cL_law 1342 = .ok (.aload_n 0, 1) := by decide +kernel
theorem dL_law_1343 : decode cL_law 1343 = .ok (.iload_n 3, 1) := by decide +kernel
theorem dL_law_1344 : decode cL_law 1344 = .ok (.iconst 1, 1) := by decide +kernel
theorem dL_law_1345 : decode cL_law 1345 = .ok (.iadd, 1) := by decide +kernel
theorem dL_law_1346 : decode cL_law 1346 = .ok (.iaload, 1) := by decide +kernel
theorem dL_law_1347 : decode cL_law 1347 = .ok (.aload_n 0, 1) := by decide +kernel
theorem dL_law_1348 : decode cL_law 1348 = .ok (.iload_n 3, 1) := by decide +kernel
theorem dL_law_1349 : decode cL_law 1349 = .ok (.iconst 2, 1) := by decide +kernel
theorem dL_law_1350 : decode cL_law 1350 = .ok (.iadd, 1) := by decide +kernel
theorem dL_law_1351 : decode cL_law 1351 = .ok (.iaload, 1) := by decide +kernel
theorem dL_law_1352 : decode cL_law 1352 = .ok (.invokevirtual 159, 3) := by decide +kernel
theorem dL_law_1355 : decode cL_law 1355 = .ok (.aload_n 2, 1) := by decide +kernel
theorem dL_law_1356 : decode cL_law 1356 = .ok (.aload_n 0, 1) := by decide +kernel
theorem dL_law_1357 : decode cL_law 1357 = .ok (.iload_n 3, 1) := by decide +kernel
theorem dL_law_1358 : decode cL_law 1358 = .ok (.iconst 1, 1) := by decide +kernel
theorem dL_law_1359 : decode cL_law 1359 = .ok (.iadd, 1) := by decide +kernel
theorem dL_law_1360 : decode cL_law 1360 = .ok (.iaload, 1) := by decide +kernel
theorem dL_law_1361 : decode cL_law 1361 = .ok (.aload_n 0, 1) := by decide +kernel
theorem dL_law_1362 : decode cL_law 1362 = .ok (.iload_n 3, 1) := by decide +kernel
theorem dL_law_1363 : decode cL_law 1363 = .ok (.iconst 2, 1) := by decide +kernel
theorem dL_law_1364 : decode cL_law 1364 = .ok (.iadd, 1) := by decide +kernel
theorem dL_law_1365 : decode cL_law 1365 = .ok (.iaload, 1) := by decide +kernel
theorem dL_law_1366 : decode cL_law 1366 = .ok (.invokevirtual 162, 3) := by decide +kernel
theorem dL_law_1369 : decode cL_law 1369 = .ok (.if_icmp .eq 479, 3) := by decide +kernel
theorem dL_law_1372 : decode cL_law 1372 = .ok (.iconst 0, 1) := by decide +kernel
theorem dL_law_1373 : decode cL_law 1373 = .ok (.ireturn, 1) := by decide +kernel
theorem dL_law_1374 : decode cL_law 1374 = .ok (.aload_n 1, 1) := by decide +kernel
theorem dL_law_1375 : decode cL_law 1375 = .ok (.aload_n 0, 1) := by decide +kernel
theorem dL_law_1376 : decode cL_law 1376 = .ok (.iload_n 3, 1) := by decide +kernel
theorem dL_law_1377 : decode cL_law 1377 = .ok (.iconst 1, 1) := by decide +kernel
theorem dL_law_1378 : decode cL_law 1378 = .ok (.iadd, 1) := by decide +kernel
theorem dL_law_1379 : decode cL_law 1379 = .ok (.iaload, 1) := by decide +kernel
theorem dL_law_1380 : decode cL_law 1380 = .ok (.invokevirtual 163, 3) := by decide +kernel
theorem dL_law_1383 : decode cL_law 1383 = .ok (.aload_n 2, 1) := by decide +kernel
theorem dL_law_1384 : decode cL_law 1384 = .ok (.aload_n 0, 1) := by decide +kernel
theorem dL_law_1385 : decode cL_law 1385 = .ok (.iload_n 3, 1) := by decide +kernel
theorem dL_law_1386 : decode cL_law 1386 = .ok (.iconst 1, 1) := by decide +kernel
theorem dL_law_1387 : decode cL_law 1387 = .ok (.iadd, 1) := by decide +kernel
theorem dL_law_1388 : decode cL_law 1388 = .ok (.iaload, 1) := by decide +kernel
theorem dL_law_1389 : decode cL_law 1389 = .ok (.invokevirtual 166, 3) := by decide +kernel
theorem dL_law_1392 : decode cL_law 1392 = .ok (.if_icmp .eq 456, 3) := by decide +kernel
theorem dL_law_1395 : decode cL_law 1395 = .ok (.iconst 0, 1) := by decide +kernel
theorem dL_law_1396 : decode cL_law 1396 = .ok (.ireturn, 1) := by decide +kernel
theorem dL_law_1397 : decode cL_law 1397 = .ok (.aload_n 1, 1) := by decide +kernel
theorem dL_law_1398 : decode cL_law 1398 = .ok (.aload_n 0, 1) := by decide +kernel
theorem dL_law_1399 : decode cL_law 1399 = .ok (.iload_n 3, 1) := by decide +kernel
theorem dL_law_1400 : decode cL_law 1400 = .ok (.iconst 1, 1) := by decide +kernel
theorem dL_law_1401 : decode cL_law 1401 = .ok (.iadd, 1) := by decide +kernel
theorem dL_law_1402 : decode cL_law 1402 = .ok (.iaload, 1) := by decide +kernel
theorem dL_law_1403 : decode cL_law 1403 = .ok (.aload_n 0, 1) := by decide +kernel
theorem dL_law_1404 : decode cL_law 1404 = .ok (.iload_n 3, 1) := by decide +kernel
theorem dL_law_1405 : decode cL_law 1405 = .ok (.iconst 2, 1) := by decide +kernel
theorem dL_law_1406 : decode cL_law 1406 = .ok (.iadd, 1) := by decide +kernel
theorem dL_law_1407 : decode cL_law 1407 = .ok (.iaload, 1) := by decide +kernel
theorem dL_law_1408 : decode cL_law 1408 = .ok (.aload_n 0, 1) := by decide +kernel
theorem dL_law_1409 : decode cL_law 1409 = .ok (.iload_n 3, 1) := by decide +kernel
theorem dL_law_1410 : decode cL_law 1410 = .ok (.iconst 3, 1) := by decide +kernel
theorem dL_law_1411 : decode cL_law 1411 = .ok (.iadd, 1) := by decide +kernel
theorem dL_law_1412 : decode cL_law 1412 = .ok (.iaload, 1) := by decide +kernel
theorem dL_law_1413 : decode cL_law 1413 = .ok (.invokevirtual 167, 3) := by decide +kernel
theorem dL_law_1416 : decode cL_law 1416 = .ok (.aload_n 2, 1) := by decide +kernel
theorem dL_law_1417 : decode cL_law 1417 = .ok (.aload_n 0, 1) := by decide +kernel
theorem dL_law_1418 : decode cL_law 1418 = .ok (.iload_n 3, 1) := by decide +kernel
theorem dL_law_1419 : decode cL_law 1419 = .ok (.iconst 1, 1) := by decide +kernel
theorem dL_law_1420 : decode cL_law 1420 = .ok (.iadd, 1) := by decide +kernel
theorem dL_law_1421 : decode cL_law 1421 = .ok (.iaload, 1) := by decide +kernel
theorem dL_law_1422 : decode cL_law 1422 = .ok (.aload_n 0, 1) := by decide +kernel
theorem dL_law_1423 : decode cL_law 1423 = .ok (.iload_n 3, 1) := by decide +kernel
theorem dL_law_1424 : decode cL_law 1424 = .ok (.iconst 2, 1) := by decide +kernel
theorem dL_law_1425 : decode cL_law 1425 = .ok (.iadd, 1) := by decide +kernel
theorem dL_law_1426 : decode cL_law 1426 = .ok (.iaload, 1) := by decide +kernel
theorem dL_law_1427 : decode cL_law 1427 = .ok (.aload_n 0, 1) := by decide +kernel
theorem dL_law_1428 : decode cL_law 1428 = .ok (.iload_n 3, 1) := by decide +kernel
theorem dL_law_1429 : decode cL_law 1429 = .ok (.iconst 3, 1) := by decide +kernel
theorem dL_law_1430 : decode cL_law 1430 = .ok (.iadd, 1) := by decide +kernel
theorem dL_law_1431 : decode cL_law 1431 = .ok (.iaload, 1) := by decide +kernel
theorem dL_law_1432 : decode cL_law 1432 = .ok (.invokevirtual 170, 3) := by decide +kernel
theorem dL_law_1435 : decode cL_law 1435 = .ok (.if_icmp .eq 413, 3) := by decide +kernel
theorem dL_law_1438 : decode cL_law 1438 = .ok (.iconst 0, 1) := by decide +kernel
theorem dL_law_1439 : decode cL_law 1439 = .ok (.ireturn, 1) := by decide +kernel
theorem dL_law_1440 : decode cL_law 1440 = .ok (.aload_n 1, 1) := by decide +kernel
theorem dL_law_1441 : decode cL_law 1441 = .ok (.aload_n 0, 1) := by decide +kernel
theorem dL_law_1442 : decode cL_law 1442 = .ok (.iload_n 3, 1) := by decide +kernel
theorem dL_law_1443 : decode cL_law 1443 = .ok (.iconst 1, 1) := by decide +kernel
theorem dL_law_1444 : decode cL_law 1444 = .ok (.iadd, 1) := by decide +kernel
theorem dL_law_1445 : decode cL_law 1445 = .ok (.iaload, 1) := by decide +kernel
theorem dL_law_1446 : decode cL_law 1446 = .ok (.aload_n 0, 1) := by decide +kernel
theorem dL_law_1447 : decode cL_law 1447 = .ok (.iload_n 3, 1) := by decide +kernel
theorem dL_law_1448 : decode cL_law 1448 = .ok (.iconst 2, 1) := by decide +kernel
theorem dL_law_1449 : decode cL_law 1449 = .ok (.iadd, 1) := by decide +kernel
theorem dL_law_1450 : decode cL_law 1450 = .ok (.iaload, 1) := by decide +kernel
theorem dL_law_1451 : decode cL_law 1451 = .ok (.aload_n 0, 1) := by decide +kernel
theorem dL_law_1452 : decode cL_law 1452 = .ok (.iload_n 3, 1) := by decide +kernel
theorem dL_law_1453 : decode cL_law 1453 = .ok (.iconst 3, 1) := by decide +kernel
theorem dL_law_1454 : decode cL_law 1454 = .ok (.iadd, 1) := by decide +kernel
theorem dL_law_1455 : decode cL_law 1455 = .ok (.iaload, 1) := by decide +kernel
theorem dL_law_1456 : decode cL_law 1456 = .ok (.aload_n 0, 1) := by decide +kernel
theorem dL_law_1457 : decode cL_law 1457 = .ok (.iload_n 3, 1) := by decide +kernel
theorem dL_law_1458 : decode cL_law 1458 = .ok (.iconst 4, 1) := by decide +kernel
theorem dL_law_1459 : decode cL_law 1459 = .ok (.iadd, 1) := by decide +kernel
theorem dL_law_1460 : decode cL_law 1460 = .ok (.iaload, 1) := by decide +kernel
theorem dL_law_1461 : decode cL_law 1461 = .ok (.invokevirtual 171, 3) := by decide +kernel
theorem dL_law_1464 : decode cL_law 1464 = .ok (.aload_n 2, 1) := by decide +kernel
theorem dL_law_1465 : decode cL_law 1465 = .ok (.aload_n 0, 1) := by decide +kernel
theorem dL_law_1466 : decode cL_law 1466 = .ok (.iload_n 3, 1) := by decide +kernel
theorem dL_law_1467 : decode cL_law 1467 = .ok (.iconst 1, 1) := by decide +kernel
theorem dL_law_1468 : decode cL_law 1468 = .ok (.iadd, 1) := by decide +kernel
theorem dL_law_1469 : decode cL_law 1469 = .ok (.iaload, 1) := by decide +kernel
theorem dL_law_1470 : decode cL_law 1470 = .ok (.aload_n 0, 1) := by decide +kernel
theorem dL_law_1471 : decode cL_law 1471 = .ok (.iload_n 3, 1) := by decide +kernel
theorem dL_law_1472 : decode cL_law 1472 = .ok (.iconst 2, 1) := by decide +kernel
theorem dL_law_1473 : decode cL_law 1473 = .ok (.iadd, 1) := by decide +kernel
theorem dL_law_1474 : decode cL_law 1474 = .ok (.iaload, 1) := by decide +kernel
theorem dL_law_1475 : decode cL_law 1475 = .ok (.aload_n 0, 1) := by decide +kernel
theorem dL_law_1476 : decode cL_law 1476 = .ok (.iload_n 3, 1) := by decide +kernel
theorem dL_law_1477 : decode cL_law 1477 = .ok (.iconst 3, 1) := by decide +kernel
theorem dL_law_1478 : decode cL_law 1478 = .ok (.iadd, 1) := by decide +kernel
theorem dL_law_1479 : decode cL_law 1479 = .ok (.iaload, 1) := by decide +kernel
theorem dL_law_1480 : decode cL_law 1480 = .ok (.aload_n 0, 1) := by decide +kernel
theorem dL_law_1481 : decode cL_law 1481 = .ok (.iload_n 3, 1) := by decide +kernel
theorem dL_law_1482 : decode cL_law 1482 = .ok (.iconst 4, 1) := by decide +kernel
theorem dL_law_1483 : decode cL_law 1483 = .ok (.iadd, 1) := by decide +kernel
theorem dL_law_1484 : decode cL_law 1484 = .ok (.iaload, 1) := by decide +kernel
theorem dL_law_1485 : decode cL_law 1485 = .ok (.invokevirtual 174, 3) := by decide +kernel
theorem dL_law_1488 : decode cL_law 1488 = .ok (.if_icmp .eq 360, 3) := by decide +kernel
theorem dL_law_1491 : decode cL_law 1491 = .ok (.iconst 0, 1) := by decide +kernel
theorem dL_law_1492 : decode cL_law 1492 = .ok (.ireturn, 1) := by decide +kernel
theorem dL_law_1493 : decode cL_law 1493 = .ok (.aload_n 1, 1) := by decide +kernel
theorem dL_law_1494 : decode cL_law 1494 = .ok (.aload_n 0, 1) := by decide +kernel
theorem dL_law_1495 : decode cL_law 1495 = .ok (.iload_n 3, 1) := by decide +kernel
theorem dL_law_1496 : decode cL_law 1496 = .ok (.iconst 1, 1) := by decide +kernel
theorem dL_law_1497 : decode cL_law 1497 = .ok (.iadd, 1) := by decide +kernel
theorem dL_law_1498 : decode cL_law 1498 = .ok (.iaload, 1) := by decide +kernel
theorem dL_law_1499 : decode cL_law 1499 = .ok (.aload_n 0, 1) := by decide +kernel
theorem dL_law_1500 : decode cL_law 1500 = .ok (.iload_n 3, 1) := by decide +kernel
theorem dL_law_1501 : decode cL_law 1501 = .ok (.iconst 2, 1) := by decide +kernel
theorem dL_law_1502 : decode cL_law 1502 = .ok (.iadd, 1) := by decide +kernel
theorem dL_law_1503 : decode cL_law 1503 = .ok (.iaload, 1) := by decide +kernel
theorem dL_law_1504 : decode cL_law 1504 = .ok (.invokevirtual 175, 3) := by decide +kernel
theorem dL_law_1507 : decode cL_law 1507 = .ok (.aload_n 2, 1) := by decide +kernel
theorem dL_law_1508 : decode cL_law 1508 = .ok (.aload_n 0, 1) := by decide +kernel
theorem dL_law_1509 : decode cL_law 1509 = .ok (.iload_n 3, 1) := by decide +kernel
theorem dL_law_1510 : decode cL_law 1510 = .ok (.iconst 1, 1) := by decide +kernel
theorem dL_law_1511 : decode cL_law 1511 = .ok (.iadd, 1) := by decide +kernel
theorem dL_law_1512 : decode cL_law 1512 = .ok (.iaload, 1) := by decide +kernel
theorem dL_law_1513 : decode cL_law 1513 = .ok (.aload_n 0, 1) := by decide +kernel
theorem dL_law_1514 : decode cL_law 1514 = .ok (.iload_n 3, 1) := by decide +kernel
theorem dL_law_1515 : decode cL_law 1515 = .ok (.iconst 2, 1) := by decide +kernel
theorem dL_law_1516 : decode cL_law 1516 = .ok (.iadd, 1) := by decide +kernel
theorem dL_law_1517 : decode cL_law 1517 = .ok (.iaload, 1) := by decide +kernel
theorem dL_law_1518 : decode cL_law 1518 = .ok (.invokevirtual 178, 3) := by decide +kernel
theorem dL_law_1521 : decode cL_law 1521 = .ok (.if_icmp .eq 327, 3) := by decide +kernel
theorem dL_law_1524 : decode cL_law 1524 = .ok (.iconst 0, 1) := by decide +kernel
theorem dL_law_1525 : decode cL_law 1525 = .ok (.ireturn, 1) := by decide +kernel
theorem dL_law_1526 : decode cL_law 1526 = .ok (.aload_n 1, 1) := by decide +kernel
theorem dL_law_1527 : decode cL_law 1527 = .ok (.aload_n 0, 1) := by decide +kernel
theorem dL_law_1528 : decode cL_law 1528 = .ok (.iload_n 3, 1) := by decide +kernel
theorem dL_law_1529 : decode cL_law 1529 = .ok (.iconst 1, 1) := by decide +kernel
theorem dL_law_1530 : decode cL_law 1530 = .ok (.iadd, 1) := by decide +kernel
theorem dL_law_1531 : decode cL_law 1531 = .ok (.iaload, 1) := by decide +kernel
theorem dL_law_1532 : decode cL_law 1532 = .ok (.aload_n 0, 1) := by decide +kernel
theorem dL_law_1533 : decode cL_law 1533 = .ok (.iload_n 3, 1) := by decide +kernel
theorem dL_law_1534 : decode cL_law 1534 = .ok (.iconst 2, 1) := by decide +kernel
theorem dL_law_1535 : decode cL_law 1535 = .ok (.iadd, 1) := by decide +kernel
theorem dL_law_1536 : decode cL_law 1536 = .ok (.iaload, 1) := by decide +kernel
theorem dL_law_1537 : decode cL_law 1537 = .ok (.aload_n 0, 1) := by decide +kernel
theorem dL_law_1538 : decode cL_law 1538 = .ok (.iload_n 3, 1) := by decide +kernel
theorem dL_law_1539 : decode cL_law 1539 = .ok (.iconst 3, 1) := by decide +kernel
theorem dL_law_1540 : decode cL_law 1540 = .ok (.iadd, 1) := by decide +kernel
theorem dL_law_1541 : decode cL_law 1541 = .ok (.iaload, 1) := by decide +kernel
theorem dL_law_1542 : decode cL_law 1542 = .ok (.invokevirtual 179, 3) := by decide +kernel
theorem dL_law_1545 : decode cL_law 1545 = .ok (.aload_n 2, 1) := by decide +kernel
theorem dL_law_1546 : decode cL_law 1546 = .ok (.aload_n 0, 1) := by decide +kernel
theorem dL_law_1547 : decode cL_law 1547 = .ok (.iload_n 3, 1) := by decide +kernel
theorem dL_law_1548 : decode cL_law 1548 = .ok (.iconst 1, 1) := by decide +kernel
theorem dL_law_1549 : decode cL_law 1549 = .ok (.iadd, 1) := by decide +kernel
theorem dL_law_1550 : decode cL_law 1550 = .ok (.iaload, 1) := by decide +kernel
theorem dL_law_1551 : decode cL_law 1551 = .ok (.aload_n 0, 1) := by decide +kernel
theorem dL_law_1552 : decode cL_law 1552 = .ok (.iload_n 3, 1) := by decide +kernel
theorem dL_law_1553 : decode cL_law 1553 = .ok (.iconst 2, 1) := by decide +kernel
theorem dL_law_1554 : decode cL_law 1554 = .ok (.iadd, 1) := by decide +kernel
theorem dL_law_1555 : decode cL_law 1555 = .ok (.iaload, 1) := by decide +kernel
theorem dL_law_1556 : decode cL_law 1556 = .ok (.aload_n 0, 1) := by decide +kernel
theorem dL_law_1557 : decode cL_law 1557 = .ok (.iload_n 3, 1) := by decide +kernel
theorem dL_law_1558 : decode cL_law 1558 = .ok (.iconst 3, 1) := by decide +kernel
theorem dL_law_1559 : decode cL_law 1559 = .ok (.iadd, 1) := by decide +kernel
theorem dL_law_1560 : decode cL_law 1560 = .ok (.iaload, 1) := by decide +kernel
theorem dL_law_1561 : decode cL_law 1561 = .ok (.invokevirtual 182, 3) := by decide +kernel
theorem dL_law_1564 : decode cL_law 1564 = .ok (.if_icmp .eq 284, 3) := by decide +kernel
theorem dL_law_1567 : decode cL_law 1567 = .ok (.iconst 0, 1) := by decide +kernel
theorem dL_law_1568 : decode cL_law 1568 = .ok (.ireturn, 1) := by decide +kernel
theorem dL_law_1569 : decode cL_law 1569 = .ok (.aload_n 1, 1) := by decide +kernel
theorem dL_law_1570 : decode cL_law 1570 = .ok (.aload_n 0, 1) := by decide +kernel
theorem dL_law_1571 : decode cL_law 1571 = .ok (.iload_n 3, 1) := by decide +kernel
theorem dL_law_1572 : decode cL_law 1572 = .ok (.iconst 1, 1) := by decide +kernel
theorem dL_law_1573 : decode cL_law 1573 = .ok (.iadd, 1) := by decide +kernel
theorem dL_law_1574 : decode cL_law 1574 = .ok (.iaload, 1) := by decide +kernel
theorem dL_law_1575 : decode cL_law 1575 = .ok (.invokevirtual 183, 3) := by decide +kernel
theorem dL_law_1578 : decode cL_law 1578 = .ok (.aload_n 2, 1) := by decide +kernel
theorem dL_law_1579 : decode cL_law 1579 = .ok (.aload_n 0, 1) := by decide +kernel
theorem dL_law_1580 : decode cL_law 1580 = .ok (.iload_n 3, 1) := by decide +kernel
theorem dL_law_1581 : decode cL_law 1581 = .ok (.iconst 1, 1) := by decide +kernel
theorem dL_law_1582 : decode cL_law 1582 = .ok (.iadd, 1) := by decide +kernel
theorem dL_law_1583 : decode cL_law 1583 = .ok (.iaload, 1) := by decide +kernel
theorem dL_law_1584 : decode cL_law 1584 = .ok (.invokevirtual 186, 3) := by decide +kernel
theorem dL_law_1587 : decode cL_law 1587 = .ok (.if_icmp .eq 261, 3) := by decide +kernel
theorem dL_law_1590 : decode cL_law 1590 = .ok (.iconst 0, 1) := by decide +kernel
theorem dL_law_1591 : decode cL_law 1591 = .ok (.ireturn, 1) := by decide +kernel
theorem dL_law_1592 : decode cL_law 1592 = .ok (.aload_n 1, 1) := by decide +kernel
theorem dL_law_1593 : decode cL_law 1593 = .ok (.invokevirtual 187, 3) := by decide +kernel
theorem dL_law_1596 : decode cL_law 1596 = .ok (.aload_n 2, 1) := by decide +kernel
theorem dL_law_1597 : decode cL_law 1597 = .ok (.invokevirtual 190, 3) := by decide +kernel
theorem dL_law_1600 : decode cL_law 1600 = .ok (.if_icmp .eq 248, 3) := by decide +kernel
theorem dL_law_1603 : decode cL_law 1603 = .ok (.iconst 0, 1) := by decide +kernel
theorem dL_law_1604 : decode cL_law 1604 = .ok (.ireturn, 1) := by decide +kernel
theorem dL_law_1605 : decode cL_law 1605 = .ok (.aload_n 1, 1) := by decide +kernel
theorem dL_law_1606 : decode cL_law 1606 = .ok (.aload_n 0, 1) := by decide +kernel
theorem dL_law_1607 : decode cL_law 1607 = .ok (.iload_n 3, 1) := by decide +kernel
theorem dL_law_1608 : decode cL_law 1608 = .ok (.iconst 1, 1) := by decide +kernel
theorem dL_law_1609 : decode cL_law 1609 = .ok (.iadd, 1) := by decide +kernel
theorem dL_law_1610 : decode cL_law 1610 = .ok (.iaload, 1) := by decide +kernel
theorem dL_law_1611 : decode cL_law 1611 = .ok (.aload_n 0, 1) := by decide +kernel
theorem dL_law_1612 : decode cL_law 1612 = .ok (.iload_n 3, 1) := by decide +kernel
theorem dL_law_1613 : decode cL_law 1613 = .ok (.iconst 2, 1) := by decide +kernel
theorem dL_law_1614 : decode cL_law 1614 = .ok (.iadd, 1) := by decide +kernel
theorem dL_law_1615 : decode cL_law 1615 = .ok (.iaload, 1) := by decide +kernel
theorem dL_law_1616 : decode cL_law 1616 = .ok (.invokevirtual 191, 3) := by decide +kernel
theorem dL_law_1619 : decode cL_law 1619 = .ok (.aload_n 2, 1) := by decide +kernel
theorem dL_law_1620 : decode cL_law 1620 = .ok (.aload_n 0, 1) := by decide +kernel
theorem dL_law_1621 : decode cL_law 1621 = .ok (.iload_n 3, 1) := by decide +kernel
theorem dL_law_1622 : decode cL_law 1622 = .ok (.iconst 1, 1) := by decide +kernel
theorem dL_law_1623 : decode cL_law 1623 = .ok (.iadd, 1) := by decide +kernel
theorem dL_law_1624 : decode cL_law 1624 = .ok (.iaload, 1) := by decide +kernel
theorem dL_law_1625 : decode cL_law 1625 = .ok (.aload_n 0, 1) := by decide +kernel
theorem dL_law_1626 : decode cL_law 1626 = .ok (.iload_n 3, 1) := by decide +kernel
theorem dL_law_1627 : decode cL_law 1627 = .ok (.iconst 2, 1) := by decide +kernel
theorem dL_law_1628 : decode cL_law 1628 = .ok (.iadd, 1) := by decide +kernel
theorem dL_law_1629 : decode cL_law 1629 = .ok (.iaload, 1) := by decide +kernel
theorem dL_law_1630 : decode cL_law 1630 = .ok (.invokevirtual 194, 3) := by decide +kernel
theorem dL_law_1633 : decode cL_law 1633 = .ok (.if_icmp .eq 215, 3) := by decide +kernel
theorem dL_law_1636 : decode cL_law 1636 = .ok (.iconst 0, 1) := by decide +kernel
theorem dL_law_1637 : decode cL_law 1637 = .ok (.ireturn, 1) := by decide +kernel
theorem dL_law_1638 : decode cL_law 1638 = .ok (.aload_n 1, 1) := by decide +kernel
theorem dL_law_1639 : decode cL_law 1639 = .ok (.invokevirtual 195, 3) := by decide +kernel
theorem dL_law_1642 : decode cL_law 1642 = .ok (.aload_n 2, 1) := by decide +kernel
theorem dL_law_1643 : decode cL_law 1643 = .ok (.invokevirtual 198, 3) := by decide +kernel
theorem dL_law_1646 : decode cL_law 1646 = .ok (.if_icmp .eq 202, 3) := by decide +kernel
theorem dL_law_1649 : decode cL_law 1649 = .ok (.iconst 0, 1) := by decide +kernel
theorem dL_law_1650 : decode cL_law 1650 = .ok (.ireturn, 1) := by decide +kernel
theorem dL_law_1651 : decode cL_law 1651 = .ok (.aload_n 1, 1) := by decide +kernel
theorem dL_law_1652 : decode cL_law 1652 = .ok (.invokevirtual 199, 3) := by decide +kernel
theorem dL_law_1655 : decode cL_law 1655 = .ok (.aload_n 2, 1) := by decide +kernel
theorem dL_law_1656 : decode cL_law 1656 = .ok (.invokevirtual 202, 3) := by decide +kernel
theorem dL_law_1659 : decode cL_law 1659 = .ok (.if_icmp .eq 189, 3) := by decide +kernel
theorem dL_law_1662 : decode cL_law 1662 = .ok (.iconst 0, 1) := by decide +kernel
theorem dL_law_1663 : decode cL_law 1663 = .ok (.ireturn, 1) := by decide +kernel
theorem dL_law_1664 : decode cL_law 1664 = .ok (.aload_n 1, 1) := by decide +kernel
theorem dL_law_1665 : decode cL_law 1665 = .ok (.aload_n 0, 1) := by decide +kernel
theorem dL_law_1666 : decode cL_law 1666 = .ok (.iload_n 3, 1) := by decide +kernel
theorem dL_law_1667 : decode cL_law 1667 = .ok (.iconst 1, 1) := by decide +kernel
theorem dL_law_1668 : decode cL_law 1668 = .ok (.iadd, 1) := by decide +kernel
theorem dL_law_1669 : decode cL_law 1669 = .ok (.iaload, 1) := by decide +kernel
theorem dL_law_1670 : decode cL_law 1670 = .ok (.aload_n 0, 1) := by decide +kernel
theorem dL_law_1671 : decode cL_law 1671 = .ok (.iload_n 3, 1) := by decide +kernel
theorem dL_law_1672 : decode cL_law 1672 = .ok (.iconst 2, 1) := by decide +kernel
theorem dL_law_1673 : decode cL_law 1673 = .ok (.iadd, 1) := by decide +kernel
theorem dL_law_1674 : decode cL_law 1674 = .ok (.iaload, 1) := by decide +kernel
theorem dL_law_1675 : decode cL_law 1675 = .ok (.invokevirtual 203, 3) := by decide +kernel
theorem dL_law_1678 : decode cL_law 1678 = .ok (.aload_n 2, 1) := by decide +kernel
theorem dL_law_1679 : decode cL_law 1679 = .ok (.aload_n 0, 1) := by decide +kernel
theorem dL_law_1680 : decode cL_law 1680 = .ok (.iload_n 3, 1) := by decide +kernel
theorem dL_law_1681 : decode cL_law 1681 = .ok (.iconst 1, 1) := by decide +kernel
theorem dL_law_1682 : decode cL_law 1682 = .ok (.iadd, 1) := by decide +kernel
theorem dL_law_1683 : decode cL_law 1683 = .ok (.iaload, 1) := by decide +kernel
theorem dL_law_1684 : decode cL_law 1684 = .ok (.aload_n 0, 1) := by decide +kernel
theorem dL_law_1685 : decode cL_law 1685 = .ok (.iload_n 3, 1) := by decide +kernel
theorem dL_law_1686 : decode cL_law 1686 = .ok (.iconst 2, 1) := by decide +kernel
theorem dL_law_1687 : decode cL_law 1687 = .ok (.iadd, 1) := by decide +kernel
theorem dL_law_1688 : decode cL_law 1688 = .ok (.iaload, 1) := by decide +kernel
theorem dL_law_1689 : decode cL_law 1689 = .ok (.invokevirtual 206, 3) := by decide +kernel
theorem dL_law_1692 : decode cL_law 1692 = .ok (.if_icmp .eq 156, 3) := by decide +kernel
theorem dL_law_1695 : decode cL_law 1695 = .ok (.iconst 0, 1) := by decide +kernel
theorem dL_law_1696 : decode cL_law 1696 = .ok (.ireturn, 1) := by decide +kernel
theorem dL_law_1697 : decode cL_law 1697 = .ok (.aload_n 1, 1) := by decide +kernel
theorem dL_law_1698 : decode cL_law 1698 = .ok (.invokevirtual 207, 3) := by decide +kernel
theorem dL_law_1701 : decode cL_law 1701 = .ok (.aload_n 2, 1) := by decide +kernel
theorem dL_law_1702 : decode cL_law 1702 = .ok (.invokevirtual 210, 3) := by decide +kernel
theorem dL_law_1705 : decode cL_law 1705 = .ok (.if_icmp .eq 143, 3) := by decide +kernel
theorem dL_law_1708 : decode cL_law 1708 = .ok (.iconst 0, 1) := by decide +kernel
theorem dL_law_1709 : decode cL_law 1709 = .ok (.ireturn, 1) := by decide +kernel
theorem dL_law_1710 : decode cL_law 1710 = .ok (.aload_n 1, 1) := by decide +kernel
theorem dL_law_1711 : decode cL_law 1711 = .ok (.aload_n 0, 1) := by decide +kernel
theorem dL_law_1712 : decode cL_law 1712 = .ok (.iload_n 3, 1) := by decide +kernel
theorem dL_law_1713 : decode cL_law 1713 = .ok (.iconst 1, 1) := by decide +kernel
theorem dL_law_1714 : decode cL_law 1714 = .ok (.iadd, 1) := by decide +kernel
theorem dL_law_1715 : decode cL_law 1715 = .ok (.iaload, 1) := by decide +kernel
theorem dL_law_1716 : decode cL_law 1716 = .ok (.invokevirtual 211, 3) := by decide +kernel
theorem dL_law_1719 : decode cL_law 1719 = .ok (.aload_n 2, 1) := by decide +kernel
theorem dL_law_1720 : decode cL_law 1720 = .ok (.aload_n 0, 1) := by decide +kernel
theorem dL_law_1721 : decode cL_law 1721 = .ok (.iload_n 3, 1) := by decide +kernel
theorem dL_law_1722 : decode cL_law 1722 = .ok (.iconst 1, 1) := by decide +kernel
theorem dL_law_1723 : decode cL_law 1723 = .ok (.iadd, 1) := by decide +kernel
theorem dL_law_1724 : decode cL_law 1724 = .ok (.iaload, 1) := by decide +kernel
theorem dL_law_1725 : decode cL_law 1725 = .ok (.invokevirtual 214, 3) := by decide +kernel
theorem dL_law_1728 : decode cL_law 1728 = .ok (.if_icmp .eq 120, 3) := by decide +kernel
theorem dL_law_1731 : decode cL_law 1731 = .ok (.iconst 0, 1) := by decide +kernel
theorem dL_law_1732 : decode cL_law 1732 = .ok (.ireturn, 1) := by decide +kernel
theorem dL_law_1733 : decode cL_law 1733 = .ok (.aload_n 1, 1) := by decide +kernel
theorem dL_law_1734 : decode cL_law 1734 = .ok (.invokevirtual 215, 3) := by decide +kernel
theorem dL_law_1737 : decode cL_law 1737 = .ok (.aload_n 2, 1) := by decide +kernel
theorem dL_law_1738 : decode cL_law 1738 = .ok (.invokevirtual 218, 3) := by decide +kernel
theorem dL_law_1741 : decode cL_law 1741 = .ok (.if_icmp .eq 107, 3) := by decide +kernel
theorem dL_law_1744 : decode cL_law 1744 = .ok (.iconst 0, 1) := by decide +kernel
theorem dL_law_1745 : decode cL_law 1745 = .ok (.ireturn, 1) := by decide +kernel
theorem dL_law_1746 : decode cL_law 1746 = .ok (.aload_n 1, 1) := by decide +kernel
theorem dL_law_1747 : decode cL_law 1747 = .ok (.aload_n 0, 1) := by decide +kernel
theorem dL_law_1748 : decode cL_law 1748 = .ok (.iload_n 3, 1) := by decide +kernel
theorem dL_law_1749 : decode cL_law 1749 = .ok (.iconst 1, 1) := by decide +kernel
theorem dL_law_1750 : decode cL_law 1750 = .ok (.iadd, 1) := by decide +kernel
theorem dL_law_1751 : decode cL_law 1751 = .ok (.iaload, 1) := by decide +kernel
theorem dL_law_1752 : decode cL_law 1752 = .ok (.invokevirtual 219, 3) := by decide +kernel
theorem dL_law_1755 : decode cL_law 1755 = .ok (.aload_n 2, 1) := by decide +kernel
theorem dL_law_1756 : decode cL_law 1756 = .ok (.aload_n 0, 1) := by decide +kernel
theorem dL_law_1757 : decode cL_law 1757 = .ok (.iload_n 3, 1) := by decide +kernel
theorem dL_law_1758 : decode cL_law 1758 = .ok (.iconst 1, 1) := by decide +kernel
theorem dL_law_1759 : decode cL_law 1759 = .ok (.iadd, 1) := by decide +kernel
theorem dL_law_1760 : decode cL_law 1760 = .ok (.iaload, 1) := by decide +kernel
theorem dL_law_1761 : decode cL_law 1761 = .ok (.invokevirtual 222, 3) := by decide +kernel
theorem dL_law_1764 : decode cL_law 1764 = .ok (.if_icmp .eq 84, 3) := by decide +kernel
theorem dL_law_1767 : decode cL_law 1767 = .ok (.iconst 0, 1) := by decide +kernel
theorem dL_law_1768 : decode cL_law 1768 = .ok (.ireturn, 1) := by decide +kernel
theorem dL_law_1769 : decode cL_law 1769 = .ok (.aload_n 1, 1) := by decide +kernel
theorem dL_law_1770 : decode cL_law 1770 = .ok (.aload_n 0, 1) := by decide +kernel
theorem dL_law_1771 : decode cL_law 1771 = .ok (.iload_n 3, 1) := by decide +kernel
theorem dL_law_1772 : decode cL_law 1772 = .ok (.iconst 1, 1) := by decide +kernel
theorem dL_law_1773 : decode cL_law 1773 = .ok (.iadd, 1) := by decide +kernel
theorem dL_law_1774 : decode cL_law 1774 = .ok (.iaload, 1) := by decide +kernel
theorem dL_law_1775 : decode cL_law 1775 = .ok (.invokevirtual 223, 3) := by decide +kernel
theorem dL_law_1778 : decode cL_law 1778 = .ok (.aload_n 2, 1) := by decide +kernel
theorem dL_law_1779 : decode cL_law 1779 = .ok (.aload_n 0, 1) := by decide +kernel
theorem dL_law_1780 : decode cL_law 1780 = .ok (.iload_n 3, 1) := by decide +kernel
theorem dL_law_1781 : decode cL_law 1781 = .ok (.iconst 1, 1) := by decide +kernel
theorem dL_law_1782 : decode cL_law 1782 = .ok (.iadd, 1) := by decide +kernel
theorem dL_law_1783 : decode cL_law 1783 = .ok (.iaload, 1) := by decide +kernel
theorem dL_law_1784 : decode cL_law 1784 = .ok (.invokevirtual 226, 3) := by decide +kernel
theorem dL_law_1787 : decode cL_law 1787 = .ok (.if_icmp .eq 61, 3) := by decide +kernel
theorem dL_law_1790 : decode cL_law 1790 = .ok (.iconst 0, 1) := by decide +kernel
theorem dL_law_1791 : decode cL_law 1791 = .ok (.ireturn, 1) := by decide +kernel
theorem dL_law_1792 : decode cL_law 1792 = .ok (.aload_n 1, 1) := by decide +kernel
theorem dL_law_1793 : decode cL_law 1793 = .ok (.aload_n 0, 1) := by decide +kernel
theorem dL_law_1794 : decode cL_law 1794 = .ok (.iload_n 3, 1) := by decide +kernel
theorem dL_law_1795 : decode cL_law 1795 = .ok (.iconst 1, 1) := by decide +kernel
theorem dL_law_1796 : decode cL_law 1796 = .ok (.iadd, 1) := by decide +kernel
theorem dL_law_1797 : decode cL_law 1797 = .ok (.iaload, 1) := by decide +kernel
theorem dL_law_1798 : decode cL_law 1798 = .ok (.aload_n 0, 1) := by decide +kernel
theorem dL_law_1799 : decode cL_law 1799 = .ok (.iload_n 3, 1) := by decide +kernel
theorem dL_law_1800 : decode cL_law 1800 = .ok (.iconst 2, 1) := by decide +kernel
theorem dL_law_1801 : decode cL_law 1801 = .ok (.iadd, 1) := by decide +kernel
theorem dL_law_1802 : decode cL_law 1802 = .ok (.iaload, 1) := by decide +kernel
theorem dL_law_1803 : decode cL_law 1803 = .ok (.invokevirtual 227, 3) := by decide +kernel
theorem dL_law_1806 : decode cL_law 1806 = .ok (.aload_n 2, 1) := by decide +kernel
theorem dL_law_1807 : decode cL_law 1807 = .ok (.aload_n 0, 1) := by decide +kernel
theorem dL_law_1808 : decode cL_law 1808 = .ok (.iload_n 3, 1) := by decide +kernel
theorem dL_law_1809 : decode cL_law 1809 = .ok (.iconst 1, 1) := by decide +kernel
theorem dL_law_1810 : decode cL_law 1810 = .ok (.iadd, 1) := by decide +kernel
theorem dL_law_1811 : decode cL_law 1811 = .ok (.iaload, 1) := by decide +kernel
theorem dL_law_1812 : decode cL_law 1812 = .ok (.aload_n 0, 1) := by decide +kernel
theorem dL_law_1813 : decode cL_law 1813 = .ok (.iload_n 3, 1) := by decide +kernel
theorem dL_law_1814 : decode cL_law 1814 = .ok (.iconst 2, 1) := by decide +kernel
theorem dL_law_1815 : decode cL_law 1815 = .ok (.iadd, 1) := by decide +kernel
theorem dL_law_1816 : decode cL_law 1816 = .ok (.iaload, 1) := by decide +kernel
theorem dL_law_1817 : decode cL_law 1817 = .ok (.invokevirtual 230, 3) := by decide +kernel
theorem dL_law_1820 : decode cL_law 1820 = .ok (.if_icmp .eq 28, 3) := by decide +kernel
theorem dL_law_1823 : decode cL_law 1823 = .ok (.iconst 0, 1) := by decide +kernel
theorem dL_law_1824 : decode cL_law 1824 = .ok (.ireturn, 1) := by decide +kernel
theorem dL_law_1825 : decode cL_law 1825 = .ok (.aload_n 1, 1) := by decide +kernel
theorem dL_law_1826 : decode cL_law 1826 = .ok (.aload_n 0, 1) := by decide +kernel
theorem dL_law_1827 : decode cL_law 1827 = .ok (.iload_n 3, 1) := by decide +kernel
theorem dL_law_1828 : decode cL_law 1828 = .ok (.iconst 1, 1) := by decide +kernel
theorem dL_law_1829 : decode cL_law 1829 = .ok (.iadd, 1) := by decide +kernel
theorem dL_law_1830 : decode cL_law 1830 = .ok (.iaload, 1) := by decide +kernel
theorem dL_law_1831 : decode cL_law 1831 = .ok (.invokevirtual 231, 3) := by decide +kernel
theorem dL_law_1834 : decode cL_law 1834 = .ok (.aload_n 2, 1) := by decide +kernel
theorem dL_law_1835 : decode cL_law 1835 = .ok (.aload_n 0, 1) := by decide +kernel
theorem dL_law_1836 : decode cL_law 1836 = .ok (.iload_n 3, 1) := by decide +kernel
theorem dL_law_1837 : decode cL_law 1837 = .ok (.iconst 1, 1) := by decide +kernel
theorem dL_law_1838 : decode cL_law 1838 = .ok (.iadd, 1) := by decide +kernel
theorem dL_law_1839 : decode cL_law 1839 = .ok (.iaload, 1) := by decide +kernel
theorem dL_law_1840 : decode cL_law 1840 = .ok (.invokevirtual 234, 3) := by decide +kernel
theorem dL_law_1843 : decode cL_law 1843 = .ok (.if_icmp .eq 5, 3) := by decide +kernel
theorem dL_law_1846 : decode cL_law 1846 = .ok (.iconst 0, 1) := by decide +kernel
theorem dL_law_1847 : decode cL_law 1847 = .ok (.ireturn, 1) := by decide +kernel
theorem dL_law_1848 : decode cL_law 1848 = .ok (.iinc 3 6, 3) := by decide +kernel
theorem dL_law_1851 : decode cL_law 1851 = .ok (.goto (-1833), 3) := by decide +kernel
theorem dL_law_1854 : decode cL_law 1854 = .ok (.iconst 1, 1) := by decide +kernel
theorem dL_law_1855 : decode cL_law 1855 = .ok (.ireturn, 1) := by decide +kernel
