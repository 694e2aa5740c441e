/-! the law's decode rows, 4 (wip/whole/gen31.py) -/
theorem d_L_1120 : decode code 1120 = .ok (.aload_n 1, 1) := by decide +kernel
theorem d_L_1121 : decode code 1121 = .ok (.aload_n 0, 1) := by decide +kernel
theorem d_L_1122 : decode code 1122 = .ok (.iload_n 3, 1) := by decide +kernel
theorem d_L_1123 : decode code 1123 = .ok (.iconst 1, 1) := by decide +kernel
theorem d_L_1124 : decode code 1124 = .ok (.iadd, 1) := by decide +kernel
theorem d_L_1125 : decode code 1125 = .ok (.iaload, 1) := by decide +kernel
theorem d_L_1126 : decode code 1126 = .ok (.invokevirtual 138, 3) := by decide +kernel
theorem d_L_1129 : decode code 1129 = .ok (.aload_n 2, 1) := by decide +kernel
theorem d_L_1130 : decode code 1130 = .ok (.aload_n 0, 1) := by decide +kernel
theorem d_L_1131 : decode code 1131 = .ok (.iload_n 3, 1) := by decide +kernel
theorem d_L_1132 : decode code 1132 = .ok (.iconst 1, 1) := by decide +kernel
theorem d_L_1133 : decode code 1133 = .ok (.iadd, 1) := by decide +kernel
theorem d_L_1134 : decode code 1134 = .ok (.iaload, 1) := by decide +kernel
theorem d_L_1135 : decode code 1135 = .ok (.invokevirtual 141, 3) := by decide +kernel
theorem d_L_1138 : decode code 1138 = .ok (.if_icmp .eq 276, 3) := by decide +kernel
theorem d_L_1143 : decode code 1143 = .ok (.aload_n 1, 1) := by decide +kernel
theorem d_L_1144 : decode code 1144 = .ok (.aload_n 0, 1) := by decide +kernel
theorem d_L_1145 : decode code 1145 = .ok (.iload_n 3, 1) := by decide +kernel
theorem d_L_1146 : decode code 1146 = .ok (.iconst 1, 1) := by decide +kernel
theorem d_L_1147 : decode code 1147 = .ok (.iadd, 1) := by decide +kernel
theorem d_L_1148 : decode code 1148 = .ok (.iaload, 1) := by decide +kernel
theorem d_L_1149 : decode code 1149 = .ok (.aload_n 0, 1) := by decide +kernel
theorem d_L_1150 : decode code 1150 = .ok (.iload_n 3, 1) := by decide +kernel
theorem d_L_1151 : decode code 1151 = .ok (.iconst 2, 1) := by decide +kernel
theorem d_L_1152 : decode code 1152 = .ok (.iadd, 1) := by decide +kernel
theorem d_L_1153 : decode code 1153 = .ok (.iaload, 1) := by decide +kernel
theorem d_L_1154 : decode code 1154 = .ok (.aload_n 0, 1) := by decide +kernel
theorem d_L_1155 : decode code 1155 = .ok (.iload_n 3, 1) := by decide +kernel
theorem d_L_1156 : decode code 1156 = .ok (.iconst 3, 1) := by decide +kernel
theorem d_L_1157 : decode code 1157 = .ok (.iadd, 1) := by decide +kernel
theorem d_L_1158 : decode code 1158 = .ok (.iaload, 1) := by decide +kernel
theorem d_L_1159 : decode code 1159 = .ok (.invokevirtual 142, 3) := by decide +kernel
theorem d_L_1162 : decode code 1162 = .ok (.aload_n 2, 1) := by decide +kernel
theorem d_L_1163 : decode code 1163 = .ok (.aload_n 0, 1) := by decide +kernel
theorem d_L_1164 : decode code 1164 = .ok (.iload_n 3, 1) := by decide +kernel
theorem d_L_1165 : decode code 1165 = .ok (.iconst 1, 1) := by decide +kernel
theorem d_L_1166 : decode code 1166 = .ok (.iadd, 1) := by decide +kernel
theorem d_L_1167 : decode code 1167 = .ok (.iaload, 1) := by decide +kernel
theorem d_L_1168 : decode code 1168 = .ok (.aload_n 0, 1) := by decide +kernel
theorem d_L_1169 : decode code 1169 = .ok (.iload_n 3, 1) := by decide +kernel
theorem d_L_1170 : decode code 1170 = .ok (.iconst 2, 1) := by decide +kernel
theorem d_L_1171 : decode code 1171 = .ok (.iadd, 1) := by decide +kernel
theorem d_L_1172 : decode code 1172 = .ok (.iaload, 1) := by decide +kernel
theorem d_L_1173 : decode code 1173 = .ok (.aload_n 0, 1) := by decide +kernel
theorem d_L_1174 : decode code 1174 = .ok (.iload_n 3, 1) := by decide +kernel
theorem d_L_1175 : decode code 1175 = .ok (.iconst 3, 1) := by decide +kernel
theorem d_L_1176 : decode code 1176 = .ok (.iadd, 1) := by decide +kernel
theorem d_L_1177 : decode code 1177 = .ok (.iaload, 1) := by decide +kernel
theorem d_L_1178 : decode code 1178 = .ok (.invokevirtual 145, 3) := by decide +kernel
theorem d_L_1181 : decode code 1181 = .ok (.if_icmp .eq 233, 3) := by decide +kernel
theorem d_L_1186 : decode code 1186 = .ok (.aload_n 1, 1) := by decide +kernel
theorem d_L_1187 : decode code 1187 = .ok (.aload_n 0, 1) := by decide +kernel
theorem d_L_1188 : decode code 1188 = .ok (.iload_n 3, 1) := by decide +kernel
theorem d_L_1189 : decode code 1189 = .ok (.iconst 1, 1) := by decide +kernel
theorem d_L_1190 : decode code 1190 = .ok (.iadd, 1) := by decide +kernel
theorem d_L_1191 : decode code 1191 = .ok (.iaload, 1) := by decide +kernel
theorem d_L_1192 : decode code 1192 = .ok (.invokevirtual 146, 3) := by decide +kernel
theorem d_L_1195 : decode code 1195 = .ok (.aload_n 2, 1) := by decide +kernel
theorem d_L_1196 : decode code 1196 = .ok (.aload_n 0, 1) := by decide +kernel
theorem d_L_1197 : decode code 1197 = .ok (.iload_n 3, 1) := by decide +kernel
theorem d_L_1198 : decode code 1198 = .ok (.iconst 1, 1) := by decide +kernel
theorem d_L_1199 : decode code 1199 = .ok (.iadd, 1) := by decide +kernel
theorem d_L_1200 : decode code 1200 = .ok (.iaload, 1) := by decide +kernel
theorem d_L_1201 : decode code 1201 = .ok (.invokevirtual 149, 3) := by decide +kernel
theorem d_L_1204 : decode code 1204 = .ok (.if_icmp .eq 210, 3) := by decide +kernel
theorem d_L_1209 : decode code 1209 = .ok (.aload_n 1, 1) := by decide +kernel
theorem d_L_1210 : decode code 1210 = .ok (.aload_n 0, 1) := by decide +kernel
theorem d_L_1211 : decode code 1211 = .ok (.iload_n 3, 1) := by decide +kernel
theorem d_L_1212 : decode code 1212 = .ok (.iconst 1, 1) := by decide +kernel
theorem d_L_1213 : decode code 1213 = .ok (.iadd, 1) := by decide +kernel
theorem d_L_1214 : decode code 1214 = .ok (.iaload, 1) := by decide +kernel
theorem d_L_1215 : decode code 1215 = .ok (.aload_n 0, 1) := by decide +kernel
theorem d_L_1216 : decode code 1216 = .ok (.iload_n 3, 1) := by decide +kernel
theorem d_L_1217 : decode code 1217 = .ok (.iconst 2, 1) := by decide +kernel
theorem d_L_1218 : decode code 1218 = .ok (.iadd, 1) := by decide +kernel
theorem d_L_1219 : decode code 1219 = .ok (.iaload, 1) := by decide +kernel
theorem d_L_1220 : decode code 1220 = .ok (.invokevirtual 150, 3) := by decide +kernel
theorem d_L_1223 : decode code 1223 = .ok (.aload_n 2, 1) := by decide +kernel
theorem d_L_1224 : decode code 1224 = .ok (.aload_n 0, 1) := by decide +kernel
theorem d_L_1225 : decode code 1225 = .ok (.iload_n 3, 1) := by decide +kernel
theorem d_L_1226 : decode code 1226 = .ok (.iconst 1, 1) := by decide +kernel
theorem d_L_1227 : decode code 1227 = .ok (.iadd, 1) := by decide +kernel
theorem d_L_1228 : decode code 1228 = .ok (.iaload, 1) := by decide +kernel
theorem d_L_1229 : decode code 1229 = .ok (.aload_n 0, 1) := by decide +kernel
theorem d_L_1230 : decode code 1230 = .ok (.iload_n 3, 1) := by decide +kernel
theorem d_L_1231 : decode code 1231 = .ok (.iconst 2, 1) := by decide +kernel
theorem d_L_1232 : decode code 1232 = .ok (.iadd, 1) := by decide +kernel
theorem d_L_1233 : decode code 1233 = .ok (.iaload, 1) := by decide +kernel
theorem d_L_1234 : decode code 1234 = .ok (.invokevirtual 153, 3) := by decide +kernel
theorem d_L_1237 : decode code 1237 = .ok (.if_icmp .eq 177, 3) := by decide +kernel
theorem d_L_1242 : decode code 1242 = .ok (.aload_n 1, 1) := by decide +kernel
theorem d_L_1243 : decode code 1243 = .ok (.aload_n 0, 1) := by decide +kernel
theorem d_L_1244 : decode code 1244 = .ok (.iload_n 3, 1) := by decide +kernel
theorem d_L_1245 : decode code 1245 = .ok (.iconst 1, 1) := by decide +kernel
theorem d_L_1246 : decode code 1246 = .ok (.iadd, 1) := by decide +kernel
theorem d_L_1247 : decode code 1247 = .ok (.iaload, 1) := by decide +kernel
theorem d_L_1248 : decode code 1248 = .ok (.invokevirtual 154, 3) := by decide +kernel
theorem d_L_1251 : decode code 1251 = .ok (.aload_n 2, 1) := by decide +kernel
theorem d_L_1252 : decode code 1252 = .ok (.aload_n 0, 1) := by decide +kernel
theorem d_L_1253 : decode code 1253 = .ok (.iload_n 3, 1) := by decide +kernel
theorem d_L_1254 : decode code 1254 = .ok (.iconst 1, 1) := by decide +kernel
theorem d_L_1255 : decode code 1255 = .ok (.iadd, 1) := by decide +kernel
theorem d_L_1256 : decode code 1256 = .ok (.iaload, 1) := by decide +kernel
theorem d_L_1257 : decode code 1257 = .ok (.invokevirtual 157, 3) := by decide +kernel
theorem d_L_1260 : decode code 1260 = .ok (.if_icmp .eq 154, 3) := by decide +kernel
theorem d_L_1265 : decode code 1265 = .ok (.aload_n 1, 1) := by decide +kernel
theorem d_L_1266 : decode code 1266 = .ok (.aload_n 0, 1) := by decide +kernel
theorem d_L_1267 : decode code 1267 = .ok (.iload_n 3, 1) := by decide +kernel
theorem d_L_1268 : decode code 1268 = .ok (.iconst 1, 1) := by decide +kernel
theorem d_L_1269 : decode code 1269 = .ok (.iadd, 1) := by decide +kernel
theorem d_L_1270 : decode code 1270 = .ok (.iaload, 1) := by decide +kernel
theorem d_L_1271 : decode code 1271 = .ok (.aload_n 0, 1) := by decide +kernel
theorem d_L_1272 : decode code 1272 = .ok (.iload_n 3, 1) := by decide +kernel
theorem d_L_1273 : decode code 1273 = .ok (.iconst 2, 1) := by decide +kernel
theorem d_L_1274 : decode code 1274 = .ok (.iadd, 1) := by decide +kernel
theorem d_L_1275 : decode code 1275 = .ok (.iaload, 1) := by decide +kernel
theorem d_L_1276 : decode code 1276 = .ok (.aload_n 0, 1) := by decide +kernel
theorem d_L_1277 : decode code 1277 = .ok (.iload_n 3, 1) := by decide +kernel
theorem d_L_1278 : decode code 1278 = .ok (.iconst 3, 1) := by decide +kernel
theorem d_L_1279 : decode code 1279 = .ok (.iadd, 1) := by decide +kernel
theorem d_L_1280 : decode code 1280 = .ok (.iaload, 1) := by decide +kernel
theorem d_L_1281 : decode code 1281 = .ok (.invokevirtual 158, 3) := by decide +kernel
theorem d_L_1284 : decode code 1284 = .ok (.aload_n 2, 1) := by decide +kernel
theorem d_L_1285 : decode code 1285 = .ok (.aload_n 0, 1) := by decide +kernel
theorem d_L_1286 : decode code 1286 = .ok (.iload_n 3, 1) := by decide +kernel
theorem d_L_1287 : decode code 1287 = .ok (.iconst 1, 1) := by decide +kernel
theorem d_L_1288 : decode code 1288 = .ok (.iadd, 1) := by decide +kernel
theorem d_L_1289 : decode code 1289 = .ok (.iaload, 1) := by decide +kernel
theorem d_L_1290 : decode code 1290 = .ok (.aload_n 0, 1) := by decide +kernel
theorem d_L_1291 : decode code 1291 = .ok (.iload_n 3, 1) := by decide +kernel
theorem d_L_1292 : decode code 1292 = .ok (.iconst 2, 1) := by decide +kernel
theorem d_L_1293 : decode code 1293 = .ok (.iadd, 1) := by decide +kernel
theorem d_L_1294 : decode code 1294 = .ok (.iaload, 1) := by decide +kernel
theorem d_L_1295 : decode code 1295 = .ok (.aload_n 0, 1) := by decide +kernel
theorem d_L_1296 : decode code 1296 = .ok (.iload_n 3, 1) := by decide +kernel
theorem d_L_1297 : decode code 1297 = .ok (.iconst 3, 1) := by decide +kernel
theorem d_L_1298 : decode code 1298 = .ok (.iadd, 1) := by decide +kernel
theorem d_L_1299 : decode code 1299 = .ok (.iaload, 1) := by decide +kernel
theorem d_L_1300 : decode code 1300 = .ok (.invokevirtual 161, 3) := by decide +kernel
theorem d_L_1303 : decode code 1303 = .ok (.if_icmp .eq 111, 3) := by decide +kernel
theorem d_L_1308 : decode code 1308 = .ok (.aload_n 1, 1) := by decide +kernel
theorem d_L_1309 : decode code 1309 = .ok (.aload_n 0, 1) := by decide +kernel
theorem d_L_1310 : decode code 1310 = .ok (.iload_n 3, 1) := by decide +kernel
theorem d_L_1311 : decode code 1311 = .ok (.iconst 1, 1) := by decide +kernel
theorem d_L_1312 : decode code 1312 = .ok (.iadd, 1) := by decide +kernel
theorem d_L_1313 : decode code 1313 = .ok (.iaload, 1) := by decide +kernel
theorem d_L_1314 : decode code 1314 = .ok (.aload_n 0, 1) := by decide +kernel
theorem d_L_1315 : decode code 1315 = .ok (.iload_n 3, 1) := by decide +kernel
theorem d_L_1316 : decode code 1316 = .ok (.iconst 2, 1) := by decide +kernel
theorem d_L_1317 : decode code 1317 = .ok (.iadd, 1) := by decide +kernel
theorem d_L_1318 : decode code 1318 = .ok (.iaload, 1) := by decide +kernel
theorem d_L_1319 : decode code 1319 = .ok (.aload_n 0, 1) := by decide +kernel
theorem d_L_1320 : decode code 1320 = .ok (.iload_n 3, 1) := by decide +kernel
theorem d_L_1321 : decode code 1321 = .ok (.iconst 3, 1) := by decide +kernel
theorem d_L_1322 : decode code 1322 = .ok (.iadd, 1) := by decide +kernel
theorem d_L_1323 : decode code 1323 = .ok (.iaload, 1) := by decide +kernel
theorem d_L_1324 : decode code 1324 = .ok (.invokevirtual 162, 3) := by decide +kernel
theorem d_L_1327 : decode code 1327 = .ok (.aload_n 2, 1) := by decide +kernel
theorem d_L_1328 : decode code 1328 = .ok (.aload_n 0, 1) := by decide +kernel
theorem d_L_1329 : decode code 1329 = .ok (.iload_n 3, 1) := by decide +kernel
theorem d_L_1330 : decode code 1330 = .ok (.iconst 1, 1) := by decide +kernel
theorem d_L_1331 : decode code 1331 = .ok (.iadd, 1) := by decide +kernel
theorem d_L_1332 : decode code 1332 = .ok (.iaload, 1) := by decide +kernel
theorem d_L_1333 : decode code 1333 = .ok (.aload_n 0, 1) := by decide +kernel
theorem d_L_1334 : decode code 1334 = .ok (.iload_n 3, 1) := by decide +kernel
theorem d_L_1335 : decode code 1335 = .ok (.iconst 2, 1) := by decide +kernel
theorem d_L_1336 : decode code 1336 = .ok (.iadd, 1) := by decide +kernel
theorem d_L_1337 : decode code 1337 = .ok (.iaload, 1) := by decide +kernel
theorem d_L_1338 : decode code 1338 = .ok (.aload_n 0, 1) := by decide +kernel
theorem d_L_1339 : decode code 1339 = .ok (.iload_n 3, 1) := by decide +kernel
theorem d_L_1340 : decode code 1340 = .ok (.iconst 3, 1) := by decide +kernel
theorem d_L_1341 : decode code 1341 = .ok (.iadd, 1) := by decide +kernel
theorem d_L_1342 : decode code 1342 = .ok (.iaload, 1) := by decide +kernel
theorem d_L_1343 : decode code 1343 = .ok (.invokevirtual 165, 3) := by decide +kernel
theorem d_L_1346 : decode code 1346 = .ok (.if_icmp .eq 68, 3) := by decide +kernel
theorem d_L_1351 : decode code 1351 = .ok (.aload_n 1, 1) := by decide +kernel
theorem d_L_1352 : decode code 1352 = .ok (.aload_n 0, 1) := by decide +kernel
theorem d_L_1353 : decode code 1353 = .ok (.iload_n 3, 1) := by decide +kernel
theorem d_L_1354 : decode code 1354 = .ok (.iconst 1, 1) := by decide +kernel
theorem d_L_1355 : decode code 1355 = .ok (.iadd, 1) := by decide +kernel
theorem d_L_1356 : decode code 1356 = .ok (.iaload, 1) := by decide +kernel
theorem d_L_1357 : decode code 1357 = .ok (.aload_n 0, 1) := by decide +kernel
theorem d_L_1358 : decode code 1358 = .ok (.iload_n 3, 1) := by decide +kernel
theorem d_L_1359 : decode code 1359 = .ok (.iconst 2, 1) := by decide +kernel
theorem d_L_1360 : decode code 1360 = .ok (.iadd, 1) := by decide +kernel
theorem d_L_1361 : decode code 1361 = .ok (.iaload, 1) := by decide +kernel
theorem d_L_1362 : decode code 1362 = .ok (.aload_n 0, 1) := by decide +kernel
theorem d_L_1363 : decode code 1363 = .ok (.iload_n 3, 1) := by decide +kernel
theorem d_L_1364 : decode code 1364 = .ok (.iconst 3, 1) := by decide +kernel
theorem d_L_1365 : decode code 1365 = .ok (.iadd, 1) := by decide +kernel
theorem d_L_1366 : decode code 1366 = .ok (.iaload, 1) := by decide +kernel
theorem d_L_1367 : decode code 1367 = .ok (.aload_n 0, 1) := by decide +kernel
theorem d_L_1368 : decode code 1368 = .ok (.iload_n 3, 1) := by decide +kernel
theorem d_L_1369 : decode code 1369 = .ok (.iconst 4, 1) := by decide +kernel
theorem d_L_1370 : decode code 1370 = .ok (.iadd, 1) := by decide +kernel
theorem d_L_1371 : decode code 1371 = .ok (.iaload, 1) := by decide +kernel
theorem d_L_1372 : decode code 1372 = .ok (.aload_n 0, 1) := by decide +kernel
theorem d_L_1373 : decode code 1373 = .ok (.iload_n 3, 1) := by decide +kernel
theorem d_L_1374 : decode code 1374 = .ok (.iconst 5, 1) := by decide +kernel
theorem d_L_1375 : decode code 1375 = .ok (.iadd, 1) := by decide +kernel
theorem d_L_1376 : decode code 1376 = .ok (.iaload, 1) := by decide +kernel
theorem d_L_1377 : decode code 1377 = .ok (.invokevirtual 166, 3) := by decide +kernel
theorem d_L_1380 : decode code 1380 = .ok (.aload_n 2, 1) := by decide +kernel
theorem d_L_1381 : decode code 1381 = .ok (.aload_n 0, 1) := by decide +kernel
theorem d_L_1382 : decode code 1382 = .ok (.iload_n 3, 1) := by decide +kernel
theorem d_L_1383 : decode code 1383 = .ok (.iconst 1, 1) := by decide +kernel
theorem d_L_1384 : decode code 1384 = .ok (.iadd, 1) := by decide +kernel
theorem d_L_1385 : decode code 1385 = .ok (.iaload, 1) := by decide +kernel
theorem d_L_1386 : decode code 1386 = .ok (.aload_n 0, 1) := by decide +kernel
theorem d_L_1387 : decode code 1387 = .ok (.iload_n 3, 1) := by decide +kernel
theorem d_L_1388 : decode code 1388 = .ok (.iconst 2, 1) := by decide +kernel
theorem d_L_1389 : decode code 1389 = .ok (.iadd, 1) := by decide +kernel
theorem d_L_1390 : decode code 1390 = .ok (.iaload, 1) := by decide +kernel
theorem d_L_1391 : decode code 1391 = .ok (.aload_n 0, 1) := by decide +kernel
theorem d_L_1392 : decode code 1392 = .ok (.iload_n 3, 1) := by decide +kernel
theorem d_L_1393 : decode code 1393 = .ok (.iconst 3, 1) := by decide +kernel
theorem d_L_1394 : decode code 1394 = .ok (.iadd, 1) := by decide +kernel
theorem d_L_1395 : decode code 1395 = .ok (.iaload, 1) := by decide +kernel
theorem d_L_1396 : decode code 1396 = .ok (.aload_n 0, 1) := by decide +kernel
theorem d_L_1397 : decode code 1397 = .ok (.iload_n 3, 1) := by decide +kernel
theorem d_L_1398 : decode code 1398 = .ok (.iconst 4, 1) := by decide +kernel
theorem d_L_1399 : decode code 1399 = .ok (.iadd, 1) := by decide +kernel
theorem d_L_1400 : decode code 1400 = .ok (.iaload, 1) := by decide +kernel
theorem d_L_1401 : decode code 1401 = .ok (.aload_n 0, 1) := by decide +kernel
theorem d_L_1402 : decode code 1402 = .ok (.iload_n 3, 1) := by decide +kernel
theorem d_L_1403 : decode code 1403 = .ok (.iconst 5, 1) := by decide +kernel
theorem d_L_1404 : decode code 1404 = .ok (.iadd, 1) := by decide +kernel
theorem d_L_1405 : decode code 1405 = .ok (.iaload, 1) := by decide +kernel
theorem d_L_1406 : decode code 1406 = .ok (.invokevirtual 170, 3) := by decide +kernel
theorem d_L_1409 : decode code 1409 = .ok (.if_icmp .eq 5, 3) := by decide +kernel
theorem d_L_1414 : decode code 1414 = .ok (.iinc 3 6, 3) := by decide +kernel
theorem d_L_1417 : decode code 1417 = .ok (.goto (-1399), 3) := by decide +kernel
theorem d_L_1420 : decode code 1420 = .ok (.iconst 1, 1) := by decide +kernel
theorem d_L_1421 : decode code 1421 = .ok (.ireturn, 1) := by decide +kernel
