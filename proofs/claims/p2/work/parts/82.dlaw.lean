theorem dW_1093 : decode code 1093 = .ok (.iconst 2, 1) := by decide +kernel
theorem dW_1094 : decode code 1094 = .ok (.iadd, 1) := by decide +kernel
theorem dW_1095 : decode code 1095 = .ok (.iaload, 1) := by decide +kernel
theorem dW_1096 : decode code 1096 = .ok (.ifCond .eq 7, 3) := by decide +kernel
theorem dW_1099 : decode code 1099 = .ok (.iconst 1, 1) := by decide +kernel
theorem dW_1100 : decode code 1100 = .ok (.goto 4, 3) := by decide +kernel
theorem dW_1103 : decode code 1103 = .ok (.iconst 0, 1) := by decide +kernel
theorem dW_1104 : decode code 1104 = .ok (.aload_n 0, 1) := by decide +kernel
theorem dW_1105 : decode code 1105 = .ok (.iload 4, 2) := by decide +kernel
theorem dW_1107 : decode code 1107 = .ok (.iconst 3, 1) := by decide +kernel
theorem dW_1108 : decode code 1108 = .ok (.iadd, 1) := by decide +kernel
theorem dW_1109 : decode code 1109 = .ok (.iaload, 1) := by decide +kernel
theorem dW_1110 : decode code 1110 = .ok (.invokevirtual 230, 3) := by decide +kernel
theorem dW_1113 : decode code 1113 = .ok (.istore 6, 2) := by decide +kernel
theorem dW_1115 : decode code 1115 = .ok (.goto 1241, 3) := by decide +kernel
theorem dW_1118 : decode code 1118 = .ok (.aload_n 1, 1) := by decide +kernel
theorem dW_1119 : decode code 1119 = .ok (.aload_n 0, 1) := by decide +kernel
theorem dW_1120 : decode code 1120 = .ok (.iload 4, 2) := by decide +kernel
theorem dW_1122 : decode code 1122 = .ok (.iconst 1, 1) := by decide +kernel
theorem dW_1123 : decode code 1123 = .ok (.iadd, 1) := by decide +kernel
theorem dW_1124 : decode code 1124 = .ok (.iaload, 1) := by decide +kernel
theorem dW_1125 : decode code 1125 = .ok (.aload_n 3, 1) := by decide +kernel
theorem dW_1126 : decode code 1126 = .ok (.invokestatic 231, 3) := by decide +kernel
theorem dW_1129 : decode code 1129 = .ok (.istore 5, 2) := by decide +kernel
theorem dW_1131 : decode code 1131 = .ok (.aload_n 2, 1) := by decide +kernel
theorem dW_1132 : decode code 1132 = .ok (.aload_n 0, 1) := by decide +kernel
theorem dW_1133 : decode code 1133 = .ok (.iload 4, 2) := by decide +kernel
theorem dW_1135 : decode code 1135 = .ok (.iconst 1, 1) := by decide +kernel
theorem dW_1136 : decode code 1136 = .ok (.iadd, 1) := by decide +kernel
theorem dW_1137 : decode code 1137 = .ok (.iaload, 1) := by decide +kernel
theorem dW_1138 : decode code 1138 = .ok (.invokevirtual 233, 3) := by decide +kernel
theorem dW_1141 : decode code 1141 = .ok (.istore 6, 2) := by decide +kernel
theorem dW_1143 : decode code 1143 = .ok (.goto 1213, 3) := by decide +kernel
theorem dW_1146 : decode code 1146 = .ok (.aload_n 1, 1) := by decide +kernel
theorem dW_1147 : decode code 1147 = .ok (.aload_n 0, 1) := by decide +kernel
theorem dW_1148 : decode code 1148 = .ok (.iload 4, 2) := by decide +kernel
theorem dW_1150 : decode code 1150 = .ok (.iconst 1, 1) := by decide +kernel
theorem dW_1151 : decode code 1151 = .ok (.iadd, 1) := by decide +kernel
theorem dW_1152 : decode code 1152 = .ok (.iaload, 1) := by decide +kernel
theorem dW_1153 : decode code 1153 = .ok (.aload_n 3, 1) := by decide +kernel
theorem dW_1154 : decode code 1154 = .ok (.invokestatic 234, 3) := by decide +kernel
theorem dW_1157 : decode code 1157 = .ok (.istore 5, 2) := by decide +kernel
theorem dW_1159 : decode code 1159 = .ok (.aload_n 2, 1) := by decide +kernel
theorem dW_1160 : decode code 1160 = .ok (.aload_n 0, 1) := by decide +kernel
theorem dW_1161 : decode code 1161 = .ok (.iload 4, 2) := by decide +kernel
theorem dW_1163 : decode code 1163 = .ok (.iconst 1, 1) := by decide +kernel
theorem dW_1164 : decode code 1164 = .ok (.iadd, 1) := by decide +kernel
theorem dW_1165 : decode code 1165 = .ok (.iaload, 1) := by decide +kernel
theorem dW_1166 : decode code 1166 = .ok (.invokevirtual 236, 3) := by decide +kernel
theorem dW_1169 : decode code 1169 = .ok (.istore 6, 2) := by decide +kernel
theorem dW_1171 : decode code 1171 = .ok (.goto 1185, 3) := by decide +kernel
theorem dW_1174 : decode code 1174 = .ok (.aload_n 1, 1) := by decide +kernel
theorem dW_1175 : decode code 1175 = .ok (.aload_n 0, 1) := by decide +kernel
theorem dW_1176 : decode code 1176 = .ok (.iload 4, 2) := by decide +kernel
theorem dW_1178 : decode code 1178 = .ok (.iconst 1, 1) := by decide +kernel
theorem dW_1179 : decode code 1179 = .ok (.iadd, 1) := by decide +kernel
theorem dW_1180 : decode code 1180 = .ok (.iaload, 1) := by decide +kernel
theorem dW_1181 : decode code 1181 = .ok (.ifCond .eq 7, 3) := by decide +kernel
theorem dW_1184 : decode code 1184 = .ok (.iconst 1, 1) := by decide +kernel
theorem dW_1185 : decode code 1185 = .ok (.goto 4, 3) := by decide +kernel
theorem dW_1188 : decode code 1188 = .ok (.iconst 0, 1) := by decide +kernel
theorem dW_1189 : decode code 1189 = .ok (.invokevirtual 237, 3) := by decide +kernel
theorem dW_1192 : decode code 1192 = .ok (.pop, 1) := by decide +kernel
theorem dW_1193 : decode code 1193 = .ok (.aload_n 2, 1) := by decide +kernel
theorem dW_1194 : decode code 1194 = .ok (.aload_n 0, 1) := by decide +kernel
theorem dW_1195 : decode code 1195 = .ok (.iload 4, 2) := by decide +kernel
theorem dW_1197 : decode code 1197 = .ok (.iconst 1, 1) := by decide +kernel
theorem dW_1198 : decode code 1198 = .ok (.iadd, 1) := by decide +kernel
theorem dW_1199 : decode code 1199 = .ok (.iaload, 1) := by decide +kernel
theorem dW_1200 : decode code 1200 = .ok (.ifCond .eq 7, 3) := by decide +kernel
theorem dW_1203 : decode code 1203 = .ok (.iconst 1, 1) := by decide +kernel
theorem dW_1204 : decode code 1204 = .ok (.goto 4, 3) := by decide +kernel
theorem dW_1207 : decode code 1207 = .ok (.iconst 0, 1) := by decide +kernel
theorem dW_1208 : decode code 1208 = .ok (.invokevirtual 241, 3) := by decide +kernel
theorem dW_1211 : decode code 1211 = .ok (.pop, 1) := by decide +kernel
theorem dW_1212 : decode code 1212 = .ok (.goto 1144, 3) := by decide +kernel
theorem dW_1215 : decode code 1215 = .ok (.aload_n 1, 1) := by decide +kernel
theorem dW_1216 : decode code 1216 = .ok (.aload_n 0, 1) := by decide +kernel
theorem dW_1217 : decode code 1217 = .ok (.iload 4, 2) := by decide +kernel
theorem dW_1219 : decode code 1219 = .ok (.iconst 1, 1) := by decide +kernel
theorem dW_1220 : decode code 1220 = .ok (.iadd, 1) := by decide +kernel
theorem dW_1221 : decode code 1221 = .ok (.iaload, 1) := by decide +kernel
theorem dW_1222 : decode code 1222 = .ok (.ifCond .eq 7, 3) := by decide +kernel
theorem dW_1225 : decode code 1225 = .ok (.iconst 1, 1) := by decide +kernel
theorem dW_1226 : decode code 1226 = .ok (.goto 4, 3) := by decide +kernel
theorem dW_1229 : decode code 1229 = .ok (.iconst 0, 1) := by decide +kernel
theorem dW_1230 : decode code 1230 = .ok (.invokevirtual 242, 3) := by decide +kernel
theorem dW_1233 : decode code 1233 = .ok (.pop, 1) := by decide +kernel
theorem dW_1234 : decode code 1234 = .ok (.aload_n 2, 1) := by decide +kernel
theorem dW_1235 : decode code 1235 = .ok (.aload_n 0, 1) := by decide +kernel
theorem dW_1236 : decode code 1236 = .ok (.iload 4, 2) := by decide +kernel
theorem dW_1238 : decode code 1238 = .ok (.iconst 1, 1) := by decide +kernel
theorem dW_1239 : decode code 1239 = .ok (.iadd, 1) := by decide +kernel
theorem dW_1240 : decode code 1240 = .ok (.iaload, 1) := by decide +kernel
theorem dW_1241 : decode code 1241 = .ok (.ifCond .eq 7, 3) := by decide +kernel
theorem dW_1244 : decode code 1244 = .ok (.iconst 1, 1) := by decide +kernel
theorem dW_1245 : decode code 1245 = .ok (.goto 4, 3) := by decide +kernel
theorem dW_1248 : decode code 1248 = .ok (.iconst 0, 1) := by decide +kernel
theorem dW_1249 : decode code 1249 = .ok (.invokevirtual 245, 3) := by decide +kernel
theorem dW_1252 : decode code 1252 = .ok (.pop, 1) := by decide +kernel
theorem dW_1253 : decode code 1253 = .ok (.goto 1103, 3) := by decide +kernel
theorem dW_1256 : decode code 1256 = .ok (.aload_n 1, 1) := by decide +kernel
theorem dW_1257 : decode code 1257 = .ok (.aload_n 3, 1) := by decide +kernel
theorem dW_1258 : decode code 1258 = .ok (.invokestatic 246, 3) := by decide +kernel
theorem dW_1261 : decode code 1261 = .ok (.istore 5, 2) := by decide +kernel
theorem dW_1263 : decode code 1263 = .ok (.aload_n 2, 1) := by decide +kernel
theorem dW_1264 : decode code 1264 = .ok (.invokevirtual 249, 3) := by decide +kernel
theorem dW_1267 : decode code 1267 = .ok (.istore 6, 2) := by decide +kernel
theorem dW_1269 : decode code 1269 = .ok (.goto 1087, 3) := by decide +kernel
theorem dW_1272 : decode code 1272 = .ok (.aload_n 1, 1) := by decide +kernel
theorem dW_1273 : decode code 1273 = .ok (.aload_n 3, 1) := by decide +kernel
theorem dW_1274 : decode code 1274 = .ok (.invokestatic 250, 3) := by decide +kernel
theorem dW_1277 : decode code 1277 = .ok (.istore 5, 2) := by decide +kernel
theorem dW_1279 : decode code 1279 = .ok (.aload_n 2, 1) := by decide +kernel
theorem dW_1280 : decode code 1280 = .ok (.invokevirtual 252, 3) := by decide +kernel
theorem dW_1283 : decode code 1283 = .ok (.istore 6, 2) := by decide +kernel
theorem dW_1285 : decode code 1285 = .ok (.goto 1071, 3) := by decide +kernel
theorem dW_1288 : decode code 1288 = .ok (.aload_n 1, 1) := by decide +kernel
theorem dW_1289 : decode code 1289 = .ok (.aload_n 0, 1) := by decide +kernel
theorem dW_1290 : decode code 1290 = .ok (.iload 4, 2) := by decide +kernel
theorem dW_1292 : decode code 1292 = .ok (.iconst 1, 1) := by decide +kernel
theorem dW_1293 : decode code 1293 = .ok (.iadd, 1) := by decide +kernel
theorem dW_1294 : decode code 1294 = .ok (.iaload, 1) := by decide +kernel
theorem dW_1295 : decode code 1295 = .ok (.aload_n 0, 1) := by decide +kernel
theorem dW_1296 : decode code 1296 = .ok (.iload 4, 2) := by decide +kernel
theorem dW_1298 : decode code 1298 = .ok (.iconst 2, 1) := by decide +kernel
theorem dW_1299 : decode code 1299 = .ok (.iadd, 1) := by decide +kernel
theorem dW_1300 : decode code 1300 = .ok (.iaload, 1) := by decide +kernel
theorem dW_1301 : decode code 1301 = .ok (.aload_n 0, 1) := by decide +kernel
theorem dW_1302 : decode code 1302 = .ok (.iload 4, 2) := by decide +kernel
theorem dW_1304 : decode code 1304 = .ok (.iconst 3, 1) := by decide +kernel
theorem dW_1305 : decode code 1305 = .ok (.iadd, 1) := by decide +kernel
theorem dW_1306 : decode code 1306 = .ok (.iaload, 1) := by decide +kernel
theorem dW_1307 : decode code 1307 = .ok (.aload_n 3, 1) := by decide +kernel
theorem dW_1308 : decode code 1308 = .ok (.invokestatic 253, 3) := by decide +kernel
theorem dW_1311 : decode code 1311 = .ok (.istore 5, 2) := by decide +kernel
theorem dW_1313 : decode code 1313 = .ok (.aload_n 2, 1) := by decide +kernel
theorem dW_1314 : decode code 1314 = .ok (.aload_n 0, 1) := by decide +kernel
theorem dW_1315 : decode code 1315 = .ok (.iload 4, 2) := by decide +kernel
theorem dW_1317 : decode code 1317 = .ok (.iconst 1, 1) := by decide +kernel
theorem dW_1318 : decode code 1318 = .ok (.iadd, 1) := by decide +kernel
theorem dW_1319 : decode code 1319 = .ok (.iaload, 1) := by decide +kernel
theorem dW_1320 : decode code 1320 = .ok (.aload_n 0, 1) := by decide +kernel
theorem dW_1321 : decode code 1321 = .ok (.iload 4, 2) := by decide +kernel
theorem dW_1323 : decode code 1323 = .ok (.iconst 2, 1) := by decide +kernel
theorem dW_1324 : decode code 1324 = .ok (.iadd, 1) := by decide +kernel
theorem dW_1325 : decode code 1325 = .ok (.iaload, 1) := by decide +kernel
theorem dW_1326 : decode code 1326 = .ok (.aload_n 0, 1) := by decide +kernel
theorem dW_1327 : decode code 1327 = .ok (.iload 4, 2) := by decide +kernel
theorem dW_1329 : decode code 1329 = .ok (.iconst 3, 1) := by decide +kernel
theorem dW_1330 : decode code 1330 = .ok (.iadd, 1) := by decide +kernel
theorem dW_1331 : decode code 1331 = .ok (.iaload, 1) := by decide +kernel
theorem dW_1332 : decode code 1332 = .ok (.invokevirtual 255, 3) := by decide +kernel
theorem dW_1335 : decode code 1335 = .ok (.istore 6, 2) := by decide +kernel
theorem dW_1337 : decode code 1337 = .ok (.goto 1019, 3) := by decide +kernel
theorem dW_1340 : decode code 1340 = .ok (.aload_n 1, 1) := by decide +kernel
theorem dW_1341 : decode code 1341 = .ok (.aload_n 0, 1) := by decide +kernel
theorem dW_1342 : decode code 1342 = .ok (.iload 4, 2) := by decide +kernel
theorem dW_1344 : decode code 1344 = .ok (.iconst 1, 1) := by decide +kernel
theorem dW_1345 : decode code 1345 = .ok (.iadd, 1) := by decide +kernel
theorem dW_1346 : decode code 1346 = .ok (.iaload, 1) := by decide +kernel
theorem dW_1347 : decode code 1347 = .ok (.aload_n 3, 1) := by decide +kernel
theorem dW_1348 : decode code 1348 = .ok (.invokestatic 256, 3) := by decide +kernel
theorem dW_1351 : decode code 1351 = .ok (.istore 5, 2) := by decide +kernel
theorem dW_1353 : decode code 1353 = .ok (.aload_n 2, 1) := by decide +kernel
theorem dW_1354 : decode code 1354 = .ok (.aload_n 0, 1) := by decide +kernel
theorem dW_1355 : decode code 1355 = .ok (.iload 4, 2) := by decide +kernel
theorem dW_1357 : decode code 1357 = .ok (.iconst 1, 1) := by decide +kernel
theorem dW_1358 : decode code 1358 = .ok (.iadd, 1) := by decide +kernel
theorem dW_1359 : decode code 1359 = .ok (.iaload, 1) := by decide +kernel
theorem dW_1360 : decode code 1360 = .ok (.invokevirtual 258, 3) := by decide +kernel
theorem dW_1363 : decode code 1363 = .ok (.istore 6, 2) := by decide +kernel
theorem dW_1365 : decode code 1365 = .ok (.goto 991, 3) := by decide +kernel
theorem dW_1368 : decode code 1368 = .ok (.aload_n 1, 1) := by decide +kernel
theorem dW_1369 : decode code 1369 = .ok (.aload_n 0, 1) := by decide +kernel
theorem dW_1370 : decode code 1370 = .ok (.iload 4, 2) := by decide +kernel
theorem dW_1372 : decode code 1372 = .ok (.iconst 1, 1) := by decide +kernel
theorem dW_1373 : decode code 1373 = .ok (.iadd, 1) := by decide +kernel
theorem dW_1374 : decode code 1374 = .ok (.iaload, 1) := by decide +kernel
theorem dW_1375 : decode code 1375 = .ok (.aload_n 0, 1) := by decide +kernel
theorem dW_1376 : decode code 1376 = .ok (.iload 4, 2) := by decide +kernel
theorem dW_1378 : decode code 1378 = .ok (.iconst 2, 1) := by decide +kernel
theorem dW_1379 : decode code 1379 = .ok (.iadd, 1) := by decide +kernel
theorem dW_1380 : decode code 1380 = .ok (.iaload, 1) := by decide +kernel
theorem dW_1381 : decode code 1381 = .ok (.aload_n 0, 1) := by decide +kernel
theorem dW_1382 : decode code 1382 = .ok (.iload 4, 2) := by decide +kernel
theorem dW_1384 : decode code 1384 = .ok (.iconst 3, 1) := by decide +kernel
theorem dW_1385 : decode code 1385 = .ok (.iadd, 1) := by decide +kernel
theorem dW_1386 : decode code 1386 = .ok (.iaload, 1) := by decide +kernel
theorem dW_1387 : decode code 1387 = .ok (.aload_n 3, 1) := by decide +kernel
theorem dW_1388 : decode code 1388 = .ok (.invokestatic 259, 3) := by decide +kernel
theorem dW_1391 : decode code 1391 = .ok (.istore 5, 2) := by decide +kernel
theorem dW_1393 : decode code 1393 = .ok (.aload_n 2, 1) := by decide +kernel
theorem dW_1394 : decode code 1394 = .ok (.aload_n 0, 1) := by decide +kernel
theorem dW_1395 : decode code 1395 = .ok (.iload 4, 2) := by decide +kernel
theorem dW_1397 : decode code 1397 = .ok (.iconst 1, 1) := by decide +kernel
theorem dW_1398 : decode code 1398 = .ok (.iadd, 1) := by decide +kernel
theorem dW_1399 : decode code 1399 = .ok (.iaload, 1) := by decide +kernel
theorem dW_1400 : decode code 1400 = .ok (.aload_n 0, 1) := by decide +kernel
theorem dW_1401 : decode code 1401 = .ok (.iload 4, 2) := by decide +kernel
theorem dW_1403 : decode code 1403 = .ok (.iconst 2, 1) := by decide +kernel
theorem dW_1404 : decode code 1404 = .ok (.iadd, 1) := by decide +kernel
theorem dW_1405 : decode code 1405 = .ok (.iaload, 1) := by decide +kernel
theorem dW_1406 : decode code 1406 = .ok (.aload_n 0, 1) := by decide +kernel
theorem dW_1407 : decode code 1407 = .ok (.iload 4, 2) := by decide +kernel
theorem dW_1409 : decode code 1409 = .ok (.iconst 3, 1) := by decide +kernel
theorem dW_1410 : decode code 1410 = .ok (.iadd, 1) := by decide +kernel
theorem dW_1411 : decode code 1411 = .ok (.iaload, 1) := by decide +kernel
theorem dW_1412 : decode code 1412 = .ok (.invokevirtual 261, 3) := by decide +kernel
theorem dW_1415 : decode code 1415 = .ok (.istore 6, 2) := by decide +kernel
theorem dW_1417 : decode code 1417 = .ok (.goto 939, 3) := by decide +kernel
theorem dW_1420 : decode code 1420 = .ok (.aload_n 1, 1) := by decide +kernel
theorem dW_1421 : decode code 1421 = .ok (.aload_n 0, 1) := by decide +kernel
theorem dW_1422 : decode code 1422 = .ok (.iload 4, 2) := by decide +kernel
theorem dW_1424 : decode code 1424 = .ok (.iconst 1, 1) := by decide +kernel
theorem dW_1425 : decode code 1425 = .ok (.iadd, 1) := by decide +kernel
theorem dW_1426 : decode code 1426 = .ok (.iaload, 1) := by decide +kernel
theorem dW_1427 : decode code 1427 = .ok (.aload_n 3, 1) := by decide +kernel
theorem dW_1428 : decode code 1428 = .ok (.invokestatic 262, 3) := by decide +kernel
theorem dW_1431 : decode code 1431 = .ok (.istore 5, 2) := by decide +kernel
theorem dW_1433 : decode code 1433 = .ok (.aload_n 2, 1) := by decide +kernel
theorem dW_1434 : decode code 1434 = .ok (.aload_n 0, 1) := by decide +kernel
theorem dW_1435 : decode code 1435 = .ok (.iload 4, 2) := by decide +kernel
theorem dW_1437 : decode code 1437 = .ok (.iconst 1, 1) := by decide +kernel
theorem dW_1438 : decode code 1438 = .ok (.iadd, 1) := by decide +kernel
theorem dW_1439 : decode code 1439 = .ok (.iaload, 1) := by decide +kernel
theorem dW_1440 : decode code 1440 = .ok (.invokevirtual 264, 3) := by decide +kernel
theorem dW_1443 : decode code 1443 = .ok (.istore 6, 2) := by decide +kernel
theorem dW_1445 : decode code 1445 = .ok (.goto 911, 3) := by decide +kernel
theorem dW_1448 : decode code 1448 = .ok (.aload_n 1, 1) := by decide +kernel
theorem dW_1449 : decode code 1449 = .ok (.aload_n 0, 1) := by decide +kernel
theorem dW_1450 : decode code 1450 = .ok (.iload 4, 2) := by decide +kernel
theorem dW_1452 : decode code 1452 = .ok (.iconst 1, 1) := by decide +kernel
theorem dW_1453 : decode code 1453 = .ok (.iadd, 1) := by decide +kernel
theorem dW_1454 : decode code 1454 = .ok (.iaload, 1) := by decide +kernel
theorem dW_1455 : decode code 1455 = .ok (.aload_n 0, 1) := by decide +kernel
theorem dW_1456 : decode code 1456 = .ok (.iload 4, 2) := by decide +kernel
theorem dW_1458 : decode code 1458 = .ok (.iconst 2, 1) := by decide +kernel
theorem dW_1459 : decode code 1459 = .ok (.iadd, 1) := by decide +kernel
theorem dW_1460 : decode code 1460 = .ok (.iaload, 1) := by decide +kernel
theorem dW_1461 : decode code 1461 = .ok (.ifCond .eq 7, 3) := by decide +kernel
theorem dW_1464 : decode code 1464 = .ok (.iconst 1, 1) := by decide +kernel
theorem dW_1465 : decode code 1465 = .ok (.goto 4, 3) := by decide +kernel
theorem dW_1468 : decode code 1468 = .ok (.iconst 0, 1) := by decide +kernel
theorem dW_1469 : decode code 1469 = .ok (.aload_n 3, 1) := by decide +kernel
theorem dW_1470 : decode code 1470 = .ok (.invokestatic 265, 3) := by decide +kernel
theorem dW_1473 : decode code 1473 = .ok (.istore 5, 2) := by decide +kernel
theorem dW_1475 : decode code 1475 = .ok (.aload_n 2, 1) := by decide +kernel
theorem dW_1476 : decode code 1476 = .ok (.aload_n 0, 1) := by decide +kernel
theorem dW_1477 : decode code 1477 = .ok (.iload 4, 2) := by decide +kernel
theorem dW_1479 : decode code 1479 = .ok (.iconst 1, 1) := by decide +kernel
theorem dW_1480 : decode code 1480 = .ok (.iadd, 1) := by decide +kernel
theorem dW_1481 : decode code 1481 = .ok (.iaload, 1) := by decide +kernel
theorem dW_1482 : decode code 1482 = .ok (.aload_n 0, 1) := by decide +kernel
theorem dW_1483 : decode code 1483 = .ok (.iload 4, 2) := by decide +kernel
theorem dW_1485 : decode code 1485 = .ok (.iconst 2, 1) := by decide +kernel
theorem dW_1486 : decode code 1486 = .ok (.iadd, 1) := by decide +kernel
theorem dW_1487 : decode code 1487 = .ok (.iaload, 1) := by decide +kernel
theorem dW_1488 : decode code 1488 = .ok (.ifCond .eq 7, 3) := by decide +kernel
theorem dW_1491 : decode code 1491 = .ok (.iconst 1, 1) := by decide +kernel
theorem dW_1492 : decode code 1492 = .ok (.goto 4, 3) := by decide +kernel
theorem dW_1495 : decode code 1495 = .ok (.iconst 0, 1) := by decide +kernel
theorem dW_1496 : decode code 1496 = .ok (.invokevirtual 267, 3) := by decide +kernel
theorem dW_1499 : decode code 1499 = .ok (.istore 6, 2) := by decide +kernel
theorem dW_1501 : decode code 1501 = .ok (.goto 855, 3) := by decide +kernel
theorem dW_1504 : decode code 1504 = .ok (.aload_n 1, 1) := by decide +kernel
theorem dW_1505 : decode code 1505 = .ok (.aload_n 0, 1) := by decide +kernel
theorem dW_1506 : decode code 1506 = .ok (.iload 4, 2) := by decide +kernel
theorem dW_1508 : decode code 1508 = .ok (.iconst 1, 1) := by decide +kernel
theorem dW_1509 : decode code 1509 = .ok (.iadd, 1) := by decide +kernel
theorem dW_1510 : decode code 1510 = .ok (.iaload, 1) := by decide +kernel
theorem dW_1511 : decode code 1511 = .ok (.aload_n 3, 1) := by decide +kernel
theorem dW_1512 : decode code 1512 = .ok (.invokestatic 268, 3) := by decide +kernel
theorem dW_1515 : decode code 1515 = .ok (.istore 5, 2) := by decide +kernel
theorem dW_1517 : decode code 1517 = .ok (.aload_n 2, 1) := by decide +kernel
theorem dW_1518 : decode code 1518 = .ok (.aload_n 0, 1) := by decide +kernel
theorem dW_1519 : decode code 1519 = .ok (.iload 4, 2) := by decide +kernel
theorem dW_1521 : decode code 1521 = .ok (.iconst 1, 1) := by decide +kernel
theorem dW_1522 : decode code 1522 = .ok (.iadd, 1) := by decide +kernel
theorem dW_1523 : decode code 1523 = .ok (.iaload, 1) := by decide +kernel
theorem dW_1524 : decode code 1524 = .ok (.invokevirtual 270, 3) := by decide +kernel
theorem dW_1527 : decode code 1527 = .ok (.istore 6, 2) := by decide +kernel
theorem dW_1529 : decode code 1529 = .ok (.goto 827, 3) := by decide +kernel
theorem dW_1532 : decode code 1532 = .ok (.aload_n 1, 1) := by decide +kernel
theorem dW_1533 : decode code 1533 = .ok (.aload_n 0, 1) := by decide +kernel
theorem dW_1534 : decode code 1534 = .ok (.iload 4, 2) := by decide +kernel
theorem dW_1536 : decode code 1536 = .ok (.iconst 1, 1) := by decide +kernel
theorem dW_1537 : decode code 1537 = .ok (.iadd, 1) := by decide +kernel
theorem dW_1538 : decode code 1538 = .ok (.iaload, 1) := by decide +kernel
theorem dW_1539 : decode code 1539 = .ok (.aload_n 0, 1) := by decide +kernel
theorem dW_1540 : decode code 1540 = .ok (.iload 4, 2) := by decide +kernel
theorem dW_1542 : decode code 1542 = .ok (.iconst 2, 1) := by decide +kernel
theorem dW_1543 : decode code 1543 = .ok (.iadd, 1) := by decide +kernel
theorem dW_1544 : decode code 1544 = .ok (.iaload, 1) := by decide +kernel
theorem dW_1545 : decode code 1545 = .ok (.aload_n 3, 1) := by decide +kernel
theorem dW_1546 : decode code 1546 = .ok (.invokestatic 271, 3) := by decide +kernel
theorem dW_1549 : decode code 1549 = .ok (.istore 5, 2) := by decide +kernel
theorem dW_1551 : decode code 1551 = .ok (.aload_n 2, 1) := by decide +kernel
theorem dW_1552 : decode code 1552 = .ok (.aload_n 0, 1) := by decide +kernel
theorem dW_1553 : decode code 1553 = .ok (.iload 4, 2) := by decide +kernel
