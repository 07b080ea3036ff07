theorem dW_1090 : decode code 1090 = .ok (.aload_n 0, 1) := by decide +kernel
theorem dW_1091 : decode code 1091 = .ok (.iload 4, 2) := by decide +kernel
theorem dW_1093 : decode code 1093 = .ok (.iconst 1, 1) := by decide +kernel
theorem dW_1094 : decode code 1094 = .ok (.iadd, 1) := by decide +kernel
theorem dW_1095 : decode code 1095 = .ok (.iaload, 1) := by decide +kernel
theorem dW_1096 : decode code 1096 = .ok (.aload_n 3, 1) := by decide +kernel
theorem dW_1097 : decode code 1097 = .ok (.invokestatic 228, 3) := by decide +kernel
theorem dW_1100 : decode code 1100 = .ok (.istore 5, 2) := by decide +kernel
theorem dW_1102 : decode code 1102 = .ok (.aload_n 2, 1) := by decide +kernel
theorem dW_1103 : decode code 1103 = .ok (.aload_n 0, 1) := by decide +kernel
theorem dW_1104 : decode code 1104 = .ok (.iload 4, 2) := by decide +kernel
theorem dW_1106 : decode code 1106 = .ok (.iconst 1, 1) := by decide +kernel
theorem dW_1107 : decode code 1107 = .ok (.iadd, 1) := by decide +kernel
theorem dW_1108 : decode code 1108 = .ok (.iaload, 1) := by decide +kernel
theorem dW_1109 : decode code 1109 = .ok (.invokevirtual 230, 3) := by decide +kernel
theorem dW_1112 : decode code 1112 = .ok (.istore 6, 2) := by decide +kernel
theorem dW_1114 : decode code 1114 = .ok (.goto 1213, 3) := by decide +kernel
theorem dW_1117 : decode code 1117 = .ok (.aload_n 1, 1) := by decide +kernel
theorem dW_1118 : decode code 1118 = .ok (.aload_n 0, 1) := by decide +kernel
theorem dW_1119 : decode code 1119 = .ok (.iload 4, 2) := by decide +kernel
theorem dW_1121 : decode code 1121 = .ok (.iconst 1, 1) := by decide +kernel
theorem dW_1122 : decode code 1122 = .ok (.iadd, 1) := by decide +kernel
theorem dW_1123 : decode code 1123 = .ok (.iaload, 1) := by decide +kernel
theorem dW_1124 : decode code 1124 = .ok (.aload_n 3, 1) := by decide +kernel
theorem dW_1125 : decode code 1125 = .ok (.invokestatic 231, 3) := by decide +kernel
theorem dW_1128 : decode code 1128 = .ok (.istore 5, 2) := by decide +kernel
theorem dW_1130 : decode code 1130 = .ok (.aload_n 2, 1) := by decide +kernel
theorem dW_1131 : decode code 1131 = .ok (.aload_n 0, 1) := by decide +kernel
theorem dW_1132 : decode code 1132 = .ok (.iload 4, 2) := by decide +kernel
theorem dW_1134 : decode code 1134 = .ok (.iconst 1, 1) := by decide +kernel
theorem dW_1135 : decode code 1135 = .ok (.iadd, 1) := by decide +kernel
theorem dW_1136 : decode code 1136 = .ok (.iaload, 1) := by decide +kernel
theorem dW_1137 : decode code 1137 = .ok (.invokevirtual 233, 3) := by decide +kernel
theorem dW_1140 : decode code 1140 = .ok (.istore 6, 2) := by decide +kernel
theorem dW_1142 : decode code 1142 = .ok (.goto 1185, 3) := by decide +kernel
theorem dW_1145 : decode code 1145 = .ok (.aload_n 1, 1) := by decide +kernel
theorem dW_1146 : decode code 1146 = .ok (.aload_n 0, 1) := by decide +kernel
theorem dW_1147 : decode code 1147 = .ok (.iload 4, 2) := by decide +kernel
theorem dW_1149 : decode code 1149 = .ok (.iconst 1, 1) := by decide +kernel
theorem dW_1150 : decode code 1150 = .ok (.iadd, 1) := by decide +kernel
theorem dW_1151 : decode code 1151 = .ok (.iaload, 1) := by decide +kernel
theorem dW_1152 : decode code 1152 = .ok (.ifCond .eq 7, 3) := by decide +kernel
theorem dW_1155 : decode code 1155 = .ok (.iconst 1, 1) := by decide +kernel
theorem dW_1156 : decode code 1156 = .ok (.goto 4, 3) := by decide +kernel
theorem dW_1159 : decode code 1159 = .ok (.iconst 0, 1) := by decide +kernel
theorem dW_1160 : decode code 1160 = .ok (.invokevirtual 234, 3) := by decide +kernel
theorem dW_1163 : decode code 1163 = .ok (.pop, 1) := by decide +kernel
theorem dW_1164 : decode code 1164 = .ok (.aload_n 2, 1) := by decide +kernel
theorem dW_1165 : decode code 1165 = .ok (.aload_n 0, 1) := by decide +kernel
theorem dW_1166 : decode code 1166 = .ok (.iload 4, 2) := by decide +kernel
theorem dW_1168 : decode code 1168 = .ok (.iconst 1, 1) := by decide +kernel
theorem dW_1169 : decode code 1169 = .ok (.iadd, 1) := by decide +kernel
theorem dW_1170 : decode code 1170 = .ok (.iaload, 1) := by decide +kernel
theorem dW_1171 : decode code 1171 = .ok (.ifCond .eq 7, 3) := by decide +kernel
theorem dW_1174 : decode code 1174 = .ok (.iconst 1, 1) := by decide +kernel
theorem dW_1175 : decode code 1175 = .ok (.goto 4, 3) := by decide +kernel
theorem dW_1178 : decode code 1178 = .ok (.iconst 0, 1) := by decide +kernel
theorem dW_1179 : decode code 1179 = .ok (.invokevirtual 238, 3) := by decide +kernel
theorem dW_1182 : decode code 1182 = .ok (.pop, 1) := by decide +kernel
theorem dW_1183 : decode code 1183 = .ok (.goto 1144, 3) := by decide +kernel
theorem dW_1186 : decode code 1186 = .ok (.aload_n 1, 1) := by decide +kernel
theorem dW_1187 : decode code 1187 = .ok (.aload_n 0, 1) := by decide +kernel
theorem dW_1188 : decode code 1188 = .ok (.iload 4, 2) := by decide +kernel
theorem dW_1190 : decode code 1190 = .ok (.iconst 1, 1) := by decide +kernel
theorem dW_1191 : decode code 1191 = .ok (.iadd, 1) := by decide +kernel
theorem dW_1192 : decode code 1192 = .ok (.iaload, 1) := by decide +kernel
theorem dW_1193 : decode code 1193 = .ok (.ifCond .eq 7, 3) := by decide +kernel
theorem dW_1196 : decode code 1196 = .ok (.iconst 1, 1) := by decide +kernel
theorem dW_1197 : decode code 1197 = .ok (.goto 4, 3) := by decide +kernel
theorem dW_1200 : decode code 1200 = .ok (.iconst 0, 1) := by decide +kernel
theorem dW_1201 : decode code 1201 = .ok (.invokevirtual 239, 3) := by decide +kernel
theorem dW_1204 : decode code 1204 = .ok (.aload_n 2, 1) := by decide +kernel
theorem dW_1205 : decode code 1205 = .ok (.aload_n 0, 1) := by decide +kernel
theorem dW_1206 : decode code 1206 = .ok (.iload 4, 2) := by decide +kernel
theorem dW_1208 : decode code 1208 = .ok (.iconst 1, 1) := by decide +kernel
theorem dW_1209 : decode code 1209 = .ok (.iadd, 1) := by decide +kernel
theorem dW_1210 : decode code 1210 = .ok (.iaload, 1) := by decide +kernel
theorem dW_1211 : decode code 1211 = .ok (.ifCond .eq 7, 3) := by decide +kernel
theorem dW_1214 : decode code 1214 = .ok (.iconst 1, 1) := by decide +kernel
theorem dW_1215 : decode code 1215 = .ok (.goto 4, 3) := by decide +kernel
theorem dW_1218 : decode code 1218 = .ok (.iconst 0, 1) := by decide +kernel
theorem dW_1219 : decode code 1219 = .ok (.invokevirtual 242, 3) := by decide +kernel
theorem dW_1222 : decode code 1222 = .ok (.if_icmp .eq 1105, 3) := by decide +kernel
theorem dW_1225 : decode code 1225 = .ok (.iconst 0, 1) := by decide +kernel
theorem dW_1226 : decode code 1226 = .ok (.ireturn, 1) := by decide +kernel
theorem dW_1227 : decode code 1227 = .ok (.aload_n 1, 1) := by decide +kernel
theorem dW_1228 : decode code 1228 = .ok (.aload_n 3, 1) := by decide +kernel
theorem dW_1229 : decode code 1229 = .ok (.invokestatic 243, 3) := by decide +kernel
theorem dW_1232 : decode code 1232 = .ok (.istore 5, 2) := by decide +kernel
theorem dW_1234 : decode code 1234 = .ok (.aload_n 2, 1) := by decide +kernel
theorem dW_1235 : decode code 1235 = .ok (.invokevirtual 246, 3) := by decide +kernel
theorem dW_1238 : decode code 1238 = .ok (.istore 6, 2) := by decide +kernel
theorem dW_1240 : decode code 1240 = .ok (.goto 1087, 3) := by decide +kernel
theorem dW_1243 : decode code 1243 = .ok (.aload_n 1, 1) := by decide +kernel
theorem dW_1244 : decode code 1244 = .ok (.aload_n 3, 1) := by decide +kernel
theorem dW_1245 : decode code 1245 = .ok (.invokestatic 247, 3) := by decide +kernel
theorem dW_1248 : decode code 1248 = .ok (.istore 5, 2) := by decide +kernel
theorem dW_1250 : decode code 1250 = .ok (.aload_n 2, 1) := by decide +kernel
theorem dW_1251 : decode code 1251 = .ok (.invokevirtual 249, 3) := by decide +kernel
theorem dW_1254 : decode code 1254 = .ok (.istore 6, 2) := by decide +kernel
theorem dW_1256 : decode code 1256 = .ok (.goto 1071, 3) := by decide +kernel
theorem dW_1259 : decode code 1259 = .ok (.aload_n 1, 1) := by decide +kernel
theorem dW_1260 : decode code 1260 = .ok (.aload_n 0, 1) := by decide +kernel
theorem dW_1261 : decode code 1261 = .ok (.iload 4, 2) := by decide +kernel
theorem dW_1263 : decode code 1263 = .ok (.iconst 1, 1) := by decide +kernel
theorem dW_1264 : decode code 1264 = .ok (.iadd, 1) := by decide +kernel
theorem dW_1265 : decode code 1265 = .ok (.iaload, 1) := by decide +kernel
theorem dW_1266 : decode code 1266 = .ok (.aload_n 0, 1) := by decide +kernel
theorem dW_1267 : decode code 1267 = .ok (.iload 4, 2) := by decide +kernel
theorem dW_1269 : decode code 1269 = .ok (.iconst 2, 1) := by decide +kernel
theorem dW_1270 : decode code 1270 = .ok (.iadd, 1) := by decide +kernel
theorem dW_1271 : decode code 1271 = .ok (.iaload, 1) := by decide +kernel
theorem dW_1272 : decode code 1272 = .ok (.aload_n 0, 1) := by decide +kernel
theorem dW_1273 : decode code 1273 = .ok (.iload 4, 2) := by decide +kernel
theorem dW_1275 : decode code 1275 = .ok (.iconst 3, 1) := by decide +kernel
theorem dW_1276 : decode code 1276 = .ok (.iadd, 1) := by decide +kernel
theorem dW_1277 : decode code 1277 = .ok (.iaload, 1) := by decide +kernel
theorem dW_1278 : decode code 1278 = .ok (.aload_n 3, 1) := by decide +kernel
theorem dW_1279 : decode code 1279 = .ok (.invokestatic 250, 3) := by decide +kernel
theorem dW_1282 : decode code 1282 = .ok (.istore 5, 2) := by decide +kernel
theorem dW_1284 : decode code 1284 = .ok (.aload_n 2, 1) := by decide +kernel
theorem dW_1285 : decode code 1285 = .ok (.aload_n 0, 1) := by decide +kernel
theorem dW_1286 : decode code 1286 = .ok (.iload 4, 2) := by decide +kernel
theorem dW_1288 : decode code 1288 = .ok (.iconst 1, 1) := by decide +kernel
theorem dW_1289 : decode code 1289 = .ok (.iadd, 1) := by decide +kernel
theorem dW_1290 : decode code 1290 = .ok (.iaload, 1) := by decide +kernel
theorem dW_1291 : decode code 1291 = .ok (.aload_n 0, 1) := by decide +kernel
theorem dW_1292 : decode code 1292 = .ok (.iload 4, 2) := by decide +kernel
theorem dW_1294 : decode code 1294 = .ok (.iconst 2, 1) := by decide +kernel
theorem dW_1295 : decode code 1295 = .ok (.iadd, 1) := by decide +kernel
theorem dW_1296 : decode code 1296 = .ok (.iaload, 1) := by decide +kernel
theorem dW_1297 : decode code 1297 = .ok (.aload_n 0, 1) := by decide +kernel
theorem dW_1298 : decode code 1298 = .ok (.iload 4, 2) := by decide +kernel
theorem dW_1300 : decode code 1300 = .ok (.iconst 3, 1) := by decide +kernel
theorem dW_1301 : decode code 1301 = .ok (.iadd, 1) := by decide +kernel
theorem dW_1302 : decode code 1302 = .ok (.iaload, 1) := by decide +kernel
theorem dW_1303 : decode code 1303 = .ok (.invokevirtual 252, 3) := by decide +kernel
theorem dW_1306 : decode code 1306 = .ok (.istore 6, 2) := by decide +kernel
theorem dW_1308 : decode code 1308 = .ok (.goto 1019, 3) := by decide +kernel
theorem dW_1311 : decode code 1311 = .ok (.aload_n 1, 1) := by decide +kernel
theorem dW_1312 : decode code 1312 = .ok (.aload_n 0, 1) := by decide +kernel
theorem dW_1313 : decode code 1313 = .ok (.iload 4, 2) := by decide +kernel
theorem dW_1315 : decode code 1315 = .ok (.iconst 1, 1) := by decide +kernel
theorem dW_1316 : decode code 1316 = .ok (.iadd, 1) := by decide +kernel
theorem dW_1317 : decode code 1317 = .ok (.iaload, 1) := by decide +kernel
theorem dW_1318 : decode code 1318 = .ok (.aload_n 3, 1) := by decide +kernel
theorem dW_1319 : decode code 1319 = .ok (.invokestatic 253, 3) := by decide +kernel
theorem dW_1322 : decode code 1322 = .ok (.istore 5, 2) := by decide +kernel
theorem dW_1324 : decode code 1324 = .ok (.aload_n 2, 1) := by decide +kernel
theorem dW_1325 : decode code 1325 = .ok (.aload_n 0, 1) := by decide +kernel
theorem dW_1326 : decode code 1326 = .ok (.iload 4, 2) := by decide +kernel
theorem dW_1328 : decode code 1328 = .ok (.iconst 1, 1) := by decide +kernel
theorem dW_1329 : decode code 1329 = .ok (.iadd, 1) := by decide +kernel
theorem dW_1330 : decode code 1330 = .ok (.iaload, 1) := by decide +kernel
theorem dW_1331 : decode code 1331 = .ok (.invokevirtual 255, 3) := by decide +kernel
theorem dW_1334 : decode code 1334 = .ok (.istore 6, 2) := by decide +kernel
theorem dW_1336 : decode code 1336 = .ok (.goto 991, 3) := by decide +kernel
theorem dW_1339 : decode code 1339 = .ok (.aload_n 1, 1) := by decide +kernel
theorem dW_1340 : decode code 1340 = .ok (.aload_n 0, 1) := by decide +kernel
theorem dW_1341 : decode code 1341 = .ok (.iload 4, 2) := by decide +kernel
theorem dW_1343 : decode code 1343 = .ok (.iconst 1, 1) := by decide +kernel
theorem dW_1344 : decode code 1344 = .ok (.iadd, 1) := by decide +kernel
theorem dW_1345 : decode code 1345 = .ok (.iaload, 1) := by decide +kernel
theorem dW_1346 : decode code 1346 = .ok (.aload_n 0, 1) := by decide +kernel
theorem dW_1347 : decode code 1347 = .ok (.iload 4, 2) := by decide +kernel
theorem dW_1349 : decode code 1349 = .ok (.iconst 2, 1) := by decide +kernel
theorem dW_1350 : decode code 1350 = .ok (.iadd, 1) := by decide +kernel
theorem dW_1351 : decode code 1351 = .ok (.iaload, 1) := by decide +kernel
theorem dW_1352 : decode code 1352 = .ok (.aload_n 0, 1) := by decide +kernel
theorem dW_1353 : decode code 1353 = .ok (.iload 4, 2) := by decide +kernel
theorem dW_1355 : decode code 1355 = .ok (.iconst 3, 1) := by decide +kernel
theorem dW_1356 : decode code 1356 = .ok (.iadd, 1) := by decide +kernel
theorem dW_1357 : decode code 1357 = .ok (.iaload, 1) := by decide +kernel
theorem dW_1358 : decode code 1358 = .ok (.aload_n 3, 1) := by decide +kernel
theorem dW_1359 : decode code 1359 = .ok (.invokestatic 256, 3) := by decide +kernel
theorem dW_1362 : decode code 1362 = .ok (.istore 5, 2) := by decide +kernel
theorem dW_1364 : decode code 1364 = .ok (.aload_n 2, 1) := by decide +kernel
theorem dW_1365 : decode code 1365 = .ok (.aload_n 0, 1) := by decide +kernel
theorem dW_1366 : decode code 1366 = .ok (.iload 4, 2) := by decide +kernel
theorem dW_1368 : decode code 1368 = .ok (.iconst 1, 1) := by decide +kernel
theorem dW_1369 : decode code 1369 = .ok (.iadd, 1) := by decide +kernel
theorem dW_1370 : decode code 1370 = .ok (.iaload, 1) := by decide +kernel
theorem dW_1371 : decode code 1371 = .ok (.aload_n 0, 1) := by decide +kernel
theorem dW_1372 : decode code 1372 = .ok (.iload 4, 2) := by decide +kernel
theorem dW_1374 : decode code 1374 = .ok (.iconst 2, 1) := by decide +kernel
theorem dW_1375 : decode code 1375 = .ok (.iadd, 1) := by decide +kernel
theorem dW_1376 : decode code 1376 = .ok (.iaload, 1) := by decide +kernel
theorem dW_1377 : decode code 1377 = .ok (.aload_n 0, 1) := by decide +kernel
theorem dW_1378 : decode code 1378 = .ok (.iload 4, 2) := by decide +kernel
theorem dW_1380 : decode code 1380 = .ok (.iconst 3, 1) := by decide +kernel
theorem dW_1381 : decode code 1381 = .ok (.iadd, 1) := by decide +kernel
theorem dW_1382 : decode code 1382 = .ok (.iaload, 1) := by decide +kernel
theorem dW_1383 : decode code 1383 = .ok (.invokevirtual 258, 3) := by decide +kernel
theorem dW_1386 : decode code 1386 = .ok (.istore 6, 2) := by decide +kernel
theorem dW_1388 : decode code 1388 = .ok (.goto 939, 3) := by decide +kernel
theorem dW_1391 : decode code 1391 = .ok (.aload_n 1, 1) := by decide +kernel
theorem dW_1392 : decode code 1392 = .ok (.aload_n 0, 1) := by decide +kernel
theorem dW_1393 : decode code 1393 = .ok (.iload 4, 2) := by decide +kernel
theorem dW_1395 : decode code 1395 = .ok (.iconst 1, 1) := by decide +kernel
theorem dW_1396 : decode code 1396 = .ok (.iadd, 1) := by decide +kernel
theorem dW_1397 : decode code 1397 = .ok (.iaload, 1) := by decide +kernel
theorem dW_1398 : decode code 1398 = .ok (.aload_n 3, 1) := by decide +kernel
theorem dW_1399 : decode code 1399 = .ok (.invokestatic 259, 3) := by decide +kernel
theorem dW_1402 : decode code 1402 = .ok (.istore 5, 2) := by decide +kernel
theorem dW_1404 : decode code 1404 = .ok (.aload_n 2, 1) := by decide +kernel
theorem dW_1405 : decode code 1405 = .ok (.aload_n 0, 1) := by decide +kernel
theorem dW_1406 : decode code 1406 = .ok (.iload 4, 2) := by decide +kernel
theorem dW_1408 : decode code 1408 = .ok (.iconst 1, 1) := by decide +kernel
theorem dW_1409 : decode code 1409 = .ok (.iadd, 1) := by decide +kernel
theorem dW_1410 : decode code 1410 = .ok (.iaload, 1) := by decide +kernel
theorem dW_1411 : decode code 1411 = .ok (.invokevirtual 261, 3) := by decide +kernel
theorem dW_1414 : decode code 1414 = .ok (.istore 6, 2) := by decide +kernel
theorem dW_1416 : decode code 1416 = .ok (.goto 911, 3) := by decide +kernel
theorem dW_1419 : decode code 1419 = .ok (.aload_n 1, 1) := by decide +kernel
theorem dW_1420 : decode code 1420 = .ok (.aload_n 0, 1) := by decide +kernel
theorem dW_1421 : decode code 1421 = .ok (.iload 4, 2) := by decide +kernel
theorem dW_1423 : decode code 1423 = .ok (.iconst 1, 1) := by decide +kernel
theorem dW_1424 : decode code 1424 = .ok (.iadd, 1) := by decide +kernel
theorem dW_1425 : decode code 1425 = .ok (.iaload, 1) := by decide +kernel
theorem dW_1426 : decode code 1426 = .ok (.aload_n 0, 1) := by decide +kernel
theorem dW_1427 : decode code 1427 = .ok (.iload 4, 2) := by decide +kernel
theorem dW_1429 : decode code 1429 = .ok (.iconst 2, 1) := by decide +kernel
theorem dW_1430 : decode code 1430 = .ok (.iadd, 1) := by decide +kernel
theorem dW_1431 : decode code 1431 = .ok (.iaload, 1) := by decide +kernel
theorem dW_1432 : decode code 1432 = .ok (.ifCond .eq 7, 3) := by decide +kernel
theorem dW_1435 : decode code 1435 = .ok (.iconst 1, 1) := by decide +kernel
theorem dW_1436 : decode code 1436 = .ok (.goto 4, 3) := by decide +kernel
theorem dW_1439 : decode code 1439 = .ok (.iconst 0, 1) := by decide +kernel
theorem dW_1440 : decode code 1440 = .ok (.aload_n 3, 1) := by decide +kernel
theorem dW_1441 : decode code 1441 = .ok (.invokestatic 262, 3) := by decide +kernel
theorem dW_1444 : decode code 1444 = .ok (.istore 5, 2) := by decide +kernel
theorem dW_1446 : decode code 1446 = .ok (.aload_n 2, 1) := by decide +kernel
theorem dW_1447 : decode code 1447 = .ok (.aload_n 0, 1) := by decide +kernel
theorem dW_1448 : decode code 1448 = .ok (.iload 4, 2) := by decide +kernel
theorem dW_1450 : decode code 1450 = .ok (.iconst 1, 1) := by decide +kernel
theorem dW_1451 : decode code 1451 = .ok (.iadd, 1) := by decide +kernel
theorem dW_1452 : decode code 1452 = .ok (.iaload, 1) := by decide +kernel
theorem dW_1453 : decode code 1453 = .ok (.aload_n 0, 1) := by decide +kernel
theorem dW_1454 : decode code 1454 = .ok (.iload 4, 2) := by decide +kernel
theorem dW_1456 : decode code 1456 = .ok (.iconst 2, 1) := by decide +kernel
theorem dW_1457 : decode code 1457 = .ok (.iadd, 1) := by decide +kernel
theorem dW_1458 : decode code 1458 = .ok (.iaload, 1) := by decide +kernel
theorem dW_1459 : decode code 1459 = .ok (.ifCond .eq 7, 3) := by decide +kernel
theorem dW_1462 : decode code 1462 = .ok (.iconst 1, 1) := by decide +kernel
theorem dW_1463 : decode code 1463 = .ok (.goto 4, 3) := by decide +kernel
theorem dW_1466 : decode code 1466 = .ok (.iconst 0, 1) := by decide +kernel
theorem dW_1467 : decode code 1467 = .ok (.invokevirtual 264, 3) := by decide +kernel
theorem dW_1470 : decode code 1470 = .ok (.istore 6, 2) := by decide +kernel
theorem dW_1472 : decode code 1472 = .ok (.goto 855, 3) := by decide +kernel
theorem dW_1475 : decode code 1475 = .ok (.aload_n 1, 1) := by decide +kernel
theorem dW_1476 : decode code 1476 = .ok (.aload_n 0, 1) := by decide +kernel
theorem dW_1477 : decode code 1477 = .ok (.iload 4, 2) := by decide +kernel
theorem dW_1479 : decode code 1479 = .ok (.iconst 1, 1) := by decide +kernel
theorem dW_1480 : decode code 1480 = .ok (.iadd, 1) := by decide +kernel
theorem dW_1481 : decode code 1481 = .ok (.iaload, 1) := by decide +kernel
theorem dW_1482 : decode code 1482 = .ok (.aload_n 3, 1) := by decide +kernel
theorem dW_1483 : decode code 1483 = .ok (.invokestatic 265, 3) := by decide +kernel
theorem dW_1486 : decode code 1486 = .ok (.istore 5, 2) := by decide +kernel
theorem dW_1488 : decode code 1488 = .ok (.aload_n 2, 1) := by decide +kernel
theorem dW_1489 : decode code 1489 = .ok (.aload_n 0, 1) := by decide +kernel
theorem dW_1490 : decode code 1490 = .ok (.iload 4, 2) := by decide +kernel
theorem dW_1492 : decode code 1492 = .ok (.iconst 1, 1) := by decide +kernel
theorem dW_1493 : decode code 1493 = .ok (.iadd, 1) := by decide +kernel
theorem dW_1494 : decode code 1494 = .ok (.iaload, 1) := by decide +kernel
theorem dW_1495 : decode code 1495 = .ok (.invokevirtual 267, 3) := by decide +kernel
theorem dW_1498 : decode code 1498 = .ok (.istore 6, 2) := by decide +kernel
theorem dW_1500 : decode code 1500 = .ok (.goto 827, 3) := by decide +kernel
theorem dW_1503 : decode code 1503 = .ok (.aload_n 1, 1) := by decide +kernel
theorem dW_1504 : decode code 1504 = .ok (.aload_n 0, 1) := by decide +kernel
theorem dW_1505 : decode code 1505 = .ok (.iload 4, 2) := by decide +kernel
theorem dW_1507 : decode code 1507 = .ok (.iconst 1, 1) := by decide +kernel
theorem dW_1508 : decode code 1508 = .ok (.iadd, 1) := by decide +kernel
theorem dW_1509 : decode code 1509 = .ok (.iaload, 1) := by decide +kernel
theorem dW_1510 : decode code 1510 = .ok (.aload_n 0, 1) := by decide +kernel
theorem dW_1511 : decode code 1511 = .ok (.iload 4, 2) := by decide +kernel
theorem dW_1513 : decode code 1513 = .ok (.iconst 2, 1) := by decide +kernel
theorem dW_1514 : decode code 1514 = .ok (.iadd, 1) := by decide +kernel
theorem dW_1515 : decode code 1515 = .ok (.iaload, 1) := by decide +kernel
theorem dW_1516 : decode code 1516 = .ok (.aload_n 3, 1) := by decide +kernel
theorem dW_1517 : decode code 1517 = .ok (.invokestatic 268, 3) := by decide +kernel
theorem dW_1520 : decode code 1520 = .ok (.istore 5, 2) := by decide +kernel
theorem dW_1522 : decode code 1522 = .ok (.aload_n 2, 1) := by decide +kernel
theorem dW_1523 : decode code 1523 = .ok (.aload_n 0, 1) := by decide +kernel
theorem dW_1524 : decode code 1524 = .ok (.iload 4, 2) := by decide +kernel
theorem dW_1526 : decode code 1526 = .ok (.iconst 1, 1) := by decide +kernel
theorem dW_1527 : decode code 1527 = .ok (.iadd, 1) := by decide +kernel
theorem dW_1528 : decode code 1528 = .ok (.iaload, 1) := by decide +kernel
theorem dW_1529 : decode code 1529 = .ok (.aload_n 0, 1) := by decide +kernel
theorem dW_1530 : decode code 1530 = .ok (.iload 4, 2) := by decide +kernel
theorem dW_1532 : decode code 1532 = .ok (.iconst 2, 1) := by decide +kernel
theorem dW_1533 : decode code 1533 = .ok (.iadd, 1) := by decide +kernel
theorem dW_1534 : decode code 1534 = .ok (.iaload, 1) := by decide +kernel
theorem dW_1535 : decode code 1535 = .ok (.invokevirtual 270, 3) := by decide +kernel
theorem dW_1538 : decode code 1538 = .ok (.istore 6, 2) := by decide +kernel
theorem dW_1540 : decode code 1540 = .ok (.goto 787, 3) := by decide +kernel
theorem dW_1543 : decode code 1543 = .ok (.aload_n 1, 1) := by decide +kernel
theorem dW_1544 : decode code 1544 = .ok (.aload_n 0, 1) := by decide +kernel
theorem dW_1545 : decode code 1545 = .ok (.iload 4, 2) := by decide +kernel
theorem dW_1547 : decode code 1547 = .ok (.iconst 1, 1) := by decide +kernel
theorem dW_1548 : decode code 1548 = .ok (.iadd, 1) := by decide +kernel
