theorem de_Y_1168 : decode code 1168 = .ok (.iadd, 1) := by decide +kernel
theorem de_Y_1169 : decode code 1169 = .ok (.iaload, 1) := by decide +kernel
theorem de_Y_1170 : decode code 1170 = .ok (.i2l, 1) := by decide +kernel
theorem de_Y_1171 : decode code 1171 = .ok (.ldc2_w 64, 3) := by decide +kernel
theorem de_Y_1174 : decode code 1174 = .ok (.land, 1) := by decide +kernel
theorem de_Y_1175 : decode code 1175 = .ok (.lor, 1) := by decide +kernel
theorem de_Y_1176 : decode code 1176 = .ok (.aload_n 3, 1) := by decide +kernel
theorem de_Y_1177 : decode code 1177 = .ok (.invokestatic 101, 3) := by decide +kernel
theorem de_Y_1180 : decode code 1180 = .ok (.istore 5, 2) := by decide +kernel
theorem de_Y_1182 : decode code 1182 = .ok (.aload_n 2, 1) := by decide +kernel
theorem de_Y_1183 : decode code 1183 = .ok (.aload_n 0, 1) := by decide +kernel
theorem de_Y_1184 : decode code 1184 = .ok (.iload 4, 2) := by decide +kernel
theorem de_Y_1186 : decode code 1186 = .ok (.iconst 1, 1) := by decide +kernel
theorem de_Y_1187 : decode code 1187 = .ok (.iadd, 1) := by decide +kernel
theorem de_Y_1188 : decode code 1188 = .ok (.iaload, 1) := by decide +kernel
theorem de_Y_1189 : decode code 1189 = .ok (.i2l, 1) := by decide +kernel
theorem de_Y_1190 : decode code 1190 = .ok (.bipush 32, 2) := by decide +kernel
theorem de_Y_1192 : decode code 1192 = .ok (.lshl, 1) := by decide +kernel
theorem de_Y_1193 : decode code 1193 = .ok (.aload_n 0, 1) := by decide +kernel
theorem de_Y_1194 : decode code 1194 = .ok (.iload 4, 2) := by decide +kernel
theorem de_Y_1196 : decode code 1196 = .ok (.iconst 2, 1) := by decide +kernel
theorem de_Y_1197 : decode code 1197 = .ok (.iadd, 1) := by decide +kernel
theorem de_Y_1198 : decode code 1198 = .ok (.iaload, 1) := by decide +kernel
theorem de_Y_1199 : decode code 1199 = .ok (.i2l, 1) := by decide +kernel
theorem de_Y_1200 : decode code 1200 = .ok (.ldc2_w 64, 3) := by decide +kernel
theorem de_Y_1203 : decode code 1203 = .ok (.land, 1) := by decide +kernel
theorem de_Y_1204 : decode code 1204 = .ok (.lor, 1) := by decide +kernel
theorem de_Y_1205 : decode code 1205 = .ok (.invokevirtual 103, 3) := by decide +kernel
theorem de_Y_1208 : decode code 1208 = .ok (.lstore 6, 2) := by decide +kernel
theorem de_Y_1210 : decode code 1210 = .ok (.aload_n 2, 1) := by decide +kernel
theorem de_Y_1211 : decode code 1211 = .ok (.invokevirtual 72, 3) := by decide +kernel
theorem de_Y_1214 : decode code 1214 = .ok (.iload 5, 2) := by decide +kernel
theorem de_Y_1216 : decode code 1216 = .ok (.if_icmp .eq 5, 3) := by decide +kernel
theorem de_Y_1219 : decode code 1219 = .ok (.iconst 0, 1) := by decide +kernel
theorem de_Y_1220 : decode code 1220 = .ok (.ireturn, 1) := by decide +kernel
theorem de_Y_1221 : decode code 1221 = .ok (.iload 5, 2) := by decide +kernel
theorem de_Y_1223 : decode code 1223 = .ok (.ifCond .ne 14, 3) := by decide +kernel
theorem de_Y_1226 : decode code 1226 = .ok (.aload_n 3, 1) := by decide +kernel
theorem de_Y_1227 : decode code 1227 = .ok (.iconst 0, 1) := by decide +kernel
theorem de_Y_1228 : decode code 1228 = .ok (.laload, 1) := by decide +kernel
theorem de_Y_1229 : decode code 1229 = .ok (.lload 6, 2) := by decide +kernel
theorem de_Y_1231 : decode code 1231 = .ok (.lcmp, 1) := by decide +kernel
theorem de_Y_1232 : decode code 1232 = .ok (.ifCond .eq 5, 3) := by decide +kernel
theorem de_Y_1235 : decode code 1235 = .ok (.iconst 0, 1) := by decide +kernel
theorem de_Y_1236 : decode code 1236 = .ok (.ireturn, 1) := by decide +kernel
theorem de_Y_1237 : decode code 1237 = .ok (.goto 499, 3) := by decide +kernel
theorem de_Y_1240 : decode code 1240 = .ok (.aload_n 1, 1) := by decide +kernel
theorem de_Y_1241 : decode code 1241 = .ok (.aload_n 0, 1) := by decide +kernel
theorem de_Y_1242 : decode code 1242 = .ok (.iload 4, 2) := by decide +kernel
theorem de_Y_1244 : decode code 1244 = .ok (.iconst 1, 1) := by decide +kernel
theorem de_Y_1245 : decode code 1245 = .ok (.iadd, 1) := by decide +kernel
theorem de_Y_1246 : decode code 1246 = .ok (.iaload, 1) := by decide +kernel
theorem de_Y_1247 : decode code 1247 = .ok (.aload_n 0, 1) := by decide +kernel
theorem de_Y_1248 : decode code 1248 = .ok (.iload 4, 2) := by decide +kernel
theorem de_Y_1250 : decode code 1250 = .ok (.iconst 2, 1) := by decide +kernel
theorem de_Y_1251 : decode code 1251 = .ok (.iadd, 1) := by decide +kernel
theorem de_Y_1252 : decode code 1252 = .ok (.iaload, 1) := by decide +kernel
theorem de_Y_1253 : decode code 1253 = .ok (.i2l, 1) := by decide +kernel
theorem de_Y_1254 : decode code 1254 = .ok (.bipush 32, 2) := by decide +kernel
theorem de_Y_1256 : decode code 1256 = .ok (.lshl, 1) := by decide +kernel
theorem de_Y_1257 : decode code 1257 = .ok (.aload_n 0, 1) := by decide +kernel
theorem de_Y_1258 : decode code 1258 = .ok (.iload 4, 2) := by decide +kernel
theorem de_Y_1260 : decode code 1260 = .ok (.iconst 3, 1) := by decide +kernel
theorem de_Y_1261 : decode code 1261 = .ok (.iadd, 1) := by decide +kernel
theorem de_Y_1262 : decode code 1262 = .ok (.iaload, 1) := by decide +kernel
theorem de_Y_1263 : decode code 1263 = .ok (.i2l, 1) := by decide +kernel
theorem de_Y_1264 : decode code 1264 = .ok (.ldc2_w 64, 3) := by decide +kernel
theorem de_Y_1267 : decode code 1267 = .ok (.land, 1) := by decide +kernel
theorem de_Y_1268 : decode code 1268 = .ok (.lor, 1) := by decide +kernel
theorem de_Y_1269 : decode code 1269 = .ok (.aload_n 0, 1) := by decide +kernel
theorem de_Y_1270 : decode code 1270 = .ok (.iload 4, 2) := by decide +kernel
theorem de_Y_1272 : decode code 1272 = .ok (.iconst 4, 1) := by decide +kernel
theorem de_Y_1273 : decode code 1273 = .ok (.iadd, 1) := by decide +kernel
theorem de_Y_1274 : decode code 1274 = .ok (.iaload, 1) := by decide +kernel
theorem de_Y_1275 : decode code 1275 = .ok (.i2l, 1) := by decide +kernel
theorem de_Y_1276 : decode code 1276 = .ok (.bipush 32, 2) := by decide +kernel
theorem de_Y_1278 : decode code 1278 = .ok (.lshl, 1) := by decide +kernel
theorem de_Y_1279 : decode code 1279 = .ok (.aload_n 0, 1) := by decide +kernel
theorem de_Y_1280 : decode code 1280 = .ok (.iload 4, 2) := by decide +kernel
theorem de_Y_1282 : decode code 1282 = .ok (.iconst 5, 1) := by decide +kernel
theorem de_Y_1283 : decode code 1283 = .ok (.iadd, 1) := by decide +kernel
theorem de_Y_1284 : decode code 1284 = .ok (.iaload, 1) := by decide +kernel
theorem de_Y_1285 : decode code 1285 = .ok (.i2l, 1) := by decide +kernel
theorem de_Y_1286 : decode code 1286 = .ok (.ldc2_w 64, 3) := by decide +kernel
theorem de_Y_1289 : decode code 1289 = .ok (.land, 1) := by decide +kernel
theorem de_Y_1290 : decode code 1290 = .ok (.lor, 1) := by decide +kernel
theorem de_Y_1291 : decode code 1291 = .ok (.aload_n 0, 1) := by decide +kernel
theorem de_Y_1292 : decode code 1292 = .ok (.iload 4, 2) := by decide +kernel
theorem de_Y_1294 : decode code 1294 = .ok (.bipush 6, 2) := by decide +kernel
theorem de_Y_1296 : decode code 1296 = .ok (.iadd, 1) := by decide +kernel
theorem de_Y_1297 : decode code 1297 = .ok (.iaload, 1) := by decide +kernel
theorem de_Y_1298 : decode code 1298 = .ok (.i2l, 1) := by decide +kernel
theorem de_Y_1299 : decode code 1299 = .ok (.bipush 32, 2) := by decide +kernel
theorem de_Y_1301 : decode code 1301 = .ok (.lshl, 1) := by decide +kernel
theorem de_Y_1302 : decode code 1302 = .ok (.aload_n 0, 1) := by decide +kernel
theorem de_Y_1303 : decode code 1303 = .ok (.iload 4, 2) := by decide +kernel
theorem de_Y_1305 : decode code 1305 = .ok (.bipush 7, 2) := by decide +kernel
theorem de_Y_1307 : decode code 1307 = .ok (.iadd, 1) := by decide +kernel
theorem de_Y_1308 : decode code 1308 = .ok (.iaload, 1) := by decide +kernel
theorem de_Y_1309 : decode code 1309 = .ok (.i2l, 1) := by decide +kernel
theorem de_Y_1310 : decode code 1310 = .ok (.ldc2_w 64, 3) := by decide +kernel
theorem de_Y_1313 : decode code 1313 = .ok (.land, 1) := by decide +kernel
theorem de_Y_1314 : decode code 1314 = .ok (.lor, 1) := by decide +kernel
theorem de_Y_1315 : decode code 1315 = .ok (.aload_n 3, 1) := by decide +kernel
theorem de_Y_1316 : decode code 1316 = .ok (.invokestatic 104, 3) := by decide +kernel
theorem de_Y_1319 : decode code 1319 = .ok (.istore 5, 2) := by decide +kernel
theorem de_Y_1321 : decode code 1321 = .ok (.aload_n 2, 1) := by decide +kernel
theorem de_Y_1322 : decode code 1322 = .ok (.aload_n 0, 1) := by decide +kernel
theorem de_Y_1323 : decode code 1323 = .ok (.iload 4, 2) := by decide +kernel
theorem de_Y_1325 : decode code 1325 = .ok (.iconst 1, 1) := by decide +kernel
theorem de_Y_1326 : decode code 1326 = .ok (.iadd, 1) := by decide +kernel
theorem de_Y_1327 : decode code 1327 = .ok (.iaload, 1) := by decide +kernel
theorem de_Y_1328 : decode code 1328 = .ok (.aload_n 0, 1) := by decide +kernel
theorem de_Y_1329 : decode code 1329 = .ok (.iload 4, 2) := by decide +kernel
theorem de_Y_1331 : decode code 1331 = .ok (.iconst 2, 1) := by decide +kernel
theorem de_Y_1332 : decode code 1332 = .ok (.iadd, 1) := by decide +kernel
theorem de_Y_1333 : decode code 1333 = .ok (.iaload, 1) := by decide +kernel
theorem de_Y_1334 : decode code 1334 = .ok (.i2l, 1) := by decide +kernel
theorem de_Y_1335 : decode code 1335 = .ok (.bipush 32, 2) := by decide +kernel
theorem de_Y_1337 : decode code 1337 = .ok (.lshl, 1) := by decide +kernel
theorem de_Y_1338 : decode code 1338 = .ok (.aload_n 0, 1) := by decide +kernel
theorem de_Y_1339 : decode code 1339 = .ok (.iload 4, 2) := by decide +kernel
theorem de_Y_1341 : decode code 1341 = .ok (.iconst 3, 1) := by decide +kernel
theorem de_Y_1342 : decode code 1342 = .ok (.iadd, 1) := by decide +kernel
theorem de_Y_1343 : decode code 1343 = .ok (.iaload, 1) := by decide +kernel
theorem de_Y_1344 : decode code 1344 = .ok (.i2l, 1) := by decide +kernel
theorem de_Y_1345 : decode code 1345 = .ok (.ldc2_w 64, 3) := by decide +kernel
theorem de_Y_1348 : decode code 1348 = .ok (.land, 1) := by decide +kernel
theorem de_Y_1349 : decode code 1349 = .ok (.lor, 1) := by decide +kernel
theorem de_Y_1350 : decode code 1350 = .ok (.aload_n 0, 1) := by decide +kernel
theorem de_Y_1351 : decode code 1351 = .ok (.iload 4, 2) := by decide +kernel
theorem de_Y_1353 : decode code 1353 = .ok (.iconst 4, 1) := by decide +kernel
theorem de_Y_1354 : decode code 1354 = .ok (.iadd, 1) := by decide +kernel
theorem de_Y_1355 : decode code 1355 = .ok (.iaload, 1) := by decide +kernel
theorem de_Y_1356 : decode code 1356 = .ok (.i2l, 1) := by decide +kernel
theorem de_Y_1357 : decode code 1357 = .ok (.bipush 32, 2) := by decide +kernel
theorem de_Y_1359 : decode code 1359 = .ok (.lshl, 1) := by decide +kernel
theorem de_Y_1360 : decode code 1360 = .ok (.aload_n 0, 1) := by decide +kernel
theorem de_Y_1361 : decode code 1361 = .ok (.iload 4, 2) := by decide +kernel
theorem de_Y_1363 : decode code 1363 = .ok (.iconst 5, 1) := by decide +kernel
theorem de_Y_1364 : decode code 1364 = .ok (.iadd, 1) := by decide +kernel
theorem de_Y_1365 : decode code 1365 = .ok (.iaload, 1) := by decide +kernel
theorem de_Y_1366 : decode code 1366 = .ok (.i2l, 1) := by decide +kernel
theorem de_Y_1367 : decode code 1367 = .ok (.ldc2_w 64, 3) := by decide +kernel
theorem de_Y_1370 : decode code 1370 = .ok (.land, 1) := by decide +kernel
theorem de_Y_1371 : decode code 1371 = .ok (.lor, 1) := by decide +kernel
theorem de_Y_1372 : decode code 1372 = .ok (.aload_n 0, 1) := by decide +kernel
theorem de_Y_1373 : decode code 1373 = .ok (.iload 4, 2) := by decide +kernel
theorem de_Y_1375 : decode code 1375 = .ok (.bipush 6, 2) := by decide +kernel
theorem de_Y_1377 : decode code 1377 = .ok (.iadd, 1) := by decide +kernel
theorem de_Y_1378 : decode code 1378 = .ok (.iaload, 1) := by decide +kernel
theorem de_Y_1379 : decode code 1379 = .ok (.i2l, 1) := by decide +kernel
theorem de_Y_1380 : decode code 1380 = .ok (.bipush 32, 2) := by decide +kernel
theorem de_Y_1382 : decode code 1382 = .ok (.lshl, 1) := by decide +kernel
theorem de_Y_1383 : decode code 1383 = .ok (.aload_n 0, 1) := by decide +kernel
theorem de_Y_1384 : decode code 1384 = .ok (.iload 4, 2) := by decide +kernel
theorem de_Y_1386 : decode code 1386 = .ok (.bipush 7, 2) := by decide +kernel
theorem de_Y_1388 : decode code 1388 = .ok (.iadd, 1) := by decide +kernel
theorem de_Y_1389 : decode code 1389 = .ok (.iaload, 1) := by decide +kernel
theorem de_Y_1390 : decode code 1390 = .ok (.i2l, 1) := by decide +kernel
theorem de_Y_1391 : decode code 1391 = .ok (.ldc2_w 64, 3) := by decide +kernel
theorem de_Y_1394 : decode code 1394 = .ok (.land, 1) := by decide +kernel
theorem de_Y_1395 : decode code 1395 = .ok (.lor, 1) := by decide +kernel
theorem de_Y_1396 : decode code 1396 = .ok (.invokevirtual 107, 3) := by decide +kernel
theorem de_Y_1399 : decode code 1399 = .ok (.istore 6, 2) := by decide +kernel
theorem de_Y_1401 : decode code 1401 = .ok (.aload_n 2, 1) := by decide +kernel
theorem de_Y_1402 : decode code 1402 = .ok (.invokevirtual 72, 3) := by decide +kernel
theorem de_Y_1405 : decode code 1405 = .ok (.iload 5, 2) := by decide +kernel
theorem de_Y_1407 : decode code 1407 = .ok (.if_icmp .eq 5, 3) := by decide +kernel
theorem de_Y_1410 : decode code 1410 = .ok (.iconst 0, 1) := by decide +kernel
theorem de_Y_1411 : decode code 1411 = .ok (.ireturn, 1) := by decide +kernel
theorem de_Y_1412 : decode code 1412 = .ok (.iload 5, 2) := by decide +kernel
theorem de_Y_1414 : decode code 1414 = .ok (.ifCond .ne 15, 3) := by decide +kernel
theorem de_Y_1417 : decode code 1417 = .ok (.aload_n 3, 1) := by decide +kernel
theorem de_Y_1418 : decode code 1418 = .ok (.iconst 0, 1) := by decide +kernel
theorem de_Y_1419 : decode code 1419 = .ok (.laload, 1) := by decide +kernel
theorem de_Y_1420 : decode code 1420 = .ok (.iload 6, 2) := by decide +kernel
theorem de_Y_1422 : decode code 1422 = .ok (.i2l, 1) := by decide +kernel
theorem de_Y_1423 : decode code 1423 = .ok (.lcmp, 1) := by decide +kernel
theorem de_Y_1424 : decode code 1424 = .ok (.ifCond .eq 5, 3) := by decide +kernel
theorem de_Y_1427 : decode code 1427 = .ok (.iconst 0, 1) := by decide +kernel
theorem de_Y_1428 : decode code 1428 = .ok (.ireturn, 1) := by decide +kernel
theorem de_Y_1429 : decode code 1429 = .ok (.goto 307, 3) := by decide +kernel
theorem de_Y_1432 : decode code 1432 = .ok (.aload_n 1, 1) := by decide +kernel
theorem de_Y_1433 : decode code 1433 = .ok (.invokevirtual 108, 3) := by decide +kernel
theorem de_Y_1436 : decode code 1436 = .ok (.aload_n 2, 1) := by decide +kernel
theorem de_Y_1437 : decode code 1437 = .ok (.invokevirtual 111, 3) := by decide +kernel
theorem de_Y_1440 : decode code 1440 = .ok (.if_icmp .eq 296, 3) := by decide +kernel
theorem de_Y_1443 : decode code 1443 = .ok (.iconst 0, 1) := by decide +kernel
theorem de_Y_1444 : decode code 1444 = .ok (.ireturn, 1) := by decide +kernel
theorem de_Y_1445 : decode code 1445 = .ok (.aload_n 1, 1) := by decide +kernel
theorem de_Y_1446 : decode code 1446 = .ok (.invokevirtual 112, 3) := by decide +kernel
theorem de_Y_1449 : decode code 1449 = .ok (.aload_n 2, 1) := by decide +kernel
theorem de_Y_1450 : decode code 1450 = .ok (.invokevirtual 116, 3) := by decide +kernel
theorem de_Y_1453 : decode code 1453 = .ok (.lcmp, 1) := by decide +kernel
theorem de_Y_1454 : decode code 1454 = .ok (.ifCond .eq 282, 3) := by decide +kernel
theorem de_Y_1457 : decode code 1457 = .ok (.iconst 0, 1) := by decide +kernel
theorem de_Y_1458 : decode code 1458 = .ok (.ireturn, 1) := by decide +kernel
theorem de_Y_1459 : decode code 1459 = .ok (.aload_n 1, 1) := by decide +kernel
theorem de_Y_1460 : decode code 1460 = .ok (.aload_n 0, 1) := by decide +kernel
theorem de_Y_1461 : decode code 1461 = .ok (.iload 4, 2) := by decide +kernel
theorem de_Y_1463 : decode code 1463 = .ok (.iconst 1, 1) := by decide +kernel
theorem de_Y_1464 : decode code 1464 = .ok (.iadd, 1) := by decide +kernel
theorem de_Y_1465 : decode code 1465 = .ok (.iaload, 1) := by decide +kernel
theorem de_Y_1466 : decode code 1466 = .ok (.aload_n 3, 1) := by decide +kernel
theorem de_Y_1467 : decode code 1467 = .ok (.invokestatic 117, 3) := by decide +kernel
theorem de_Y_1470 : decode code 1470 = .ok (.istore 5, 2) := by decide +kernel
theorem de_Y_1472 : decode code 1472 = .ok (.aload_n 2, 1) := by decide +kernel
theorem de_Y_1473 : decode code 1473 = .ok (.aload_n 0, 1) := by decide +kernel
theorem de_Y_1474 : decode code 1474 = .ok (.iload 4, 2) := by decide +kernel
theorem de_Y_1476 : decode code 1476 = .ok (.iconst 1, 1) := by decide +kernel
theorem de_Y_1477 : decode code 1477 = .ok (.iadd, 1) := by decide +kernel
theorem de_Y_1478 : decode code 1478 = .ok (.iaload, 1) := by decide +kernel
theorem de_Y_1479 : decode code 1479 = .ok (.invokevirtual 120, 3) := by decide +kernel
theorem de_Y_1482 : decode code 1482 = .ok (.lstore 6, 2) := by decide +kernel
theorem de_Y_1484 : decode code 1484 = .ok (.aload_n 2, 1) := by decide +kernel
theorem de_Y_1485 : decode code 1485 = .ok (.invokevirtual 72, 3) := by decide +kernel
theorem de_Y_1488 : decode code 1488 = .ok (.iload 5, 2) := by decide +kernel
theorem de_Y_1490 : decode code 1490 = .ok (.if_icmp .eq 5, 3) := by decide +kernel
theorem de_Y_1493 : decode code 1493 = .ok (.iconst 0, 1) := by decide +kernel
theorem de_Y_1494 : decode code 1494 = .ok (.ireturn, 1) := by decide +kernel
theorem de_Y_1495 : decode code 1495 = .ok (.iload 5, 2) := by decide +kernel
theorem de_Y_1497 : decode code 1497 = .ok (.ifCond .ne 14, 3) := by decide +kernel
theorem de_Y_1500 : decode code 1500 = .ok (.aload_n 3, 1) := by decide +kernel
theorem de_Y_1501 : decode code 1501 = .ok (.iconst 0, 1) := by decide +kernel
theorem de_Y_1502 : decode code 1502 = .ok (.laload, 1) := by decide +kernel
theorem de_Y_1503 : decode code 1503 = .ok (.lload 6, 2) := by decide +kernel
theorem de_Y_1505 : decode code 1505 = .ok (.lcmp, 1) := by decide +kernel
theorem de_Y_1506 : decode code 1506 = .ok (.ifCond .eq 5, 3) := by decide +kernel
theorem de_Y_1509 : decode code 1509 = .ok (.iconst 0, 1) := by decide +kernel
theorem de_Y_1510 : decode code 1510 = .ok (.ireturn, 1) := by decide +kernel
theorem de_Y_1511 : decode code 1511 = .ok (.goto 225, 3) := by decide +kernel
theorem de_Y_1514 : decode code 1514 = .ok (.aload_n 1, 1) := by decide +kernel
theorem de_Y_1515 : decode code 1515 = .ok (.aload_n 0, 1) := by decide +kernel
theorem de_Y_1516 : decode code 1516 = .ok (.iload 4, 2) := by decide +kernel
theorem de_Y_1518 : decode code 1518 = .ok (.iconst 1, 1) := by decide +kernel
theorem de_Y_1519 : decode code 1519 = .ok (.iadd, 1) := by decide +kernel
theorem de_Y_1520 : decode code 1520 = .ok (.iaload, 1) := by decide +kernel
theorem de_Y_1521 : decode code 1521 = .ok (.ifCond .eq 7, 3) := by decide +kernel
theorem de_Y_1524 : decode code 1524 = .ok (.iconst 1, 1) := by decide +kernel
theorem de_Y_1525 : decode code 1525 = .ok (.goto 4, 3) := by decide +kernel
theorem de_Y_1528 : decode code 1528 = .ok (.iconst 0, 1) := by decide +kernel
theorem de_Y_1529 : decode code 1529 = .ok (.aload_n 0, 1) := by decide +kernel
theorem de_Y_1530 : decode code 1530 = .ok (.iload 4, 2) := by decide +kernel
theorem de_Y_1532 : decode code 1532 = .ok (.iconst 2, 1) := by decide +kernel
theorem de_Y_1533 : decode code 1533 = .ok (.iadd, 1) := by decide +kernel
theorem de_Y_1534 : decode code 1534 = .ok (.iaload, 1) := by decide +kernel
theorem de_Y_1535 : decode code 1535 = .ok (.aload_n 0, 1) := by decide +kernel
theorem de_Y_1536 : decode code 1536 = .ok (.iload 4, 2) := by decide +kernel
theorem de_Y_1538 : decode code 1538 = .ok (.iconst 3, 1) := by decide +kernel
theorem de_Y_1539 : decode code 1539 = .ok (.iadd, 1) := by decide +kernel
theorem de_Y_1540 : decode code 1540 = .ok (.iaload, 1) := by decide +kernel
theorem de_Y_1541 : decode code 1541 = .ok (.i2l, 1) := by decide +kernel
theorem de_Y_1542 : decode code 1542 = .ok (.bipush 32, 2) := by decide +kernel
theorem de_Y_1544 : decode code 1544 = .ok (.lshl, 1) := by decide +kernel
theorem de_Y_1545 : decode code 1545 = .ok (.aload_n 0, 1) := by decide +kernel
theorem de_Y_1546 : decode code 1546 = .ok (.iload 4, 2) := by decide +kernel
theorem de_Y_1548 : decode code 1548 = .ok (.iconst 4, 1) := by decide +kernel
theorem de_Y_1549 : decode code 1549 = .ok (.iadd, 1) := by decide +kernel
theorem de_Y_1550 : decode code 1550 = .ok (.iaload, 1) := by decide +kernel
theorem de_Y_1551 : decode code 1551 = .ok (.i2l, 1) := by decide +kernel
theorem de_Y_1552 : decode code 1552 = .ok (.ldc2_w 64, 3) := by decide +kernel
theorem de_Y_1555 : decode code 1555 = .ok (.land, 1) := by decide +kernel
theorem de_Y_1556 : decode code 1556 = .ok (.lor, 1) := by decide +kernel
theorem de_Y_1557 : decode code 1557 = .ok (.aload_n 3, 1) := by decide +kernel
theorem de_Y_1558 : decode code 1558 = .ok (.invokestatic 121, 3) := by decide +kernel
theorem de_Y_1561 : decode code 1561 = .ok (.istore 5, 2) := by decide +kernel
theorem de_Y_1563 : decode code 1563 = .ok (.aload_n 2, 1) := by decide +kernel
theorem de_Y_1564 : decode code 1564 = .ok (.aload_n 0, 1) := by decide +kernel
theorem de_Y_1565 : decode code 1565 = .ok (.iload 4, 2) := by decide +kernel
theorem de_Y_1567 : decode code 1567 = .ok (.iconst 1, 1) := by decide +kernel
theorem de_Y_1568 : decode code 1568 = .ok (.iadd, 1) := by decide +kernel
theorem de_Y_1569 : decode code 1569 = .ok (.iaload, 1) := by decide +kernel
theorem de_Y_1570 : decode code 1570 = .ok (.ifCond .eq 7, 3) := by decide +kernel
theorem de_Y_1573 : decode code 1573 = .ok (.iconst 1, 1) := by decide +kernel
theorem de_Y_1574 : decode code 1574 = .ok (.goto 4, 3) := by decide +kernel
theorem de_Y_1577 : decode code 1577 = .ok (.iconst 0, 1) := by decide +kernel
theorem de_Y_1578 : decode code 1578 = .ok (.aload_n 0, 1) := by decide +kernel
theorem de_Y_1579 : decode code 1579 = .ok (.iload 4, 2) := by decide +kernel
theorem de_Y_1581 : decode code 1581 = .ok (.iconst 2, 1) := by decide +kernel
theorem de_Y_1582 : decode code 1582 = .ok (.iadd, 1) := by decide +kernel
theorem de_Y_1583 : decode code 1583 = .ok (.iaload, 1) := by decide +kernel
theorem de_Y_1584 : decode code 1584 = .ok (.aload_n 0, 1) := by decide +kernel
theorem de_Y_1585 : decode code 1585 = .ok (.iload 4, 2) := by decide +kernel
theorem de_Y_1587 : decode code 1587 = .ok (.iconst 3, 1) := by decide +kernel
theorem de_Y_1588 : decode code 1588 = .ok (.iadd, 1) := by decide +kernel
theorem de_Y_1589 : decode code 1589 = .ok (.iaload, 1) := by decide +kernel
theorem de_Y_1590 : decode code 1590 = .ok (.i2l, 1) := by decide +kernel
theorem de_Y_1591 : decode code 1591 = .ok (.bipush 32, 2) := by decide +kernel
theorem de_Y_1593 : decode code 1593 = .ok (.lshl, 1) := by decide +kernel
theorem de_Y_1594 : decode code 1594 = .ok (.aload_n 0, 1) := by decide +kernel
theorem de_Y_1595 : decode code 1595 = .ok (.iload 4, 2) := by decide +kernel
theorem de_Y_1597 : decode code 1597 = .ok (.iconst 4, 1) := by decide +kernel
theorem de_Y_1598 : decode code 1598 = .ok (.iadd, 1) := by decide +kernel
theorem de_Y_1599 : decode code 1599 = .ok (.iaload, 1) := by decide +kernel
theorem de_Y_1600 : decode code 1600 = .ok (.i2l, 1) := by decide +kernel
theorem de_Y_1601 : decode code 1601 = .ok (.ldc2_w 64, 3) := by decide +kernel
theorem de_Y_1604 : decode code 1604 = .ok (.land, 1) := by decide +kernel
theorem de_Y_1605 : decode code 1605 = .ok (.lor, 1) := by decide +kernel
theorem de_Y_1606 : decode code 1606 = .ok (.invokevirtual 124, 3) := by decide +kernel
theorem de_Y_1609 : decode code 1609 = .ok (.istore 6, 2) := by decide +kernel
theorem de_Y_1611 : decode code 1611 = .ok (.aload_n 2, 1) := by decide +kernel
theorem de_Y_1612 : decode code 1612 = .ok (.invokevirtual 72, 3) := by decide +kernel
theorem de_Y_1615 : decode code 1615 = .ok (.iload 5, 2) := by decide +kernel
theorem de_Y_1617 : decode code 1617 = .ok (.if_icmp .eq 5, 3) := by decide +kernel
theorem de_Y_1620 : decode code 1620 = .ok (.iconst 0, 1) := by decide +kernel
theorem de_Y_1621 : decode code 1621 = .ok (.ireturn, 1) := by decide +kernel
theorem de_Y_1622 : decode code 1622 = .ok (.iload 5, 2) := by decide +kernel
theorem de_Y_1624 : decode code 1624 = .ok (.ifCond .ne 15, 3) := by decide +kernel
theorem de_Y_1627 : decode code 1627 = .ok (.aload_n 3, 1) := by decide +kernel
theorem de_Y_1628 : decode code 1628 = .ok (.iconst 0, 1) := by decide +kernel
theorem de_Y_1629 : decode code 1629 = .ok (.laload, 1) := by decide +kernel
theorem de_Y_1630 : decode code 1630 = .ok (.iload 6, 2) := by decide +kernel
theorem de_Y_1632 : decode code 1632 = .ok (.i2l, 1) := by decide +kernel
theorem de_Y_1633 : decode code 1633 = .ok (.lcmp, 1) := by decide +kernel
theorem de_Y_1634 : decode code 1634 = .ok (.ifCond .eq 5, 3) := by decide +kernel
theorem de_Y_1637 : decode code 1637 = .ok (.iconst 0, 1) := by decide +kernel
theorem de_Y_1638 : decode code 1638 = .ok (.ireturn, 1) := by decide +kernel
theorem de_Y_1639 : decode code 1639 = .ok (.goto 97, 3) := by decide +kernel
theorem de_Y_1642 : decode code 1642 = .ok (.aload_n 1, 1) := by decide +kernel
theorem de_Y_1643 : decode code 1643 = .ok (.aload_n 0, 1) := by decide +kernel
theorem de_Y_1644 : decode code 1644 = .ok (.iload 4, 2) := by decide +kernel
theorem de_Y_1646 : decode code 1646 = .ok (.iconst 1, 1) := by decide +kernel
theorem de_Y_1647 : decode code 1647 = .ok (.iadd, 1) := by decide +kernel
theorem de_Y_1648 : decode code 1648 = .ok (.iaload, 1) := by decide +kernel
theorem de_Y_1649 : decode code 1649 = .ok (.aload_n 3, 1) := by decide +kernel
theorem de_Y_1650 : decode code 1650 = .ok (.invokestatic 125, 3) := by decide +kernel
theorem de_Y_1653 : decode code 1653 = .ok (.istore 5, 2) := by decide +kernel
theorem de_Y_1655 : decode code 1655 = .ok (.aload_n 2, 1) := by decide +kernel
theorem de_Y_1656 : decode code 1656 = .ok (.aload_n 0, 1) := by decide +kernel
theorem de_Y_1657 : decode code 1657 = .ok (.iload 4, 2) := by decide +kernel
theorem de_Y_1659 : decode code 1659 = .ok (.iconst 1, 1) := by decide +kernel
theorem de_Y_1660 : decode code 1660 = .ok (.iadd, 1) := by decide +kernel
theorem de_Y_1661 : decode code 1661 = .ok (.iaload, 1) := by decide +kernel
theorem de_Y_1662 : decode code 1662 = .ok (.invokevirtual 127, 3) := by decide +kernel
theorem de_Y_1665 : decode code 1665 = .ok (.istore 6, 2) := by decide +kernel
theorem de_Y_1667 : decode code 1667 = .ok (.aload_n 2, 1) := by decide +kernel
theorem de_Y_1668 : decode code 1668 = .ok (.invokevirtual 72, 3) := by decide +kernel
theorem de_Y_1671 : decode code 1671 = .ok (.iload 5, 2) := by decide +kernel
theorem de_Y_1673 : decode code 1673 = .ok (.if_icmp .eq 5, 3) := by decide +kernel
theorem de_Y_1676 : decode code 1676 = .ok (.iconst 0, 1) := by decide +kernel
theorem de_Y_1677 : decode code 1677 = .ok (.ireturn, 1) := by decide +kernel
theorem de_Y_1678 : decode code 1678 = .ok (.iload 5, 2) := by decide +kernel
theorem de_Y_1680 : decode code 1680 = .ok (.ifCond .ne 15, 3) := by decide +kernel
theorem de_Y_1683 : decode code 1683 = .ok (.aload_n 3, 1) := by decide +kernel
theorem de_Y_1684 : decode code 1684 = .ok (.iconst 0, 1) := by decide +kernel
theorem de_Y_1685 : decode code 1685 = .ok (.laload, 1) := by decide +kernel
theorem de_Y_1686 : decode code 1686 = .ok (.iload 6, 2) := by decide +kernel
theorem de_Y_1688 : decode code 1688 = .ok (.i2l, 1) := by decide +kernel
theorem de_Y_1689 : decode code 1689 = .ok (.lcmp, 1) := by decide +kernel
theorem de_Y_1690 : decode code 1690 = .ok (.ifCond .eq 5, 3) := by decide +kernel
theorem de_Y_1693 : decode code 1693 = .ok (.iconst 0, 1) := by decide +kernel
theorem de_Y_1694 : decode code 1694 = .ok (.ireturn, 1) := by decide +kernel
theorem de_Y_1695 : decode code 1695 = .ok (.goto 41, 3) := by decide +kernel
theorem de_Y_1698 : decode code 1698 = .ok (.aload_n 1, 1) := by decide +kernel
theorem de_Y_1699 : decode code 1699 = .ok (.invokevirtual 128, 3) := by decide +kernel
theorem de_Y_1702 : decode code 1702 = .ok (.aload_n 2, 1) := by decide +kernel
theorem de_Y_1703 : decode code 1703 = .ok (.invokevirtual 131, 3) := by decide +kernel
theorem de_Y_1706 : decode code 1706 = .ok (.if_icmp .eq 30, 3) := by decide +kernel
theorem de_Y_1709 : decode code 1709 = .ok (.iconst 0, 1) := by decide +kernel
theorem de_Y_1710 : decode code 1710 = .ok (.ireturn, 1) := by decide +kernel
theorem de_Y_1711 : decode code 1711 = .ok (.aload_n 1, 1) := by decide +kernel
theorem de_Y_1712 : decode code 1712 = .ok (.aload_n 0, 1) := by decide +kernel
theorem de_Y_1713 : decode code 1713 = .ok (.iload 4, 2) := by decide +kernel
theorem de_Y_1715 : decode code 1715 = .ok (.iconst 1, 1) := by decide +kernel
theorem de_Y_1716 : decode code 1716 = .ok (.iadd, 1) := by decide +kernel
theorem de_Y_1717 : decode code 1717 = .ok (.iaload, 1) := by decide +kernel
theorem de_Y_1718 : decode code 1718 = .ok (.invokevirtual 132, 3) := by decide +kernel
theorem de_Y_1721 : decode code 1721 = .ok (.aload_n 2, 1) := by decide +kernel
theorem de_Y_1722 : decode code 1722 = .ok (.aload_n 0, 1) := by decide +kernel
theorem de_Y_1723 : decode code 1723 = .ok (.iload 4, 2) := by decide +kernel
theorem de_Y_1725 : decode code 1725 = .ok (.iconst 1, 1) := by decide +kernel
theorem de_Y_1726 : decode code 1726 = .ok (.iadd, 1) := by decide +kernel
theorem de_Y_1727 : decode code 1727 = .ok (.iaload, 1) := by decide +kernel
theorem de_Y_1728 : decode code 1728 = .ok (.invokevirtual 135, 3) := by decide +kernel
theorem de_Y_1731 : decode code 1731 = .ok (.if_icmp .eq 5, 3) := by decide +kernel
theorem de_Y_1734 : decode code 1734 = .ok (.iconst 0, 1) := by decide +kernel
theorem de_Y_1735 : decode code 1735 = .ok (.ireturn, 1) := by decide +kernel
theorem de_Y_1736 : decode code 1736 = .ok (.iinc 4 11, 3) := by decide +kernel
theorem de_Y_1739 : decode code 1739 = .ok (.goto (-1716), 3) := by decide +kernel
theorem de_Y_1742 : decode code 1742 = .ok (.iconst 1, 1) := by decide +kernel
theorem de_Y_1743 : decode code 1743 = .ok (.ireturn, 1) := by decide +kernel
