theorem dL_law_1207 : decode code 1207 = .ok (.istore 5, 2) := by decide +kernel
theorem dL_law_1209 : decode code 1209 = .ok (.aload_n 2, 1) := by decide +kernel
theorem dL_law_1210 : decode code 1210 = .ok (.aload_n 0, 1) := by decide +kernel
theorem dL_law_1211 : decode code 1211 = .ok (.iload 4, 2) := by decide +kernel
theorem dL_law_1213 : decode code 1213 = .ok (.iconst 1, 1) := by decide +kernel
theorem dL_law_1214 : decode code 1214 = .ok (.iadd, 1) := by decide +kernel
theorem dL_law_1215 : decode code 1215 = .ok (.iaload, 1) := by decide +kernel
theorem dL_law_1216 : decode code 1216 = .ok (.aload_n 0, 1) := by decide +kernel
theorem dL_law_1217 : decode code 1217 = .ok (.iload 4, 2) := by decide +kernel
theorem dL_law_1219 : decode code 1219 = .ok (.iconst 2, 1) := by decide +kernel
theorem dL_law_1220 : decode code 1220 = .ok (.iadd, 1) := by decide +kernel
theorem dL_law_1221 : decode code 1221 = .ok (.iaload, 1) := by decide +kernel
theorem dL_law_1222 : decode code 1222 = .ok (.aload_n 0, 1) := by decide +kernel
theorem dL_law_1223 : decode code 1223 = .ok (.iload 4, 2) := by decide +kernel
theorem dL_law_1225 : decode code 1225 = .ok (.iconst 3, 1) := by decide +kernel
theorem dL_law_1226 : decode code 1226 = .ok (.iadd, 1) := by decide +kernel
theorem dL_law_1227 : decode code 1227 = .ok (.iaload, 1) := by decide +kernel
theorem dL_law_1228 : decode code 1228 = .ok (.invokevirtual 134, 3) := by decide +kernel
theorem dL_law_1231 : decode code 1231 = .ok (.istore 6, 2) := by decide +kernel
theorem dL_law_1233 : decode code 1233 = .ok (.aload_n 2, 1) := by decide +kernel
theorem dL_law_1234 : decode code 1234 = .ok (.invokevirtual 83, 3) := by decide +kernel
theorem dL_law_1237 : decode code 1237 = .ok (.iload 5, 2) := by decide +kernel
theorem dL_law_1239 : decode code 1239 = .ok (.if_icmp .eq 5, 3) := by decide +kernel
theorem dL_law_1242 : decode code 1242 = .ok (.iconst 0, 1) := by decide +kernel
theorem dL_law_1243 : decode code 1243 = .ok (.ireturn, 1) := by decide +kernel
theorem dL_law_1244 : decode code 1244 = .ok (.iload 5, 2) := by decide +kernel
theorem dL_law_1246 : decode code 1246 = .ok (.ifCond .ne 15, 3) := by decide +kernel
theorem dL_law_1249 : decode code 1249 = .ok (.aload_n 3, 1) := by decide +kernel
theorem dL_law_1250 : decode code 1250 = .ok (.iconst 0, 1) := by decide +kernel
theorem dL_law_1251 : decode code 1251 = .ok (.laload, 1) := by decide +kernel
theorem dL_law_1252 : decode code 1252 = .ok (.iload 6, 2) := by decide +kernel
theorem dL_law_1254 : decode code 1254 = .ok (.i2l, 1) := by decide +kernel
theorem dL_law_1255 : decode code 1255 = .ok (.lcmp, 1) := by decide +kernel
theorem dL_law_1256 : decode code 1256 = .ok (.ifCond .eq 5, 3) := by decide +kernel
theorem dL_law_1259 : decode code 1259 = .ok (.iconst 0, 1) := by decide +kernel
theorem dL_law_1260 : decode code 1260 = .ok (.ireturn, 1) := by decide +kernel
theorem dL_law_1261 : decode code 1261 = .ok (.goto 290, 3) := by decide +kernel
theorem dL_law_1264 : decode code 1264 = .ok (.aload_n 1, 1) := by decide +kernel
theorem dL_law_1265 : decode code 1265 = .ok (.aload_n 0, 1) := by decide +kernel
theorem dL_law_1266 : decode code 1266 = .ok (.iload 4, 2) := by decide +kernel
theorem dL_law_1268 : decode code 1268 = .ok (.iconst 1, 1) := by decide +kernel
theorem dL_law_1269 : decode code 1269 = .ok (.iadd, 1) := by decide +kernel
theorem dL_law_1270 : decode code 1270 = .ok (.iaload, 1) := by decide +kernel
theorem dL_law_1271 : decode code 1271 = .ok (.aload_n 3, 1) := by decide +kernel
theorem dL_law_1272 : decode code 1272 = .ok (.invokestatic 135, 3) := by decide +kernel
theorem dL_law_1275 : decode code 1275 = .ok (.istore 5, 2) := by decide +kernel
theorem dL_law_1277 : decode code 1277 = .ok (.aload_n 2, 1) := by decide +kernel
theorem dL_law_1278 : decode code 1278 = .ok (.aload_n 0, 1) := by decide +kernel
theorem dL_law_1279 : decode code 1279 = .ok (.iload 4, 2) := by decide +kernel
theorem dL_law_1281 : decode code 1281 = .ok (.iconst 1, 1) := by decide +kernel
theorem dL_law_1282 : decode code 1282 = .ok (.iadd, 1) := by decide +kernel
theorem dL_law_1283 : decode code 1283 = .ok (.iaload, 1) := by decide +kernel
theorem dL_law_1284 : decode code 1284 = .ok (.invokevirtual 137, 3) := by decide +kernel
theorem dL_law_1287 : decode code 1287 = .ok (.istore 6, 2) := by decide +kernel
theorem dL_law_1289 : decode code 1289 = .ok (.aload_n 2, 1) := by decide +kernel
theorem dL_law_1290 : decode code 1290 = .ok (.invokevirtual 83, 3) := by decide +kernel
theorem dL_law_1293 : decode code 1293 = .ok (.iload 5, 2) := by decide +kernel
theorem dL_law_1295 : decode code 1295 = .ok (.if_icmp .eq 5, 3) := by decide +kernel
theorem dL_law_1298 : decode code 1298 = .ok (.iconst 0, 1) := by decide +kernel
theorem dL_law_1299 : decode code 1299 = .ok (.ireturn, 1) := by decide +kernel
theorem dL_law_1300 : decode code 1300 = .ok (.iload 5, 2) := by decide +kernel
theorem dL_law_1302 : decode code 1302 = .ok (.ifCond .ne 22, 3) := by decide +kernel
theorem dL_law_1305 : decode code 1305 = .ok (.aload_n 3, 1) := by decide +kernel
theorem dL_law_1306 : decode code 1306 = .ok (.iconst 0, 1) := by decide +kernel
theorem dL_law_1307 : decode code 1307 = .ok (.laload, 1) := by decide +kernel
theorem dL_law_1308 : decode code 1308 = .ok (.iload 6, 2) := by decide +kernel
theorem dL_law_1310 : decode code 1310 = .ok (.ifCond .eq 7, 3) := by decide +kernel
theorem dL_law_1313 : decode code 1313 = .ok (.lconst 1, 1) := by decide +kernel
theorem dL_law_1314 : decode code 1314 = .ok (.goto 4, 3) := by decide +kernel
theorem dL_law_1317 : decode code 1317 = .ok (.lconst 0, 1) := by decide +kernel
theorem dL_law_1318 : decode code 1318 = .ok (.lcmp, 1) := by decide +kernel
theorem dL_law_1319 : decode code 1319 = .ok (.ifCond .eq 5, 3) := by decide +kernel
theorem dL_law_1322 : decode code 1322 = .ok (.iconst 0, 1) := by decide +kernel
theorem dL_law_1323 : decode code 1323 = .ok (.ireturn, 1) := by decide +kernel
theorem dL_law_1324 : decode code 1324 = .ok (.goto 227, 3) := by decide +kernel
theorem dL_law_1327 : decode code 1327 = .ok (.aload_n 1, 1) := by decide +kernel
theorem dL_law_1328 : decode code 1328 = .ok (.aload_n 0, 1) := by decide +kernel
theorem dL_law_1329 : decode code 1329 = .ok (.iload 4, 2) := by decide +kernel
theorem dL_law_1331 : decode code 1331 = .ok (.iconst 1, 1) := by decide +kernel
theorem dL_law_1332 : decode code 1332 = .ok (.iadd, 1) := by decide +kernel
theorem dL_law_1333 : decode code 1333 = .ok (.iaload, 1) := by decide +kernel
theorem dL_law_1334 : decode code 1334 = .ok (.aload_n 3, 1) := by decide +kernel
theorem dL_law_1335 : decode code 1335 = .ok (.invokestatic 138, 3) := by decide +kernel
theorem dL_law_1338 : decode code 1338 = .ok (.istore 5, 2) := by decide +kernel
theorem dL_law_1340 : decode code 1340 = .ok (.aload_n 2, 1) := by decide +kernel
theorem dL_law_1341 : decode code 1341 = .ok (.aload_n 0, 1) := by decide +kernel
theorem dL_law_1342 : decode code 1342 = .ok (.iload 4, 2) := by decide +kernel
theorem dL_law_1344 : decode code 1344 = .ok (.iconst 1, 1) := by decide +kernel
theorem dL_law_1345 : decode code 1345 = .ok (.iadd, 1) := by decide +kernel
theorem dL_law_1346 : decode code 1346 = .ok (.iaload, 1) := by decide +kernel
theorem dL_law_1347 : decode code 1347 = .ok (.invokevirtual 140, 3) := by decide +kernel
theorem dL_law_1350 : decode code 1350 = .ok (.istore 6, 2) := by decide +kernel
theorem dL_law_1352 : decode code 1352 = .ok (.aload_n 2, 1) := by decide +kernel
theorem dL_law_1353 : decode code 1353 = .ok (.invokevirtual 83, 3) := by decide +kernel
theorem dL_law_1356 : decode code 1356 = .ok (.iload 5, 2) := by decide +kernel
theorem dL_law_1358 : decode code 1358 = .ok (.if_icmp .eq 5, 3) := by decide +kernel
theorem dL_law_1361 : decode code 1361 = .ok (.iconst 0, 1) := by decide +kernel
theorem dL_law_1362 : decode code 1362 = .ok (.ireturn, 1) := by decide +kernel
theorem dL_law_1363 : decode code 1363 = .ok (.iload 5, 2) := by decide +kernel
theorem dL_law_1365 : decode code 1365 = .ok (.ifCond .ne 15, 3) := by decide +kernel
theorem dL_law_1368 : decode code 1368 = .ok (.aload_n 3, 1) := by decide +kernel
theorem dL_law_1369 : decode code 1369 = .ok (.iconst 0, 1) := by decide +kernel
theorem dL_law_1370 : decode code 1370 = .ok (.laload, 1) := by decide +kernel
theorem dL_law_1371 : decode code 1371 = .ok (.iload 6, 2) := by decide +kernel
theorem dL_law_1373 : decode code 1373 = .ok (.i2l, 1) := by decide +kernel
theorem dL_law_1374 : decode code 1374 = .ok (.lcmp, 1) := by decide +kernel
theorem dL_law_1375 : decode code 1375 = .ok (.ifCond .eq 5, 3) := by decide +kernel
theorem dL_law_1378 : decode code 1378 = .ok (.iconst 0, 1) := by decide +kernel
theorem dL_law_1379 : decode code 1379 = .ok (.ireturn, 1) := by decide +kernel
theorem dL_law_1380 : decode code 1380 = .ok (.goto 171, 3) := by decide +kernel
theorem dL_law_1383 : decode code 1383 = .ok (.aload_n 1, 1) := by decide +kernel
theorem dL_law_1384 : decode code 1384 = .ok (.aload_n 0, 1) := by decide +kernel
theorem dL_law_1385 : decode code 1385 = .ok (.iload 4, 2) := by decide +kernel
theorem dL_law_1387 : decode code 1387 = .ok (.iconst 1, 1) := by decide +kernel
theorem dL_law_1388 : decode code 1388 = .ok (.iadd, 1) := by decide +kernel
theorem dL_law_1389 : decode code 1389 = .ok (.iaload, 1) := by decide +kernel
theorem dL_law_1390 : decode code 1390 = .ok (.i2l, 1) := by decide +kernel
theorem dL_law_1391 : decode code 1391 = .ok (.bipush 32, 2) := by decide +kernel
theorem dL_law_1393 : decode code 1393 = .ok (.lshl, 1) := by decide +kernel
theorem dL_law_1394 : decode code 1394 = .ok (.aload_n 0, 1) := by decide +kernel
theorem dL_law_1395 : decode code 1395 = .ok (.iload 4, 2) := by decide +kernel
theorem dL_law_1397 : decode code 1397 = .ok (.iconst 2, 1) := by decide +kernel
theorem dL_law_1398 : decode code 1398 = .ok (.iadd, 1) := by decide +kernel
theorem dL_law_1399 : decode code 1399 = .ok (.iaload, 1) := by decide +kernel
theorem dL_law_1400 : decode code 1400 = .ok (.i2l, 1) := by decide +kernel
theorem dL_law_1401 : decode code 1401 = .ok (.ldc2_w 91, 3) := by decide +kernel
theorem dL_law_1404 : decode code 1404 = .ok (.land, 1) := by decide +kernel
theorem dL_law_1405 : decode code 1405 = .ok (.lor, 1) := by decide +kernel
theorem dL_law_1406 : decode code 1406 = .ok (.aload_n 0, 1) := by decide +kernel
theorem dL_law_1407 : decode code 1407 = .ok (.iload 4, 2) := by decide +kernel
theorem dL_law_1409 : decode code 1409 = .ok (.iconst 3, 1) := by decide +kernel
theorem dL_law_1410 : decode code 1410 = .ok (.iadd, 1) := by decide +kernel
theorem dL_law_1411 : decode code 1411 = .ok (.iaload, 1) := by decide +kernel
theorem dL_law_1412 : decode code 1412 = .ok (.aload_n 3, 1) := by decide +kernel
theorem dL_law_1413 : decode code 1413 = .ok (.invokestatic 141, 3) := by decide +kernel
theorem dL_law_1416 : decode code 1416 = .ok (.istore 5, 2) := by decide +kernel
theorem dL_law_1418 : decode code 1418 = .ok (.aload_n 2, 1) := by decide +kernel
theorem dL_law_1419 : decode code 1419 = .ok (.aload_n 0, 1) := by decide +kernel
theorem dL_law_1420 : decode code 1420 = .ok (.iload 4, 2) := by decide +kernel
theorem dL_law_1422 : decode code 1422 = .ok (.iconst 1, 1) := by decide +kernel
theorem dL_law_1423 : decode code 1423 = .ok (.iadd, 1) := by decide +kernel
theorem dL_law_1424 : decode code 1424 = .ok (.iaload, 1) := by decide +kernel
theorem dL_law_1425 : decode code 1425 = .ok (.i2l, 1) := by decide +kernel
theorem dL_law_1426 : decode code 1426 = .ok (.bipush 32, 2) := by decide +kernel
theorem dL_law_1428 : decode code 1428 = .ok (.lshl, 1) := by decide +kernel
theorem dL_law_1429 : decode code 1429 = .ok (.aload_n 0, 1) := by decide +kernel
theorem dL_law_1430 : decode code 1430 = .ok (.iload 4, 2) := by decide +kernel
theorem dL_law_1432 : decode code 1432 = .ok (.iconst 2, 1) := by decide +kernel
theorem dL_law_1433 : decode code 1433 = .ok (.iadd, 1) := by decide +kernel
theorem dL_law_1434 : decode code 1434 = .ok (.iaload, 1) := by decide +kernel
theorem dL_law_1435 : decode code 1435 = .ok (.i2l, 1) := by decide +kernel
theorem dL_law_1436 : decode code 1436 = .ok (.ldc2_w 91, 3) := by decide +kernel
theorem dL_law_1439 : decode code 1439 = .ok (.land, 1) := by decide +kernel
theorem dL_law_1440 : decode code 1440 = .ok (.lor, 1) := by decide +kernel
theorem dL_law_1441 : decode code 1441 = .ok (.aload_n 0, 1) := by decide +kernel
theorem dL_law_1442 : decode code 1442 = .ok (.iload 4, 2) := by decide +kernel
theorem dL_law_1444 : decode code 1444 = .ok (.iconst 3, 1) := by decide +kernel
theorem dL_law_1445 : decode code 1445 = .ok (.iadd, 1) := by decide +kernel
theorem dL_law_1446 : decode code 1446 = .ok (.iaload, 1) := by decide +kernel
theorem dL_law_1447 : decode code 1447 = .ok (.invokevirtual 144, 3) := by decide +kernel
theorem dL_law_1450 : decode code 1450 = .ok (.istore 6, 2) := by decide +kernel
theorem dL_law_1452 : decode code 1452 = .ok (.aload_n 2, 1) := by decide +kernel
theorem dL_law_1453 : decode code 1453 = .ok (.invokevirtual 83, 3) := by decide +kernel
theorem dL_law_1456 : decode code 1456 = .ok (.iload 5, 2) := by decide +kernel
theorem dL_law_1458 : decode code 1458 = .ok (.if_icmp .eq 5, 3) := by decide +kernel
theorem dL_law_1461 : decode code 1461 = .ok (.iconst 0, 1) := by decide +kernel
theorem dL_law_1462 : decode code 1462 = .ok (.ireturn, 1) := by decide +kernel
theorem dL_law_1463 : decode code 1463 = .ok (.iload 5, 2) := by decide +kernel
theorem dL_law_1465 : decode code 1465 = .ok (.ifCond .ne 15, 3) := by decide +kernel
theorem dL_law_1468 : decode code 1468 = .ok (.aload_n 3, 1) := by decide +kernel
theorem dL_law_1469 : decode code 1469 = .ok (.iconst 0, 1) := by decide +kernel
theorem dL_law_1470 : decode code 1470 = .ok (.laload, 1) := by decide +kernel
theorem dL_law_1471 : decode code 1471 = .ok (.iload 6, 2) := by decide +kernel
theorem dL_law_1473 : decode code 1473 = .ok (.i2l, 1) := by decide +kernel
theorem dL_law_1474 : decode code 1474 = .ok (.lcmp, 1) := by decide +kernel
theorem dL_law_1475 : decode code 1475 = .ok (.ifCond .eq 5, 3) := by decide +kernel
theorem dL_law_1478 : decode code 1478 = .ok (.iconst 0, 1) := by decide +kernel
theorem dL_law_1479 : decode code 1479 = .ok (.ireturn, 1) := by decide +kernel
theorem dL_law_1480 : decode code 1480 = .ok (.goto 71, 3) := by decide +kernel
theorem dL_law_1483 : decode code 1483 = .ok (.aload_n 1, 1) := by decide +kernel
theorem dL_law_1484 : decode code 1484 = .ok (.aload_n 0, 1) := by decide +kernel
theorem dL_law_1485 : decode code 1485 = .ok (.iload 4, 2) := by decide +kernel
theorem dL_law_1487 : decode code 1487 = .ok (.iconst 1, 1) := by decide +kernel
theorem dL_law_1488 : decode code 1488 = .ok (.iadd, 1) := by decide +kernel
theorem dL_law_1489 : decode code 1489 = .ok (.iaload, 1) := by decide +kernel
theorem dL_law_1490 : decode code 1490 = .ok (.aload_n 0, 1) := by decide +kernel
theorem dL_law_1491 : decode code 1491 = .ok (.iload 4, 2) := by decide +kernel
theorem dL_law_1493 : decode code 1493 = .ok (.iconst 2, 1) := by decide +kernel
theorem dL_law_1494 : decode code 1494 = .ok (.iadd, 1) := by decide +kernel
theorem dL_law_1495 : decode code 1495 = .ok (.iaload, 1) := by decide +kernel
theorem dL_law_1496 : decode code 1496 = .ok (.aload_n 3, 1) := by decide +kernel
theorem dL_law_1497 : decode code 1497 = .ok (.invokestatic 145, 3) := by decide +kernel
theorem dL_law_1500 : decode code 1500 = .ok (.istore 5, 2) := by decide +kernel
theorem dL_law_1502 : decode code 1502 = .ok (.aload_n 2, 1) := by decide +kernel
theorem dL_law_1503 : decode code 1503 = .ok (.aload_n 0, 1) := by decide +kernel
theorem dL_law_1504 : decode code 1504 = .ok (.iload 4, 2) := by decide +kernel
theorem dL_law_1506 : decode code 1506 = .ok (.iconst 1, 1) := by decide +kernel
theorem dL_law_1507 : decode code 1507 = .ok (.iadd, 1) := by decide +kernel
theorem dL_law_1508 : decode code 1508 = .ok (.iaload, 1) := by decide +kernel
theorem dL_law_1509 : decode code 1509 = .ok (.aload_n 0, 1) := by decide +kernel
theorem dL_law_1510 : decode code 1510 = .ok (.iload 4, 2) := by decide +kernel
theorem dL_law_1512 : decode code 1512 = .ok (.iconst 2, 1) := by decide +kernel
theorem dL_law_1513 : decode code 1513 = .ok (.iadd, 1) := by decide +kernel
theorem dL_law_1514 : decode code 1514 = .ok (.iaload, 1) := by decide +kernel
theorem dL_law_1515 : decode code 1515 = .ok (.invokevirtual 147, 3) := by decide +kernel
theorem dL_law_1518 : decode code 1518 = .ok (.istore 6, 2) := by decide +kernel
theorem dL_law_1520 : decode code 1520 = .ok (.aload_n 2, 1) := by decide +kernel
theorem dL_law_1521 : decode code 1521 = .ok (.invokevirtual 83, 3) := by decide +kernel
theorem dL_law_1524 : decode code 1524 = .ok (.iload 5, 2) := by decide +kernel
theorem dL_law_1526 : decode code 1526 = .ok (.if_icmp .eq 5, 3) := by decide +kernel
theorem dL_law_1529 : decode code 1529 = .ok (.iconst 0, 1) := by decide +kernel
theorem dL_law_1530 : decode code 1530 = .ok (.ireturn, 1) := by decide +kernel
theorem dL_law_1531 : decode code 1531 = .ok (.iload 5, 2) := by decide +kernel
theorem dL_law_1533 : decode code 1533 = .ok (.ifCond .ne 15, 3) := by decide +kernel
theorem dL_law_1536 : decode code 1536 = .ok (.aload_n 3, 1) := by decide +kernel
theorem dL_law_1537 : decode code 1537 = .ok (.iconst 0, 1) := by decide +kernel
theorem dL_law_1538 : decode code 1538 = .ok (.laload, 1) := by decide +kernel
theorem dL_law_1539 : decode code 1539 = .ok (.iload 6, 2) := by decide +kernel
theorem dL_law_1541 : decode code 1541 = .ok (.i2l, 1) := by decide +kernel
theorem dL_law_1542 : decode code 1542 = .ok (.lcmp, 1) := by decide +kernel
theorem dL_law_1543 : decode code 1543 = .ok (.ifCond .eq 5, 3) := by decide +kernel
theorem dL_law_1546 : decode code 1546 = .ok (.iconst 0, 1) := by decide +kernel
theorem dL_law_1547 : decode code 1547 = .ok (.ireturn, 1) := by decide +kernel
theorem dL_law_1548 : decode code 1548 = .ok (.goto 3, 3) := by decide +kernel
theorem dL_law_1551 : decode code 1551 = .ok (.iinc 4 10, 3) := by decide +kernel
theorem dL_law_1554 : decode code 1554 = .ok (.goto (-1531), 3) := by decide +kernel
theorem dL_law_1557 : decode code 1557 = .ok (.iconst 1, 1) := by decide +kernel
theorem dL_law_1558 : decode code 1558 = .ok (.ireturn, 1) := by decide +kernel
