theorem dL_law_1250 : decode code 1250 = .ok (.aload_n 2, 1) := by decide +kernel
theorem dL_law_1251 : decode code 1251 = .ok (.invokevirtual 175, 3) := by decide +kernel
theorem dL_law_1254 : decode code 1254 = .ok (.if_icmp .eq 630, 3) := by decide +kernel
theorem dL_law_1257 : decode code 1257 = .ok (.iconst 0, 1) := by decide +kernel
theorem dL_law_1258 : decode code 1258 = .ok (.ireturn, 1) := by decide +kernel
theorem dL_law_1259 : decode code 1259 = .ok (.aload_n 1, 1) := by decide +kernel
theorem dL_law_1260 : decode code 1260 = .ok (.aload_n 0, 1) := by decide +kernel
theorem dL_law_1261 : decode code 1261 = .ok (.iload 5, 2) := by decide +kernel
theorem dL_law_1263 : decode code 1263 = .ok (.iconst 1, 1) := by decide +kernel
theorem dL_law_1264 : decode code 1264 = .ok (.iadd, 1) := by decide +kernel
theorem dL_law_1265 : decode code 1265 = .ok (.iaload, 1) := by decide +kernel
theorem dL_law_1266 : decode code 1266 = .ok (.aload_n 0, 1) := by decide +kernel
theorem dL_law_1267 : decode code 1267 = .ok (.iload 5, 2) := by decide +kernel
theorem dL_law_1269 : decode code 1269 = .ok (.iconst 2, 1) := by decide +kernel
theorem dL_law_1270 : decode code 1270 = .ok (.iadd, 1) := by decide +kernel
theorem dL_law_1271 : decode code 1271 = .ok (.iaload, 1) := by decide +kernel
theorem dL_law_1272 : decode code 1272 = .ok (.aload_n 3, 1) := by decide +kernel
theorem dL_law_1273 : decode code 1273 = .ok (.invokestatic 176, 3) := by decide +kernel
theorem dL_law_1276 : decode code 1276 = .ok (.istore 6, 2) := by decide +kernel
theorem dL_law_1278 : decode code 1278 = .ok (.aload_n 2, 1) := by decide +kernel
theorem dL_law_1279 : decode code 1279 = .ok (.aload_n 0, 1) := by decide +kernel
theorem dL_law_1280 : decode code 1280 = .ok (.iload 5, 2) := by decide +kernel
theorem dL_law_1282 : decode code 1282 = .ok (.iconst 1, 1) := by decide +kernel
theorem dL_law_1283 : decode code 1283 = .ok (.iadd, 1) := by decide +kernel
theorem dL_law_1284 : decode code 1284 = .ok (.iaload, 1) := by decide +kernel
theorem dL_law_1285 : decode code 1285 = .ok (.aload_n 0, 1) := by decide +kernel
theorem dL_law_1286 : decode code 1286 = .ok (.iload 5, 2) := by decide +kernel
theorem dL_law_1288 : decode code 1288 = .ok (.iconst 2, 1) := by decide +kernel
theorem dL_law_1289 : decode code 1289 = .ok (.iadd, 1) := by decide +kernel
theorem dL_law_1290 : decode code 1290 = .ok (.iaload, 1) := by decide +kernel
theorem dL_law_1291 : decode code 1291 = .ok (.invokevirtual 178, 3) := by decide +kernel
theorem dL_law_1294 : decode code 1294 = .ok (.istore 7, 2) := by decide +kernel
theorem dL_law_1296 : decode code 1296 = .ok (.aload_n 2, 1) := by decide +kernel
theorem dL_law_1297 : decode code 1297 = .ok (.invokevirtual 111, 3) := by decide +kernel
theorem dL_law_1300 : decode code 1300 = .ok (.iload 6, 2) := by decide +kernel
theorem dL_law_1302 : decode code 1302 = .ok (.if_icmp .eq 5, 3) := by decide +kernel
theorem dL_law_1305 : decode code 1305 = .ok (.iconst 0, 1) := by decide +kernel
theorem dL_law_1306 : decode code 1306 = .ok (.ireturn, 1) := by decide +kernel
theorem dL_law_1307 : decode code 1307 = .ok (.iload 6, 2) := by decide +kernel
theorem dL_law_1309 : decode code 1309 = .ok (.ifCond .ne 15, 3) := by decide +kernel
theorem dL_law_1312 : decode code 1312 = .ok (.aload_n 3, 1) := by decide +kernel
theorem dL_law_1313 : decode code 1313 = .ok (.iconst 0, 1) := by decide +kernel
theorem dL_law_1314 : decode code 1314 = .ok (.laload, 1) := by decide +kernel
theorem dL_law_1315 : decode code 1315 = .ok (.iload 7, 2) := by decide +kernel
theorem dL_law_1317 : decode code 1317 = .ok (.i2l, 1) := by decide +kernel
theorem dL_law_1318 : decode code 1318 = .ok (.lcmp, 1) := by decide +kernel
theorem dL_law_1319 : decode code 1319 = .ok (.ifCond .eq 5, 3) := by decide +kernel
theorem dL_law_1322 : decode code 1322 = .ok (.iconst 0, 1) := by decide +kernel
theorem dL_law_1323 : decode code 1323 = .ok (.ireturn, 1) := by decide +kernel
theorem dL_law_1324 : decode code 1324 = .ok (.goto 560, 3) := by decide +kernel
theorem dL_law_1327 : decode code 1327 = .ok (.aload_n 1, 1) := by decide +kernel
theorem dL_law_1328 : decode code 1328 = .ok (.aload_n 0, 1) := by decide +kernel
theorem dL_law_1329 : decode code 1329 = .ok (.iload 5, 2) := by decide +kernel
theorem dL_law_1331 : decode code 1331 = .ok (.iconst 1, 1) := by decide +kernel
theorem dL_law_1332 : decode code 1332 = .ok (.iadd, 1) := by decide +kernel
theorem dL_law_1333 : decode code 1333 = .ok (.iaload, 1) := by decide +kernel
theorem dL_law_1334 : decode code 1334 = .ok (.aload_n 3, 1) := by decide +kernel
theorem dL_law_1335 : decode code 1335 = .ok (.invokestatic 179, 3) := by decide +kernel
theorem dL_law_1338 : decode code 1338 = .ok (.istore 6, 2) := by decide +kernel
theorem dL_law_1340 : decode code 1340 = .ok (.aload_n 2, 1) := by decide +kernel
theorem dL_law_1341 : decode code 1341 = .ok (.aload_n 0, 1) := by decide +kernel
theorem dL_law_1342 : decode code 1342 = .ok (.iload 5, 2) := by decide +kernel
theorem dL_law_1344 : decode code 1344 = .ok (.iconst 1, 1) := by decide +kernel
theorem dL_law_1345 : decode code 1345 = .ok (.iadd, 1) := by decide +kernel
theorem dL_law_1346 : decode code 1346 = .ok (.iaload, 1) := by decide +kernel
theorem dL_law_1347 : decode code 1347 = .ok (.invokevirtual 181, 3) := by decide +kernel
theorem dL_law_1350 : decode code 1350 = .ok (.lstore 7, 2) := by decide +kernel
theorem dL_law_1352 : decode code 1352 = .ok (.aload_n 2, 1) := by decide +kernel
theorem dL_law_1353 : decode code 1353 = .ok (.invokevirtual 111, 3) := by decide +kernel
theorem dL_law_1356 : decode code 1356 = .ok (.iload 6, 2) := by decide +kernel
theorem dL_law_1358 : decode code 1358 = .ok (.if_icmp .eq 5, 3) := by decide +kernel
theorem dL_law_1361 : decode code 1361 = .ok (.iconst 0, 1) := by decide +kernel
theorem dL_law_1362 : decode code 1362 = .ok (.ireturn, 1) := by decide +kernel
theorem dL_law_1363 : decode code 1363 = .ok (.iload 6, 2) := by decide +kernel
theorem dL_law_1365 : decode code 1365 = .ok (.ifCond .ne 14, 3) := by decide +kernel
theorem dL_law_1368 : decode code 1368 = .ok (.aload_n 3, 1) := by decide +kernel
theorem dL_law_1369 : decode code 1369 = .ok (.iconst 0, 1) := by decide +kernel
theorem dL_law_1370 : decode code 1370 = .ok (.laload, 1) := by decide +kernel
theorem dL_law_1371 : decode code 1371 = .ok (.lload 7, 2) := by decide +kernel
theorem dL_law_1373 : decode code 1373 = .ok (.lcmp, 1) := by decide +kernel
theorem dL_law_1374 : decode code 1374 = .ok (.ifCond .eq 5, 3) := by decide +kernel
theorem dL_law_1377 : decode code 1377 = .ok (.iconst 0, 1) := by decide +kernel
theorem dL_law_1378 : decode code 1378 = .ok (.ireturn, 1) := by decide +kernel
theorem dL_law_1379 : decode code 1379 = .ok (.goto 505, 3) := by decide +kernel
theorem dL_law_1382 : decode code 1382 = .ok (.aload_n 1, 1) := by decide +kernel
theorem dL_law_1383 : decode code 1383 = .ok (.aload 4, 2) := by decide +kernel
theorem dL_law_1385 : decode code 1385 = .ok (.invokestatic 182, 3) := by decide +kernel
theorem dL_law_1388 : decode code 1388 = .ok (.istore 6, 2) := by decide +kernel
theorem dL_law_1390 : decode code 1390 = .ok (.aload_n 2, 1) := by decide +kernel
theorem dL_law_1391 : decode code 1391 = .ok (.invokevirtual 185, 3) := by decide +kernel
theorem dL_law_1394 : decode code 1394 = .ok (.fstore 7, 2) := by decide +kernel
theorem dL_law_1396 : decode code 1396 = .ok (.aload_n 2, 1) := by decide +kernel
theorem dL_law_1397 : decode code 1397 = .ok (.invokevirtual 111, 3) := by decide +kernel
theorem dL_law_1400 : decode code 1400 = .ok (.iload 6, 2) := by decide +kernel
theorem dL_law_1402 : decode code 1402 = .ok (.if_icmp .eq 5, 3) := by decide +kernel
theorem dL_law_1405 : decode code 1405 = .ok (.iconst 0, 1) := by decide +kernel
theorem dL_law_1406 : decode code 1406 = .ok (.ireturn, 1) := by decide +kernel
theorem dL_law_1407 : decode code 1407 = .ok (.iload 6, 2) := by decide +kernel
theorem dL_law_1409 : decode code 1409 = .ok (.ifCond .ne 36, 3) := by decide +kernel
theorem dL_law_1412 : decode code 1412 = .ok (.aload 4, 2) := by decide +kernel
theorem dL_law_1414 : decode code 1414 = .ok (.iconst 0, 1) := by decide +kernel
theorem dL_law_1415 : decode code 1415 = .ok (.daload, 1) := by decide +kernel
theorem dL_law_1416 : decode code 1416 = .ok (.fload 7, 2) := by decide +kernel
theorem dL_law_1418 : decode code 1418 = .ok (.f2d, 1) := by decide +kernel
theorem dL_law_1419 : decode code 1419 = .ok (.dcmp .l, 1) := by decide +kernel
theorem dL_law_1420 : decode code 1420 = .ok (.ifCond .eq 25, 3) := by decide +kernel
theorem dL_law_1423 : decode code 1423 = .ok (.aload 4, 2) := by decide +kernel
theorem dL_law_1425 : decode code 1425 = .ok (.iconst 0, 1) := by decide +kernel
theorem dL_law_1426 : decode code 1426 = .ok (.daload, 1) := by decide +kernel
theorem dL_law_1427 : decode code 1427 = .ok (.aload 4, 2) := by decide +kernel
theorem dL_law_1429 : decode code 1429 = .ok (.iconst 0, 1) := by decide +kernel
theorem dL_law_1430 : decode code 1430 = .ok (.daload, 1) := by decide +kernel
theorem dL_law_1431 : decode code 1431 = .ok (.dcmp .l, 1) := by decide +kernel
theorem dL_law_1432 : decode code 1432 = .ok (.ifCond .eq 11, 3) := by decide +kernel
theorem dL_law_1435 : decode code 1435 = .ok (.fload 7, 2) := by decide +kernel
theorem dL_law_1437 : decode code 1437 = .ok (.fload 7, 2) := by decide +kernel
theorem dL_law_1439 : decode code 1439 = .ok (.fcmp .l, 1) := by decide +kernel
theorem dL_law_1440 : decode code 1440 = .ok (.ifCond .ne 5, 3) := by decide +kernel
theorem dL_law_1443 : decode code 1443 = .ok (.iconst 0, 1) := by decide +kernel
theorem dL_law_1444 : decode code 1444 = .ok (.ireturn, 1) := by decide +kernel
theorem dL_law_1445 : decode code 1445 = .ok (.goto 439, 3) := by decide +kernel
theorem dL_law_1448 : decode code 1448 = .ok (.aload_n 1, 1) := by decide +kernel
theorem dL_law_1449 : decode code 1449 = .ok (.aload_n 3, 1) := by decide +kernel
theorem dL_law_1450 : decode code 1450 = .ok (.invokestatic 186, 3) := by decide +kernel
theorem dL_law_1453 : decode code 1453 = .ok (.istore 6, 2) := by decide +kernel
theorem dL_law_1455 : decode code 1455 = .ok (.aload_n 2, 1) := by decide +kernel
theorem dL_law_1456 : decode code 1456 = .ok (.invokevirtual 188, 3) := by decide +kernel
theorem dL_law_1459 : decode code 1459 = .ok (.lstore 7, 2) := by decide +kernel
theorem dL_law_1461 : decode code 1461 = .ok (.aload_n 2, 1) := by decide +kernel
theorem dL_law_1462 : decode code 1462 = .ok (.invokevirtual 111, 3) := by decide +kernel
theorem dL_law_1465 : decode code 1465 = .ok (.iload 6, 2) := by decide +kernel
theorem dL_law_1467 : decode code 1467 = .ok (.if_icmp .eq 5, 3) := by decide +kernel
theorem dL_law_1470 : decode code 1470 = .ok (.iconst 0, 1) := by decide +kernel
theorem dL_law_1471 : decode code 1471 = .ok (.ireturn, 1) := by decide +kernel
theorem dL_law_1472 : decode code 1472 = .ok (.iload 6, 2) := by decide +kernel
theorem dL_law_1474 : decode code 1474 = .ok (.ifCond .ne 14, 3) := by decide +kernel
theorem dL_law_1477 : decode code 1477 = .ok (.aload_n 3, 1) := by decide +kernel
theorem dL_law_1478 : decode code 1478 = .ok (.iconst 0, 1) := by decide +kernel
theorem dL_law_1479 : decode code 1479 = .ok (.laload, 1) := by decide +kernel
theorem dL_law_1480 : decode code 1480 = .ok (.lload 7, 2) := by decide +kernel
theorem dL_law_1482 : decode code 1482 = .ok (.lcmp, 1) := by decide +kernel
theorem dL_law_1483 : decode code 1483 = .ok (.ifCond .eq 5, 3) := by decide +kernel
theorem dL_law_1486 : decode code 1486 = .ok (.iconst 0, 1) := by decide +kernel
theorem dL_law_1487 : decode code 1487 = .ok (.ireturn, 1) := by decide +kernel
theorem dL_law_1488 : decode code 1488 = .ok (.goto 396, 3) := by decide +kernel
theorem dL_law_1491 : decode code 1491 = .ok (.aload_n 1, 1) := by decide +kernel
theorem dL_law_1492 : decode code 1492 = .ok (.aload_n 0, 1) := by decide +kernel
theorem dL_law_1493 : decode code 1493 = .ok (.iload 5, 2) := by decide +kernel
theorem dL_law_1495 : decode code 1495 = .ok (.iconst 1, 1) := by decide +kernel
theorem dL_law_1496 : decode code 1496 = .ok (.iadd, 1) := by decide +kernel
theorem dL_law_1497 : decode code 1497 = .ok (.iaload, 1) := by decide +kernel
theorem dL_law_1498 : decode code 1498 = .ok (.aload_n 0, 1) := by decide +kernel
theorem dL_law_1499 : decode code 1499 = .ok (.iload 5, 2) := by decide +kernel
theorem dL_law_1501 : decode code 1501 = .ok (.iconst 2, 1) := by decide +kernel
theorem dL_law_1502 : decode code 1502 = .ok (.iadd, 1) := by decide +kernel
theorem dL_law_1503 : decode code 1503 = .ok (.iaload, 1) := by decide +kernel
theorem dL_law_1504 : decode code 1504 = .ok (.aload_n 3, 1) := by decide +kernel
theorem dL_law_1505 : decode code 1505 = .ok (.invokestatic 189, 3) := by decide +kernel
theorem dL_law_1508 : decode code 1508 = .ok (.istore 6, 2) := by decide +kernel
theorem dL_law_1510 : decode code 1510 = .ok (.aload_n 2, 1) := by decide +kernel
theorem dL_law_1511 : decode code 1511 = .ok (.aload_n 0, 1) := by decide +kernel
theorem dL_law_1512 : decode code 1512 = .ok (.iload 5, 2) := by decide +kernel
theorem dL_law_1514 : decode code 1514 = .ok (.iconst 1, 1) := by decide +kernel
theorem dL_law_1515 : decode code 1515 = .ok (.iadd, 1) := by decide +kernel
theorem dL_law_1516 : decode code 1516 = .ok (.iaload, 1) := by decide +kernel
theorem dL_law_1517 : decode code 1517 = .ok (.aload_n 0, 1) := by decide +kernel
theorem dL_law_1518 : decode code 1518 = .ok (.iload 5, 2) := by decide +kernel
theorem dL_law_1520 : decode code 1520 = .ok (.iconst 2, 1) := by decide +kernel
theorem dL_law_1521 : decode code 1521 = .ok (.iadd, 1) := by decide +kernel
theorem dL_law_1522 : decode code 1522 = .ok (.iaload, 1) := by decide +kernel
theorem dL_law_1523 : decode code 1523 = .ok (.invokevirtual 191, 3) := by decide +kernel
theorem dL_law_1526 : decode code 1526 = .ok (.istore 7, 2) := by decide +kernel
theorem dL_law_1528 : decode code 1528 = .ok (.aload_n 2, 1) := by decide +kernel
theorem dL_law_1529 : decode code 1529 = .ok (.invokevirtual 111, 3) := by decide +kernel
theorem dL_law_1532 : decode code 1532 = .ok (.iload 6, 2) := by decide +kernel
theorem dL_law_1534 : decode code 1534 = .ok (.if_icmp .eq 5, 3) := by decide +kernel
theorem dL_law_1537 : decode code 1537 = .ok (.iconst 0, 1) := by decide +kernel
theorem dL_law_1538 : decode code 1538 = .ok (.ireturn, 1) := by decide +kernel
theorem dL_law_1539 : decode code 1539 = .ok (.iload 6, 2) := by decide +kernel
theorem dL_law_1541 : decode code 1541 = .ok (.ifCond .ne 15, 3) := by decide +kernel
theorem dL_law_1544 : decode code 1544 = .ok (.aload_n 3, 1) := by decide +kernel
theorem dL_law_1545 : decode code 1545 = .ok (.iconst 0, 1) := by decide +kernel
theorem dL_law_1546 : decode code 1546 = .ok (.laload, 1) := by decide +kernel
theorem dL_law_1547 : decode code 1547 = .ok (.iload 7, 2) := by decide +kernel
theorem dL_law_1549 : decode code 1549 = .ok (.i2l, 1) := by decide +kernel
theorem dL_law_1550 : decode code 1550 = .ok (.lcmp, 1) := by decide +kernel
theorem dL_law_1551 : decode code 1551 = .ok (.ifCond .eq 5, 3) := by decide +kernel
theorem dL_law_1554 : decode code 1554 = .ok (.iconst 0, 1) := by decide +kernel
theorem dL_law_1555 : decode code 1555 = .ok (.ireturn, 1) := by decide +kernel
theorem dL_law_1556 : decode code 1556 = .ok (.goto 328, 3) := by decide +kernel
theorem dL_law_1559 : decode code 1559 = .ok (.aload_n 1, 1) := by decide +kernel
theorem dL_law_1560 : decode code 1560 = .ok (.aload_n 3, 1) := by decide +kernel
theorem dL_law_1561 : decode code 1561 = .ok (.invokestatic 192, 3) := by decide +kernel
theorem dL_law_1564 : decode code 1564 = .ok (.istore 6, 2) := by decide +kernel
theorem dL_law_1566 : decode code 1566 = .ok (.aload_n 2, 1) := by decide +kernel
theorem dL_law_1567 : decode code 1567 = .ok (.invokevirtual 194, 3) := by decide +kernel
theorem dL_law_1570 : decode code 1570 = .ok (.istore 7, 2) := by decide +kernel
theorem dL_law_1572 : decode code 1572 = .ok (.aload_n 2, 1) := by decide +kernel
theorem dL_law_1573 : decode code 1573 = .ok (.invokevirtual 111, 3) := by decide +kernel
theorem dL_law_1576 : decode code 1576 = .ok (.iload 6, 2) := by decide +kernel
theorem dL_law_1578 : decode code 1578 = .ok (.if_icmp .eq 5, 3) := by decide +kernel
theorem dL_law_1581 : decode code 1581 = .ok (.iconst 0, 1) := by decide +kernel
theorem dL_law_1582 : decode code 1582 = .ok (.ireturn, 1) := by decide +kernel
theorem dL_law_1583 : decode code 1583 = .ok (.iload 6, 2) := by decide +kernel
theorem dL_law_1585 : decode code 1585 = .ok (.ifCond .ne 15, 3) := by decide +kernel
theorem dL_law_1588 : decode code 1588 = .ok (.aload_n 3, 1) := by decide +kernel
theorem dL_law_1589 : decode code 1589 = .ok (.iconst 0, 1) := by decide +kernel
theorem dL_law_1590 : decode code 1590 = .ok (.laload, 1) := by decide +kernel
theorem dL_law_1591 : decode code 1591 = .ok (.iload 7, 2) := by decide +kernel
theorem dL_law_1593 : decode code 1593 = .ok (.i2l, 1) := by decide +kernel
theorem dL_law_1594 : decode code 1594 = .ok (.lcmp, 1) := by decide +kernel
theorem dL_law_1595 : decode code 1595 = .ok (.ifCond .eq 5, 3) := by decide +kernel
theorem dL_law_1598 : decode code 1598 = .ok (.iconst 0, 1) := by decide +kernel
theorem dL_law_1599 : decode code 1599 = .ok (.ireturn, 1) := by decide +kernel
theorem dL_law_1600 : decode code 1600 = .ok (.goto 284, 3) := by decide +kernel
theorem dL_law_1603 : decode code 1603 = .ok (.aload_n 1, 1) := by decide +kernel
theorem dL_law_1604 : decode code 1604 = .ok (.invokevirtual 195, 3) := by decide +kernel
theorem dL_law_1607 : decode code 1607 = .ok (.aload_n 2, 1) := by decide +kernel
theorem dL_law_1608 : decode code 1608 = .ok (.invokevirtual 198, 3) := by decide +kernel
theorem dL_law_1611 : decode code 1611 = .ok (.if_icmp .eq 273, 3) := by decide +kernel
theorem dL_law_1614 : decode code 1614 = .ok (.iconst 0, 1) := by decide +kernel
theorem dL_law_1615 : decode code 1615 = .ok (.ireturn, 1) := by decide +kernel
theorem dL_law_1616 : decode code 1616 = .ok (.aload_n 1, 1) := by decide +kernel
theorem dL_law_1617 : decode code 1617 = .ok (.aload_n 0, 1) := by decide +kernel
theorem dL_law_1618 : decode code 1618 = .ok (.iload 5, 2) := by decide +kernel
theorem dL_law_1620 : decode code 1620 = .ok (.iconst 1, 1) := by decide +kernel
theorem dL_law_1621 : decode code 1621 = .ok (.iadd, 1) := by decide +kernel
theorem dL_law_1622 : decode code 1622 = .ok (.iaload, 1) := by decide +kernel
theorem dL_law_1623 : decode code 1623 = .ok (.aload_n 3, 1) := by decide +kernel
theorem dL_law_1624 : decode code 1624 = .ok (.invokestatic 199, 3) := by decide +kernel
theorem dL_law_1627 : decode code 1627 = .ok (.istore 6, 2) := by decide +kernel
theorem dL_law_1629 : decode code 1629 = .ok (.aload_n 2, 1) := by decide +kernel
theorem dL_law_1630 : decode code 1630 = .ok (.aload_n 0, 1) := by decide +kernel
theorem dL_law_1631 : decode code 1631 = .ok (.iload 5, 2) := by decide +kernel
theorem dL_law_1633 : decode code 1633 = .ok (.iconst 1, 1) := by decide +kernel
theorem dL_law_1634 : decode code 1634 = .ok (.iadd, 1) := by decide +kernel
theorem dL_law_1635 : decode code 1635 = .ok (.iaload, 1) := by decide +kernel
theorem dL_law_1636 : decode code 1636 = .ok (.invokevirtual 201, 3) := by decide +kernel
theorem dL_law_1639 : decode code 1639 = .ok (.istore 7, 2) := by decide +kernel
theorem dL_law_1641 : decode code 1641 = .ok (.aload_n 2, 1) := by decide +kernel
theorem dL_law_1642 : decode code 1642 = .ok (.invokevirtual 111, 3) := by decide +kernel
theorem dL_law_1645 : decode code 1645 = .ok (.iload 6, 2) := by decide +kernel
theorem dL_law_1647 : decode code 1647 = .ok (.if_icmp .eq 5, 3) := by decide +kernel
theorem dL_law_1650 : decode code 1650 = .ok (.iconst 0, 1) := by decide +kernel
theorem dL_law_1651 : decode code 1651 = .ok (.ireturn, 1) := by decide +kernel
theorem dL_law_1652 : decode code 1652 = .ok (.iload 6, 2) := by decide +kernel
theorem dL_law_1654 : decode code 1654 = .ok (.ifCond .ne 15, 3) := by decide +kernel
theorem dL_law_1657 : decode code 1657 = .ok (.aload_n 3, 1) := by decide +kernel
theorem dL_law_1658 : decode code 1658 = .ok (.iconst 0, 1) := by decide +kernel
theorem dL_law_1659 : decode code 1659 = .ok (.laload, 1) := by decide +kernel
theorem dL_law_1660 : decode code 1660 = .ok (.iload 7, 2) := by decide +kernel
theorem dL_law_1662 : decode code 1662 = .ok (.i2l, 1) := by decide +kernel
theorem dL_law_1663 : decode code 1663 = .ok (.lcmp, 1) := by decide +kernel
theorem dL_law_1664 : decode code 1664 = .ok (.ifCond .eq 5, 3) := by decide +kernel
theorem dL_law_1667 : decode code 1667 = .ok (.iconst 0, 1) := by decide +kernel
theorem dL_law_1668 : decode code 1668 = .ok (.ireturn, 1) := by decide +kernel
theorem dL_law_1669 : decode code 1669 = .ok (.goto 215, 3) := by decide +kernel
theorem dL_law_1672 : decode code 1672 = .ok (.aload_n 1, 1) := by decide +kernel
theorem dL_law_1673 : decode code 1673 = .ok (.aload_n 0, 1) := by decide +kernel
theorem dL_law_1674 : decode code 1674 = .ok (.iload 5, 2) := by decide +kernel
theorem dL_law_1676 : decode code 1676 = .ok (.iconst 1, 1) := by decide +kernel
theorem dL_law_1677 : decode code 1677 = .ok (.iadd, 1) := by decide +kernel
theorem dL_law_1678 : decode code 1678 = .ok (.iaload, 1) := by decide +kernel
theorem dL_law_1679 : decode code 1679 = .ok (.aload_n 3, 1) := by decide +kernel
theorem dL_law_1680 : decode code 1680 = .ok (.invokestatic 202, 3) := by decide +kernel
theorem dL_law_1683 : decode code 1683 = .ok (.istore 6, 2) := by decide +kernel
theorem dL_law_1685 : decode code 1685 = .ok (.aload_n 2, 1) := by decide +kernel
theorem dL_law_1686 : decode code 1686 = .ok (.aload_n 0, 1) := by decide +kernel
theorem dL_law_1687 : decode code 1687 = .ok (.iload 5, 2) := by decide +kernel
theorem dL_law_1689 : decode code 1689 = .ok (.iconst 1, 1) := by decide +kernel
theorem dL_law_1690 : decode code 1690 = .ok (.iadd, 1) := by decide +kernel
theorem dL_law_1691 : decode code 1691 = .ok (.iaload, 1) := by decide +kernel
theorem dL_law_1692 : decode code 1692 = .ok (.invokevirtual 204, 3) := by decide +kernel
theorem dL_law_1695 : decode code 1695 = .ok (.istore 7, 2) := by decide +kernel
theorem dL_law_1697 : decode code 1697 = .ok (.aload_n 2, 1) := by decide +kernel
theorem dL_law_1698 : decode code 1698 = .ok (.invokevirtual 111, 3) := by decide +kernel
theorem dL_law_1701 : decode code 1701 = .ok (.iload 6, 2) := by decide +kernel
theorem dL_law_1703 : decode code 1703 = .ok (.if_icmp .eq 5, 3) := by decide +kernel
theorem dL_law_1706 : decode code 1706 = .ok (.iconst 0, 1) := by decide +kernel
theorem dL_law_1707 : decode code 1707 = .ok (.ireturn, 1) := by decide +kernel
theorem dL_law_1708 : decode code 1708 = .ok (.iload 6, 2) := by decide +kernel
theorem dL_law_1710 : decode code 1710 = .ok (.ifCond .ne 15, 3) := by decide +kernel
theorem dL_law_1713 : decode code 1713 = .ok (.aload_n 3, 1) := by decide +kernel
theorem dL_law_1714 : decode code 1714 = .ok (.iconst 0, 1) := by decide +kernel
theorem dL_law_1715 : decode code 1715 = .ok (.laload, 1) := by decide +kernel
theorem dL_law_1716 : decode code 1716 = .ok (.iload 7, 2) := by decide +kernel
theorem dL_law_1718 : decode code 1718 = .ok (.i2l, 1) := by decide +kernel
theorem dL_law_1719 : decode code 1719 = .ok (.lcmp, 1) := by decide +kernel
theorem dL_law_1720 : decode code 1720 = .ok (.ifCond .eq 5, 3) := by decide +kernel
theorem dL_law_1723 : decode code 1723 = .ok (.iconst 0, 1) := by decide +kernel
theorem dL_law_1724 : decode code 1724 = .ok (.ireturn, 1) := by decide +kernel
theorem dL_law_1725 : decode code 1725 = .ok (.goto 159, 3) := by decide +kernel
theorem dL_law_1728 : decode code 1728 = .ok (.aload_n 1, 1) := by decide +kernel
theorem dL_law_1729 : decode code 1729 = .ok (.aload_n 3, 1) := by decide +kernel
theorem dL_law_1730 : decode code 1730 = .ok (.invokestatic 205, 3) := by decide +kernel
theorem dL_law_1733 : decode code 1733 = .ok (.istore 6, 2) := by decide +kernel
theorem dL_law_1735 : decode code 1735 = .ok (.aload_n 2, 1) := by decide +kernel
theorem dL_law_1736 : decode code 1736 = .ok (.invokevirtual 207, 3) := by decide +kernel
theorem dL_law_1739 : decode code 1739 = .ok (.istore 7, 2) := by decide +kernel
theorem dL_law_1741 : decode code 1741 = .ok (.aload_n 2, 1) := by decide +kernel
theorem dL_law_1742 : decode code 1742 = .ok (.invokevirtual 111, 3) := by decide +kernel
theorem dL_law_1745 : decode code 1745 = .ok (.iload 6, 2) := by decide +kernel
theorem dL_law_1747 : decode code 1747 = .ok (.if_icmp .eq 5, 3) := by decide +kernel
theorem dL_law_1750 : decode code 1750 = .ok (.iconst 0, 1) := by decide +kernel
theorem dL_law_1751 : decode code 1751 = .ok (.ireturn, 1) := by decide +kernel
theorem dL_law_1752 : decode code 1752 = .ok (.iload 6, 2) := by decide +kernel
theorem dL_law_1754 : decode code 1754 = .ok (.ifCond .ne 15, 3) := by decide +kernel
theorem dL_law_1757 : decode code 1757 = .ok (.aload_n 3, 1) := by decide +kernel
theorem dL_law_1758 : decode code 1758 = .ok (.iconst 0, 1) := by decide +kernel
theorem dL_law_1759 : decode code 1759 = .ok (.laload, 1) := by decide +kernel
theorem dL_law_1760 : decode code 1760 = .ok (.iload 7, 2) := by decide +kernel
theorem dL_law_1762 : decode code 1762 = .ok (.i2l, 1) := by decide +kernel
theorem dL_law_1763 : decode code 1763 = .ok (.lcmp, 1) := by decide +kernel
theorem dL_law_1764 : decode code 1764 = .ok (.ifCond .eq 5, 3) := by decide +kernel
theorem dL_law_1767 : decode code 1767 = .ok (.iconst 0, 1) := by decide +kernel
theorem dL_law_1768 : decode code 1768 = .ok (.ireturn, 1) := by decide +kernel
theorem dL_law_1769 : decode code 1769 = .ok (.goto 115, 3) := by decide +kernel
theorem dL_law_1772 : decode code 1772 = .ok (.aload_n 1, 1) := by decide +kernel
theorem dL_law_1773 : decode code 1773 = .ok (.aload_n 0, 1) := by decide +kernel
theorem dL_law_1774 : decode code 1774 = .ok (.iload 5, 2) := by decide +kernel
theorem dL_law_1776 : decode code 1776 = .ok (.iconst 1, 1) := by decide +kernel
theorem dL_law_1777 : decode code 1777 = .ok (.iadd, 1) := by decide +kernel
theorem dL_law_1778 : decode code 1778 = .ok (.iaload, 1) := by decide +kernel
theorem dL_law_1779 : decode code 1779 = .ok (.aload_n 3, 1) := by decide +kernel
theorem dL_law_1780 : decode code 1780 = .ok (.invokestatic 208, 3) := by decide +kernel
theorem dL_law_1783 : decode code 1783 = .ok (.istore 6, 2) := by decide +kernel
theorem dL_law_1785 : decode code 1785 = .ok (.aload_n 2, 1) := by decide +kernel
theorem dL_law_1786 : decode code 1786 = .ok (.aload_n 0, 1) := by decide +kernel
theorem dL_law_1787 : decode code 1787 = .ok (.iload 5, 2) := by decide +kernel
theorem dL_law_1789 : decode code 1789 = .ok (.iconst 1, 1) := by decide +kernel
theorem dL_law_1790 : decode code 1790 = .ok (.iadd, 1) := by decide +kernel
theorem dL_law_1791 : decode code 1791 = .ok (.iaload, 1) := by decide +kernel
theorem dL_law_1792 : decode code 1792 = .ok (.invokevirtual 210, 3) := by decide +kernel
theorem dL_law_1795 : decode code 1795 = .ok (.istore 7, 2) := by decide +kernel
theorem dL_law_1797 : decode code 1797 = .ok (.aload_n 2, 1) := by decide +kernel
theorem dL_law_1798 : decode code 1798 = .ok (.invokevirtual 111, 3) := by decide +kernel
theorem dL_law_1801 : decode code 1801 = .ok (.iload 6, 2) := by decide +kernel
theorem dL_law_1803 : decode code 1803 = .ok (.if_icmp .eq 5, 3) := by decide +kernel
theorem dL_law_1806 : decode code 1806 = .ok (.iconst 0, 1) := by decide +kernel
theorem dL_law_1807 : decode code 1807 = .ok (.ireturn, 1) := by decide +kernel
theorem dL_law_1808 : decode code 1808 = .ok (.iload 6, 2) := by decide +kernel
theorem dL_law_1810 : decode code 1810 = .ok (.ifCond .ne 15, 3) := by decide +kernel
theorem dL_law_1813 : decode code 1813 = .ok (.aload_n 3, 1) := by decide +kernel
theorem dL_law_1814 : decode code 1814 = .ok (.iconst 0, 1) := by decide +kernel
theorem dL_law_1815 : decode code 1815 = .ok (.laload, 1) := by decide +kernel
theorem dL_law_1816 : decode code 1816 = .ok (.iload 7, 2) := by decide +kernel
theorem dL_law_1818 : decode code 1818 = .ok (.i2l, 1) := by decide +kernel
theorem dL_law_1819 : decode code 1819 = .ok (.lcmp, 1) := by decide +kernel
theorem dL_law_1820 : decode code 1820 = .ok (.ifCond .eq 5, 3) := by decide +kernel
theorem dL_law_1823 : decode code 1823 = .ok (.iconst 0, 1) := by decide +kernel
theorem dL_law_1824 : decode code 1824 = .ok (.ireturn, 1) := by decide +kernel
theorem dL_law_1825 : decode code 1825 = .ok (.goto 59, 3) := by decide +kernel
theorem dL_law_1828 : decode code 1828 = .ok (.aload_n 1, 1) := by decide +kernel
theorem dL_law_1829 : decode code 1829 = .ok (.aload_n 0, 1) := by decide +kernel
theorem dL_law_1830 : decode code 1830 = .ok (.iload 5, 2) := by decide +kernel
theorem dL_law_1832 : decode code 1832 = .ok (.iconst 1, 1) := by decide +kernel
theorem dL_law_1833 : decode code 1833 = .ok (.iadd, 1) := by decide +kernel
theorem dL_law_1834 : decode code 1834 = .ok (.iaload, 1) := by decide +kernel
theorem dL_law_1835 : decode code 1835 = .ok (.aload_n 3, 1) := by decide +kernel
theorem dL_law_1836 : decode code 1836 = .ok (.invokestatic 211, 3) := by decide +kernel
theorem dL_law_1839 : decode code 1839 = .ok (.istore 6, 2) := by decide +kernel
theorem dL_law_1841 : decode code 1841 = .ok (.aload_n 2, 1) := by decide +kernel
theorem dL_law_1842 : decode code 1842 = .ok (.aload_n 0, 1) := by decide +kernel
theorem dL_law_1843 : decode code 1843 = .ok (.iload 5, 2) := by decide +kernel
theorem dL_law_1845 : decode code 1845 = .ok (.iconst 1, 1) := by decide +kernel
theorem dL_law_1846 : decode code 1846 = .ok (.iadd, 1) := by decide +kernel
theorem dL_law_1847 : decode code 1847 = .ok (.iaload, 1) := by decide +kernel
theorem dL_law_1848 : decode code 1848 = .ok (.invokevirtual 213, 3) := by decide +kernel
theorem dL_law_1851 : decode code 1851 = .ok (.istore 7, 2) := by decide +kernel
theorem dL_law_1853 : decode code 1853 = .ok (.aload_n 2, 1) := by decide +kernel
theorem dL_law_1854 : decode code 1854 = .ok (.invokevirtual 111, 3) := by decide +kernel
theorem dL_law_1857 : decode code 1857 = .ok (.iload 6, 2) := by decide +kernel
theorem dL_law_1859 : decode code 1859 = .ok (.if_icmp .eq 5, 3) := by decide +kernel
theorem dL_law_1862 : decode code 1862 = .ok (.iconst 0, 1) := by decide +kernel
theorem dL_law_1863 : decode code 1863 = .ok (.ireturn, 1) := by decide +kernel
theorem dL_law_1864 : decode code 1864 = .ok (.iload 6, 2) := by decide +kernel
theorem dL_law_1866 : decode code 1866 = .ok (.ifCond .ne 15, 3) := by decide +kernel
theorem dL_law_1869 : decode code 1869 = .ok (.aload_n 3, 1) := by decide +kernel
theorem dL_law_1870 : decode code 1870 = .ok (.iconst 0, 1) := by decide +kernel
theorem dL_law_1871 : decode code 1871 = .ok (.laload, 1) := by decide +kernel
theorem dL_law_1872 : decode code 1872 = .ok (.iload 7, 2) := by decide +kernel
theorem dL_law_1874 : decode code 1874 = .ok (.i2l, 1) := by decide +kernel
theorem dL_law_1875 : decode code 1875 = .ok (.lcmp, 1) := by decide +kernel
theorem dL_law_1876 : decode code 1876 = .ok (.ifCond .eq 5, 3) := by decide +kernel
theorem dL_law_1879 : decode code 1879 = .ok (.iconst 0, 1) := by decide +kernel
theorem dL_law_1880 : decode code 1880 = .ok (.ireturn, 1) := by decide +kernel
theorem dL_law_1881 : decode code 1881 = .ok (.goto 3, 3) := by decide +kernel
theorem dL_law_1884 : decode code 1884 = .ok (.iinc 5 6, 3) := by decide +kernel
theorem dL_law_1887 : decode code 1887 = .ok (.goto (-1859), 3) := by decide +kernel
theorem dL_law_1890 : decode code 1890 = .ok (.iconst 1, 1) := by decide +kernel
theorem dL_law_1891 : decode code 1891 = .ok (.ireturn, 1) := by decide +kernel
