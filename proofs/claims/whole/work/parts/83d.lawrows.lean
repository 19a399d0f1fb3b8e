theorem d_LW_law_1277 : decode m_LW_law.2.1 1277 = .ok (.ifCond .eq 5, 3) := by decide +kernel
theorem d_LW_law_1280 : decode m_LW_law.2.1 1280 = .ok (.iconst 0, 1) := by decide +kernel
theorem d_LW_law_1281 : decode m_LW_law.2.1 1281 = .ok (.ireturn, 1) := by decide +kernel
theorem d_LW_law_1282 : decode m_LW_law.2.1 1282 = .ok (.goto 383, 3) := by decide +kernel
theorem d_LW_law_1285 : decode m_LW_law.2.1 1285 = .ok (.aload_n 1, 1) := by decide +kernel
theorem d_LW_law_1286 : decode m_LW_law.2.1 1286 = .ok (.aload_n 0, 1) := by decide +kernel
theorem d_LW_law_1287 : decode m_LW_law.2.1 1287 = .ok (.iload 4, 2) := by decide +kernel
theorem d_LW_law_1289 : decode m_LW_law.2.1 1289 = .ok (.iconst 1, 1) := by decide +kernel
theorem d_LW_law_1290 : decode m_LW_law.2.1 1290 = .ok (.iadd, 1) := by decide +kernel
theorem d_LW_law_1291 : decode m_LW_law.2.1 1291 = .ok (.iaload, 1) := by decide +kernel
theorem d_LW_law_1292 : decode m_LW_law.2.1 1292 = .ok (.aload_n 0, 1) := by decide +kernel
theorem d_LW_law_1293 : decode m_LW_law.2.1 1293 = .ok (.iload 4, 2) := by decide +kernel
theorem d_LW_law_1295 : decode m_LW_law.2.1 1295 = .ok (.iconst 2, 1) := by decide +kernel
theorem d_LW_law_1296 : decode m_LW_law.2.1 1296 = .ok (.iadd, 1) := by decide +kernel
theorem d_LW_law_1297 : decode m_LW_law.2.1 1297 = .ok (.iaload, 1) := by decide +kernel
theorem d_LW_law_1298 : decode m_LW_law.2.1 1298 = .ok (.aload_n 0, 1) := by decide +kernel
theorem d_LW_law_1299 : decode m_LW_law.2.1 1299 = .ok (.iload 4, 2) := by decide +kernel
theorem d_LW_law_1301 : decode m_LW_law.2.1 1301 = .ok (.iconst 3, 1) := by decide +kernel
theorem d_LW_law_1302 : decode m_LW_law.2.1 1302 = .ok (.iadd, 1) := by decide +kernel
theorem d_LW_law_1303 : decode m_LW_law.2.1 1303 = .ok (.iaload, 1) := by decide +kernel
theorem d_LW_law_1304 : decode m_LW_law.2.1 1304 = .ok (.aload_n 3, 1) := by decide +kernel
theorem d_LW_law_1305 : decode m_LW_law.2.1 1305 = .ok (.invokestatic 142, 3) := by decide +kernel
theorem d_LW_law_1308 : decode m_LW_law.2.1 1308 = .ok (.istore 5, 2) := by decide +kernel
theorem d_LW_law_1310 : decode m_LW_law.2.1 1310 = .ok (.aload_n 2, 1) := by decide +kernel
theorem d_LW_law_1311 : decode m_LW_law.2.1 1311 = .ok (.aload_n 0, 1) := by decide +kernel
theorem d_LW_law_1312 : decode m_LW_law.2.1 1312 = .ok (.iload 4, 2) := by decide +kernel
theorem d_LW_law_1314 : decode m_LW_law.2.1 1314 = .ok (.iconst 1, 1) := by decide +kernel
theorem d_LW_law_1315 : decode m_LW_law.2.1 1315 = .ok (.iadd, 1) := by decide +kernel
theorem d_LW_law_1316 : decode m_LW_law.2.1 1316 = .ok (.iaload, 1) := by decide +kernel
theorem d_LW_law_1317 : decode m_LW_law.2.1 1317 = .ok (.aload_n 0, 1) := by decide +kernel
theorem d_LW_law_1318 : decode m_LW_law.2.1 1318 = .ok (.iload 4, 2) := by decide +kernel
theorem d_LW_law_1320 : decode m_LW_law.2.1 1320 = .ok (.iconst 2, 1) := by decide +kernel
theorem d_LW_law_1321 : decode m_LW_law.2.1 1321 = .ok (.iadd, 1) := by decide +kernel
theorem d_LW_law_1322 : decode m_LW_law.2.1 1322 = .ok (.iaload, 1) := by decide +kernel
theorem d_LW_law_1323 : decode m_LW_law.2.1 1323 = .ok (.aload_n 0, 1) := by decide +kernel
theorem d_LW_law_1324 : decode m_LW_law.2.1 1324 = .ok (.iload 4, 2) := by decide +kernel
theorem d_LW_law_1326 : decode m_LW_law.2.1 1326 = .ok (.iconst 3, 1) := by decide +kernel
theorem d_LW_law_1327 : decode m_LW_law.2.1 1327 = .ok (.iadd, 1) := by decide +kernel
theorem d_LW_law_1328 : decode m_LW_law.2.1 1328 = .ok (.iaload, 1) := by decide +kernel
theorem d_LW_law_1329 : decode m_LW_law.2.1 1329 = .ok (.invokevirtual 144, 3) := by decide +kernel
theorem d_LW_law_1332 : decode m_LW_law.2.1 1332 = .ok (.istore 6, 2) := by decide +kernel
theorem d_LW_law_1334 : decode m_LW_law.2.1 1334 = .ok (.aload_n 2, 1) := by decide +kernel
theorem d_LW_law_1335 : decode m_LW_law.2.1 1335 = .ok (.invokevirtual 92, 3) := by decide +kernel
theorem d_LW_law_1338 : decode m_LW_law.2.1 1338 = .ok (.iload 5, 2) := by decide +kernel
theorem d_LW_law_1340 : decode m_LW_law.2.1 1340 = .ok (.if_icmp .eq 5, 3) := by decide +kernel
theorem d_LW_law_1343 : decode m_LW_law.2.1 1343 = .ok (.iconst 0, 1) := by decide +kernel
theorem d_LW_law_1344 : decode m_LW_law.2.1 1344 = .ok (.ireturn, 1) := by decide +kernel
theorem d_LW_law_1345 : decode m_LW_law.2.1 1345 = .ok (.iload 5, 2) := by decide +kernel
theorem d_LW_law_1347 : decode m_LW_law.2.1 1347 = .ok (.ifCond .ne 15, 3) := by decide +kernel
theorem d_LW_law_1350 : decode m_LW_law.2.1 1350 = .ok (.aload_n 3, 1) := by decide +kernel
theorem d_LW_law_1351 : decode m_LW_law.2.1 1351 = .ok (.iconst 0, 1) := by decide +kernel
theorem d_LW_law_1352 : decode m_LW_law.2.1 1352 = .ok (.laload, 1) := by decide +kernel
theorem d_LW_law_1353 : decode m_LW_law.2.1 1353 = .ok (.iload 6, 2) := by decide +kernel
theorem d_LW_law_1355 : decode m_LW_law.2.1 1355 = .ok (.i2l, 1) := by decide +kernel
theorem d_LW_law_1356 : decode m_LW_law.2.1 1356 = .ok (.lcmp, 1) := by decide +kernel
theorem d_LW_law_1357 : decode m_LW_law.2.1 1357 = .ok (.ifCond .eq 5, 3) := by decide +kernel
theorem d_LW_law_1360 : decode m_LW_law.2.1 1360 = .ok (.iconst 0, 1) := by decide +kernel
theorem d_LW_law_1361 : decode m_LW_law.2.1 1361 = .ok (.ireturn, 1) := by decide +kernel
theorem d_LW_law_1362 : decode m_LW_law.2.1 1362 = .ok (.goto 303, 3) := by decide +kernel
theorem d_LW_law_1365 : decode m_LW_law.2.1 1365 = .ok (.aload_n 1, 1) := by decide +kernel
theorem d_LW_law_1366 : decode m_LW_law.2.1 1366 = .ok (.aload_n 0, 1) := by decide +kernel
theorem d_LW_law_1367 : decode m_LW_law.2.1 1367 = .ok (.iload 4, 2) := by decide +kernel
theorem d_LW_law_1369 : decode m_LW_law.2.1 1369 = .ok (.iconst 1, 1) := by decide +kernel
theorem d_LW_law_1370 : decode m_LW_law.2.1 1370 = .ok (.iadd, 1) := by decide +kernel
theorem d_LW_law_1371 : decode m_LW_law.2.1 1371 = .ok (.iaload, 1) := by decide +kernel
theorem d_LW_law_1372 : decode m_LW_law.2.1 1372 = .ok (.aload_n 0, 1) := by decide +kernel
theorem d_LW_law_1373 : decode m_LW_law.2.1 1373 = .ok (.iload 4, 2) := by decide +kernel
theorem d_LW_law_1375 : decode m_LW_law.2.1 1375 = .ok (.iconst 2, 1) := by decide +kernel
theorem d_LW_law_1376 : decode m_LW_law.2.1 1376 = .ok (.iadd, 1) := by decide +kernel
theorem d_LW_law_1377 : decode m_LW_law.2.1 1377 = .ok (.iaload, 1) := by decide +kernel
theorem d_LW_law_1378 : decode m_LW_law.2.1 1378 = .ok (.aload_n 3, 1) := by decide +kernel
theorem d_LW_law_1379 : decode m_LW_law.2.1 1379 = .ok (.invokestatic 145, 3) := by decide +kernel
theorem d_LW_law_1382 : decode m_LW_law.2.1 1382 = .ok (.istore 5, 2) := by decide +kernel
theorem d_LW_law_1384 : decode m_LW_law.2.1 1384 = .ok (.aload_n 2, 1) := by decide +kernel
theorem d_LW_law_1385 : decode m_LW_law.2.1 1385 = .ok (.aload_n 0, 1) := by decide +kernel
theorem d_LW_law_1386 : decode m_LW_law.2.1 1386 = .ok (.iload 4, 2) := by decide +kernel
theorem d_LW_law_1388 : decode m_LW_law.2.1 1388 = .ok (.iconst 1, 1) := by decide +kernel
theorem d_LW_law_1389 : decode m_LW_law.2.1 1389 = .ok (.iadd, 1) := by decide +kernel
theorem d_LW_law_1390 : decode m_LW_law.2.1 1390 = .ok (.iaload, 1) := by decide +kernel
theorem d_LW_law_1391 : decode m_LW_law.2.1 1391 = .ok (.aload_n 0, 1) := by decide +kernel
theorem d_LW_law_1392 : decode m_LW_law.2.1 1392 = .ok (.iload 4, 2) := by decide +kernel
theorem d_LW_law_1394 : decode m_LW_law.2.1 1394 = .ok (.iconst 2, 1) := by decide +kernel
theorem d_LW_law_1395 : decode m_LW_law.2.1 1395 = .ok (.iadd, 1) := by decide +kernel
theorem d_LW_law_1396 : decode m_LW_law.2.1 1396 = .ok (.iaload, 1) := by decide +kernel
theorem d_LW_law_1397 : decode m_LW_law.2.1 1397 = .ok (.invokevirtual 147, 3) := by decide +kernel
theorem d_LW_law_1400 : decode m_LW_law.2.1 1400 = .ok (.istore 6, 2) := by decide +kernel
theorem d_LW_law_1402 : decode m_LW_law.2.1 1402 = .ok (.aload_n 2, 1) := by decide +kernel
theorem d_LW_law_1403 : decode m_LW_law.2.1 1403 = .ok (.invokevirtual 92, 3) := by decide +kernel
theorem d_LW_law_1406 : decode m_LW_law.2.1 1406 = .ok (.iload 5, 2) := by decide +kernel
theorem d_LW_law_1408 : decode m_LW_law.2.1 1408 = .ok (.if_icmp .eq 5, 3) := by decide +kernel
theorem d_LW_law_1411 : decode m_LW_law.2.1 1411 = .ok (.iconst 0, 1) := by decide +kernel
theorem d_LW_law_1412 : decode m_LW_law.2.1 1412 = .ok (.ireturn, 1) := by decide +kernel
theorem d_LW_law_1413 : decode m_LW_law.2.1 1413 = .ok (.iload 5, 2) := by decide +kernel
theorem d_LW_law_1415 : decode m_LW_law.2.1 1415 = .ok (.ifCond .ne 22, 3) := by decide +kernel
theorem d_LW_law_1418 : decode m_LW_law.2.1 1418 = .ok (.aload_n 3, 1) := by decide +kernel
theorem d_LW_law_1419 : decode m_LW_law.2.1 1419 = .ok (.iconst 0, 1) := by decide +kernel
theorem d_LW_law_1420 : decode m_LW_law.2.1 1420 = .ok (.laload, 1) := by decide +kernel
theorem d_LW_law_1421 : decode m_LW_law.2.1 1421 = .ok (.iload 6, 2) := by decide +kernel
theorem d_LW_law_1423 : decode m_LW_law.2.1 1423 = .ok (.ifCond .eq 7, 3) := by decide +kernel
theorem d_LW_law_1426 : decode m_LW_law.2.1 1426 = .ok (.lconst 1, 1) := by decide +kernel
theorem d_LW_law_1427 : decode m_LW_law.2.1 1427 = .ok (.goto 4, 3) := by decide +kernel
theorem d_LW_law_1430 : decode m_LW_law.2.1 1430 = .ok (.lconst 0, 1) := by decide +kernel
theorem d_LW_law_1431 : decode m_LW_law.2.1 1431 = .ok (.lcmp, 1) := by decide +kernel
theorem d_LW_law_1432 : decode m_LW_law.2.1 1432 = .ok (.ifCond .eq 5, 3) := by decide +kernel
theorem d_LW_law_1435 : decode m_LW_law.2.1 1435 = .ok (.iconst 0, 1) := by decide +kernel
theorem d_LW_law_1436 : decode m_LW_law.2.1 1436 = .ok (.ireturn, 1) := by decide +kernel
theorem d_LW_law_1437 : decode m_LW_law.2.1 1437 = .ok (.goto 228, 3) := by decide +kernel
theorem d_LW_law_1440 : decode m_LW_law.2.1 1440 = .ok (.aload_n 1, 1) := by decide +kernel
theorem d_LW_law_1441 : decode m_LW_law.2.1 1441 = .ok (.invokevirtual 148, 3) := by decide +kernel
theorem d_LW_law_1444 : decode m_LW_law.2.1 1444 = .ok (.aload_n 2, 1) := by decide +kernel
theorem d_LW_law_1445 : decode m_LW_law.2.1 1445 = .ok (.invokevirtual 151, 3) := by decide +kernel
theorem d_LW_law_1448 : decode m_LW_law.2.1 1448 = .ok (.if_icmp .eq 217, 3) := by decide +kernel
theorem d_LW_law_1451 : decode m_LW_law.2.1 1451 = .ok (.iconst 0, 1) := by decide +kernel
theorem d_LW_law_1452 : decode m_LW_law.2.1 1452 = .ok (.ireturn, 1) := by decide +kernel
theorem d_LW_law_1453 : decode m_LW_law.2.1 1453 = .ok (.aload_n 1, 1) := by decide +kernel
theorem d_LW_law_1454 : decode m_LW_law.2.1 1454 = .ok (.invokevirtual 152, 3) := by decide +kernel
theorem d_LW_law_1457 : decode m_LW_law.2.1 1457 = .ok (.aload_n 2, 1) := by decide +kernel
theorem d_LW_law_1458 : decode m_LW_law.2.1 1458 = .ok (.invokevirtual 155, 3) := by decide +kernel
theorem d_LW_law_1461 : decode m_LW_law.2.1 1461 = .ok (.if_icmp .eq 204, 3) := by decide +kernel
theorem d_LW_law_1464 : decode m_LW_law.2.1 1464 = .ok (.iconst 0, 1) := by decide +kernel
theorem d_LW_law_1465 : decode m_LW_law.2.1 1465 = .ok (.ireturn, 1) := by decide +kernel
theorem d_LW_law_1466 : decode m_LW_law.2.1 1466 = .ok (.aload_n 1, 1) := by decide +kernel
theorem d_LW_law_1467 : decode m_LW_law.2.1 1467 = .ok (.aload_n 0, 1) := by decide +kernel
theorem d_LW_law_1468 : decode m_LW_law.2.1 1468 = .ok (.iload 4, 2) := by decide +kernel
theorem d_LW_law_1470 : decode m_LW_law.2.1 1470 = .ok (.iconst 1, 1) := by decide +kernel
theorem d_LW_law_1471 : decode m_LW_law.2.1 1471 = .ok (.iadd, 1) := by decide +kernel
theorem d_LW_law_1472 : decode m_LW_law.2.1 1472 = .ok (.iaload, 1) := by decide +kernel
theorem d_LW_law_1473 : decode m_LW_law.2.1 1473 = .ok (.aload_n 0, 1) := by decide +kernel
theorem d_LW_law_1474 : decode m_LW_law.2.1 1474 = .ok (.iload 4, 2) := by decide +kernel
theorem d_LW_law_1476 : decode m_LW_law.2.1 1476 = .ok (.iconst 2, 1) := by decide +kernel
theorem d_LW_law_1477 : decode m_LW_law.2.1 1477 = .ok (.iadd, 1) := by decide +kernel
theorem d_LW_law_1478 : decode m_LW_law.2.1 1478 = .ok (.iaload, 1) := by decide +kernel
theorem d_LW_law_1479 : decode m_LW_law.2.1 1479 = .ok (.aload_n 3, 1) := by decide +kernel
theorem d_LW_law_1480 : decode m_LW_law.2.1 1480 = .ok (.invokestatic 156, 3) := by decide +kernel
theorem d_LW_law_1483 : decode m_LW_law.2.1 1483 = .ok (.istore 5, 2) := by decide +kernel
theorem d_LW_law_1485 : decode m_LW_law.2.1 1485 = .ok (.aload_n 2, 1) := by decide +kernel
theorem d_LW_law_1486 : decode m_LW_law.2.1 1486 = .ok (.aload_n 0, 1) := by decide +kernel
theorem d_LW_law_1487 : decode m_LW_law.2.1 1487 = .ok (.iload 4, 2) := by decide +kernel
theorem d_LW_law_1489 : decode m_LW_law.2.1 1489 = .ok (.iconst 1, 1) := by decide +kernel
theorem d_LW_law_1490 : decode m_LW_law.2.1 1490 = .ok (.iadd, 1) := by decide +kernel
theorem d_LW_law_1491 : decode m_LW_law.2.1 1491 = .ok (.iaload, 1) := by decide +kernel
theorem d_LW_law_1492 : decode m_LW_law.2.1 1492 = .ok (.aload_n 0, 1) := by decide +kernel
theorem d_LW_law_1493 : decode m_LW_law.2.1 1493 = .ok (.iload 4, 2) := by decide +kernel
theorem d_LW_law_1495 : decode m_LW_law.2.1 1495 = .ok (.iconst 2, 1) := by decide +kernel
theorem d_LW_law_1496 : decode m_LW_law.2.1 1496 = .ok (.iadd, 1) := by decide +kernel
theorem d_LW_law_1497 : decode m_LW_law.2.1 1497 = .ok (.iaload, 1) := by decide +kernel
theorem d_LW_law_1498 : decode m_LW_law.2.1 1498 = .ok (.invokevirtual 158, 3) := by decide +kernel
theorem d_LW_law_1501 : decode m_LW_law.2.1 1501 = .ok (.istore 6, 2) := by decide +kernel
theorem d_LW_law_1503 : decode m_LW_law.2.1 1503 = .ok (.aload_n 2, 1) := by decide +kernel
theorem d_LW_law_1504 : decode m_LW_law.2.1 1504 = .ok (.invokevirtual 92, 3) := by decide +kernel
theorem d_LW_law_1507 : decode m_LW_law.2.1 1507 = .ok (.iload 5, 2) := by decide +kernel
theorem d_LW_law_1509 : decode m_LW_law.2.1 1509 = .ok (.if_icmp .eq 5, 3) := by decide +kernel
theorem d_LW_law_1512 : decode m_LW_law.2.1 1512 = .ok (.iconst 0, 1) := by decide +kernel
theorem d_LW_law_1513 : decode m_LW_law.2.1 1513 = .ok (.ireturn, 1) := by decide +kernel
theorem d_LW_law_1514 : decode m_LW_law.2.1 1514 = .ok (.iload 5, 2) := by decide +kernel
theorem d_LW_law_1516 : decode m_LW_law.2.1 1516 = .ok (.ifCond .ne 22, 3) := by decide +kernel
theorem d_LW_law_1519 : decode m_LW_law.2.1 1519 = .ok (.aload_n 3, 1) := by decide +kernel
theorem d_LW_law_1520 : decode m_LW_law.2.1 1520 = .ok (.iconst 0, 1) := by decide +kernel
theorem d_LW_law_1521 : decode m_LW_law.2.1 1521 = .ok (.laload, 1) := by decide +kernel
theorem d_LW_law_1522 : decode m_LW_law.2.1 1522 = .ok (.iload 6, 2) := by decide +kernel
theorem d_LW_law_1524 : decode m_LW_law.2.1 1524 = .ok (.ifCond .eq 7, 3) := by decide +kernel
theorem d_LW_law_1527 : decode m_LW_law.2.1 1527 = .ok (.lconst 1, 1) := by decide +kernel
theorem d_LW_law_1528 : decode m_LW_law.2.1 1528 = .ok (.goto 4, 3) := by decide +kernel
theorem d_LW_law_1531 : decode m_LW_law.2.1 1531 = .ok (.lconst 0, 1) := by decide +kernel
theorem d_LW_law_1532 : decode m_LW_law.2.1 1532 = .ok (.lcmp, 1) := by decide +kernel
theorem d_LW_law_1533 : decode m_LW_law.2.1 1533 = .ok (.ifCond .eq 5, 3) := by decide +kernel
theorem d_LW_law_1536 : decode m_LW_law.2.1 1536 = .ok (.iconst 0, 1) := by decide +kernel
theorem d_LW_law_1537 : decode m_LW_law.2.1 1537 = .ok (.ireturn, 1) := by decide +kernel
theorem d_LW_law_1538 : decode m_LW_law.2.1 1538 = .ok (.goto 127, 3) := by decide +kernel
theorem d_LW_law_1541 : decode m_LW_law.2.1 1541 = .ok (.aload_n 1, 1) := by decide +kernel
theorem d_LW_law_1542 : decode m_LW_law.2.1 1542 = .ok (.aload_n 0, 1) := by decide +kernel
theorem d_LW_law_1543 : decode m_LW_law.2.1 1543 = .ok (.iload 4, 2) := by decide +kernel
theorem d_LW_law_1545 : decode m_LW_law.2.1 1545 = .ok (.iconst 1, 1) := by decide +kernel
theorem d_LW_law_1546 : decode m_LW_law.2.1 1546 = .ok (.iadd, 1) := by decide +kernel
theorem d_LW_law_1547 : decode m_LW_law.2.1 1547 = .ok (.iaload, 1) := by decide +kernel
theorem d_LW_law_1548 : decode m_LW_law.2.1 1548 = .ok (.aload_n 0, 1) := by decide +kernel
theorem d_LW_law_1549 : decode m_LW_law.2.1 1549 = .ok (.iload 4, 2) := by decide +kernel
theorem d_LW_law_1551 : decode m_LW_law.2.1 1551 = .ok (.iconst 2, 1) := by decide +kernel
theorem d_LW_law_1552 : decode m_LW_law.2.1 1552 = .ok (.iadd, 1) := by decide +kernel
theorem d_LW_law_1553 : decode m_LW_law.2.1 1553 = .ok (.iaload, 1) := by decide +kernel
theorem d_LW_law_1554 : decode m_LW_law.2.1 1554 = .ok (.aload_n 3, 1) := by decide +kernel
theorem d_LW_law_1555 : decode m_LW_law.2.1 1555 = .ok (.invokestatic 159, 3) := by decide +kernel
theorem d_LW_law_1558 : decode m_LW_law.2.1 1558 = .ok (.istore 5, 2) := by decide +kernel
theorem d_LW_law_1560 : decode m_LW_law.2.1 1560 = .ok (.aload_n 2, 1) := by decide +kernel
theorem d_LW_law_1561 : decode m_LW_law.2.1 1561 = .ok (.aload_n 0, 1) := by decide +kernel
theorem d_LW_law_1562 : decode m_LW_law.2.1 1562 = .ok (.iload 4, 2) := by decide +kernel
theorem d_LW_law_1564 : decode m_LW_law.2.1 1564 = .ok (.iconst 1, 1) := by decide +kernel
theorem d_LW_law_1565 : decode m_LW_law.2.1 1565 = .ok (.iadd, 1) := by decide +kernel
theorem d_LW_law_1566 : decode m_LW_law.2.1 1566 = .ok (.iaload, 1) := by decide +kernel
theorem d_LW_law_1567 : decode m_LW_law.2.1 1567 = .ok (.aload_n 0, 1) := by decide +kernel
theorem d_LW_law_1568 : decode m_LW_law.2.1 1568 = .ok (.iload 4, 2) := by decide +kernel
theorem d_LW_law_1570 : decode m_LW_law.2.1 1570 = .ok (.iconst 2, 1) := by decide +kernel
theorem d_LW_law_1571 : decode m_LW_law.2.1 1571 = .ok (.iadd, 1) := by decide +kernel
theorem d_LW_law_1572 : decode m_LW_law.2.1 1572 = .ok (.iaload, 1) := by decide +kernel
theorem d_LW_law_1573 : decode m_LW_law.2.1 1573 = .ok (.invokevirtual 161, 3) := by decide +kernel
theorem d_LW_law_1576 : decode m_LW_law.2.1 1576 = .ok (.istore 6, 2) := by decide +kernel
theorem d_LW_law_1578 : decode m_LW_law.2.1 1578 = .ok (.aload_n 2, 1) := by decide +kernel
theorem d_LW_law_1579 : decode m_LW_law.2.1 1579 = .ok (.invokevirtual 92, 3) := by decide +kernel
theorem d_LW_law_1582 : decode m_LW_law.2.1 1582 = .ok (.iload 5, 2) := by decide +kernel
theorem d_LW_law_1584 : decode m_LW_law.2.1 1584 = .ok (.if_icmp .eq 5, 3) := by decide +kernel
theorem d_LW_law_1587 : decode m_LW_law.2.1 1587 = .ok (.iconst 0, 1) := by decide +kernel
theorem d_LW_law_1588 : decode m_LW_law.2.1 1588 = .ok (.ireturn, 1) := by decide +kernel
theorem d_LW_law_1589 : decode m_LW_law.2.1 1589 = .ok (.iload 5, 2) := by decide +kernel
theorem d_LW_law_1591 : decode m_LW_law.2.1 1591 = .ok (.ifCond .ne 15, 3) := by decide +kernel
theorem d_LW_law_1594 : decode m_LW_law.2.1 1594 = .ok (.aload_n 3, 1) := by decide +kernel
theorem d_LW_law_1595 : decode m_LW_law.2.1 1595 = .ok (.iconst 0, 1) := by decide +kernel
theorem d_LW_law_1596 : decode m_LW_law.2.1 1596 = .ok (.laload, 1) := by decide +kernel
theorem d_LW_law_1597 : decode m_LW_law.2.1 1597 = .ok (.iload 6, 2) := by decide +kernel
theorem d_LW_law_1599 : decode m_LW_law.2.1 1599 = .ok (.i2l, 1) := by decide +kernel
theorem d_LW_law_1600 : decode m_LW_law.2.1 1600 = .ok (.lcmp, 1) := by decide +kernel
theorem d_LW_law_1601 : decode m_LW_law.2.1 1601 = .ok (.ifCond .eq 5, 3) := by decide +kernel
theorem d_LW_law_1604 : decode m_LW_law.2.1 1604 = .ok (.iconst 0, 1) := by decide +kernel
theorem d_LW_law_1605 : decode m_LW_law.2.1 1605 = .ok (.ireturn, 1) := by decide +kernel
theorem d_LW_law_1606 : decode m_LW_law.2.1 1606 = .ok (.goto 59, 3) := by decide +kernel
theorem d_LW_law_1609 : decode m_LW_law.2.1 1609 = .ok (.aload_n 1, 1) := by decide +kernel
theorem d_LW_law_1610 : decode m_LW_law.2.1 1610 = .ok (.aload_n 0, 1) := by decide +kernel
theorem d_LW_law_1611 : decode m_LW_law.2.1 1611 = .ok (.iload 4, 2) := by decide +kernel
theorem d_LW_law_1613 : decode m_LW_law.2.1 1613 = .ok (.iconst 1, 1) := by decide +kernel
theorem d_LW_law_1614 : decode m_LW_law.2.1 1614 = .ok (.iadd, 1) := by decide +kernel
theorem d_LW_law_1615 : decode m_LW_law.2.1 1615 = .ok (.iaload, 1) := by decide +kernel
theorem d_LW_law_1616 : decode m_LW_law.2.1 1616 = .ok (.aload_n 3, 1) := by decide +kernel
theorem d_LW_law_1617 : decode m_LW_law.2.1 1617 = .ok (.invokestatic 162, 3) := by decide +kernel
theorem d_LW_law_1620 : decode m_LW_law.2.1 1620 = .ok (.istore 5, 2) := by decide +kernel
theorem d_LW_law_1622 : decode m_LW_law.2.1 1622 = .ok (.aload_n 2, 1) := by decide +kernel
theorem d_LW_law_1623 : decode m_LW_law.2.1 1623 = .ok (.aload_n 0, 1) := by decide +kernel
theorem d_LW_law_1624 : decode m_LW_law.2.1 1624 = .ok (.iload 4, 2) := by decide +kernel
theorem d_LW_law_1626 : decode m_LW_law.2.1 1626 = .ok (.iconst 1, 1) := by decide +kernel
theorem d_LW_law_1627 : decode m_LW_law.2.1 1627 = .ok (.iadd, 1) := by decide +kernel
theorem d_LW_law_1628 : decode m_LW_law.2.1 1628 = .ok (.iaload, 1) := by decide +kernel
theorem d_LW_law_1629 : decode m_LW_law.2.1 1629 = .ok (.invokevirtual 164, 3) := by decide +kernel
theorem d_LW_law_1632 : decode m_LW_law.2.1 1632 = .ok (.istore 6, 2) := by decide +kernel
theorem d_LW_law_1634 : decode m_LW_law.2.1 1634 = .ok (.aload_n 2, 1) := by decide +kernel
theorem d_LW_law_1635 : decode m_LW_law.2.1 1635 = .ok (.invokevirtual 92, 3) := by decide +kernel
theorem d_LW_law_1638 : decode m_LW_law.2.1 1638 = .ok (.iload 5, 2) := by decide +kernel
theorem d_LW_law_1640 : decode m_LW_law.2.1 1640 = .ok (.if_icmp .eq 5, 3) := by decide +kernel
theorem d_LW_law_1643 : decode m_LW_law.2.1 1643 = .ok (.iconst 0, 1) := by decide +kernel
theorem d_LW_law_1644 : decode m_LW_law.2.1 1644 = .ok (.ireturn, 1) := by decide +kernel
theorem d_LW_law_1645 : decode m_LW_law.2.1 1645 = .ok (.iload 5, 2) := by decide +kernel
theorem d_LW_law_1647 : decode m_LW_law.2.1 1647 = .ok (.ifCond .ne 15, 3) := by decide +kernel
theorem d_LW_law_1650 : decode m_LW_law.2.1 1650 = .ok (.aload_n 3, 1) := by decide +kernel
theorem d_LW_law_1651 : decode m_LW_law.2.1 1651 = .ok (.iconst 0, 1) := by decide +kernel
theorem d_LW_law_1652 : decode m_LW_law.2.1 1652 = .ok (.laload, 1) := by decide +kernel
theorem d_LW_law_1653 : decode m_LW_law.2.1 1653 = .ok (.iload 6, 2) := by decide +kernel
theorem d_LW_law_1655 : decode m_LW_law.2.1 1655 = .ok (.i2l, 1) := by decide +kernel
theorem d_LW_law_1656 : decode m_LW_law.2.1 1656 = .ok (.lcmp, 1) := by decide +kernel
theorem d_LW_law_1657 : decode m_LW_law.2.1 1657 = .ok (.ifCond .eq 5, 3) := by decide +kernel
theorem d_LW_law_1660 : decode m_LW_law.2.1 1660 = .ok (.iconst 0, 1) := by decide +kernel
theorem d_LW_law_1661 : decode m_LW_law.2.1 1661 = .ok (.ireturn, 1) := by decide +kernel
theorem d_LW_law_1662 : decode m_LW_law.2.1 1662 = .ok (.goto 3, 3) := by decide +kernel
theorem d_LW_law_1665 : decode m_LW_law.2.1 1665 = .ok (.iinc 4 8, 3) := by decide +kernel
theorem d_LW_law_1668 : decode m_LW_law.2.1 1668 = .ok (.goto (-1645), 3) := by decide +kernel
theorem d_LW_law_1671 : decode m_LW_law.2.1 1671 = .ok (.iconst 1, 1) := by decide +kernel
theorem d_LW_law_1672 : decode m_LW_law.2.1 1672 = .ok (.ireturn, 1) := by decide +kernel
theorem lk_LW_82 : fw_lk "FolderRightsLaw" 82 ⟨"FolderRights", "<init>", "()V"⟩ := Or.inl (fw_t 24 (by decide +kernel))
theorem np_FR_init : fw_np ⟨"FolderRights", "<init>", "()V"⟩ 0 := by unfold fw_np; decide +kernel
theorem im_FR_init : Cond.instanceMethod ⟨"FolderRights", "<init>", "()V"⟩ ∈ lw_tbl := (fw_t 25 (by decide +kernel))
theorem lk_LW_85 : fw_lk "FolderRightsLaw" 85 ⟨"FolderRightsModel", "<init>", "()V"⟩ := Or.inl (fw_t 631 (by decide +kernel))
theorem np_MO_init : fw_np ⟨"FolderRightsModel", "<init>", "()V"⟩ 0 := by unfold fw_np; decide +kernel
theorem im_MO_init : Cond.instanceMethod ⟨"FolderRightsModel", "<init>", "()V"⟩ ∈ lw_tbl := (fw_t 632 (by decide +kernel))
theorem lk_LW_86 : fw_lk "FolderRightsLaw" 86 ⟨"FolderRightsLaw", "user", "(LFolderRights;[J)I"⟩ := Or.inl (fw_t 137 (by decide +kernel))
theorem np_LW_user : fw_np ⟨"FolderRightsLaw", "user", "(LFolderRights;[J)I"⟩ 2 := by unfold fw_np; decide +kernel
theorem sc_LW_user : Cond.static ⟨"FolderRightsLaw", "user", "(LFolderRights;[J)I"⟩ ∈ lw_tbl := (fw_t 138 (by decide +kernel))
theorem vc_LW_91 : fw_vc "FolderRightsLaw" 91 5 m_MO_user 0 := ⟨k_MO_user, Or.inl (fw_t 708 (by decide +kernel)), (fw_t 709 (by decide +kernel)), ⟨_, _, _, rfl, (fw_t 710 (by decide +kernel))⟩, by unfold fw_np; decide +kernel⟩
theorem vc_LW_92 : fw_vc "FolderRightsLaw" 92 5 m_MO_thrown 0 := ⟨k_MO_thrown, Or.inl (fw_t 704 (by decide +kernel)), (fw_t 705 (by decide +kernel)), ⟨_, _, _, rfl, (fw_t 706 (by decide +kernel))⟩, by unfold fw_np; decide +kernel⟩
theorem lk_LW_95 : fw_lk "FolderRightsLaw" 95 ⟨"FolderRightsLaw", "group", "(LFolderRights;[J)I"⟩ := Or.inl (fw_t 213 (by decide +kernel))
theorem np_LW_group : fw_np ⟨"FolderRightsLaw", "group", "(LFolderRights;[J)I"⟩ 2 := by unfold fw_np; decide +kernel
theorem sc_LW_group : Cond.static ⟨"FolderRightsLaw", "group", "(LFolderRights;[J)I"⟩ ∈ lw_tbl := (fw_t 214 (by decide +kernel))
theorem vc_LW_97 : fw_vc "FolderRightsLaw" 97 5 m_MO_group 0 := ⟨k_MO_group, Or.inl (fw_t 716 (by decide +kernel)), (fw_t 717 (by decide +kernel)), ⟨_, _, _, rfl, (fw_t 718 (by decide +kernel))⟩, by unfold fw_np; decide +kernel⟩
theorem lk_LW_98 : fw_lk "FolderRightsLaw" 98 ⟨"FolderRightsLaw", "join", "(LFolderRights;IIZ[J)I"⟩ := Or.inl (fw_t 221 (by decide +kernel))
theorem np_LW_join : fw_np ⟨"FolderRightsLaw", "join", "(LFolderRights;IIZ[J)I"⟩ 5 := by unfold fw_np; decide +kernel
theorem sc_LW_join : Cond.static ⟨"FolderRightsLaw", "join", "(LFolderRights;IIZ[J)I"⟩ ∈ lw_tbl := (fw_t 222 (by decide +kernel))
theorem vc_LW_101 : fw_vc "FolderRightsLaw" 101 5 m_MO_join 3 := ⟨k_MO_join, Or.inl (fw_t 720 (by decide +kernel)), (fw_t 721 (by decide +kernel)), ⟨_, _, _, rfl, (fw_t 722 (by decide +kernel))⟩, by unfold fw_np; decide +kernel⟩
theorem lk_LW_102 : fw_lk "FolderRightsLaw" 102 ⟨"FolderRightsLaw", "leave", "(LFolderRights;IIZ[J)I"⟩ := Or.inl (fw_t 282 (by decide +kernel))
theorem np_LW_leave : fw_np ⟨"FolderRightsLaw", "leave", "(LFolderRights;IIZ[J)I"⟩ 5 := by unfold fw_np; decide +kernel
theorem sc_LW_leave : Cond.static ⟨"FolderRightsLaw", "leave", "(LFolderRights;IIZ[J)I"⟩ ∈ lw_tbl := (fw_t 283 (by decide +kernel))
theorem vc_LW_104 : fw_vc "FolderRightsLaw" 104 5 m_MO_leave 3 := ⟨k_MO_leave, Or.inl (fw_t 744 (by decide +kernel)), (fw_t 745 (by decide +kernel)), ⟨_, _, _, rfl, (fw_t 746 (by decide +kernel))⟩, by unfold fw_np; decide +kernel⟩
theorem lk_LW_105 : fw_lk "FolderRightsLaw" 105 ⟨"FolderRightsLaw", "node", "(LFolderRights;IZI[J)I"⟩ := Or.inl (fw_t 289 (by decide +kernel))
theorem np_LW_node : fw_np ⟨"FolderRightsLaw", "node", "(LFolderRights;IZI[J)I"⟩ 5 := by unfold fw_np; decide +kernel
theorem sc_LW_node : Cond.static ⟨"FolderRightsLaw", "node", "(LFolderRights;IZI[J)I"⟩ ∈ lw_tbl := (fw_t 290 (by decide +kernel))
theorem vc_LW_108 : fw_vc "FolderRightsLaw" 108 5 m_MO_node 3 := ⟨k_MO_node, Or.inl (fw_t 748 (by decide +kernel)), (fw_t 749 (by decide +kernel)), ⟨_, _, _, rfl, (fw_t 750 (by decide +kernel))⟩, by unfold fw_np; decide +kernel⟩
theorem lk_LW_109 : fw_lk "FolderRightsLaw" 109 ⟨"FolderRightsLaw", "move", "(LFolderRights;II[J)I"⟩ := Or.inl (fw_t 331 (by decide +kernel))
theorem np_LW_move : fw_np ⟨"FolderRightsLaw", "move", "(LFolderRights;II[J)I"⟩ 4 := by unfold fw_np; decide +kernel
theorem sc_LW_move : Cond.static ⟨"FolderRightsLaw", "move", "(LFolderRights;II[J)I"⟩ ∈ lw_tbl := (fw_t 332 (by decide +kernel))
theorem vc_LW_112 : fw_vc "FolderRightsLaw" 112 5 m_MO_move 2 := ⟨k_MO_move, Or.inl (fw_t 760 (by decide +kernel)), (fw_t 761 (by decide +kernel)), ⟨_, _, _, rfl, (fw_t 762 (by decide +kernel))⟩, by unfold fw_np; decide +kernel⟩
theorem lk_LW_113 : fw_lk "FolderRightsLaw" 113 ⟨"FolderRightsLaw", "remove", "(LFolderRights;I[J)I"⟩ := Or.inl (fw_t 359 (by decide +kernel))
theorem np_LW_remove : fw_np ⟨"FolderRightsLaw", "remove", "(LFolderRights;I[J)I"⟩ 3 := by unfold fw_np; decide +kernel
theorem sc_LW_remove : Cond.static ⟨"FolderRightsLaw", "remove", "(LFolderRights;I[J)I"⟩ ∈ lw_tbl := (fw_t 360 (by decide +kernel))
theorem vc_LW_116 : fw_vc "FolderRightsLaw" 116 5 m_MO_remove 1 := ⟨k_MO_remove, Or.inl (fw_t 776 (by decide +kernel)), (fw_t 777 (by decide +kernel)), ⟨_, _, _, rfl, (fw_t 778 (by decide +kernel))⟩, by unfold fw_np; decide +kernel⟩
theorem lk_LW_117 : fw_lk "FolderRightsLaw" 117 ⟨"FolderRightsLaw", "entry", "(LFolderRights;IIZIZII[J)I"⟩ := Or.inl (fw_t 375 (by decide +kernel))
theorem np_LW_entry : fw_np ⟨"FolderRightsLaw", "entry", "(LFolderRights;IIZIZII[J)I"⟩ 9 := by unfold fw_np; decide +kernel
theorem sc_LW_entry : Cond.static ⟨"FolderRightsLaw", "entry", "(LFolderRights;IIZIZII[J)I"⟩ ∈ lw_tbl := (fw_t 376 (by decide +kernel))
theorem vc_LW_120 : fw_vc "FolderRightsLaw" 120 5 m_MO_entry 7 := ⟨k_MO_entry, Or.inl (fw_t 784 (by decide +kernel)), (fw_t 785 (by decide +kernel)), ⟨_, _, _, rfl, (fw_t 786 (by decide +kernel))⟩, by unfold fw_np; decide +kernel⟩
theorem lk_LW_121 : fw_lk "FolderRightsLaw" 121 ⟨"FolderRightsLaw", "dropEntry", "(LFolderRights;II[J)I"⟩ := Or.inl (fw_t 466 (by decide +kernel))
theorem np_LW_dropEntry : fw_np ⟨"FolderRightsLaw", "dropEntry", "(LFolderRights;II[J)I"⟩ 4 := by unfold fw_np; decide +kernel
theorem sc_LW_dropEntry : Cond.static ⟨"FolderRightsLaw", "dropEntry", "(LFolderRights;II[J)I"⟩ ∈ lw_tbl := (fw_t 467 (by decide +kernel))
theorem vc_LW_123 : fw_vc "FolderRightsLaw" 123 5 m_MO_dropEntry 2 := ⟨k_MO_dropEntry, Or.inl (fw_t 795 (by decide +kernel)), (fw_t 796 (by decide +kernel)), ⟨_, _, _, rfl, (fw_t 797 (by decide +kernel))⟩, by unfold fw_np; decide +kernel⟩
theorem lk_LW_124 : fw_lk "FolderRightsLaw" 124 ⟨"FolderRightsLaw", "block", "(LFolderRights;IZ[J)I"⟩ := Or.inl (fw_t 488 (by decide +kernel))
theorem np_LW_block : fw_np ⟨"FolderRightsLaw", "block", "(LFolderRights;IZ[J)I"⟩ 4 := by unfold fw_np; decide +kernel
theorem sc_LW_block : Cond.static ⟨"FolderRightsLaw", "block", "(LFolderRights;IZ[J)I"⟩ ∈ lw_tbl := (fw_t 489 (by decide +kernel))
theorem vc_LW_127 : fw_vc "FolderRightsLaw" 127 5 m_MO_block 2 := ⟨k_MO_block, Or.inl (fw_t 799 (by decide +kernel)), (fw_t 800 (by decide +kernel)), ⟨_, _, _, rfl, (fw_t 801 (by decide +kernel))⟩, by unfold fw_np; decide +kernel⟩
theorem lk_LW_128 : fw_lk "FolderRightsLaw" 128 ⟨"FolderRightsLaw", "owner", "(LFolderRights;II[J)I"⟩ := Or.inl (fw_t 495 (by decide +kernel))
theorem np_LW_owner : fw_np ⟨"FolderRightsLaw", "owner", "(LFolderRights;II[J)I"⟩ 4 := by unfold fw_np; decide +kernel
theorem sc_LW_owner : Cond.static ⟨"FolderRightsLaw", "owner", "(LFolderRights;II[J)I"⟩ ∈ lw_tbl := (fw_t 496 (by decide +kernel))
theorem vc_LW_130 : fw_vc "FolderRightsLaw" 130 5 m_MO_owner 2 := ⟨k_MO_owner, Or.inl (fw_t 803 (by decide +kernel)), (fw_t 804 (by decide +kernel)), ⟨_, _, _, rfl, (fw_t 805 (by decide +kernel))⟩, by unfold fw_np; decide +kernel⟩
theorem lk_LW_131 : fw_lk "FolderRightsLaw" 131 ⟨"FolderRightsLaw", "rights", "(LFolderRights;II[J)I"⟩ := Or.inl (fw_t 502 (by decide +kernel))
theorem np_LW_rights : fw_np ⟨"FolderRightsLaw", "rights", "(LFolderRights;II[J)I"⟩ 4 := by unfold fw_np; decide +kernel
theorem sc_LW_rights : Cond.static ⟨"FolderRightsLaw", "rights", "(LFolderRights;II[J)I"⟩ ∈ lw_tbl := (fw_t 503 (by decide +kernel))
theorem vc_LW_133 : fw_vc "FolderRightsLaw" 133 5 m_MO_rights 2 := ⟨k_MO_rights, Or.inl (fw_t 807 (by decide +kernel)), (fw_t 808 (by decide +kernel)), ⟨_, _, _, rfl, (fw_t 809 (by decide +kernel))⟩, by unfold fw_np; decide +kernel⟩
theorem lk_LW_134 : fw_lk "FolderRightsLaw" 134 ⟨"FolderRightsLaw", "explain", "(LFolderRights;IIII[J)I"⟩ := Or.inl (fw_t 544 (by decide +kernel))
theorem np_LW_explain : fw_np ⟨"FolderRightsLaw", "explain", "(LFolderRights;IIII[J)I"⟩ 6 := by unfold fw_np; decide +kernel
theorem sc_LW_explain : Cond.static ⟨"FolderRightsLaw", "explain", "(LFolderRights;IIII[J)I"⟩ ∈ lw_tbl := (fw_t 545 (by decide +kernel))
theorem vc_LW_137 : fw_vc "FolderRightsLaw" 137 5 m_MO_explain 4 := ⟨k_MO_explain, Or.inl (fw_t 835 (by decide +kernel)), (fw_t 836 (by decide +kernel)), ⟨_, _, _, rfl, (fw_t 837 (by decide +kernel))⟩, by unfold fw_np; decide +kernel⟩
theorem lk_LW_138 : fw_lk "FolderRightsLaw" 138 ⟨"FolderRightsLaw", "who", "(LFolderRights;III[J)I"⟩ := Or.inl (fw_t 563 (by decide +kernel))
theorem np_LW_who : fw_np ⟨"FolderRightsLaw", "who", "(LFolderRights;III[J)I"⟩ 5 := by unfold fw_np; decide +kernel
theorem sc_LW_who : Cond.static ⟨"FolderRightsLaw", "who", "(LFolderRights;III[J)I"⟩ ∈ lw_tbl := (fw_t 564 (by decide +kernel))
theorem vc_LW_141 : fw_vc "FolderRightsLaw" 141 5 m_MO_who 3 := ⟨k_MO_who, Or.inl (fw_t 839 (by decide +kernel)), (fw_t 840 (by decide +kernel)), ⟨_, _, _, rfl, (fw_t 841 (by decide +kernel))⟩, by unfold fw_np; decide +kernel⟩
theorem lk_LW_142 : fw_lk "FolderRightsLaw" 142 ⟨"FolderRightsLaw", "where", "(LFolderRights;III[J)I"⟩ := Or.inl (fw_t 574 (by decide +kernel))
theorem np_LW_where : fw_np ⟨"FolderRightsLaw", "where", "(LFolderRights;III[J)I"⟩ 5 := by unfold fw_np; decide +kernel
theorem sc_LW_where : Cond.static ⟨"FolderRightsLaw", "where", "(LFolderRights;III[J)I"⟩ ∈ lw_tbl := (fw_t 575 (by decide +kernel))
theorem vc_LW_144 : fw_vc "FolderRightsLaw" 144 5 m_MO_where 3 := ⟨k_MO_where, Or.inl (fw_t 843 (by decide +kernel)), (fw_t 844 (by decide +kernel)), ⟨_, _, _, rfl, (fw_t 845 (by decide +kernel))⟩, by unfold fw_np; decide +kernel⟩
theorem lk_LW_145 : fw_lk "FolderRightsLaw" 145 ⟨"FolderRightsLaw", "same", "(LFolderRights;II[J)I"⟩ := Or.inl (fw_t 581 (by decide +kernel))
theorem np_LW_same : fw_np ⟨"FolderRightsLaw", "same", "(LFolderRights;II[J)I"⟩ 4 := by unfold fw_np; decide +kernel
theorem sc_LW_same : Cond.static ⟨"FolderRightsLaw", "same", "(LFolderRights;II[J)I"⟩ ∈ lw_tbl := (fw_t 582 (by decide +kernel))
theorem vc_LW_147 : fw_vc "FolderRightsLaw" 147 5 m_MO_same 2 := ⟨k_MO_same, Or.inl (fw_t 847 (by decide +kernel)), (fw_t 848 (by decide +kernel)), ⟨_, _, _, rfl, (fw_t 849 (by decide +kernel))⟩, by unfold fw_np; decide +kernel⟩
theorem vc_LW_148 : fw_vc "FolderRightsLaw" 148 0 m_FR_step 0 := ⟨k_FR_step, Or.inl (fw_t 129 (by decide +kernel)), (fw_t 130 (by decide +kernel)), ⟨_, _, _, rfl, (fw_t 131 (by decide +kernel))⟩, by unfold fw_np; decide +kernel⟩
theorem vc_LW_151 : fw_vc "FolderRightsLaw" 151 5 m_MO_step 0 := ⟨k_MO_step, Or.inl (fw_t 851 (by decide +kernel)), (fw_t 852 (by decide +kernel)), ⟨_, _, _, rfl, (fw_t 853 (by decide +kernel))⟩, by unfold fw_np; decide +kernel⟩
theorem vc_LW_152 : fw_vc "FolderRightsLaw" 152 0 m_FR_stale 0 := ⟨k_FR_stale, Or.inl (fw_t 133 (by decide +kernel)), (fw_t 134 (by decide +kernel)), ⟨_, _, _, rfl, (fw_t 135 (by decide +kernel))⟩, by unfold fw_np; decide +kernel⟩
theorem vc_LW_155 : fw_vc "FolderRightsLaw" 155 5 m_MO_stale 0 := ⟨k_MO_stale, Or.inl (fw_t 855 (by decide +kernel)), (fw_t 856 (by decide +kernel)), ⟨_, _, _, rfl, (fw_t 857 (by decide +kernel))⟩, by unfold fw_np; decide +kernel⟩
theorem lk_LW_156 : fw_lk "FolderRightsLaw" 156 ⟨"FolderRightsLaw", "in", "(LFolderRights;II[J)I"⟩ := Or.inl (fw_t 588 (by decide +kernel))
theorem np_LW_in : fw_np ⟨"FolderRightsLaw", "in", "(LFolderRights;II[J)I"⟩ 4 := by unfold fw_np; decide +kernel
theorem sc_LW_in : Cond.static ⟨"FolderRightsLaw", "in", "(LFolderRights;II[J)I"⟩ ∈ lw_tbl := (fw_t 589 (by decide +kernel))
theorem vc_LW_158 : fw_vc "FolderRightsLaw" 158 5 m_MO_in 2 := ⟨k_MO_in, Or.inl (fw_t 859 (by decide +kernel)), (fw_t 860 (by decide +kernel)), ⟨_, _, _, rfl, (fw_t 861 (by decide +kernel))⟩, by unfold fw_np; decide +kernel⟩
theorem lk_LW_159 : fw_lk "FolderRightsLaw" 159 ⟨"FolderRightsLaw", "about", "(LFolderRights;II[J)I"⟩ := Or.inl (fw_t 595 (by decide +kernel))
theorem np_LW_about : fw_np ⟨"FolderRightsLaw", "about", "(LFolderRights;II[J)I"⟩ 4 := by unfold fw_np; decide +kernel
theorem sc_LW_about : Cond.static ⟨"FolderRightsLaw", "about", "(LFolderRights;II[J)I"⟩ ∈ lw_tbl := (fw_t 596 (by decide +kernel))
theorem vc_LW_161 : fw_vc "FolderRightsLaw" 161 5 m_MO_about 2 := ⟨k_MO_about, Or.inl (fw_t 863 (by decide +kernel)), (fw_t 864 (by decide +kernel)), ⟨_, _, _, rfl, (fw_t 865 (by decide +kernel))⟩, by unfold fw_np; decide +kernel⟩
theorem lk_LW_162 : fw_lk "FolderRightsLaw" 162 ⟨"FolderRightsLaw", "count", "(LFolderRights;I[J)I"⟩ := Or.inl (fw_t 603 (by decide +kernel))
theorem np_LW_count : fw_np ⟨"FolderRightsLaw", "count", "(LFolderRights;I[J)I"⟩ 3 := by unfold fw_np; decide +kernel
theorem sc_LW_count : Cond.static ⟨"FolderRightsLaw", "count", "(LFolderRights;I[J)I"⟩ ∈ lw_tbl := (fw_t 604 (by decide +kernel))
theorem vc_LW_164 : fw_vc "FolderRightsLaw" 164 5 m_MO_count 1 := ⟨k_MO_count, Or.inl (fw_t 867 (by decide +kernel)), (fw_t 868 (by decide +kernel)), ⟨_, _, _, rfl, (fw_t 869 (by decide +kernel))⟩, by unfold fw_np; decide +kernel⟩
theorem nw_FR_LW : fw_nw "FolderRightsLaw" 8 0 3 [.null, .null, .int 0] := ⟨"FolderRights", fw_T0, rfl, fw_i0, (fw_t 22 (by decide +kernel)), (fw_t 23 (by decide +kernel)), (fw_t 1 (by decide +kernel)), fw_y0, fw_k0, by decide⟩
theorem nw_MO_LW : fw_nw "FolderRightsLaw" 83 5 22 fm_z := ⟨"FolderRightsModel", fw_T5, rfl, fw_i5, (fw_t 629 (by decide +kernel)), (fw_t 630 (by decide +kernel)), (fw_t 7 (by decide +kernel)), fw_y5, fw_k5, by decide⟩
