theorem dL_law__1293 : decode cL_law_ 1293 = .ok (.invokevirtual 176, 3) := by decide +kernel
theorem dL_law__1296 : decode cL_law_ 1296 = .ok (.istore 6, 2) := by decide +kernel
theorem dL_law__1298 : decode cL_law_ 1298 = .ok (.aload_n 2, 1) := by decide +kernel
theorem dL_law__1299 : decode cL_law_ 1299 = .ok (.invokevirtual 122, 3) := by decide +kernel
theorem dL_law__1302 : decode cL_law_ 1302 = .ok (.iload 5, 2) := by decide +kernel
theorem dL_law__1304 : decode cL_law_ 1304 = .ok (.if_icmp .eq 5, 3) := by decide +kernel
theorem dL_law__1307 : decode cL_law_ 1307 = .ok (.iconst 0, 1) := by decide +kernel
theorem dL_law__1308 : decode cL_law_ 1308 = .ok (.ireturn, 1) := by decide +kernel
theorem dL_law__1309 : decode cL_law_ 1309 = .ok (.iload 5, 2) := by decide +kernel
theorem dL_law__1311 : decode cL_law_ 1311 = .ok (.ifCond .ne 15, 3) := by decide +kernel
theorem dL_law__1314 : decode cL_law_ 1314 = .ok (.aload_n 3, 1) := by decide +kernel
theorem dL_law__1315 : decode cL_law_ 1315 = .ok (.iconst 0, 1) := by decide +kernel
theorem dL_law__1316 : decode cL_law_ 1316 = .ok (.laload, 1) := by decide +kernel
theorem dL_law__1317 : decode cL_law_ 1317 = .ok (.iload 6, 2) := by decide +kernel
theorem dL_law__1319 : decode cL_law_ 1319 = .ok (.i2l, 1) := by decide +kernel
theorem dL_law__1320 : decode cL_law_ 1320 = .ok (.lcmp, 1) := by decide +kernel
theorem dL_law__1321 : decode cL_law_ 1321 = .ok (.ifCond .eq 5, 3) := by decide +kernel
theorem dL_law__1324 : decode cL_law_ 1324 = .ok (.iconst 0, 1) := by decide +kernel
theorem dL_law__1325 : decode cL_law_ 1325 = .ok (.ireturn, 1) := by decide +kernel
theorem dL_law__1326 : decode cL_law_ 1326 = .ok (.goto 1158, 3) := by decide +kernel
theorem dL_law__1329 : decode cL_law_ 1329 = .ok (.aload_n 1, 1) := by decide +kernel
theorem dL_law__1330 : decode cL_law_ 1330 = .ok (.aload_n 0, 1) := by decide +kernel
theorem dL_law__1331 : decode cL_law_ 1331 = .ok (.iload 4, 2) := by decide +kernel
theorem dL_law__1333 : decode cL_law_ 1333 = .ok (.iconst 1, 1) := by decide +kernel
theorem dL_law__1334 : decode cL_law_ 1334 = .ok (.iadd, 1) := by decide +kernel
theorem dL_law__1335 : decode cL_law_ 1335 = .ok (.iaload, 1) := by decide +kernel
theorem dL_law__1336 : decode cL_law_ 1336 = .ok (.aload_n 0, 1) := by decide +kernel
theorem dL_law__1337 : decode cL_law_ 1337 = .ok (.iload 4, 2) := by decide +kernel
theorem dL_law__1339 : decode cL_law_ 1339 = .ok (.iconst 2, 1) := by decide +kernel
theorem dL_law__1340 : decode cL_law_ 1340 = .ok (.iadd, 1) := by decide +kernel
theorem dL_law__1341 : decode cL_law_ 1341 = .ok (.iaload, 1) := by decide +kernel
theorem dL_law__1342 : decode cL_law_ 1342 = .ok (.aload_n 3, 1) := by decide +kernel
theorem dL_law__1343 : decode cL_law_ 1343 = .ok (.invokestatic 177, 3) := by decide +kernel
theorem dL_law__1346 : decode cL_law_ 1346 = .ok (.istore 5, 2) := by decide +kernel
theorem dL_law__1348 : decode cL_law_ 1348 = .ok (.aload_n 2, 1) := by decide +kernel
theorem dL_law__1349 : decode cL_law_ 1349 = .ok (.aload_n 0, 1) := by decide +kernel
theorem dL_law__1350 : decode cL_law_ 1350 = .ok (.iload 4, 2) := by decide +kernel
theorem dL_law__1352 : decode cL_law_ 1352 = .ok (.iconst 1, 1) := by decide +kernel
theorem dL_law__1353 : decode cL_law_ 1353 = .ok (.iadd, 1) := by decide +kernel
theorem dL_law__1354 : decode cL_law_ 1354 = .ok (.iaload, 1) := by decide +kernel
theorem dL_law__1355 : decode cL_law_ 1355 = .ok (.aload_n 0, 1) := by decide +kernel
theorem dL_law__1356 : decode cL_law_ 1356 = .ok (.iload 4, 2) := by decide +kernel
theorem dL_law__1358 : decode cL_law_ 1358 = .ok (.iconst 2, 1) := by decide +kernel
theorem dL_law__1359 : decode cL_law_ 1359 = .ok (.iadd, 1) := by decide +kernel
theorem dL_law__1360 : decode cL_law_ 1360 = .ok (.iaload, 1) := by decide +kernel
theorem dL_law__1361 : decode cL_law_ 1361 = .ok (.invokevirtual 179, 3) := by decide +kernel
theorem dL_law__1364 : decode cL_law_ 1364 = .ok (.istore 6, 2) := by decide +kernel
theorem dL_law__1366 : decode cL_law_ 1366 = .ok (.aload_n 2, 1) := by decide +kernel
theorem dL_law__1367 : decode cL_law_ 1367 = .ok (.invokevirtual 122, 3) := by decide +kernel
theorem dL_law__1370 : decode cL_law_ 1370 = .ok (.iload 5, 2) := by decide +kernel
theorem dL_law__1372 : decode cL_law_ 1372 = .ok (.if_icmp .eq 5, 3) := by decide +kernel
theorem dL_law__1375 : decode cL_law_ 1375 = .ok (.iconst 0, 1) := by decide +kernel
theorem dL_law__1376 : decode cL_law_ 1376 = .ok (.ireturn, 1) := by decide +kernel
theorem dL_law__1377 : decode cL_law_ 1377 = .ok (.iload 5, 2) := by decide +kernel
theorem dL_law__1379 : decode cL_law_ 1379 = .ok (.ifCond .ne 15, 3) := by decide +kernel
theorem dL_law__1382 : decode cL_law_ 1382 = .ok (.aload_n 3, 1) := by decide +kernel
theorem dL_law__1383 : decode cL_law_ 1383 = .ok (.iconst 0, 1) := by decide +kernel
theorem dL_law__1384 : decode cL_law_ 1384 = .ok (.laload, 1) := by decide +kernel
theorem dL_law__1385 : decode cL_law_ 1385 = .ok (.iload 6, 2) := by decide +kernel
theorem dL_law__1387 : decode cL_law_ 1387 = .ok (.i2l, 1) := by decide +kernel
theorem dL_law__1388 : decode cL_law_ 1388 = .ok (.lcmp, 1) := by decide +kernel
theorem dL_law__1389 : decode cL_law_ 1389 = .ok (.ifCond .eq 5, 3) := by decide +kernel
theorem dL_law__1392 : decode cL_law_ 1392 = .ok (.iconst 0, 1) := by decide +kernel
theorem dL_law__1393 : decode cL_law_ 1393 = .ok (.ireturn, 1) := by decide +kernel
theorem dL_law__1394 : decode cL_law_ 1394 = .ok (.goto 1090, 3) := by decide +kernel
theorem dL_law__1397 : decode cL_law_ 1397 = .ok (.aload_n 1, 1) := by decide +kernel
theorem dL_law__1398 : decode cL_law_ 1398 = .ok (.invokevirtual 180, 3) := by decide +kernel
theorem dL_law__1401 : decode cL_law_ 1401 = .ok (.aload_n 2, 1) := by decide +kernel
theorem dL_law__1402 : decode cL_law_ 1402 = .ok (.invokevirtual 184, 3) := by decide +kernel
theorem dL_law__1405 : decode cL_law_ 1405 = .ok (.lcmp, 1) := by decide +kernel
theorem dL_law__1406 : decode cL_law_ 1406 = .ok (.ifCond .eq 1078, 3) := by decide +kernel
theorem dL_law__1409 : decode cL_law_ 1409 = .ok (.iconst 0, 1) := by decide +kernel
theorem dL_law__1410 : decode cL_law_ 1410 = .ok (.ireturn, 1) := by decide +kernel
theorem dL_law__1411 : decode cL_law_ 1411 = .ok (.aload_n 1, 1) := by decide +kernel
theorem dL_law__1412 : decode cL_law_ 1412 = .ok (.invokevirtual 185, 3) := by decide +kernel
theorem dL_law__1415 : decode cL_law_ 1415 = .ok (.aload_n 2, 1) := by decide +kernel
theorem dL_law__1416 : decode cL_law_ 1416 = .ok (.invokevirtual 188, 3) := by decide +kernel
theorem dL_law__1419 : decode cL_law_ 1419 = .ok (.if_icmp .eq 1065, 3) := by decide +kernel
theorem dL_law__1422 : decode cL_law_ 1422 = .ok (.iconst 0, 1) := by decide +kernel
theorem dL_law__1423 : decode cL_law_ 1423 = .ok (.ireturn, 1) := by decide +kernel
theorem dL_law__1424 : decode cL_law_ 1424 = .ok (.aload_n 1, 1) := by decide +kernel
theorem dL_law__1425 : decode cL_law_ 1425 = .ok (.aload_n 0, 1) := by decide +kernel
theorem dL_law__1426 : decode cL_law_ 1426 = .ok (.iload 4, 2) := by decide +kernel
theorem dL_law__1428 : decode cL_law_ 1428 = .ok (.iconst 1, 1) := by decide +kernel
theorem dL_law__1429 : decode cL_law_ 1429 = .ok (.iadd, 1) := by decide +kernel
theorem dL_law__1430 : decode cL_law_ 1430 = .ok (.iaload, 1) := by decide +kernel
theorem dL_law__1431 : decode cL_law_ 1431 = .ok (.aload_n 3, 1) := by decide +kernel
theorem dL_law__1432 : decode cL_law_ 1432 = .ok (.invokestatic 189, 3) := by decide +kernel
theorem dL_law__1435 : decode cL_law_ 1435 = .ok (.istore 5, 2) := by decide +kernel
theorem dL_law__1437 : decode cL_law_ 1437 = .ok (.aload_n 2, 1) := by decide +kernel
theorem dL_law__1438 : decode cL_law_ 1438 = .ok (.aload_n 0, 1) := by decide +kernel
theorem dL_law__1439 : decode cL_law_ 1439 = .ok (.iload 4, 2) := by decide +kernel
theorem dL_law__1441 : decode cL_law_ 1441 = .ok (.iconst 1, 1) := by decide +kernel
theorem dL_law__1442 : decode cL_law_ 1442 = .ok (.iadd, 1) := by decide +kernel
theorem dL_law__1443 : decode cL_law_ 1443 = .ok (.iaload, 1) := by decide +kernel
theorem dL_law__1444 : decode cL_law_ 1444 = .ok (.invokevirtual 191, 3) := by decide +kernel
theorem dL_law__1447 : decode cL_law_ 1447 = .ok (.lstore 6, 2) := by decide +kernel
theorem dL_law__1449 : decode cL_law_ 1449 = .ok (.aload_n 2, 1) := by decide +kernel
theorem dL_law__1450 : decode cL_law_ 1450 = .ok (.invokevirtual 122, 3) := by decide +kernel
theorem dL_law__1453 : decode cL_law_ 1453 = .ok (.iload 5, 2) := by decide +kernel
theorem dL_law__1455 : decode cL_law_ 1455 = .ok (.if_icmp .eq 5, 3) := by decide +kernel
theorem dL_law__1458 : decode cL_law_ 1458 = .ok (.iconst 0, 1) := by decide +kernel
theorem dL_law__1459 : decode cL_law_ 1459 = .ok (.ireturn, 1) := by decide +kernel
theorem dL_law__1460 : decode cL_law_ 1460 = .ok (.iload 5, 2) := by decide +kernel
theorem dL_law__1462 : decode cL_law_ 1462 = .ok (.ifCond .ne 14, 3) := by decide +kernel
theorem dL_law__1465 : decode cL_law_ 1465 = .ok (.aload_n 3, 1) := by decide +kernel
theorem dL_law__1466 : decode cL_law_ 1466 = .ok (.iconst 0, 1) := by decide +kernel
theorem dL_law__1467 : decode cL_law_ 1467 = .ok (.laload, 1) := by decide +kernel
theorem dL_law__1468 : decode cL_law_ 1468 = .ok (.lload 6, 2) := by decide +kernel
theorem dL_law__1470 : decode cL_law_ 1470 = .ok (.lcmp, 1) := by decide +kernel
theorem dL_law__1471 : decode cL_law_ 1471 = .ok (.ifCond .eq 5, 3) := by decide +kernel
theorem dL_law__1474 : decode cL_law_ 1474 = .ok (.iconst 0, 1) := by decide +kernel
theorem dL_law__1475 : decode cL_law_ 1475 = .ok (.ireturn, 1) := by decide +kernel
theorem dL_law__1476 : decode cL_law_ 1476 = .ok (.goto 1008, 3) := by decide +kernel
theorem dL_law__1479 : decode cL_law_ 1479 = .ok (.aload_n 1, 1) := by decide +kernel
theorem dL_law__1480 : decode cL_law_ 1480 = .ok (.aload_n 0, 1) := by decide +kernel
theorem dL_law__1481 : decode cL_law_ 1481 = .ok (.iload 4, 2) := by decide +kernel
theorem dL_law__1483 : decode cL_law_ 1483 = .ok (.iconst 1, 1) := by decide +kernel
theorem dL_law__1484 : decode cL_law_ 1484 = .ok (.iadd, 1) := by decide +kernel
theorem dL_law__1485 : decode cL_law_ 1485 = .ok (.iaload, 1) := by decide +kernel
theorem dL_law__1486 : decode cL_law_ 1486 = .ok (.aload_n 3, 1) := by decide +kernel
theorem dL_law__1487 : decode cL_law_ 1487 = .ok (.invokestatic 192, 3) := by decide +kernel
theorem dL_law__1490 : decode cL_law_ 1490 = .ok (.istore 5, 2) := by decide +kernel
theorem dL_law__1492 : decode cL_law_ 1492 = .ok (.aload_n 2, 1) := by decide +kernel
theorem dL_law__1493 : decode cL_law_ 1493 = .ok (.aload_n 0, 1) := by decide +kernel
theorem dL_law__1494 : decode cL_law_ 1494 = .ok (.iload 4, 2) := by decide +kernel
theorem dL_law__1496 : decode cL_law_ 1496 = .ok (.iconst 1, 1) := by decide +kernel
theorem dL_law__1497 : decode cL_law_ 1497 = .ok (.iadd, 1) := by decide +kernel
theorem dL_law__1498 : decode cL_law_ 1498 = .ok (.iaload, 1) := by decide +kernel
theorem dL_law__1499 : decode cL_law_ 1499 = .ok (.invokevirtual 194, 3) := by decide +kernel
theorem dL_law__1502 : decode cL_law_ 1502 = .ok (.istore 6, 2) := by decide +kernel
theorem dL_law__1504 : decode cL_law_ 1504 = .ok (.aload_n 2, 1) := by decide +kernel
theorem dL_law__1505 : decode cL_law_ 1505 = .ok (.invokevirtual 122, 3) := by decide +kernel
theorem dL_law__1508 : decode cL_law_ 1508 = .ok (.iload 5, 2) := by decide +kernel
theorem dL_law__1510 : decode cL_law_ 1510 = .ok (.if_icmp .eq 5, 3) := by decide +kernel
theorem dL_law__1513 : decode cL_law_ 1513 = .ok (.iconst 0, 1) := by decide +kernel
theorem dL_law__1514 : decode cL_law_ 1514 = .ok (.ireturn, 1) := by decide +kernel
theorem dL_law__1515 : decode cL_law_ 1515 = .ok (.iload 5, 2) := by decide +kernel
theorem dL_law__1517 : decode cL_law_ 1517 = .ok (.ifCond .ne 15, 3) := by decide +kernel
theorem dL_law__1520 : decode cL_law_ 1520 = .ok (.aload_n 3, 1) := by decide +kernel
theorem dL_law__1521 : decode cL_law_ 1521 = .ok (.iconst 0, 1) := by decide +kernel
theorem dL_law__1522 : decode cL_law_ 1522 = .ok (.laload, 1) := by decide +kernel
theorem dL_law__1523 : decode cL_law_ 1523 = .ok (.iload 6, 2) := by decide +kernel
theorem dL_law__1525 : decode cL_law_ 1525 = .ok (.i2l, 1) := by decide +kernel
theorem dL_law__1526 : decode cL_law_ 1526 = .ok (.lcmp, 1) := by decide +kernel
theorem dL_law__1527 : decode cL_law_ 1527 = .ok (.ifCond .eq 5, 3) := by decide +kernel
theorem dL_law__1530 : decode cL_law_ 1530 = .ok (.iconst 0, 1) := by decide +kernel
theorem dL_law__1531 : decode cL_law_ 1531 = .ok (.ireturn, 1) := by decide +kernel
theorem dL_law__1532 : decode cL_law_ 1532 = .ok (.goto 952, 3) := by decide +kernel
theorem dL_law__1535 : decode cL_law_ 1535 = .ok (.aload_n 1, 1) := by decide +kernel
