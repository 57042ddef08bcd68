def kL_law_r28 : List (Nat × Instr × Nat) := [(1438, .aload_n 0, 1), (1439, .iload 4, 2), (1441, .iconst 1, 1), (1442, .iadd, 1), (1443, .iaload, 1), (1444, .invokevirtual 191, 3), (1447, .lstore 6, 2), (1449, .aload_n 2, 1), (1450, .invokevirtual 122, 3), (1453, .iload 5, 2), (1455, .if_icmp .eq 5, 3), (1458, .iconst 0, 1), (1459, .ireturn, 1), (1460, .iload 5, 2), (1462, .ifCond .ne 14, 3), (1465, .aload_n 3, 1), (1466, .iconst 0, 1), (1467, .laload, 1), (1468, .lload 6, 2), (1470, .lcmp, 1), (1471, .ifCond .eq 5, 3), (1474, .iconst 0, 1), (1475, .ireturn, 1), (1476, .goto 1008, 3), (1479, .aload_n 1, 1), (1480, .aload_n 0, 1), (1481, .iload 4, 2), (1483, .iconst 1, 1), (1484, .iadd, 1), (1485, .iaload, 1)]
set_option maxRecDepth 100000 in
theorem kL_law_r28_ok : kL_law_r28.all (fun q => decide (decode cL_law_ q.1 = .ok q.2)) = true := by decide +kernel
theorem dL_law__1438 : decode cL_law_ 1438 = .ok (.aload_n 0, 1) := dk_get kL_law_r28_ok 0 rfl
theorem dL_law__1439 : decode cL_law_ 1439 = .ok (.iload 4, 2) := dk_get kL_law_r28_ok 1 rfl
theorem dL_law__1441 : decode cL_law_ 1441 = .ok (.iconst 1, 1) := dk_get kL_law_r28_ok 2 rfl
theorem dL_law__1442 : decode cL_law_ 1442 = .ok (.iadd, 1) := dk_get kL_law_r28_ok 3 rfl
theorem dL_law__1443 : decode cL_law_ 1443 = .ok (.iaload, 1) := dk_get kL_law_r28_ok 4 rfl
theorem dL_law__1444 : decode cL_law_ 1444 = .ok (.invokevirtual 191, 3) := dk_get kL_law_r28_ok 5 rfl
theorem dL_law__1447 : decode cL_law_ 1447 = .ok (.lstore 6, 2) := dk_get kL_law_r28_ok 6 rfl
theorem dL_law__1449 : decode cL_law_ 1449 = .ok (.aload_n 2, 1) := dk_get kL_law_r28_ok 7 rfl
theorem dL_law__1450 : decode cL_law_ 1450 = .ok (.invokevirtual 122, 3) := dk_get kL_law_r28_ok 8 rfl
theorem dL_law__1453 : decode cL_law_ 1453 = .ok (.iload 5, 2) := dk_get kL_law_r28_ok 9 rfl
theorem dL_law__1455 : decode cL_law_ 1455 = .ok (.if_icmp .eq 5, 3) := dk_get kL_law_r28_ok 10 rfl
theorem dL_law__1458 : decode cL_law_ 1458 = .ok (.iconst 0, 1) := dk_get kL_law_r28_ok 11 rfl
theorem dL_law__1459 : decode cL_law_ 1459 = .ok (.ireturn, 1) := dk_get kL_law_r28_ok 12 rfl
theorem dL_law__1460 : decode cL_law_ 1460 = .ok (.iload 5, 2) := dk_get kL_law_r28_ok 13 rfl
theorem dL_law__1462 : decode cL_law_ 1462 = .ok (.ifCond .ne 14, 3) := dk_get kL_law_r28_ok 14 rfl
theorem dL_law__1465 : decode cL_law_ 1465 = .ok (.aload_n 3, 1) := dk_get kL_law_r28_ok 15 rfl
theorem dL_law__1466 : decode cL_law_ 1466 = .ok (.iconst 0, 1) := dk_get kL_law_r28_ok 16 rfl
theorem dL_law__1467 : decode cL_law_ 1467 = .ok (.laload, 1) := dk_get kL_law_r28_ok 17 rfl
theorem dL_law__1468 : decode cL_law_ 1468 = .ok (.lload 6, 2) := dk_get kL_law_r28_ok 18 rfl
theorem dL_law__1470 : decode cL_law_ 1470 = .ok (.lcmp, 1) := dk_get kL_law_r28_ok 19 rfl
theorem dL_law__1471 : decode cL_law_ 1471 = .ok (.ifCond .eq 5, 3) := dk_get kL_law_r28_ok 20 rfl
theorem dL_law__1474 : decode cL_law_ 1474 = .ok (.iconst 0, 1) := dk_get kL_law_r28_ok 21 rfl
theorem dL_law__1475 : decode cL_law_ 1475 = .ok (.ireturn, 1) := dk_get kL_law_r28_ok 22 rfl
theorem dL_law__1476 : decode cL_law_ 1476 = .ok (.goto 1008, 3) := dk_get kL_law_r28_ok 23 rfl
theorem dL_law__1479 : decode cL_law_ 1479 = .ok (.aload_n 1, 1) := dk_get kL_law_r28_ok 24 rfl
theorem dL_law__1480 : decode cL_law_ 1480 = .ok (.aload_n 0, 1) := dk_get kL_law_r28_ok 25 rfl
theorem dL_law__1481 : decode cL_law_ 1481 = .ok (.iload 4, 2) := dk_get kL_law_r28_ok 26 rfl
theorem dL_law__1483 : decode cL_law_ 1483 = .ok (.iconst 1, 1) := dk_get kL_law_r28_ok 27 rfl
theorem dL_law__1484 : decode cL_law_ 1484 = .ok (.iadd, 1) := dk_get kL_law_r28_ok 28 rfl
theorem dL_law__1485 : decode cL_law_ 1485 = .ok (.iaload, 1) := dk_get kL_law_r28_ok 29 rfl
def kL_law_r29 : List (Nat × Instr × Nat) := [(1486, .aload_n 3, 1), (1487, .invokestatic 192, 3), (1490, .istore 5, 2), (1492, .aload_n 2, 1), (1493, .aload_n 0, 1), (1494, .iload 4, 2), (1496, .iconst 1, 1), (1497, .iadd, 1), (1498, .iaload, 1), (1499, .invokevirtual 194, 3), (1502, .istore 6, 2), (1504, .aload_n 2, 1), (1505, .invokevirtual 122, 3), (1508, .iload 5, 2), (1510, .if_icmp .eq 5, 3), (1513, .iconst 0, 1), (1514, .ireturn, 1), (1515, .iload 5, 2), (1517, .ifCond .ne 15, 3), (1520, .aload_n 3, 1), (1521, .iconst 0, 1), (1522, .laload, 1), (1523, .iload 6, 2), (1525, .i2l, 1), (1526, .lcmp, 1), (1527, .ifCond .eq 5, 3), (1530, .iconst 0, 1), (1531, .ireturn, 1), (1532, .goto 952, 3), (1535, .aload_n 1, 1)]
set_option maxRecDepth 100000 in
theorem kL_law_r29_ok : kL_law_r29.all (fun q => decide (decode cL_law_ q.1 = .ok q.2)) = true := by decide +kernel
theorem dL_law__1486 : decode cL_law_ 1486 = .ok (.aload_n 3, 1) := dk_get kL_law_r29_ok 0 rfl
theorem dL_law__1487 : decode cL_law_ 1487 = .ok (.invokestatic 192, 3) := dk_get kL_law_r29_ok 1 rfl
theorem dL_law__1490 : decode cL_law_ 1490 = .ok (.istore 5, 2) := dk_get kL_law_r29_ok 2 rfl
theorem dL_law__1492 : decode cL_law_ 1492 = .ok (.aload_n 2, 1) := dk_get kL_law_r29_ok 3 rfl
theorem dL_law__1493 : decode cL_law_ 1493 = .ok (.aload_n 0, 1) := dk_get kL_law_r29_ok 4 rfl
theorem dL_law__1494 : decode cL_law_ 1494 = .ok (.iload 4, 2) := dk_get kL_law_r29_ok 5 rfl
theorem dL_law__1496 : decode cL_law_ 1496 = .ok (.iconst 1, 1) := dk_get kL_law_r29_ok 6 rfl
theorem dL_law__1497 : decode cL_law_ 1497 = .ok (.iadd, 1) := dk_get kL_law_r29_ok 7 rfl
theorem dL_law__1498 : decode cL_law_ 1498 = .ok (.iaload, 1) := dk_get kL_law_r29_ok 8 rfl
theorem dL_law__1499 : decode cL_law_ 1499 = .ok (.invokevirtual 194, 3) := dk_get kL_law_r29_ok 9 rfl
theorem dL_law__1502 : decode cL_law_ 1502 = .ok (.istore 6, 2) := dk_get kL_law_r29_ok 10 rfl
theorem dL_law__1504 : decode cL_law_ 1504 = .ok (.aload_n 2, 1) := dk_get kL_law_r29_ok 11 rfl
theorem dL_law__1505 : decode cL_law_ 1505 = .ok (.invokevirtual 122, 3) := dk_get kL_law_r29_ok 12 rfl
theorem dL_law__1508 : decode cL_law_ 1508 = .ok (.iload 5, 2) := dk_get kL_law_r29_ok 13 rfl
theorem dL_law__1510 : decode cL_law_ 1510 = .ok (.if_icmp .eq 5, 3) := dk_get kL_law_r29_ok 14 rfl
theorem dL_law__1513 : decode cL_law_ 1513 = .ok (.iconst 0, 1) := dk_get kL_law_r29_ok 15 rfl
theorem dL_law__1514 : decode cL_law_ 1514 = .ok (.ireturn, 1) := dk_get kL_law_r29_ok 16 rfl
theorem dL_law__1515 : decode cL_law_ 1515 = .ok (.iload 5, 2) := dk_get kL_law_r29_ok 17 rfl
theorem dL_law__1517 : decode cL_law_ 1517 = .ok (.ifCond .ne 15, 3) := dk_get kL_law_r29_ok 18 rfl
theorem dL_law__1520 : decode cL_law_ 1520 = .ok (.aload_n 3, 1) := dk_get kL_law_r29_ok 19 rfl
theorem dL_law__1521 : decode cL_law_ 1521 = .ok (.iconst 0, 1) := dk_get kL_law_r29_ok 20 rfl
theorem dL_law__1522 : decode cL_law_ 1522 = .ok (.laload, 1) := dk_get kL_law_r29_ok 21 rfl
theorem dL_law__1523 : decode cL_law_ 1523 = .ok (.iload 6, 2) := dk_get kL_law_r29_ok 22 rfl
theorem dL_law__1525 : decode cL_law_ 1525 = .ok (.i2l, 1) := dk_get kL_law_r29_ok 23 rfl
theorem dL_law__1526 : decode cL_law_ 1526 = .ok (.lcmp, 1) := dk_get kL_law_r29_ok 24 rfl
theorem dL_law__1527 : decode cL_law_ 1527 = .ok (.ifCond .eq 5, 3) := dk_get kL_law_r29_ok 25 rfl
theorem dL_law__1530 : decode cL_law_ 1530 = .ok (.iconst 0, 1) := dk_get kL_law_r29_ok 26 rfl
theorem dL_law__1531 : decode cL_law_ 1531 = .ok (.ireturn, 1) := dk_get kL_law_r29_ok 27 rfl
theorem dL_law__1532 : decode cL_law_ 1532 = .ok (.goto 952, 3) := dk_get kL_law_r29_ok 28 rfl
theorem dL_law__1535 : decode cL_law_ 1535 = .ok (.aload_n 1, 1) := dk_get kL_law_r29_ok 29 rfl
def kL_law_r30 : List (Nat × Instr × Nat) := [(1536, .invokevirtual 195, 3), (1539, .aload_n 2, 1), (1540, .invokevirtual 198, 3), (1543, .lcmp, 1), (1544, .ifCond .eq 940, 3), (1547, .iconst 0, 1), (1548, .ireturn, 1), (1549, .aload_n 1, 1), (1550, .aload_n 0, 1), (1551, .iload 4, 2), (1553, .iconst 1, 1), (1554, .iadd, 1), (1555, .iaload, 1), (1556, .aload_n 0, 1), (1557, .iload 4, 2), (1559, .iconst 2, 1), (1560, .iadd, 1), (1561, .iaload, 1), (1562, .aload_n 3, 1), (1563, .invokestatic 199, 3), (1566, .istore 5, 2), (1568, .aload_n 2, 1), (1569, .aload_n 0, 1), (1570, .iload 4, 2), (1572, .iconst 1, 1), (1573, .iadd, 1), (1574, .iaload, 1), (1575, .aload_n 0, 1), (1576, .iload 4, 2), (1578, .iconst 2, 1)]
set_option maxRecDepth 100000 in
theorem kL_law_r30_ok : kL_law_r30.all (fun q => decide (decode cL_law_ q.1 = .ok q.2)) = true := by decide +kernel
theorem dL_law__1536 : decode cL_law_ 1536 = .ok (.invokevirtual 195, 3) := dk_get kL_law_r30_ok 0 rfl
theorem dL_law__1539 : decode cL_law_ 1539 = .ok (.aload_n 2, 1) := dk_get kL_law_r30_ok 1 rfl
theorem dL_law__1540 : decode cL_law_ 1540 = .ok (.invokevirtual 198, 3) := dk_get kL_law_r30_ok 2 rfl
theorem dL_law__1543 : decode cL_law_ 1543 = .ok (.lcmp, 1) := dk_get kL_law_r30_ok 3 rfl
theorem dL_law__1544 : decode cL_law_ 1544 = .ok (.ifCond .eq 940, 3) := dk_get kL_law_r30_ok 4 rfl
theorem dL_law__1547 : decode cL_law_ 1547 = .ok (.iconst 0, 1) := dk_get kL_law_r30_ok 5 rfl
theorem dL_law__1548 : decode cL_law_ 1548 = .ok (.ireturn, 1) := dk_get kL_law_r30_ok 6 rfl
theorem dL_law__1549 : decode cL_law_ 1549 = .ok (.aload_n 1, 1) := dk_get kL_law_r30_ok 7 rfl
theorem dL_law__1550 : decode cL_law_ 1550 = .ok (.aload_n 0, 1) := dk_get kL_law_r30_ok 8 rfl
theorem dL_law__1551 : decode cL_law_ 1551 = .ok (.iload 4, 2) := dk_get kL_law_r30_ok 9 rfl
theorem dL_law__1553 : decode cL_law_ 1553 = .ok (.iconst 1, 1) := dk_get kL_law_r30_ok 10 rfl
theorem dL_law__1554 : decode cL_law_ 1554 = .ok (.iadd, 1) := dk_get kL_law_r30_ok 11 rfl
theorem dL_law__1555 : decode cL_law_ 1555 = .ok (.iaload, 1) := dk_get kL_law_r30_ok 12 rfl
theorem dL_law__1556 : decode cL_law_ 1556 = .ok (.aload_n 0, 1) := dk_get kL_law_r30_ok 13 rfl
theorem dL_law__1557 : decode cL_law_ 1557 = .ok (.iload 4, 2) := dk_get kL_law_r30_ok 14 rfl
theorem dL_law__1559 : decode cL_law_ 1559 = .ok (.iconst 2, 1) := dk_get kL_law_r30_ok 15 rfl
theorem dL_law__1560 : decode cL_law_ 1560 = .ok (.iadd, 1) := dk_get kL_law_r30_ok 16 rfl
theorem dL_law__1561 : decode cL_law_ 1561 = .ok (.iaload, 1) := dk_get kL_law_r30_ok 17 rfl
theorem dL_law__1562 : decode cL_law_ 1562 = .ok (.aload_n 3, 1) := dk_get kL_law_r30_ok 18 rfl
theorem dL_law__1563 : decode cL_law_ 1563 = .ok (.invokestatic 199, 3) := dk_get kL_law_r30_ok 19 rfl
theorem dL_law__1566 : decode cL_law_ 1566 = .ok (.istore 5, 2) := dk_get kL_law_r30_ok 20 rfl
theorem dL_law__1568 : decode cL_law_ 1568 = .ok (.aload_n 2, 1) := dk_get kL_law_r30_ok 21 rfl
theorem dL_law__1569 : decode cL_law_ 1569 = .ok (.aload_n 0, 1) := dk_get kL_law_r30_ok 22 rfl
theorem dL_law__1570 : decode cL_law_ 1570 = .ok (.iload 4, 2) := dk_get kL_law_r30_ok 23 rfl
theorem dL_law__1572 : decode cL_law_ 1572 = .ok (.iconst 1, 1) := dk_get kL_law_r30_ok 24 rfl
theorem dL_law__1573 : decode cL_law_ 1573 = .ok (.iadd, 1) := dk_get kL_law_r30_ok 25 rfl
theorem dL_law__1574 : decode cL_law_ 1574 = .ok (.iaload, 1) := dk_get kL_law_r30_ok 26 rfl
theorem dL_law__1575 : decode cL_law_ 1575 = .ok (.aload_n 0, 1) := dk_get kL_law_r30_ok 27 rfl
theorem dL_law__1576 : decode cL_law_ 1576 = .ok (.iload 4, 2) := dk_get kL_law_r30_ok 28 rfl
theorem dL_law__1578 : decode cL_law_ 1578 = .ok (.iconst 2, 1) := dk_get kL_law_r30_ok 29 rfl
def kL_law_r31 : List (Nat × Instr × Nat) := [(1579, .iadd, 1), (1580, .iaload, 1), (1581, .invokevirtual 201, 3), (1584, .istore 6, 2), (1586, .aload_n 2, 1), (1587, .invokevirtual 122, 3), (1590, .iload 5, 2), (1592, .if_icmp .eq 5, 3), (1595, .iconst 0, 1), (1596, .ireturn, 1), (1597, .iload 5, 2), (1599, .ifCond .ne 15, 3), (1602, .aload_n 3, 1), (1603, .iconst 0, 1), (1604, .laload, 1), (1605, .iload 6, 2), (1607, .i2l, 1), (1608, .lcmp, 1), (1609, .ifCond .eq 5, 3), (1612, .iconst 0, 1), (1613, .ireturn, 1), (1614, .goto 870, 3), (1617, .aload_n 1, 1), (1618, .invokevirtual 202, 3), (1621, .aload_n 2, 1), (1622, .invokevirtual 205, 3), (1625, .if_icmp .eq 859, 3), (1628, .iconst 0, 1), (1629, .ireturn, 1), (1630, .aload_n 1, 1)]
set_option maxRecDepth 100000 in
theorem kL_law_r31_ok : kL_law_r31.all (fun q => decide (decode cL_law_ q.1 = .ok q.2)) = true := by decide +kernel
theorem dL_law__1579 : decode cL_law_ 1579 = .ok (.iadd, 1) := dk_get kL_law_r31_ok 0 rfl
theorem dL_law__1580 : decode cL_law_ 1580 = .ok (.iaload, 1) := dk_get kL_law_r31_ok 1 rfl
theorem dL_law__1581 : decode cL_law_ 1581 = .ok (.invokevirtual 201, 3) := dk_get kL_law_r31_ok 2 rfl
theorem dL_law__1584 : decode cL_law_ 1584 = .ok (.istore 6, 2) := dk_get kL_law_r31_ok 3 rfl
theorem dL_law__1586 : decode cL_law_ 1586 = .ok (.aload_n 2, 1) := dk_get kL_law_r31_ok 4 rfl
theorem dL_law__1587 : decode cL_law_ 1587 = .ok (.invokevirtual 122, 3) := dk_get kL_law_r31_ok 5 rfl
theorem dL_law__1590 : decode cL_law_ 1590 = .ok (.iload 5, 2) := dk_get kL_law_r31_ok 6 rfl
theorem dL_law__1592 : decode cL_law_ 1592 = .ok (.if_icmp .eq 5, 3) := dk_get kL_law_r31_ok 7 rfl
theorem dL_law__1595 : decode cL_law_ 1595 = .ok (.iconst 0, 1) := dk_get kL_law_r31_ok 8 rfl
theorem dL_law__1596 : decode cL_law_ 1596 = .ok (.ireturn, 1) := dk_get kL_law_r31_ok 9 rfl
theorem dL_law__1597 : decode cL_law_ 1597 = .ok (.iload 5, 2) := dk_get kL_law_r31_ok 10 rfl
theorem dL_law__1599 : decode cL_law_ 1599 = .ok (.ifCond .ne 15, 3) := dk_get kL_law_r31_ok 11 rfl
theorem dL_law__1602 : decode cL_law_ 1602 = .ok (.aload_n 3, 1) := dk_get kL_law_r31_ok 12 rfl
theorem dL_law__1603 : decode cL_law_ 1603 = .ok (.iconst 0, 1) := dk_get kL_law_r31_ok 13 rfl
theorem dL_law__1604 : decode cL_law_ 1604 = .ok (.laload, 1) := dk_get kL_law_r31_ok 14 rfl
theorem dL_law__1605 : decode cL_law_ 1605 = .ok (.iload 6, 2) := dk_get kL_law_r31_ok 15 rfl
theorem dL_law__1607 : decode cL_law_ 1607 = .ok (.i2l, 1) := dk_get kL_law_r31_ok 16 rfl
theorem dL_law__1608 : decode cL_law_ 1608 = .ok (.lcmp, 1) := dk_get kL_law_r31_ok 17 rfl
theorem dL_law__1609 : decode cL_law_ 1609 = .ok (.ifCond .eq 5, 3) := dk_get kL_law_r31_ok 18 rfl
theorem dL_law__1612 : decode cL_law_ 1612 = .ok (.iconst 0, 1) := dk_get kL_law_r31_ok 19 rfl
theorem dL_law__1613 : decode cL_law_ 1613 = .ok (.ireturn, 1) := dk_get kL_law_r31_ok 20 rfl
theorem dL_law__1614 : decode cL_law_ 1614 = .ok (.goto 870, 3) := dk_get kL_law_r31_ok 21 rfl
theorem dL_law__1617 : decode cL_law_ 1617 = .ok (.aload_n 1, 1) := dk_get kL_law_r31_ok 22 rfl
theorem dL_law__1618 : decode cL_law_ 1618 = .ok (.invokevirtual 202, 3) := dk_get kL_law_r31_ok 23 rfl
theorem dL_law__1621 : decode cL_law_ 1621 = .ok (.aload_n 2, 1) := dk_get kL_law_r31_ok 24 rfl
theorem dL_law__1622 : decode cL_law_ 1622 = .ok (.invokevirtual 205, 3) := dk_get kL_law_r31_ok 25 rfl
theorem dL_law__1625 : decode cL_law_ 1625 = .ok (.if_icmp .eq 859, 3) := dk_get kL_law_r31_ok 26 rfl
theorem dL_law__1628 : decode cL_law_ 1628 = .ok (.iconst 0, 1) := dk_get kL_law_r31_ok 27 rfl
theorem dL_law__1629 : decode cL_law_ 1629 = .ok (.ireturn, 1) := dk_get kL_law_r31_ok 28 rfl
theorem dL_law__1630 : decode cL_law_ 1630 = .ok (.aload_n 1, 1) := dk_get kL_law_r31_ok 29 rfl
