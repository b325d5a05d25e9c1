theorem dL_law_1427 : decode cL_law 1427 = .ok (.aload_n 1, 1) := by decide +kernel
theorem dL_law_1428 : decode cL_law 1428 = .ok (.aload_n 0, 1) := by decide +kernel
theorem dL_law_1429 : decode cL_law 1429 = .ok (.iload 4, 2) := by decide +kernel
theorem dL_law_1431 : decode cL_law 1431 = .ok (.iconst 1, 1) := by decide +kernel
theorem dL_law_1432 : decode cL_law 1432 = .ok (.iadd, 1) := by decide +kernel
theorem dL_law_1433 : decode cL_law 1433 = .ok (.iaload, 1) := by decide +kernel
theorem dL_law_1434 : decode cL_law 1434 = .ok (.aload_n 0, 1) := by decide +kernel
theorem dL_law_1435 : decode cL_law 1435 = .ok (.iload 4, 2) := by decide +kernel
theorem dL_law_1437 : decode cL_law 1437 = .ok (.iconst 2, 1) := by decide +kernel
theorem dL_law_1438 : decode cL_law 1438 = .ok (.iadd, 1) := by decide +kernel
theorem dL_law_1439 : decode cL_law 1439 = .ok (.iaload, 1) := by decide +kernel
theorem dL_law_1440 : decode cL_law 1440 = .ok (.invokevirtual 185, 3) := by decide +kernel
theorem dL_law_1443 : decode cL_law 1443 = .ok (.aload_n 2, 1) := by decide +kernel
theorem dL_law_1444 : decode cL_law 1444 = .ok (.aload_n 0, 1) := by decide +kernel
theorem dL_law_1445 : decode cL_law 1445 = .ok (.iload 4, 2) := by decide +kernel
theorem dL_law_1447 : decode cL_law 1447 = .ok (.iconst 1, 1) := by decide +kernel
theorem dL_law_1448 : decode cL_law 1448 = .ok (.iadd, 1) := by decide +kernel
theorem dL_law_1449 : decode cL_law 1449 = .ok (.iaload, 1) := by decide +kernel
theorem dL_law_1450 : decode cL_law 1450 = .ok (.aload_n 0, 1) := by decide +kernel
theorem dL_law_1451 : decode cL_law 1451 = .ok (.iload 4, 2) := by decide +kernel
theorem dL_law_1453 : decode cL_law 1453 = .ok (.iconst 2, 1) := by decide +kernel
theorem dL_law_1454 : decode cL_law 1454 = .ok (.iadd, 1) := by decide +kernel
theorem dL_law_1455 : decode cL_law 1455 = .ok (.iaload, 1) := by decide +kernel
theorem dL_law_1456 : decode cL_law 1456 = .ok (.invokevirtual 188, 3) := by decide +kernel
theorem dL_law_1459 : decode cL_law 1459 = .ok (.if_icmp .eq 223, 3) := by decide +kernel
theorem dL_law_1462 : decode cL_law 1462 = .ok (.iconst 0, 1) := by decide +kernel
theorem dL_law_1463 : decode cL_law 1463 = .ok (.ireturn, 1) := by decide +kernel
theorem dL_law_1464 : decode cL_law 1464 = .ok (.aload_n 1, 1) := by decide +kernel
theorem dL_law_1465 : decode cL_law 1465 = .ok (.aload_n 0, 1) := by decide +kernel
theorem dL_law_1466 : decode cL_law 1466 = .ok (.iload 4, 2) := by decide +kernel
theorem dL_law_1468 : decode cL_law 1468 = .ok (.iconst 1, 1) := by decide +kernel
theorem dL_law_1469 : decode cL_law 1469 = .ok (.iadd, 1) := by decide +kernel
theorem dL_law_1470 : decode cL_law 1470 = .ok (.iaload, 1) := by decide +kernel
theorem dL_law_1471 : decode cL_law 1471 = .ok (.aload_n 0, 1) := by decide +kernel
theorem dL_law_1472 : decode cL_law 1472 = .ok (.iload 4, 2) := by decide +kernel
theorem dL_law_1474 : decode cL_law 1474 = .ok (.iconst 2, 1) := by decide +kernel
theorem dL_law_1475 : decode cL_law 1475 = .ok (.iadd, 1) := by decide +kernel
theorem dL_law_1476 : decode cL_law 1476 = .ok (.iaload, 1) := by decide +kernel
theorem dL_law_1477 : decode cL_law 1477 = .ok (.invokevirtual 189, 3) := by decide +kernel
theorem dL_law_1480 : decode cL_law 1480 = .ok (.aload_n 2, 1) := by decide +kernel
theorem dL_law_1481 : decode cL_law 1481 = .ok (.aload_n 0, 1) := by decide +kernel
theorem dL_law_1482 : decode cL_law 1482 = .ok (.iload 4, 2) := by decide +kernel
theorem dL_law_1484 : decode cL_law 1484 = .ok (.iconst 1, 1) := by decide +kernel
theorem dL_law_1485 : decode cL_law 1485 = .ok (.iadd, 1) := by decide +kernel
theorem dL_law_1486 : decode cL_law 1486 = .ok (.iaload, 1) := by decide +kernel
theorem dL_law_1487 : decode cL_law 1487 = .ok (.aload_n 0, 1) := by decide +kernel
theorem dL_law_1488 : decode cL_law 1488 = .ok (.iload 4, 2) := by decide +kernel
theorem dL_law_1490 : decode cL_law 1490 = .ok (.iconst 2, 1) := by decide +kernel
theorem dL_law_1491 : decode cL_law 1491 = .ok (.iadd, 1) := by decide +kernel
theorem dL_law_1492 : decode cL_law 1492 = .ok (.iaload, 1) := by decide +kernel
theorem dL_law_1493 : decode cL_law 1493 = .ok (.invokevirtual 192, 3) := by decide +kernel
theorem dL_law_1496 : decode cL_law 1496 = .ok (.if_icmp .eq 186, 3) := by decide +kernel
theorem dL_law_1499 : decode cL_law 1499 = .ok (.iconst 0, 1) := by decide +kernel
theorem dL_law_1500 : decode cL_law 1500 = .ok (.ireturn, 1) := by decide +kernel
theorem dL_law_1501 : decode cL_law 1501 = .ok (.aload_n 1, 1) := by decide +kernel
theorem dL_law_1502 : decode cL_law 1502 = .ok (.aload_n 0, 1) := by decide +kernel
theorem dL_law_1503 : decode cL_law 1503 = .ok (.iload 4, 2) := by decide +kernel
theorem dL_law_1505 : decode cL_law 1505 = .ok (.iconst 1, 1) := by decide +kernel
theorem dL_law_1506 : decode cL_law 1506 = .ok (.iadd, 1) := by decide +kernel
theorem dL_law_1507 : decode cL_law 1507 = .ok (.iaload, 1) := by decide +kernel
theorem dL_law_1508 : decode cL_law 1508 = .ok (.invokevirtual 193, 3) := by decide +kernel
theorem dL_law_1511 : decode cL_law 1511 = .ok (.aload_n 2, 1) := by decide +kernel
theorem dL_law_1512 : decode cL_law 1512 = .ok (.aload_n 0, 1) := by decide +kernel
theorem dL_law_1513 : decode cL_law 1513 = .ok (.iload 4, 2) := by decide +kernel
theorem dL_law_1515 : decode cL_law 1515 = .ok (.iconst 1, 1) := by decide +kernel
theorem dL_law_1516 : decode cL_law 1516 = .ok (.iadd, 1) := by decide +kernel
theorem dL_law_1517 : decode cL_law 1517 = .ok (.iaload, 1) := by decide +kernel
theorem dL_law_1518 : decode cL_law 1518 = .ok (.invokevirtual 196, 3) := by decide +kernel
theorem dL_law_1521 : decode cL_law 1521 = .ok (.if_icmp .eq 161, 3) := by decide +kernel
theorem dL_law_1524 : decode cL_law 1524 = .ok (.iconst 0, 1) := by decide +kernel
theorem dL_law_1525 : decode cL_law 1525 = .ok (.ireturn, 1) := by decide +kernel
theorem dL_law_1526 : decode cL_law 1526 = .ok (.aload_n 1, 1) := by decide +kernel
theorem dL_law_1527 : decode cL_law 1527 = .ok (.invokevirtual 197, 3) := by decide +kernel
theorem dL_law_1530 : decode cL_law 1530 = .ok (.aload_n 2, 1) := by decide +kernel
theorem dL_law_1531 : decode cL_law 1531 = .ok (.invokevirtual 200, 3) := by decide +kernel
theorem dL_law_1534 : decode cL_law 1534 = .ok (.if_icmp .eq 148, 3) := by decide +kernel
theorem dL_law_1537 : decode cL_law 1537 = .ok (.iconst 0, 1) := by decide +kernel
theorem dL_law_1538 : decode cL_law 1538 = .ok (.ireturn, 1) := by decide +kernel
theorem dL_law_1539 : decode cL_law 1539 = .ok (.aload_n 1, 1) := by decide +kernel
theorem dL_law_1540 : decode cL_law 1540 = .ok (.invokevirtual 201, 3) := by decide +kernel
theorem dL_law_1543 : decode cL_law 1543 = .ok (.aload_n 2, 1) := by decide +kernel
theorem dL_law_1544 : decode cL_law 1544 = .ok (.invokevirtual 204, 3) := by decide +kernel
theorem dL_law_1547 : decode cL_law 1547 = .ok (.if_icmp .eq 135, 3) := by decide +kernel
theorem dL_law_1550 : decode cL_law 1550 = .ok (.iconst 0, 1) := by decide +kernel
theorem dL_law_1551 : decode cL_law 1551 = .ok (.ireturn, 1) := by decide +kernel
theorem dL_law_1552 : decode cL_law 1552 = .ok (.aload_n 1, 1) := by decide +kernel
theorem dL_law_1553 : decode cL_law 1553 = .ok (.aload_n 0, 1) := by decide +kernel
theorem dL_law_1554 : decode cL_law 1554 = .ok (.iload 4, 2) := by decide +kernel
theorem dL_law_1556 : decode cL_law 1556 = .ok (.iconst 1, 1) := by decide +kernel
theorem dL_law_1557 : decode cL_law 1557 = .ok (.iadd, 1) := by decide +kernel
theorem dL_law_1558 : decode cL_law 1558 = .ok (.iaload, 1) := by decide +kernel
theorem dL_law_1559 : decode cL_law 1559 = .ok (.aload_n 0, 1) := by decide +kernel
theorem dL_law_1560 : decode cL_law 1560 = .ok (.iload 4, 2) := by decide +kernel
theorem dL_law_1562 : decode cL_law 1562 = .ok (.iconst 2, 1) := by decide +kernel
theorem dL_law_1563 : decode cL_law 1563 = .ok (.iadd, 1) := by decide +kernel
theorem dL_law_1564 : decode cL_law 1564 = .ok (.iaload, 1) := by decide +kernel
theorem dL_law_1565 : decode cL_law 1565 = .ok (.invokevirtual 205, 3) := by decide +kernel
theorem dL_law_1568 : decode cL_law 1568 = .ok (.aload_n 2, 1) := by decide +kernel
theorem dL_law_1569 : decode cL_law 1569 = .ok (.aload_n 0, 1) := by decide +kernel
theorem dL_law_1570 : decode cL_law 1570 = .ok (.iload 4, 2) := by decide +kernel
theorem dL_law_1572 : decode cL_law 1572 = .ok (.iconst 1, 1) := by decide +kernel
theorem dL_law_1573 : decode cL_law 1573 = .ok (.iadd, 1) := by decide +kernel
theorem dL_law_1574 : decode cL_law 1574 = .ok (.iaload, 1) := by decide +kernel
theorem dL_law_1575 : decode cL_law 1575 = .ok (.aload_n 0, 1) := by decide +kernel
theorem dL_law_1576 : decode cL_law 1576 = .ok (.iload 4, 2) := by decide +kernel
theorem dL_law_1578 : decode cL_law 1578 = .ok (.iconst 2, 1) := by decide +kernel
theorem dL_law_1579 : decode cL_law 1579 = .ok (.iadd, 1) := by decide +kernel
theorem dL_law_1580 : decode cL_law 1580 = .ok (.iaload, 1) := by decide +kernel
theorem dL_law_1581 : decode cL_law 1581 = .ok (.invokevirtual 208, 3) := by decide +kernel
theorem dL_law_1584 : decode cL_law 1584 = .ok (.if_icmp .eq 98, 3) := by decide +kernel
theorem dL_law_1587 : decode cL_law 1587 = .ok (.iconst 0, 1) := by decide +kernel
theorem dL_law_1588 : decode cL_law 1588 = .ok (.ireturn, 1) := by decide +kernel
theorem dL_law_1589 : decode cL_law 1589 = .ok (.aload_n 1, 1) := by decide +kernel
theorem dL_law_1590 : decode cL_law 1590 = .ok (.invokevirtual 209, 3) := by decide +kernel
theorem dL_law_1593 : decode cL_law 1593 = .ok (.aload_n 2, 1) := by decide +kernel
theorem dL_law_1594 : decode cL_law 1594 = .ok (.invokevirtual 212, 3) := by decide +kernel
theorem dL_law_1597 : decode cL_law 1597 = .ok (.if_icmp .eq 85, 3) := by decide +kernel
theorem dL_law_1600 : decode cL_law 1600 = .ok (.iconst 0, 1) := by decide +kernel
theorem dL_law_1601 : decode cL_law 1601 = .ok (.ireturn, 1) := by decide +kernel
theorem dL_law_1602 : decode cL_law 1602 = .ok (.aload_n 1, 1) := by decide +kernel
theorem dL_law_1603 : decode cL_law 1603 = .ok (.aload_n 0, 1) := by decide +kernel
theorem dL_law_1604 : decode cL_law 1604 = .ok (.iload 4, 2) := by decide +kernel
theorem dL_law_1606 : decode cL_law 1606 = .ok (.iconst 1, 1) := by decide +kernel
theorem dL_law_1607 : decode cL_law 1607 = .ok (.iadd, 1) := by decide +kernel
theorem dL_law_1608 : decode cL_law 1608 = .ok (.iaload, 1) := by decide +kernel
theorem dL_law_1609 : decode cL_law 1609 = .ok (.invokevirtual 213, 3) := by decide +kernel
theorem dL_law_1612 : decode cL_law 1612 = .ok (.aload_n 2, 1) := by decide +kernel
theorem dL_law_1613 : decode cL_law 1613 = .ok (.aload_n 0, 1) := by decide +kernel
theorem dL_law_1614 : decode cL_law 1614 = .ok (.iload 4, 2) := by decide +kernel
theorem dL_law_1616 : decode cL_law 1616 = .ok (.iconst 1, 1) := by decide +kernel
theorem dL_law_1617 : decode cL_law 1617 = .ok (.iadd, 1) := by decide +kernel
theorem dL_law_1618 : decode cL_law 1618 = .ok (.iaload, 1) := by decide +kernel
theorem dL_law_1619 : decode cL_law 1619 = .ok (.invokevirtual 216, 3) := by decide +kernel
theorem dL_law_1622 : decode cL_law 1622 = .ok (.if_icmp .eq 60, 3) := by decide +kernel
theorem dL_law_1625 : decode cL_law 1625 = .ok (.iconst 0, 1) := by decide +kernel
theorem dL_law_1626 : decode cL_law 1626 = .ok (.ireturn, 1) := by decide +kernel
theorem dL_law_1627 : decode cL_law 1627 = .ok (.aload_n 1, 1) := by decide +kernel
theorem dL_law_1628 : decode cL_law 1628 = .ok (.aload_n 0, 1) := by decide +kernel
theorem dL_law_1629 : decode cL_law 1629 = .ok (.iload 4, 2) := by decide +kernel
theorem dL_law_1631 : decode cL_law 1631 = .ok (.iconst 1, 1) := by decide +kernel
theorem dL_law_1632 : decode cL_law 1632 = .ok (.iadd, 1) := by decide +kernel
theorem dL_law_1633 : decode cL_law 1633 = .ok (.iaload, 1) := by decide +kernel
theorem dL_law_1634 : decode cL_law 1634 = .ok (.aload_n 3, 1) := by decide +kernel
theorem dL_law_1635 : decode cL_law 1635 = .ok (.invokestatic 217, 3) := by decide +kernel
theorem dL_law_1638 : decode cL_law 1638 = .ok (.istore 5, 2) := by decide +kernel
theorem dL_law_1640 : decode cL_law 1640 = .ok (.aload_n 2, 1) := by decide +kernel
theorem dL_law_1641 : decode cL_law 1641 = .ok (.aload_n 0, 1) := by decide +kernel
theorem dL_law_1642 : decode cL_law 1642 = .ok (.iload 4, 2) := by decide +kernel
theorem dL_law_1644 : decode cL_law 1644 = .ok (.iconst 1, 1) := by decide +kernel
theorem dL_law_1645 : decode cL_law 1645 = .ok (.iadd, 1) := by decide +kernel
theorem dL_law_1646 : decode cL_law 1646 = .ok (.iaload, 1) := by decide +kernel
theorem dL_law_1647 : decode cL_law 1647 = .ok (.invokevirtual 220, 3) := by decide +kernel
theorem dL_law_1650 : decode cL_law 1650 = .ok (.lstore 6, 2) := by decide +kernel
theorem dL_law_1652 : decode cL_law 1652 = .ok (.aload_n 2, 1) := by decide +kernel
theorem dL_law_1653 : decode cL_law 1653 = .ok (.invokevirtual 107, 3) := by decide +kernel
theorem dL_law_1656 : decode cL_law 1656 = .ok (.iload 5, 2) := by decide +kernel
theorem dL_law_1658 : decode cL_law 1658 = .ok (.if_icmp .eq 5, 3) := by decide +kernel
theorem dL_law_1661 : decode cL_law 1661 = .ok (.iconst 0, 1) := by decide +kernel
theorem dL_law_1662 : decode cL_law 1662 = .ok (.ireturn, 1) := by decide +kernel
theorem dL_law_1663 : decode cL_law 1663 = .ok (.iload 5, 2) := by decide +kernel
theorem dL_law_1665 : decode cL_law 1665 = .ok (.ifCond .ne 14, 3) := by decide +kernel
theorem dL_law_1668 : decode cL_law 1668 = .ok (.aload_n 3, 1) := by decide +kernel
theorem dL_law_1669 : decode cL_law 1669 = .ok (.iconst 0, 1) := by decide +kernel
theorem dL_law_1670 : decode cL_law 1670 = .ok (.laload, 1) := by decide +kernel
theorem dL_law_1671 : decode cL_law 1671 = .ok (.lload 6, 2) := by decide +kernel
theorem dL_law_1673 : decode cL_law 1673 = .ok (.lcmp, 1) := by decide +kernel
theorem dL_law_1674 : decode cL_law 1674 = .ok (.ifCond .eq 5, 3) := by decide +kernel
theorem dL_law_1677 : decode cL_law 1677 = .ok (.iconst 0, 1) := by decide +kernel
theorem dL_law_1678 : decode cL_law 1678 = .ok (.ireturn, 1) := by decide +kernel
theorem dL_law_1679 : decode cL_law 1679 = .ok (.goto 3, 3) := by decide +kernel
theorem dL_law_1682 : decode cL_law 1682 = .ok (.iinc 4 5, 3) := by decide +kernel
theorem dL_law_1685 : decode cL_law 1685 = .ok (.goto (-1662), 3) := by decide +kernel
theorem dL_law_1688 : decode cL_law 1688 = .ok (.iconst 1, 1) := by decide +kernel
theorem dL_law_1689 : decode cL_law 1689 = .ok (.ireturn, 1) := by decide +kernel
