theorem dL_law_1439 : decode code 1439 = .ok (.iaload, 1) := by decide +kernel
theorem dL_law_1440 : decode code 1440 = .ok (.invokevirtual 193, 3) := by decide +kernel
theorem dL_law_1443 : decode code 1443 = .ok (.aload_n 2, 1) := by decide +kernel
theorem dL_law_1444 : decode code 1444 = .ok (.aload_n 0, 1) := by decide +kernel
theorem dL_law_1445 : decode code 1445 = .ok (.iload 4, 2) := by decide +kernel
theorem dL_law_1447 : decode code 1447 = .ok (.iconst 1, 1) := by decide +kernel
theorem dL_law_1448 : decode code 1448 = .ok (.iadd, 1) := by decide +kernel
theorem dL_law_1449 : decode code 1449 = .ok (.iaload, 1) := by decide +kernel
theorem dL_law_1450 : decode code 1450 = .ok (.invokevirtual 196, 3) := by decide +kernel
theorem dL_law_1453 : decode code 1453 = .ok (.if_icmp .eq 223, 3) := by decide +kernel
theorem dL_law_1456 : decode code 1456 = .ok (.iconst 0, 1) := by decide +kernel
theorem dL_law_1457 : decode code 1457 = .ok (.ireturn, 1) := by decide +kernel
theorem dL_law_1458 : decode code 1458 = .ok (.aload_n 1, 1) := by decide +kernel
theorem dL_law_1459 : decode code 1459 = .ok (.aload_n 0, 1) := by decide +kernel
theorem dL_law_1460 : decode code 1460 = .ok (.iload 4, 2) := by decide +kernel
theorem dL_law_1462 : decode code 1462 = .ok (.iconst 1, 1) := by decide +kernel
theorem dL_law_1463 : decode code 1463 = .ok (.iadd, 1) := by decide +kernel
theorem dL_law_1464 : decode code 1464 = .ok (.iaload, 1) := by decide +kernel
theorem dL_law_1465 : decode code 1465 = .ok (.aload_n 0, 1) := by decide +kernel
theorem dL_law_1466 : decode code 1466 = .ok (.iload 4, 2) := by decide +kernel
theorem dL_law_1468 : decode code 1468 = .ok (.iconst 2, 1) := by decide +kernel
theorem dL_law_1469 : decode code 1469 = .ok (.iadd, 1) := by decide +kernel
theorem dL_law_1470 : decode code 1470 = .ok (.iaload, 1) := by decide +kernel
theorem dL_law_1471 : decode code 1471 = .ok (.aload_n 0, 1) := by decide +kernel
theorem dL_law_1472 : decode code 1472 = .ok (.iload 4, 2) := by decide +kernel
theorem dL_law_1474 : decode code 1474 = .ok (.iconst 3, 1) := by decide +kernel
theorem dL_law_1475 : decode code 1475 = .ok (.iadd, 1) := by decide +kernel
theorem dL_law_1476 : decode code 1476 = .ok (.iaload, 1) := by decide +kernel
theorem dL_law_1477 : decode code 1477 = .ok (.ifCond .eq 7, 3) := by decide +kernel
theorem dL_law_1480 : decode code 1480 = .ok (.iconst 1, 1) := by decide +kernel
theorem dL_law_1481 : decode code 1481 = .ok (.goto 4, 3) := by decide +kernel
theorem dL_law_1484 : decode code 1484 = .ok (.iconst 0, 1) := by decide +kernel
theorem dL_law_1485 : decode code 1485 = .ok (.invokevirtual 197, 3) := by decide +kernel
theorem dL_law_1488 : decode code 1488 = .ok (.aload_n 2, 1) := by decide +kernel
theorem dL_law_1489 : decode code 1489 = .ok (.aload_n 0, 1) := by decide +kernel
theorem dL_law_1490 : decode code 1490 = .ok (.iload 4, 2) := by decide +kernel
theorem dL_law_1492 : decode code 1492 = .ok (.iconst 1, 1) := by decide +kernel
theorem dL_law_1493 : decode code 1493 = .ok (.iadd, 1) := by decide +kernel
theorem dL_law_1494 : decode code 1494 = .ok (.iaload, 1) := by decide +kernel
theorem dL_law_1495 : decode code 1495 = .ok (.aload_n 0, 1) := by decide +kernel
theorem dL_law_1496 : decode code 1496 = .ok (.iload 4, 2) := by decide +kernel
theorem dL_law_1498 : decode code 1498 = .ok (.iconst 2, 1) := by decide +kernel
theorem dL_law_1499 : decode code 1499 = .ok (.iadd, 1) := by decide +kernel
theorem dL_law_1500 : decode code 1500 = .ok (.iaload, 1) := by decide +kernel
theorem dL_law_1501 : decode code 1501 = .ok (.aload_n 0, 1) := by decide +kernel
theorem dL_law_1502 : decode code 1502 = .ok (.iload 4, 2) := by decide +kernel
theorem dL_law_1504 : decode code 1504 = .ok (.iconst 3, 1) := by decide +kernel
theorem dL_law_1505 : decode code 1505 = .ok (.iadd, 1) := by decide +kernel
theorem dL_law_1506 : decode code 1506 = .ok (.iaload, 1) := by decide +kernel
theorem dL_law_1507 : decode code 1507 = .ok (.ifCond .eq 7, 3) := by decide +kernel
theorem dL_law_1510 : decode code 1510 = .ok (.iconst 1, 1) := by decide +kernel
theorem dL_law_1511 : decode code 1511 = .ok (.goto 4, 3) := by decide +kernel
theorem dL_law_1514 : decode code 1514 = .ok (.iconst 0, 1) := by decide +kernel
theorem dL_law_1515 : decode code 1515 = .ok (.invokevirtual 201, 3) := by decide +kernel
theorem dL_law_1518 : decode code 1518 = .ok (.if_icmp .eq 158, 3) := by decide +kernel
theorem dL_law_1521 : decode code 1521 = .ok (.iconst 0, 1) := by decide +kernel
theorem dL_law_1522 : decode code 1522 = .ok (.ireturn, 1) := by decide +kernel
theorem dL_law_1523 : decode code 1523 = .ok (.aload_n 1, 1) := by decide +kernel
theorem dL_law_1524 : decode code 1524 = .ok (.invokevirtual 202, 3) := by decide +kernel
theorem dL_law_1527 : decode code 1527 = .ok (.aload_n 2, 1) := by decide +kernel
theorem dL_law_1528 : decode code 1528 = .ok (.invokevirtual 205, 3) := by decide +kernel
theorem dL_law_1531 : decode code 1531 = .ok (.if_icmp .eq 145, 3) := by decide +kernel
theorem dL_law_1534 : decode code 1534 = .ok (.iconst 0, 1) := by decide +kernel
theorem dL_law_1535 : decode code 1535 = .ok (.ireturn, 1) := by decide +kernel
theorem dL_law_1536 : decode code 1536 = .ok (.aload_n 1, 1) := by decide +kernel
theorem dL_law_1537 : decode code 1537 = .ok (.invokevirtual 206, 3) := by decide +kernel
theorem dL_law_1540 : decode code 1540 = .ok (.aload_n 2, 1) := by decide +kernel
theorem dL_law_1541 : decode code 1541 = .ok (.invokevirtual 209, 3) := by decide +kernel
theorem dL_law_1544 : decode code 1544 = .ok (.if_icmp .eq 132, 3) := by decide +kernel
theorem dL_law_1547 : decode code 1547 = .ok (.iconst 0, 1) := by decide +kernel
theorem dL_law_1548 : decode code 1548 = .ok (.ireturn, 1) := by decide +kernel
theorem dL_law_1549 : decode code 1549 = .ok (.aload_n 1, 1) := by decide +kernel
theorem dL_law_1550 : decode code 1550 = .ok (.aload_n 0, 1) := by decide +kernel
theorem dL_law_1551 : decode code 1551 = .ok (.iload 4, 2) := by decide +kernel
theorem dL_law_1553 : decode code 1553 = .ok (.iconst 1, 1) := by decide +kernel
theorem dL_law_1554 : decode code 1554 = .ok (.iadd, 1) := by decide +kernel
theorem dL_law_1555 : decode code 1555 = .ok (.iaload, 1) := by decide +kernel
theorem dL_law_1556 : decode code 1556 = .ok (.aload_n 0, 1) := by decide +kernel
theorem dL_law_1557 : decode code 1557 = .ok (.iload 4, 2) := by decide +kernel
theorem dL_law_1559 : decode code 1559 = .ok (.iconst 2, 1) := by decide +kernel
theorem dL_law_1560 : decode code 1560 = .ok (.iadd, 1) := by decide +kernel
theorem dL_law_1561 : decode code 1561 = .ok (.iaload, 1) := by decide +kernel
theorem dL_law_1562 : decode code 1562 = .ok (.aload_n 0, 1) := by decide +kernel
theorem dL_law_1563 : decode code 1563 = .ok (.iload 4, 2) := by decide +kernel
theorem dL_law_1565 : decode code 1565 = .ok (.iconst 3, 1) := by decide +kernel
theorem dL_law_1566 : decode code 1566 = .ok (.iadd, 1) := by decide +kernel
theorem dL_law_1567 : decode code 1567 = .ok (.iaload, 1) := by decide +kernel
theorem dL_law_1568 : decode code 1568 = .ok (.invokevirtual 210, 3) := by decide +kernel
theorem dL_law_1571 : decode code 1571 = .ok (.aload_n 2, 1) := by decide +kernel
theorem dL_law_1572 : decode code 1572 = .ok (.aload_n 0, 1) := by decide +kernel
theorem dL_law_1573 : decode code 1573 = .ok (.iload 4, 2) := by decide +kernel
theorem dL_law_1575 : decode code 1575 = .ok (.iconst 1, 1) := by decide +kernel
theorem dL_law_1576 : decode code 1576 = .ok (.iadd, 1) := by decide +kernel
theorem dL_law_1577 : decode code 1577 = .ok (.iaload, 1) := by decide +kernel
theorem dL_law_1578 : decode code 1578 = .ok (.aload_n 0, 1) := by decide +kernel
theorem dL_law_1579 : decode code 1579 = .ok (.iload 4, 2) := by decide +kernel
theorem dL_law_1581 : decode code 1581 = .ok (.iconst 2, 1) := by decide +kernel
theorem dL_law_1582 : decode code 1582 = .ok (.iadd, 1) := by decide +kernel
theorem dL_law_1583 : decode code 1583 = .ok (.iaload, 1) := by decide +kernel
theorem dL_law_1584 : decode code 1584 = .ok (.aload_n 0, 1) := by decide +kernel
theorem dL_law_1585 : decode code 1585 = .ok (.iload 4, 2) := by decide +kernel
theorem dL_law_1587 : decode code 1587 = .ok (.iconst 3, 1) := by decide +kernel
theorem dL_law_1588 : decode code 1588 = .ok (.iadd, 1) := by decide +kernel
theorem dL_law_1589 : decode code 1589 = .ok (.iaload, 1) := by decide +kernel
theorem dL_law_1590 : decode code 1590 = .ok (.invokevirtual 213, 3) := by decide +kernel
theorem dL_law_1593 : decode code 1593 = .ok (.if_icmp .eq 83, 3) := by decide +kernel
theorem dL_law_1596 : decode code 1596 = .ok (.iconst 0, 1) := by decide +kernel
theorem dL_law_1597 : decode code 1597 = .ok (.ireturn, 1) := by decide +kernel
theorem dL_law_1598 : decode code 1598 = .ok (.aload_n 1, 1) := by decide +kernel
theorem dL_law_1599 : decode code 1599 = .ok (.aload_n 0, 1) := by decide +kernel
theorem dL_law_1600 : decode code 1600 = .ok (.iload 4, 2) := by decide +kernel
theorem dL_law_1602 : decode code 1602 = .ok (.iconst 1, 1) := by decide +kernel
theorem dL_law_1603 : decode code 1603 = .ok (.iadd, 1) := by decide +kernel
theorem dL_law_1604 : decode code 1604 = .ok (.iaload, 1) := by decide +kernel
theorem dL_law_1605 : decode code 1605 = .ok (.aload_n 0, 1) := by decide +kernel
theorem dL_law_1606 : decode code 1606 = .ok (.iload 4, 2) := by decide +kernel
theorem dL_law_1608 : decode code 1608 = .ok (.iconst 2, 1) := by decide +kernel
theorem dL_law_1609 : decode code 1609 = .ok (.iadd, 1) := by decide +kernel
theorem dL_law_1610 : decode code 1610 = .ok (.iaload, 1) := by decide +kernel
theorem dL_law_1611 : decode code 1611 = .ok (.ifCond .eq 7, 3) := by decide +kernel
theorem dL_law_1614 : decode code 1614 = .ok (.iconst 1, 1) := by decide +kernel
theorem dL_law_1615 : decode code 1615 = .ok (.goto 4, 3) := by decide +kernel
theorem dL_law_1618 : decode code 1618 = .ok (.iconst 0, 1) := by decide +kernel
theorem dL_law_1619 : decode code 1619 = .ok (.invokevirtual 214, 3) := by decide +kernel
theorem dL_law_1622 : decode code 1622 = .ok (.aload_n 2, 1) := by decide +kernel
theorem dL_law_1623 : decode code 1623 = .ok (.aload_n 0, 1) := by decide +kernel
theorem dL_law_1624 : decode code 1624 = .ok (.iload 4, 2) := by decide +kernel
theorem dL_law_1626 : decode code 1626 = .ok (.iconst 1, 1) := by decide +kernel
theorem dL_law_1627 : decode code 1627 = .ok (.iadd, 1) := by decide +kernel
theorem dL_law_1628 : decode code 1628 = .ok (.iaload, 1) := by decide +kernel
theorem dL_law_1629 : decode code 1629 = .ok (.aload_n 0, 1) := by decide +kernel
theorem dL_law_1630 : decode code 1630 = .ok (.iload 4, 2) := by decide +kernel
theorem dL_law_1632 : decode code 1632 = .ok (.iconst 2, 1) := by decide +kernel
theorem dL_law_1633 : decode code 1633 = .ok (.iadd, 1) := by decide +kernel
theorem dL_law_1634 : decode code 1634 = .ok (.iaload, 1) := by decide +kernel
theorem dL_law_1635 : decode code 1635 = .ok (.ifCond .eq 7, 3) := by decide +kernel
theorem dL_law_1638 : decode code 1638 = .ok (.iconst 1, 1) := by decide +kernel
theorem dL_law_1639 : decode code 1639 = .ok (.goto 4, 3) := by decide +kernel
theorem dL_law_1642 : decode code 1642 = .ok (.iconst 0, 1) := by decide +kernel
theorem dL_law_1643 : decode code 1643 = .ok (.invokevirtual 218, 3) := by decide +kernel
theorem dL_law_1646 : decode code 1646 = .ok (.if_icmp .eq 30, 3) := by decide +kernel
theorem dL_law_1649 : decode code 1649 = .ok (.iconst 0, 1) := by decide +kernel
theorem dL_law_1650 : decode code 1650 = .ok (.ireturn, 1) := by decide +kernel
theorem dL_law_1651 : decode code 1651 = .ok (.aload_n 1, 1) := by decide +kernel
theorem dL_law_1652 : decode code 1652 = .ok (.aload_n 0, 1) := by decide +kernel
theorem dL_law_1653 : decode code 1653 = .ok (.iload 4, 2) := by decide +kernel
theorem dL_law_1655 : decode code 1655 = .ok (.iconst 1, 1) := by decide +kernel
theorem dL_law_1656 : decode code 1656 = .ok (.iadd, 1) := by decide +kernel
theorem dL_law_1657 : decode code 1657 = .ok (.iaload, 1) := by decide +kernel
theorem dL_law_1658 : decode code 1658 = .ok (.invokevirtual 219, 3) := by decide +kernel
theorem dL_law_1661 : decode code 1661 = .ok (.aload_n 2, 1) := by decide +kernel
theorem dL_law_1662 : decode code 1662 = .ok (.aload_n 0, 1) := by decide +kernel
theorem dL_law_1663 : decode code 1663 = .ok (.iload 4, 2) := by decide +kernel
theorem dL_law_1665 : decode code 1665 = .ok (.iconst 1, 1) := by decide +kernel
theorem dL_law_1666 : decode code 1666 = .ok (.iadd, 1) := by decide +kernel
theorem dL_law_1667 : decode code 1667 = .ok (.iaload, 1) := by decide +kernel
theorem dL_law_1668 : decode code 1668 = .ok (.invokevirtual 222, 3) := by decide +kernel
theorem dL_law_1671 : decode code 1671 = .ok (.if_icmp .eq 5, 3) := by decide +kernel
theorem dL_law_1674 : decode code 1674 = .ok (.iconst 0, 1) := by decide +kernel
theorem dL_law_1675 : decode code 1675 = .ok (.ireturn, 1) := by decide +kernel
theorem dL_law_1676 : decode code 1676 = .ok (.iinc 4 7, 3) := by decide +kernel
theorem dL_law_1679 : decode code 1679 = .ok (.goto (-1656), 3) := by decide +kernel
theorem dL_law_1682 : decode code 1682 = .ok (.iconst 1, 1) := by decide +kernel
theorem dL_law_1683 : decode code 1683 = .ok (.ireturn, 1) := by decide +kernel
