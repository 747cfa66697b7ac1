theorem dL_1516 : decode code 1516 = .ok (.iaload, 1) := by decide +kernel
theorem dL_1517 : decode code 1517 = .ok (.aload_n 0, 1) := by decide +kernel
theorem dL_1518 : decode code 1518 = .ok (.iload_n 3, 1) := by decide +kernel
theorem dL_1519 : decode code 1519 = .ok (.iconst 2, 1) := by decide +kernel
theorem dL_1520 : decode code 1520 = .ok (.iadd, 1) := by decide +kernel
theorem dL_1521 : decode code 1521 = .ok (.iaload, 1) := by decide +kernel
theorem dL_1522 : decode code 1522 = .ok (.aload_n 0, 1) := by decide +kernel
theorem dL_1523 : decode code 1523 = .ok (.iload_n 3, 1) := by decide +kernel
theorem dL_1524 : decode code 1524 = .ok (.iconst 3, 1) := by decide +kernel
theorem dL_1525 : decode code 1525 = .ok (.iadd, 1) := by decide +kernel
theorem dL_1526 : decode code 1526 = .ok (.iaload, 1) := by decide +kernel
theorem dL_1527 : decode code 1527 = .ok (.invokevirtual 159, 3) := by decide +kernel
theorem dL_1530 : decode code 1530 = .ok (.aload_n 2, 1) := by decide +kernel
theorem dL_1531 : decode code 1531 = .ok (.aload_n 0, 1) := by decide +kernel
theorem dL_1532 : decode code 1532 = .ok (.iload_n 3, 1) := by decide +kernel
theorem dL_1533 : decode code 1533 = .ok (.iconst 1, 1) := by decide +kernel
theorem dL_1534 : decode code 1534 = .ok (.iadd, 1) := by decide +kernel
theorem dL_1535 : decode code 1535 = .ok (.iaload, 1) := by decide +kernel
theorem dL_1536 : decode code 1536 = .ok (.aload_n 0, 1) := by decide +kernel
theorem dL_1537 : decode code 1537 = .ok (.iload_n 3, 1) := by decide +kernel
theorem dL_1538 : decode code 1538 = .ok (.iconst 2, 1) := by decide +kernel
theorem dL_1539 : decode code 1539 = .ok (.iadd, 1) := by decide +kernel
theorem dL_1540 : decode code 1540 = .ok (.iaload, 1) := by decide +kernel
theorem dL_1541 : decode code 1541 = .ok (.aload_n 0, 1) := by decide +kernel
theorem dL_1542 : decode code 1542 = .ok (.iload_n 3, 1) := by decide +kernel
theorem dL_1543 : decode code 1543 = .ok (.iconst 3, 1) := by decide +kernel
theorem dL_1544 : decode code 1544 = .ok (.iadd, 1) := by decide +kernel
theorem dL_1545 : decode code 1545 = .ok (.iaload, 1) := by decide +kernel
theorem dL_1546 : decode code 1546 = .ok (.invokevirtual 162, 3) := by decide +kernel
theorem dL_1549 : decode code 1549 = .ok (.if_icmp .eq 196, 3) := by decide +kernel
theorem dL_1552 : decode code 1552 = .ok (.iconst 0, 1) := by decide +kernel
theorem dL_1553 : decode code 1553 = .ok (.ireturn, 1) := by decide +kernel
theorem dL_1554 : decode code 1554 = .ok (.aload_n 1, 1) := by decide +kernel
theorem dL_1555 : decode code 1555 = .ok (.aload_n 0, 1) := by decide +kernel
theorem dL_1556 : decode code 1556 = .ok (.iload_n 3, 1) := by decide +kernel
theorem dL_1557 : decode code 1557 = .ok (.iconst 1, 1) := by decide +kernel
theorem dL_1558 : decode code 1558 = .ok (.iadd, 1) := by decide +kernel
theorem dL_1559 : decode code 1559 = .ok (.iaload, 1) := by decide +kernel
theorem dL_1560 : decode code 1560 = .ok (.aload_n 0, 1) := by decide +kernel
theorem dL_1561 : decode code 1561 = .ok (.iload_n 3, 1) := by decide +kernel
theorem dL_1562 : decode code 1562 = .ok (.iconst 2, 1) := by decide +kernel
theorem dL_1563 : decode code 1563 = .ok (.iadd, 1) := by decide +kernel
theorem dL_1564 : decode code 1564 = .ok (.iaload, 1) := by decide +kernel
theorem dL_1565 : decode code 1565 = .ok (.aload_n 0, 1) := by decide +kernel
theorem dL_1566 : decode code 1566 = .ok (.iload_n 3, 1) := by decide +kernel
theorem dL_1567 : decode code 1567 = .ok (.iconst 3, 1) := by decide +kernel
theorem dL_1568 : decode code 1568 = .ok (.iadd, 1) := by decide +kernel
theorem dL_1569 : decode code 1569 = .ok (.iaload, 1) := by decide +kernel
theorem dL_1570 : decode code 1570 = .ok (.aload_n 0, 1) := by decide +kernel
theorem dL_1571 : decode code 1571 = .ok (.iload_n 3, 1) := by decide +kernel
theorem dL_1572 : decode code 1572 = .ok (.iconst 4, 1) := by decide +kernel
theorem dL_1573 : decode code 1573 = .ok (.iadd, 1) := by decide +kernel
theorem dL_1574 : decode code 1574 = .ok (.iaload, 1) := by decide +kernel
theorem dL_1575 : decode code 1575 = .ok (.aload_n 0, 1) := by decide +kernel
theorem dL_1576 : decode code 1576 = .ok (.iload_n 3, 1) := by decide +kernel
theorem dL_1577 : decode code 1577 = .ok (.iconst 5, 1) := by decide +kernel
theorem dL_1578 : decode code 1578 = .ok (.iadd, 1) := by decide +kernel
theorem dL_1579 : decode code 1579 = .ok (.iaload, 1) := by decide +kernel
theorem dL_1580 : decode code 1580 = .ok (.invokevirtual 163, 3) := by decide +kernel
theorem dL_1583 : decode code 1583 = .ok (.aload_n 2, 1) := by decide +kernel
theorem dL_1584 : decode code 1584 = .ok (.aload_n 0, 1) := by decide +kernel
theorem dL_1585 : decode code 1585 = .ok (.iload_n 3, 1) := by decide +kernel
theorem dL_1586 : decode code 1586 = .ok (.iconst 1, 1) := by decide +kernel
theorem dL_1587 : decode code 1587 = .ok (.iadd, 1) := by decide +kernel
theorem dL_1588 : decode code 1588 = .ok (.iaload, 1) := by decide +kernel
theorem dL_1589 : decode code 1589 = .ok (.aload_n 0, 1) := by decide +kernel
theorem dL_1590 : decode code 1590 = .ok (.iload_n 3, 1) := by decide +kernel
theorem dL_1591 : decode code 1591 = .ok (.iconst 2, 1) := by decide +kernel
theorem dL_1592 : decode code 1592 = .ok (.iadd, 1) := by decide +kernel
theorem dL_1593 : decode code 1593 = .ok (.iaload, 1) := by decide +kernel
theorem dL_1594 : decode code 1594 = .ok (.aload_n 0, 1) := by decide +kernel
theorem dL_1595 : decode code 1595 = .ok (.iload_n 3, 1) := by decide +kernel
theorem dL_1596 : decode code 1596 = .ok (.iconst 3, 1) := by decide +kernel
theorem dL_1597 : decode code 1597 = .ok (.iadd, 1) := by decide +kernel
theorem dL_1598 : decode code 1598 = .ok (.iaload, 1) := by decide +kernel
theorem dL_1599 : decode code 1599 = .ok (.aload_n 0, 1) := by decide +kernel
theorem dL_1600 : decode code 1600 = .ok (.iload_n 3, 1) := by decide +kernel
theorem dL_1601 : decode code 1601 = .ok (.iconst 4, 1) := by decide +kernel
theorem dL_1602 : decode code 1602 = .ok (.iadd, 1) := by decide +kernel
theorem dL_1603 : decode code 1603 = .ok (.iaload, 1) := by decide +kernel
theorem dL_1604 : decode code 1604 = .ok (.aload_n 0, 1) := by decide +kernel
theorem dL_1605 : decode code 1605 = .ok (.iload_n 3, 1) := by decide +kernel
theorem dL_1606 : decode code 1606 = .ok (.iconst 5, 1) := by decide +kernel
theorem dL_1607 : decode code 1607 = .ok (.iadd, 1) := by decide +kernel
theorem dL_1608 : decode code 1608 = .ok (.iaload, 1) := by decide +kernel
theorem dL_1609 : decode code 1609 = .ok (.invokevirtual 167, 3) := by decide +kernel
theorem dL_1612 : decode code 1612 = .ok (.if_icmp .eq 133, 3) := by decide +kernel
theorem dL_1615 : decode code 1615 = .ok (.iconst 0, 1) := by decide +kernel
theorem dL_1616 : decode code 1616 = .ok (.ireturn, 1) := by decide +kernel
theorem dL_1617 : decode code 1617 = .ok (.aload_n 1, 1) := by decide +kernel
theorem dL_1618 : decode code 1618 = .ok (.aload_n 0, 1) := by decide +kernel
theorem dL_1619 : decode code 1619 = .ok (.iload_n 3, 1) := by decide +kernel
theorem dL_1620 : decode code 1620 = .ok (.iconst 1, 1) := by decide +kernel
theorem dL_1621 : decode code 1621 = .ok (.iadd, 1) := by decide +kernel
theorem dL_1622 : decode code 1622 = .ok (.iaload, 1) := by decide +kernel
theorem dL_1623 : decode code 1623 = .ok (.aload_n 0, 1) := by decide +kernel
theorem dL_1624 : decode code 1624 = .ok (.iload_n 3, 1) := by decide +kernel
theorem dL_1625 : decode code 1625 = .ok (.iconst 2, 1) := by decide +kernel
theorem dL_1626 : decode code 1626 = .ok (.iadd, 1) := by decide +kernel
theorem dL_1627 : decode code 1627 = .ok (.iaload, 1) := by decide +kernel
theorem dL_1628 : decode code 1628 = .ok (.aload_n 0, 1) := by decide +kernel
theorem dL_1629 : decode code 1629 = .ok (.iload_n 3, 1) := by decide +kernel
theorem dL_1630 : decode code 1630 = .ok (.iconst 3, 1) := by decide +kernel
theorem dL_1631 : decode code 1631 = .ok (.iadd, 1) := by decide +kernel
theorem dL_1632 : decode code 1632 = .ok (.iaload, 1) := by decide +kernel
theorem dL_1633 : decode code 1633 = .ok (.invokevirtual 168, 3) := by decide +kernel
theorem dL_1636 : decode code 1636 = .ok (.aload_n 2, 1) := by decide +kernel
theorem dL_1637 : decode code 1637 = .ok (.aload_n 0, 1) := by decide +kernel
theorem dL_1638 : decode code 1638 = .ok (.iload_n 3, 1) := by decide +kernel
theorem dL_1639 : decode code 1639 = .ok (.iconst 1, 1) := by decide +kernel
theorem dL_1640 : decode code 1640 = .ok (.iadd, 1) := by decide +kernel
theorem dL_1641 : decode code 1641 = .ok (.iaload, 1) := by decide +kernel
theorem dL_1642 : decode code 1642 = .ok (.aload_n 0, 1) := by decide +kernel
theorem dL_1643 : decode code 1643 = .ok (.iload_n 3, 1) := by decide +kernel
theorem dL_1644 : decode code 1644 = .ok (.iconst 2, 1) := by decide +kernel
theorem dL_1645 : decode code 1645 = .ok (.iadd, 1) := by decide +kernel
theorem dL_1646 : decode code 1646 = .ok (.iaload, 1) := by decide +kernel
theorem dL_1647 : decode code 1647 = .ok (.aload_n 0, 1) := by decide +kernel
theorem dL_1648 : decode code 1648 = .ok (.iload_n 3, 1) := by decide +kernel
theorem dL_1649 : decode code 1649 = .ok (.iconst 3, 1) := by decide +kernel
theorem dL_1650 : decode code 1650 = .ok (.iadd, 1) := by decide +kernel
theorem dL_1651 : decode code 1651 = .ok (.iaload, 1) := by decide +kernel
theorem dL_1652 : decode code 1652 = .ok (.invokevirtual 171, 3) := by decide +kernel
theorem dL_1655 : decode code 1655 = .ok (.if_icmp .eq 90, 3) := by decide +kernel
theorem dL_1658 : decode code 1658 = .ok (.iconst 0, 1) := by decide +kernel
theorem dL_1659 : decode code 1659 = .ok (.ireturn, 1) := by decide +kernel
theorem dL_1660 : decode code 1660 = .ok (.aload_n 1, 1) := by decide +kernel
theorem dL_1661 : decode code 1661 = .ok (.invokevirtual 172, 3) := by decide +kernel
theorem dL_1664 : decode code 1664 = .ok (.aload_n 2, 1) := by decide +kernel
theorem dL_1665 : decode code 1665 = .ok (.invokevirtual 175, 3) := by decide +kernel
theorem dL_1668 : decode code 1668 = .ok (.if_icmp .eq 77, 3) := by decide +kernel
theorem dL_1671 : decode code 1671 = .ok (.iconst 0, 1) := by decide +kernel
theorem dL_1672 : decode code 1672 = .ok (.ireturn, 1) := by decide +kernel
theorem dL_1673 : decode code 1673 = .ok (.aload_n 1, 1) := by decide +kernel
theorem dL_1674 : decode code 1674 = .ok (.invokevirtual 176, 3) := by decide +kernel
theorem dL_1677 : decode code 1677 = .ok (.aload_n 2, 1) := by decide +kernel
theorem dL_1678 : decode code 1678 = .ok (.invokevirtual 179, 3) := by decide +kernel
theorem dL_1681 : decode code 1681 = .ok (.if_icmp .eq 64, 3) := by decide +kernel
theorem dL_1684 : decode code 1684 = .ok (.iconst 0, 1) := by decide +kernel
theorem dL_1685 : decode code 1685 = .ok (.ireturn, 1) := by decide +kernel
theorem dL_1686 : decode code 1686 = .ok (.aload_n 1, 1) := by decide +kernel
theorem dL_1687 : decode code 1687 = .ok (.invokevirtual 180, 3) := by decide +kernel
theorem dL_1690 : decode code 1690 = .ok (.aload_n 2, 1) := by decide +kernel
theorem dL_1691 : decode code 1691 = .ok (.invokevirtual 183, 3) := by decide +kernel
theorem dL_1694 : decode code 1694 = .ok (.if_icmp .eq 51, 3) := by decide +kernel
theorem dL_1697 : decode code 1697 = .ok (.iconst 0, 1) := by decide +kernel
theorem dL_1698 : decode code 1698 = .ok (.ireturn, 1) := by decide +kernel
theorem dL_1699 : decode code 1699 = .ok (.aload_n 1, 1) := by decide +kernel
theorem dL_1700 : decode code 1700 = .ok (.aload_n 0, 1) := by decide +kernel
theorem dL_1701 : decode code 1701 = .ok (.iload_n 3, 1) := by decide +kernel
theorem dL_1702 : decode code 1702 = .ok (.iconst 1, 1) := by decide +kernel
theorem dL_1703 : decode code 1703 = .ok (.iadd, 1) := by decide +kernel
theorem dL_1704 : decode code 1704 = .ok (.iaload, 1) := by decide +kernel
theorem dL_1705 : decode code 1705 = .ok (.invokevirtual 184, 3) := by decide +kernel
theorem dL_1708 : decode code 1708 = .ok (.aload_n 2, 1) := by decide +kernel
theorem dL_1709 : decode code 1709 = .ok (.aload_n 0, 1) := by decide +kernel
theorem dL_1710 : decode code 1710 = .ok (.iload_n 3, 1) := by decide +kernel
theorem dL_1711 : decode code 1711 = .ok (.iconst 1, 1) := by decide +kernel
theorem dL_1712 : decode code 1712 = .ok (.iadd, 1) := by decide +kernel
theorem dL_1713 : decode code 1713 = .ok (.iaload, 1) := by decide +kernel
theorem dL_1714 : decode code 1714 = .ok (.invokevirtual 187, 3) := by decide +kernel
theorem dL_1717 : decode code 1717 = .ok (.if_icmp .eq 28, 3) := by decide +kernel
theorem dL_1720 : decode code 1720 = .ok (.iconst 0, 1) := by decide +kernel
theorem dL_1721 : decode code 1721 = .ok (.ireturn, 1) := by decide +kernel
theorem dL_1722 : decode code 1722 = .ok (.aload_n 1, 1) := by decide +kernel
theorem dL_1723 : decode code 1723 = .ok (.aload_n 0, 1) := by decide +kernel
theorem dL_1724 : decode code 1724 = .ok (.iload_n 3, 1) := by decide +kernel
theorem dL_1725 : decode code 1725 = .ok (.iconst 1, 1) := by decide +kernel
theorem dL_1726 : decode code 1726 = .ok (.iadd, 1) := by decide +kernel
theorem dL_1727 : decode code 1727 = .ok (.iaload, 1) := by decide +kernel
theorem dL_1728 : decode code 1728 = .ok (.invokevirtual 188, 3) := by decide +kernel
theorem dL_1731 : decode code 1731 = .ok (.aload_n 2, 1) := by decide +kernel
theorem dL_1732 : decode code 1732 = .ok (.aload_n 0, 1) := by decide +kernel
theorem dL_1733 : decode code 1733 = .ok (.iload_n 3, 1) := by decide +kernel
theorem dL_1734 : decode code 1734 = .ok (.iconst 1, 1) := by decide +kernel
theorem dL_1735 : decode code 1735 = .ok (.iadd, 1) := by decide +kernel
theorem dL_1736 : decode code 1736 = .ok (.iaload, 1) := by decide +kernel
theorem dL_1737 : decode code 1737 = .ok (.invokevirtual 191, 3) := by decide +kernel
theorem dL_1740 : decode code 1740 = .ok (.if_icmp .eq 5, 3) := by decide +kernel
theorem dL_1743 : decode code 1743 = .ok (.iconst 0, 1) := by decide +kernel
theorem dL_1744 : decode code 1744 = .ok (.ireturn, 1) := by decide +kernel
theorem dL_1745 : decode code 1745 = .ok (.iinc 3 6, 3) := by decide +kernel
theorem dL_1748 : decode code 1748 = .ok (.goto (-1730), 3) := by decide +kernel
theorem dL_1751 : decode code 1751 = .ok (.iconst 1, 1) := by decide +kernel
theorem dL_1752 : decode code 1752 = .ok (.ireturn, 1) := by decide +kernel
