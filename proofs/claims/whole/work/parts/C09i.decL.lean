/-! THE LAW, DECODED -/
theorem dL_law_1539 : decode cL_law 1539 = .ok (.iload 7, 2) := by decide +kernel
theorem dL_law_1541 : decode cL_law 1541 = .ok (.i2l, 1) := by decide +kernel
theorem dL_law_1542 : decode cL_law 1542 = .ok (.lcmp, 1) := by decide +kernel
theorem dL_law_1543 : decode cL_law 1543 = .ok (.ifCond .eq 5, 3) := by decide +kernel
theorem dL_law_1546 : decode cL_law 1546 = .ok (.iconst 0, 1) := by decide +kernel
theorem dL_law_1547 : decode cL_law 1547 = .ok (.ireturn, 1) := by decide +kernel
theorem dL_law_1548 : decode cL_law 1548 = .ok (.goto 2063, 3) := by decide +kernel
theorem dL_law_1551 : decode cL_law 1551 = .ok (.aload_n 1, 1) := by decide +kernel
theorem dL_law_1552 : decode cL_law 1552 = .ok (.aload_n 0, 1) := by decide +kernel
theorem dL_law_1553 : decode cL_law 1553 = .ok (.iload 5, 2) := by decide +kernel
theorem dL_law_1555 : decode cL_law 1555 = .ok (.iconst 1, 1) := by decide +kernel
theorem dL_law_1556 : decode cL_law 1556 = .ok (.iadd, 1) := by decide +kernel
theorem dL_law_1557 : decode cL_law 1557 = .ok (.iaload, 1) := by decide +kernel
theorem dL_law_1558 : decode cL_law 1558 = .ok (.aload_n 0, 1) := by decide +kernel
theorem dL_law_1559 : decode cL_law 1559 = .ok (.iload 5, 2) := by decide +kernel
theorem dL_law_1561 : decode cL_law 1561 = .ok (.iconst 2, 1) := by decide +kernel
theorem dL_law_1562 : decode cL_law 1562 = .ok (.iadd, 1) := by decide +kernel
theorem dL_law_1563 : decode cL_law 1563 = .ok (.iaload, 1) := by decide +kernel
theorem dL_law_1564 : decode cL_law 1564 = .ok (.aload_n 3, 1) := by decide +kernel
theorem dL_law_1565 : decode cL_law 1565 = .ok (.invokestatic 278, 3) := by decide +kernel
theorem dL_law_1568 : decode cL_law 1568 = .ok (.istore 6, 2) := by decide +kernel
theorem dL_law_1570 : decode cL_law 1570 = .ok (.aload_n 2, 1) := by decide +kernel
theorem dL_law_1571 : decode cL_law 1571 = .ok (.aload_n 0, 1) := by decide +kernel
theorem dL_law_1572 : decode cL_law 1572 = .ok (.iload 5, 2) := by decide +kernel
theorem dL_law_1574 : decode cL_law 1574 = .ok (.iconst 1, 1) := by decide +kernel
theorem dL_law_1575 : decode cL_law 1575 = .ok (.iadd, 1) := by decide +kernel
theorem dL_law_1576 : decode cL_law 1576 = .ok (.iaload, 1) := by decide +kernel
theorem dL_law_1577 : decode cL_law 1577 = .ok (.aload_n 0, 1) := by decide +kernel
theorem dL_law_1578 : decode cL_law 1578 = .ok (.iload 5, 2) := by decide +kernel
theorem dL_law_1580 : decode cL_law 1580 = .ok (.iconst 2, 1) := by decide +kernel
theorem dL_law_1581 : decode cL_law 1581 = .ok (.iadd, 1) := by decide +kernel
theorem dL_law_1582 : decode cL_law 1582 = .ok (.iaload, 1) := by decide +kernel
theorem dL_law_1583 : decode cL_law 1583 = .ok (.invokevirtual 280, 3) := by decide +kernel
theorem dL_law_1586 : decode cL_law 1586 = .ok (.istore 7, 2) := by decide +kernel
theorem dL_law_1588 : decode cL_law 1588 = .ok (.aload_n 2, 1) := by decide +kernel
theorem dL_law_1589 : decode cL_law 1589 = .ok (.invokevirtual 191, 3) := by decide +kernel
theorem dL_law_1592 : decode cL_law 1592 = .ok (.iload 6, 2) := by decide +kernel
theorem dL_law_1594 : decode cL_law 1594 = .ok (.if_icmp .eq 5, 3) := by decide +kernel
theorem dL_law_1597 : decode cL_law 1597 = .ok (.iconst 0, 1) := by decide +kernel
theorem dL_law_1598 : decode cL_law 1598 = .ok (.ireturn, 1) := by decide +kernel
theorem dL_law_1599 : decode cL_law 1599 = .ok (.iload 6, 2) := by decide +kernel
theorem dL_law_1601 : decode cL_law 1601 = .ok (.ifCond .ne 15, 3) := by decide +kernel
theorem dL_law_1604 : decode cL_law 1604 = .ok (.aload_n 3, 1) := by decide +kernel
theorem dL_law_1605 : decode cL_law 1605 = .ok (.iconst 0, 1) := by decide +kernel
theorem dL_law_1606 : decode cL_law 1606 = .ok (.laload, 1) := by decide +kernel
theorem dL_law_1607 : decode cL_law 1607 = .ok (.iload 7, 2) := by decide +kernel
theorem dL_law_1609 : decode cL_law 1609 = .ok (.i2l, 1) := by decide +kernel
theorem dL_law_1610 : decode cL_law 1610 = .ok (.lcmp, 1) := by decide +kernel
theorem dL_law_1611 : decode cL_law 1611 = .ok (.ifCond .eq 5, 3) := by decide +kernel
theorem dL_law_1614 : decode cL_law 1614 = .ok (.iconst 0, 1) := by decide +kernel
theorem dL_law_1615 : decode cL_law 1615 = .ok (.ireturn, 1) := by decide +kernel
theorem dL_law_1616 : decode cL_law 1616 = .ok (.goto 1995, 3) := by decide +kernel
theorem dL_law_1619 : decode cL_law 1619 = .ok (.aload_n 1, 1) := by decide +kernel
theorem dL_law_1620 : decode cL_law 1620 = .ok (.invokevirtual 281, 3) := by decide +kernel
theorem dL_law_1623 : decode cL_law 1623 = .ok (.aload_n 2, 1) := by decide +kernel
theorem dL_law_1624 : decode cL_law 1624 = .ok (.invokevirtual 284, 3) := by decide +kernel
theorem dL_law_1627 : decode cL_law 1627 = .ok (.if_icmp .eq 1984, 3) := by decide +kernel
theorem dL_law_1630 : decode cL_law 1630 = .ok (.iconst 0, 1) := by decide +kernel
theorem dL_law_1631 : decode cL_law 1631 = .ok (.ireturn, 1) := by decide +kernel
theorem dL_law_1632 : decode cL_law 1632 = .ok (.aload_n 1, 1) := by decide +kernel
theorem dL_law_1633 : decode cL_law 1633 = .ok (.invokevirtual 285, 3) := by decide +kernel
theorem dL_law_1636 : decode cL_law 1636 = .ok (.aload_n 2, 1) := by decide +kernel
theorem dL_law_1637 : decode cL_law 1637 = .ok (.invokevirtual 288, 3) := by decide +kernel
theorem dL_law_1640 : decode cL_law 1640 = .ok (.if_icmp .eq 1971, 3) := by decide +kernel
theorem dL_law_1643 : decode cL_law 1643 = .ok (.iconst 0, 1) := by decide +kernel
theorem dL_law_1644 : decode cL_law 1644 = .ok (.ireturn, 1) := by decide +kernel
theorem dL_law_1645 : decode cL_law 1645 = .ok (.aload_n 1, 1) := by decide +kernel
theorem dL_law_1646 : decode cL_law 1646 = .ok (.aload_n 0, 1) := by decide +kernel
theorem dL_law_1647 : decode cL_law 1647 = .ok (.iload 5, 2) := by decide +kernel
theorem dL_law_1649 : decode cL_law 1649 = .ok (.iconst 1, 1) := by decide +kernel
theorem dL_law_1650 : decode cL_law 1650 = .ok (.iadd, 1) := by decide +kernel
theorem dL_law_1651 : decode cL_law 1651 = .ok (.iaload, 1) := by decide +kernel
theorem dL_law_1652 : decode cL_law 1652 = .ok (.aload_n 3, 1) := by decide +kernel
theorem dL_law_1653 : decode cL_law 1653 = .ok (.invokestatic 289, 3) := by decide +kernel
theorem dL_law_1656 : decode cL_law 1656 = .ok (.istore 6, 2) := by decide +kernel
theorem dL_law_1658 : decode cL_law 1658 = .ok (.aload_n 2, 1) := by decide +kernel
theorem dL_law_1659 : decode cL_law 1659 = .ok (.aload_n 0, 1) := by decide +kernel
theorem dL_law_1660 : decode cL_law 1660 = .ok (.iload 5, 2) := by decide +kernel
theorem dL_law_1662 : decode cL_law 1662 = .ok (.iconst 1, 1) := by decide +kernel
theorem dL_law_1663 : decode cL_law 1663 = .ok (.iadd, 1) := by decide +kernel
theorem dL_law_1664 : decode cL_law 1664 = .ok (.iaload, 1) := by decide +kernel
theorem dL_law_1665 : decode cL_law 1665 = .ok (.invokevirtual 291, 3) := by decide +kernel
theorem dL_law_1668 : decode cL_law 1668 = .ok (.istore 7, 2) := by decide +kernel
theorem dL_law_1670 : decode cL_law 1670 = .ok (.aload_n 2, 1) := by decide +kernel
theorem dL_law_1671 : decode cL_law 1671 = .ok (.invokevirtual 191, 3) := by decide +kernel
theorem dL_law_1674 : decode cL_law 1674 = .ok (.iload 6, 2) := by decide +kernel
theorem dL_law_1676 : decode cL_law 1676 = .ok (.if_icmp .eq 5, 3) := by decide +kernel
theorem dL_law_1679 : decode cL_law 1679 = .ok (.iconst 0, 1) := by decide +kernel
theorem dL_law_1680 : decode cL_law 1680 = .ok (.ireturn, 1) := by decide +kernel
theorem dL_law_1681 : decode cL_law 1681 = .ok (.iload 6, 2) := by decide +kernel
theorem dL_law_1683 : decode cL_law 1683 = .ok (.ifCond .ne 15, 3) := by decide +kernel
theorem dL_law_1686 : decode cL_law 1686 = .ok (.aload_n 3, 1) := by decide +kernel
theorem dL_law_1687 : decode cL_law 1687 = .ok (.iconst 0, 1) := by decide +kernel
theorem dL_law_1688 : decode cL_law 1688 = .ok (.laload, 1) := by decide +kernel
theorem dL_law_1689 : decode cL_law 1689 = .ok (.iload 7, 2) := by decide +kernel
theorem dL_law_1691 : decode cL_law 1691 = .ok (.i2l, 1) := by decide +kernel
theorem dL_law_1692 : decode cL_law 1692 = .ok (.lcmp, 1) := by decide +kernel
theorem dL_law_1693 : decode cL_law 1693 = .ok (.ifCond .eq 5, 3) := by decide +kernel
theorem dL_law_1696 : decode cL_law 1696 = .ok (.iconst 0, 1) := by decide +kernel
theorem dL_law_1697 : decode cL_law 1697 = .ok (.ireturn, 1) := by decide +kernel
