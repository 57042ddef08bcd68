def kL_law_r32 : List (Nat × Instr × Nat) := [(1631, .aload_n 0, 1), (1632, .iload 4, 2), (1634, .iconst 1, 1), (1635, .iadd, 1), (1636, .iaload, 1), (1637, .aload_n 0, 1), (1638, .iload 4, 2), (1640, .iconst 2, 1), (1641, .iadd, 1), (1642, .iaload, 1), (1643, .aload_n 0, 1), (1644, .iload 4, 2), (1646, .iconst 3, 1), (1647, .iadd, 1), (1648, .iaload, 1), (1649, .aload_n 0, 1), (1650, .iload 4, 2), (1652, .iconst 4, 1), (1653, .iadd, 1), (1654, .iaload, 1), (1655, .aload_n 3, 1), (1656, .invokestatic 206, 3), (1659, .istore 5, 2), (1661, .aload_n 2, 1), (1662, .aload_n 0, 1), (1663, .iload 4, 2), (1665, .iconst 1, 1), (1666, .iadd, 1), (1667, .iaload, 1), (1668, .aload_n 0, 1)]
set_option maxRecDepth 100000 in
theorem kL_law_r32_ok : kL_law_r32.all (fun q => decide (decode cL_law_ q.1 = .ok q.2)) = true := by decide +kernel
theorem dL_law__1631 : decode cL_law_ 1631 = .ok (.aload_n 0, 1) := dk_get kL_law_r32_ok 0 rfl
theorem dL_law__1632 : decode cL_law_ 1632 = .ok (.iload 4, 2) := dk_get kL_law_r32_ok 1 rfl
theorem dL_law__1634 : decode cL_law_ 1634 = .ok (.iconst 1, 1) := dk_get kL_law_r32_ok 2 rfl
theorem dL_law__1635 : decode cL_law_ 1635 = .ok (.iadd, 1) := dk_get kL_law_r32_ok 3 rfl
theorem dL_law__1636 : decode cL_law_ 1636 = .ok (.iaload, 1) := dk_get kL_law_r32_ok 4 rfl
theorem dL_law__1637 : decode cL_law_ 1637 = .ok (.aload_n 0, 1) := dk_get kL_law_r32_ok 5 rfl
theorem dL_law__1638 : decode cL_law_ 1638 = .ok (.iload 4, 2) := dk_get kL_law_r32_ok 6 rfl
theorem dL_law__1640 : decode cL_law_ 1640 = .ok (.iconst 2, 1) := dk_get kL_law_r32_ok 7 rfl
theorem dL_law__1641 : decode cL_law_ 1641 = .ok (.iadd, 1) := dk_get kL_law_r32_ok 8 rfl
theorem dL_law__1642 : decode cL_law_ 1642 = .ok (.iaload, 1) := dk_get kL_law_r32_ok 9 rfl
theorem dL_law__1643 : decode cL_law_ 1643 = .ok (.aload_n 0, 1) := dk_get kL_law_r32_ok 10 rfl
theorem dL_law__1644 : decode cL_law_ 1644 = .ok (.iload 4, 2) := dk_get kL_law_r32_ok 11 rfl
theorem dL_law__1646 : decode cL_law_ 1646 = .ok (.iconst 3, 1) := dk_get kL_law_r32_ok 12 rfl
theorem dL_law__1647 : decode cL_law_ 1647 = .ok (.iadd, 1) := dk_get kL_law_r32_ok 13 rfl
theorem dL_law__1648 : decode cL_law_ 1648 = .ok (.iaload, 1) := dk_get kL_law_r32_ok 14 rfl
theorem dL_law__1649 : decode cL_law_ 1649 = .ok (.aload_n 0, 1) := dk_get kL_law_r32_ok 15 rfl
theorem dL_law__1650 : decode cL_law_ 1650 = .ok (.iload 4, 2) := dk_get kL_law_r32_ok 16 rfl
theorem dL_law__1652 : decode cL_law_ 1652 = .ok (.iconst 4, 1) := dk_get kL_law_r32_ok 17 rfl
theorem dL_law__1653 : decode cL_law_ 1653 = .ok (.iadd, 1) := dk_get kL_law_r32_ok 18 rfl
theorem dL_law__1654 : decode cL_law_ 1654 = .ok (.iaload, 1) := dk_get kL_law_r32_ok 19 rfl
theorem dL_law__1655 : decode cL_law_ 1655 = .ok (.aload_n 3, 1) := dk_get kL_law_r32_ok 20 rfl
theorem dL_law__1656 : decode cL_law_ 1656 = .ok (.invokestatic 206, 3) := dk_get kL_law_r32_ok 21 rfl
theorem dL_law__1659 : decode cL_law_ 1659 = .ok (.istore 5, 2) := dk_get kL_law_r32_ok 22 rfl
theorem dL_law__1661 : decode cL_law_ 1661 = .ok (.aload_n 2, 1) := dk_get kL_law_r32_ok 23 rfl
theorem dL_law__1662 : decode cL_law_ 1662 = .ok (.aload_n 0, 1) := dk_get kL_law_r32_ok 24 rfl
theorem dL_law__1663 : decode cL_law_ 1663 = .ok (.iload 4, 2) := dk_get kL_law_r32_ok 25 rfl
theorem dL_law__1665 : decode cL_law_ 1665 = .ok (.iconst 1, 1) := dk_get kL_law_r32_ok 26 rfl
theorem dL_law__1666 : decode cL_law_ 1666 = .ok (.iadd, 1) := dk_get kL_law_r32_ok 27 rfl
theorem dL_law__1667 : decode cL_law_ 1667 = .ok (.iaload, 1) := dk_get kL_law_r32_ok 28 rfl
theorem dL_law__1668 : decode cL_law_ 1668 = .ok (.aload_n 0, 1) := dk_get kL_law_r32_ok 29 rfl
def kL_law_r33 : List (Nat × Instr × Nat) := [(1669, .iload 4, 2), (1671, .iconst 2, 1), (1672, .iadd, 1), (1673, .iaload, 1), (1674, .aload_n 0, 1), (1675, .iload 4, 2), (1677, .iconst 3, 1), (1678, .iadd, 1), (1679, .iaload, 1), (1680, .aload_n 0, 1), (1681, .iload 4, 2), (1683, .iconst 4, 1), (1684, .iadd, 1), (1685, .iaload, 1), (1686, .invokevirtual 209, 3), (1689, .lstore 6, 2), (1691, .aload_n 2, 1), (1692, .invokevirtual 122, 3), (1695, .iload 5, 2), (1697, .if_icmp .eq 5, 3), (1700, .iconst 0, 1), (1701, .ireturn, 1), (1702, .iload 5, 2), (1704, .ifCond .ne 14, 3), (1707, .aload_n 3, 1), (1708, .iconst 0, 1), (1709, .laload, 1), (1710, .lload 6, 2), (1712, .lcmp, 1), (1713, .ifCond .eq 5, 3)]
set_option maxRecDepth 100000 in
theorem kL_law_r33_ok : kL_law_r33.all (fun q => decide (decode cL_law_ q.1 = .ok q.2)) = true := by decide +kernel
theorem dL_law__1669 : decode cL_law_ 1669 = .ok (.iload 4, 2) := dk_get kL_law_r33_ok 0 rfl
theorem dL_law__1671 : decode cL_law_ 1671 = .ok (.iconst 2, 1) := dk_get kL_law_r33_ok 1 rfl
theorem dL_law__1672 : decode cL_law_ 1672 = .ok (.iadd, 1) := dk_get kL_law_r33_ok 2 rfl
theorem dL_law__1673 : decode cL_law_ 1673 = .ok (.iaload, 1) := dk_get kL_law_r33_ok 3 rfl
theorem dL_law__1674 : decode cL_law_ 1674 = .ok (.aload_n 0, 1) := dk_get kL_law_r33_ok 4 rfl
theorem dL_law__1675 : decode cL_law_ 1675 = .ok (.iload 4, 2) := dk_get kL_law_r33_ok 5 rfl
theorem dL_law__1677 : decode cL_law_ 1677 = .ok (.iconst 3, 1) := dk_get kL_law_r33_ok 6 rfl
theorem dL_law__1678 : decode cL_law_ 1678 = .ok (.iadd, 1) := dk_get kL_law_r33_ok 7 rfl
theorem dL_law__1679 : decode cL_law_ 1679 = .ok (.iaload, 1) := dk_get kL_law_r33_ok 8 rfl
theorem dL_law__1680 : decode cL_law_ 1680 = .ok (.aload_n 0, 1) := dk_get kL_law_r33_ok 9 rfl
theorem dL_law__1681 : decode cL_law_ 1681 = .ok (.iload 4, 2) := dk_get kL_law_r33_ok 10 rfl
theorem dL_law__1683 : decode cL_law_ 1683 = .ok (.iconst 4, 1) := dk_get kL_law_r33_ok 11 rfl
theorem dL_law__1684 : decode cL_law_ 1684 = .ok (.iadd, 1) := dk_get kL_law_r33_ok 12 rfl
theorem dL_law__1685 : decode cL_law_ 1685 = .ok (.iaload, 1) := dk_get kL_law_r33_ok 13 rfl
theorem dL_law__1686 : decode cL_law_ 1686 = .ok (.invokevirtual 209, 3) := dk_get kL_law_r33_ok 14 rfl
theorem dL_law__1689 : decode cL_law_ 1689 = .ok (.lstore 6, 2) := dk_get kL_law_r33_ok 15 rfl
theorem dL_law__1691 : decode cL_law_ 1691 = .ok (.aload_n 2, 1) := dk_get kL_law_r33_ok 16 rfl
theorem dL_law__1692 : decode cL_law_ 1692 = .ok (.invokevirtual 122, 3) := dk_get kL_law_r33_ok 17 rfl
theorem dL_law__1695 : decode cL_law_ 1695 = .ok (.iload 5, 2) := dk_get kL_law_r33_ok 18 rfl
theorem dL_law__1697 : decode cL_law_ 1697 = .ok (.if_icmp .eq 5, 3) := dk_get kL_law_r33_ok 19 rfl
theorem dL_law__1700 : decode cL_law_ 1700 = .ok (.iconst 0, 1) := dk_get kL_law_r33_ok 20 rfl
theorem dL_law__1701 : decode cL_law_ 1701 = .ok (.ireturn, 1) := dk_get kL_law_r33_ok 21 rfl
theorem dL_law__1702 : decode cL_law_ 1702 = .ok (.iload 5, 2) := dk_get kL_law_r33_ok 22 rfl
theorem dL_law__1704 : decode cL_law_ 1704 = .ok (.ifCond .ne 14, 3) := dk_get kL_law_r33_ok 23 rfl
theorem dL_law__1707 : decode cL_law_ 1707 = .ok (.aload_n 3, 1) := dk_get kL_law_r33_ok 24 rfl
theorem dL_law__1708 : decode cL_law_ 1708 = .ok (.iconst 0, 1) := dk_get kL_law_r33_ok 25 rfl
theorem dL_law__1709 : decode cL_law_ 1709 = .ok (.laload, 1) := dk_get kL_law_r33_ok 26 rfl
theorem dL_law__1710 : decode cL_law_ 1710 = .ok (.lload 6, 2) := dk_get kL_law_r33_ok 27 rfl
theorem dL_law__1712 : decode cL_law_ 1712 = .ok (.lcmp, 1) := dk_get kL_law_r33_ok 28 rfl
theorem dL_law__1713 : decode cL_law_ 1713 = .ok (.ifCond .eq 5, 3) := dk_get kL_law_r33_ok 29 rfl
def kL_law_r34 : List (Nat × Instr × Nat) := [(1716, .iconst 0, 1), (1717, .ireturn, 1), (1718, .goto 766, 3), (1721, .aload_n 1, 1), (1722, .aload_n 0, 1), (1723, .iload 4, 2), (1725, .iconst 1, 1), (1726, .iadd, 1), (1727, .iaload, 1), (1728, .aload_n 3, 1), (1729, .invokestatic 210, 3), (1732, .istore 5, 2), (1734, .aload_n 2, 1), (1735, .aload_n 0, 1), (1736, .iload 4, 2), (1738, .iconst 1, 1), (1739, .iadd, 1), (1740, .iaload, 1), (1741, .invokevirtual 212, 3), (1744, .lstore 6, 2), (1746, .aload_n 2, 1), (1747, .invokevirtual 122, 3), (1750, .iload 5, 2), (1752, .if_icmp .eq 5, 3), (1755, .iconst 0, 1), (1756, .ireturn, 1), (1757, .iload 5, 2), (1759, .ifCond .ne 14, 3), (1762, .aload_n 3, 1), (1763, .iconst 0, 1)]
set_option maxRecDepth 100000 in
theorem kL_law_r34_ok : kL_law_r34.all (fun q => decide (decode cL_law_ q.1 = .ok q.2)) = true := by decide +kernel
theorem dL_law__1716 : decode cL_law_ 1716 = .ok (.iconst 0, 1) := dk_get kL_law_r34_ok 0 rfl
theorem dL_law__1717 : decode cL_law_ 1717 = .ok (.ireturn, 1) := dk_get kL_law_r34_ok 1 rfl
theorem dL_law__1718 : decode cL_law_ 1718 = .ok (.goto 766, 3) := dk_get kL_law_r34_ok 2 rfl
theorem dL_law__1721 : decode cL_law_ 1721 = .ok (.aload_n 1, 1) := dk_get kL_law_r34_ok 3 rfl
theorem dL_law__1722 : decode cL_law_ 1722 = .ok (.aload_n 0, 1) := dk_get kL_law_r34_ok 4 rfl
theorem dL_law__1723 : decode cL_law_ 1723 = .ok (.iload 4, 2) := dk_get kL_law_r34_ok 5 rfl
theorem dL_law__1725 : decode cL_law_ 1725 = .ok (.iconst 1, 1) := dk_get kL_law_r34_ok 6 rfl
theorem dL_law__1726 : decode cL_law_ 1726 = .ok (.iadd, 1) := dk_get kL_law_r34_ok 7 rfl
theorem dL_law__1727 : decode cL_law_ 1727 = .ok (.iaload, 1) := dk_get kL_law_r34_ok 8 rfl
theorem dL_law__1728 : decode cL_law_ 1728 = .ok (.aload_n 3, 1) := dk_get kL_law_r34_ok 9 rfl
theorem dL_law__1729 : decode cL_law_ 1729 = .ok (.invokestatic 210, 3) := dk_get kL_law_r34_ok 10 rfl
theorem dL_law__1732 : decode cL_law_ 1732 = .ok (.istore 5, 2) := dk_get kL_law_r34_ok 11 rfl
theorem dL_law__1734 : decode cL_law_ 1734 = .ok (.aload_n 2, 1) := dk_get kL_law_r34_ok 12 rfl
theorem dL_law__1735 : decode cL_law_ 1735 = .ok (.aload_n 0, 1) := dk_get kL_law_r34_ok 13 rfl
theorem dL_law__1736 : decode cL_law_ 1736 = .ok (.iload 4, 2) := dk_get kL_law_r34_ok 14 rfl
theorem dL_law__1738 : decode cL_law_ 1738 = .ok (.iconst 1, 1) := dk_get kL_law_r34_ok 15 rfl
theorem dL_law__1739 : decode cL_law_ 1739 = .ok (.iadd, 1) := dk_get kL_law_r34_ok 16 rfl
theorem dL_law__1740 : decode cL_law_ 1740 = .ok (.iaload, 1) := dk_get kL_law_r34_ok 17 rfl
theorem dL_law__1741 : decode cL_law_ 1741 = .ok (.invokevirtual 212, 3) := dk_get kL_law_r34_ok 18 rfl
theorem dL_law__1744 : decode cL_law_ 1744 = .ok (.lstore 6, 2) := dk_get kL_law_r34_ok 19 rfl
theorem dL_law__1746 : decode cL_law_ 1746 = .ok (.aload_n 2, 1) := dk_get kL_law_r34_ok 20 rfl
theorem dL_law__1747 : decode cL_law_ 1747 = .ok (.invokevirtual 122, 3) := dk_get kL_law_r34_ok 21 rfl
theorem dL_law__1750 : decode cL_law_ 1750 = .ok (.iload 5, 2) := dk_get kL_law_r34_ok 22 rfl
theorem dL_law__1752 : decode cL_law_ 1752 = .ok (.if_icmp .eq 5, 3) := dk_get kL_law_r34_ok 23 rfl
theorem dL_law__1755 : decode cL_law_ 1755 = .ok (.iconst 0, 1) := dk_get kL_law_r34_ok 24 rfl
theorem dL_law__1756 : decode cL_law_ 1756 = .ok (.ireturn, 1) := dk_get kL_law_r34_ok 25 rfl
theorem dL_law__1757 : decode cL_law_ 1757 = .ok (.iload 5, 2) := dk_get kL_law_r34_ok 26 rfl
theorem dL_law__1759 : decode cL_law_ 1759 = .ok (.ifCond .ne 14, 3) := dk_get kL_law_r34_ok 27 rfl
theorem dL_law__1762 : decode cL_law_ 1762 = .ok (.aload_n 3, 1) := dk_get kL_law_r34_ok 28 rfl
theorem dL_law__1763 : decode cL_law_ 1763 = .ok (.iconst 0, 1) := dk_get kL_law_r34_ok 29 rfl
def kL_law_r35 : List (Nat × Instr × Nat) := [(1764, .laload, 1), (1765, .lload 6, 2), (1767, .lcmp, 1), (1768, .ifCond .eq 5, 3), (1771, .iconst 0, 1), (1772, .ireturn, 1), (1773, .goto 711, 3), (1776, .aload_n 1, 1), (1777, .aload_n 0, 1), (1778, .iload 4, 2), (1780, .iconst 1, 1), (1781, .iadd, 1), (1782, .iaload, 1), (1783, .aload_n 3, 1), (1784, .invokestatic 213, 3), (1787, .istore 5, 2), (1789, .aload_n 2, 1), (1790, .aload_n 0, 1), (1791, .iload 4, 2), (1793, .iconst 1, 1), (1794, .iadd, 1), (1795, .iaload, 1), (1796, .invokevirtual 215, 3), (1799, .istore 6, 2), (1801, .aload_n 2, 1), (1802, .invokevirtual 122, 3), (1805, .iload 5, 2), (1807, .if_icmp .eq 5, 3), (1810, .iconst 0, 1), (1811, .ireturn, 1)]
set_option maxRecDepth 100000 in
theorem kL_law_r35_ok : kL_law_r35.all (fun q => decide (decode cL_law_ q.1 = .ok q.2)) = true := by decide +kernel
theorem dL_law__1764 : decode cL_law_ 1764 = .ok (.laload, 1) := dk_get kL_law_r35_ok 0 rfl
theorem dL_law__1765 : decode cL_law_ 1765 = .ok (.lload 6, 2) := dk_get kL_law_r35_ok 1 rfl
theorem dL_law__1767 : decode cL_law_ 1767 = .ok (.lcmp, 1) := dk_get kL_law_r35_ok 2 rfl
theorem dL_law__1768 : decode cL_law_ 1768 = .ok (.ifCond .eq 5, 3) := dk_get kL_law_r35_ok 3 rfl
theorem dL_law__1771 : decode cL_law_ 1771 = .ok (.iconst 0, 1) := dk_get kL_law_r35_ok 4 rfl
theorem dL_law__1772 : decode cL_law_ 1772 = .ok (.ireturn, 1) := dk_get kL_law_r35_ok 5 rfl
theorem dL_law__1773 : decode cL_law_ 1773 = .ok (.goto 711, 3) := dk_get kL_law_r35_ok 6 rfl
theorem dL_law__1776 : decode cL_law_ 1776 = .ok (.aload_n 1, 1) := dk_get kL_law_r35_ok 7 rfl
theorem dL_law__1777 : decode cL_law_ 1777 = .ok (.aload_n 0, 1) := dk_get kL_law_r35_ok 8 rfl
theorem dL_law__1778 : decode cL_law_ 1778 = .ok (.iload 4, 2) := dk_get kL_law_r35_ok 9 rfl
theorem dL_law__1780 : decode cL_law_ 1780 = .ok (.iconst 1, 1) := dk_get kL_law_r35_ok 10 rfl
theorem dL_law__1781 : decode cL_law_ 1781 = .ok (.iadd, 1) := dk_get kL_law_r35_ok 11 rfl
theorem dL_law__1782 : decode cL_law_ 1782 = .ok (.iaload, 1) := dk_get kL_law_r35_ok 12 rfl
theorem dL_law__1783 : decode cL_law_ 1783 = .ok (.aload_n 3, 1) := dk_get kL_law_r35_ok 13 rfl
theorem dL_law__1784 : decode cL_law_ 1784 = .ok (.invokestatic 213, 3) := dk_get kL_law_r35_ok 14 rfl
theorem dL_law__1787 : decode cL_law_ 1787 = .ok (.istore 5, 2) := dk_get kL_law_r35_ok 15 rfl
theorem dL_law__1789 : decode cL_law_ 1789 = .ok (.aload_n 2, 1) := dk_get kL_law_r35_ok 16 rfl
theorem dL_law__1790 : decode cL_law_ 1790 = .ok (.aload_n 0, 1) := dk_get kL_law_r35_ok 17 rfl
theorem dL_law__1791 : decode cL_law_ 1791 = .ok (.iload 4, 2) := dk_get kL_law_r35_ok 18 rfl
theorem dL_law__1793 : decode cL_law_ 1793 = .ok (.iconst 1, 1) := dk_get kL_law_r35_ok 19 rfl
theorem dL_law__1794 : decode cL_law_ 1794 = .ok (.iadd, 1) := dk_get kL_law_r35_ok 20 rfl
theorem dL_law__1795 : decode cL_law_ 1795 = .ok (.iaload, 1) := dk_get kL_law_r35_ok 21 rfl
theorem dL_law__1796 : decode cL_law_ 1796 = .ok (.invokevirtual 215, 3) := dk_get kL_law_r35_ok 22 rfl
theorem dL_law__1799 : decode cL_law_ 1799 = .ok (.istore 6, 2) := dk_get kL_law_r35_ok 23 rfl
theorem dL_law__1801 : decode cL_law_ 1801 = .ok (.aload_n 2, 1) := dk_get kL_law_r35_ok 24 rfl
theorem dL_law__1802 : decode cL_law_ 1802 = .ok (.invokevirtual 122, 3) := dk_get kL_law_r35_ok 25 rfl
theorem dL_law__1805 : decode cL_law_ 1805 = .ok (.iload 5, 2) := dk_get kL_law_r35_ok 26 rfl
theorem dL_law__1807 : decode cL_law_ 1807 = .ok (.if_icmp .eq 5, 3) := dk_get kL_law_r35_ok 27 rfl
theorem dL_law__1810 : decode cL_law_ 1810 = .ok (.iconst 0, 1) := dk_get kL_law_r35_ok 28 rfl
theorem dL_law__1811 : decode cL_law_ 1811 = .ok (.ireturn, 1) := dk_get kL_law_r35_ok 29 rfl
