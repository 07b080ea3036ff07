theorem dW_1549 : decode code 1549 = .ok (.iaload, 1) := by decide +kernel
theorem dW_1550 : decode code 1550 = .ok (.aload_n 0, 1) := by decide +kernel
theorem dW_1551 : decode code 1551 = .ok (.iload 4, 2) := by decide +kernel
theorem dW_1553 : decode code 1553 = .ok (.iconst 2, 1) := by decide +kernel
theorem dW_1554 : decode code 1554 = .ok (.iadd, 1) := by decide +kernel
theorem dW_1555 : decode code 1555 = .ok (.iaload, 1) := by decide +kernel
theorem dW_1556 : decode code 1556 = .ok (.aload_n 3, 1) := by decide +kernel
theorem dW_1557 : decode code 1557 = .ok (.invokestatic 271, 3) := by decide +kernel
theorem dW_1560 : decode code 1560 = .ok (.istore 5, 2) := by decide +kernel
theorem dW_1562 : decode code 1562 = .ok (.aload_n 2, 1) := by decide +kernel
theorem dW_1563 : decode code 1563 = .ok (.aload_n 0, 1) := by decide +kernel
theorem dW_1564 : decode code 1564 = .ok (.iload 4, 2) := by decide +kernel
theorem dW_1566 : decode code 1566 = .ok (.iconst 1, 1) := by decide +kernel
theorem dW_1567 : decode code 1567 = .ok (.iadd, 1) := by decide +kernel
theorem dW_1568 : decode code 1568 = .ok (.iaload, 1) := by decide +kernel
theorem dW_1569 : decode code 1569 = .ok (.aload_n 0, 1) := by decide +kernel
theorem dW_1570 : decode code 1570 = .ok (.iload 4, 2) := by decide +kernel
theorem dW_1572 : decode code 1572 = .ok (.iconst 2, 1) := by decide +kernel
theorem dW_1573 : decode code 1573 = .ok (.iadd, 1) := by decide +kernel
theorem dW_1574 : decode code 1574 = .ok (.iaload, 1) := by decide +kernel
theorem dW_1575 : decode code 1575 = .ok (.invokevirtual 273, 3) := by decide +kernel
theorem dW_1578 : decode code 1578 = .ok (.istore 6, 2) := by decide +kernel
theorem dW_1580 : decode code 1580 = .ok (.goto 747, 3) := by decide +kernel
theorem dW_1583 : decode code 1583 = .ok (.aload_n 1, 1) := by decide +kernel
theorem dW_1584 : decode code 1584 = .ok (.aload_n 0, 1) := by decide +kernel
theorem dW_1585 : decode code 1585 = .ok (.iload 4, 2) := by decide +kernel
theorem dW_1587 : decode code 1587 = .ok (.iconst 1, 1) := by decide +kernel
theorem dW_1588 : decode code 1588 = .ok (.iadd, 1) := by decide +kernel
theorem dW_1589 : decode code 1589 = .ok (.iaload, 1) := by decide +kernel
theorem dW_1590 : decode code 1590 = .ok (.aload_n 3, 1) := by decide +kernel
theorem dW_1591 : decode code 1591 = .ok (.invokestatic 274, 3) := by decide +kernel
theorem dW_1594 : decode code 1594 = .ok (.istore 5, 2) := by decide +kernel
theorem dW_1596 : decode code 1596 = .ok (.aload_n 2, 1) := by decide +kernel
theorem dW_1597 : decode code 1597 = .ok (.aload_n 0, 1) := by decide +kernel
theorem dW_1598 : decode code 1598 = .ok (.iload 4, 2) := by decide +kernel
theorem dW_1600 : decode code 1600 = .ok (.iconst 1, 1) := by decide +kernel
theorem dW_1601 : decode code 1601 = .ok (.iadd, 1) := by decide +kernel
theorem dW_1602 : decode code 1602 = .ok (.iaload, 1) := by decide +kernel
theorem dW_1603 : decode code 1603 = .ok (.invokevirtual 276, 3) := by decide +kernel
theorem dW_1606 : decode code 1606 = .ok (.istore 6, 2) := by decide +kernel
theorem dW_1608 : decode code 1608 = .ok (.goto 719, 3) := by decide +kernel
theorem dW_1611 : decode code 1611 = .ok (.aload_n 1, 1) := by decide +kernel
theorem dW_1612 : decode code 1612 = .ok (.aload_n 0, 1) := by decide +kernel
theorem dW_1613 : decode code 1613 = .ok (.iload 4, 2) := by decide +kernel
theorem dW_1615 : decode code 1615 = .ok (.iconst 1, 1) := by decide +kernel
theorem dW_1616 : decode code 1616 = .ok (.iadd, 1) := by decide +kernel
theorem dW_1617 : decode code 1617 = .ok (.iaload, 1) := by decide +kernel
theorem dW_1618 : decode code 1618 = .ok (.aload_n 3, 1) := by decide +kernel
theorem dW_1619 : decode code 1619 = .ok (.invokestatic 277, 3) := by decide +kernel
theorem dW_1622 : decode code 1622 = .ok (.istore 5, 2) := by decide +kernel
theorem dW_1624 : decode code 1624 = .ok (.aload_n 2, 1) := by decide +kernel
theorem dW_1625 : decode code 1625 = .ok (.aload_n 0, 1) := by decide +kernel
theorem dW_1626 : decode code 1626 = .ok (.iload 4, 2) := by decide +kernel
theorem dW_1628 : decode code 1628 = .ok (.iconst 1, 1) := by decide +kernel
theorem dW_1629 : decode code 1629 = .ok (.iadd, 1) := by decide +kernel
theorem dW_1630 : decode code 1630 = .ok (.iaload, 1) := by decide +kernel
theorem dW_1631 : decode code 1631 = .ok (.invokevirtual 279, 3) := by decide +kernel
theorem dW_1634 : decode code 1634 = .ok (.istore 6, 2) := by decide +kernel
theorem dW_1636 : decode code 1636 = .ok (.goto 691, 3) := by decide +kernel
theorem dW_1639 : decode code 1639 = .ok (.aload_n 1, 1) := by decide +kernel
theorem dW_1640 : decode code 1640 = .ok (.aload_n 0, 1) := by decide +kernel
theorem dW_1641 : decode code 1641 = .ok (.iload 4, 2) := by decide +kernel
theorem dW_1643 : decode code 1643 = .ok (.iconst 1, 1) := by decide +kernel
theorem dW_1644 : decode code 1644 = .ok (.iadd, 1) := by decide +kernel
theorem dW_1645 : decode code 1645 = .ok (.iaload, 1) := by decide +kernel
theorem dW_1646 : decode code 1646 = .ok (.aload_n 3, 1) := by decide +kernel
theorem dW_1647 : decode code 1647 = .ok (.invokestatic 280, 3) := by decide +kernel
theorem dW_1650 : decode code 1650 = .ok (.istore 5, 2) := by decide +kernel
theorem dW_1652 : decode code 1652 = .ok (.aload_n 2, 1) := by decide +kernel
theorem dW_1653 : decode code 1653 = .ok (.aload_n 0, 1) := by decide +kernel
theorem dW_1654 : decode code 1654 = .ok (.iload 4, 2) := by decide +kernel
theorem dW_1656 : decode code 1656 = .ok (.iconst 1, 1) := by decide +kernel
theorem dW_1657 : decode code 1657 = .ok (.iadd, 1) := by decide +kernel
theorem dW_1658 : decode code 1658 = .ok (.iaload, 1) := by decide +kernel
theorem dW_1659 : decode code 1659 = .ok (.invokevirtual 282, 3) := by decide +kernel
theorem dW_1662 : decode code 1662 = .ok (.istore 6, 2) := by decide +kernel
theorem dW_1664 : decode code 1664 = .ok (.goto 663, 3) := by decide +kernel
theorem dW_1667 : decode code 1667 = .ok (.aload_n 1, 1) := by decide +kernel
theorem dW_1668 : decode code 1668 = .ok (.aload_n 0, 1) := by decide +kernel
theorem dW_1669 : decode code 1669 = .ok (.iload 4, 2) := by decide +kernel
theorem dW_1671 : decode code 1671 = .ok (.iconst 1, 1) := by decide +kernel
theorem dW_1672 : decode code 1672 = .ok (.iadd, 1) := by decide +kernel
theorem dW_1673 : decode code 1673 = .ok (.iaload, 1) := by decide +kernel
theorem dW_1674 : decode code 1674 = .ok (.aload_n 0, 1) := by decide +kernel
theorem dW_1675 : decode code 1675 = .ok (.iload 4, 2) := by decide +kernel
theorem dW_1677 : decode code 1677 = .ok (.iconst 2, 1) := by decide +kernel
theorem dW_1678 : decode code 1678 = .ok (.iadd, 1) := by decide +kernel
theorem dW_1679 : decode code 1679 = .ok (.iaload, 1) := by decide +kernel
theorem dW_1680 : decode code 1680 = .ok (.aload_n 0, 1) := by decide +kernel
theorem dW_1681 : decode code 1681 = .ok (.iload 4, 2) := by decide +kernel
theorem dW_1683 : decode code 1683 = .ok (.iconst 3, 1) := by decide +kernel
theorem dW_1684 : decode code 1684 = .ok (.iadd, 1) := by decide +kernel
theorem dW_1685 : decode code 1685 = .ok (.iaload, 1) := by decide +kernel
theorem dW_1686 : decode code 1686 = .ok (.aload_n 3, 1) := by decide +kernel
theorem dW_1687 : decode code 1687 = .ok (.invokestatic 283, 3) := by decide +kernel
theorem dW_1690 : decode code 1690 = .ok (.istore 5, 2) := by decide +kernel
theorem dW_1692 : decode code 1692 = .ok (.aload_n 2, 1) := by decide +kernel
theorem dW_1693 : decode code 1693 = .ok (.aload_n 0, 1) := by decide +kernel
theorem dW_1694 : decode code 1694 = .ok (.iload 4, 2) := by decide +kernel
theorem dW_1696 : decode code 1696 = .ok (.iconst 1, 1) := by decide +kernel
theorem dW_1697 : decode code 1697 = .ok (.iadd, 1) := by decide +kernel
theorem dW_1698 : decode code 1698 = .ok (.iaload, 1) := by decide +kernel
theorem dW_1699 : decode code 1699 = .ok (.aload_n 0, 1) := by decide +kernel
theorem dW_1700 : decode code 1700 = .ok (.iload 4, 2) := by decide +kernel
theorem dW_1702 : decode code 1702 = .ok (.iconst 2, 1) := by decide +kernel
theorem dW_1703 : decode code 1703 = .ok (.iadd, 1) := by decide +kernel
theorem dW_1704 : decode code 1704 = .ok (.iaload, 1) := by decide +kernel
theorem dW_1705 : decode code 1705 = .ok (.aload_n 0, 1) := by decide +kernel
theorem dW_1706 : decode code 1706 = .ok (.iload 4, 2) := by decide +kernel
theorem dW_1708 : decode code 1708 = .ok (.iconst 3, 1) := by decide +kernel
theorem dW_1709 : decode code 1709 = .ok (.iadd, 1) := by decide +kernel
theorem dW_1710 : decode code 1710 = .ok (.iaload, 1) := by decide +kernel
theorem dW_1711 : decode code 1711 = .ok (.invokevirtual 285, 3) := by decide +kernel
theorem dW_1714 : decode code 1714 = .ok (.istore 6, 2) := by decide +kernel
theorem dW_1716 : decode code 1716 = .ok (.goto 611, 3) := by decide +kernel
theorem dW_1719 : decode code 1719 = .ok (.aload_n 1, 1) := by decide +kernel
theorem dW_1720 : decode code 1720 = .ok (.aload_n 0, 1) := by decide +kernel
theorem dW_1721 : decode code 1721 = .ok (.iload 4, 2) := by decide +kernel
theorem dW_1723 : decode code 1723 = .ok (.iconst 1, 1) := by decide +kernel
theorem dW_1724 : decode code 1724 = .ok (.iadd, 1) := by decide +kernel
theorem dW_1725 : decode code 1725 = .ok (.iaload, 1) := by decide +kernel
theorem dW_1726 : decode code 1726 = .ok (.aload_n 0, 1) := by decide +kernel
theorem dW_1727 : decode code 1727 = .ok (.iload 4, 2) := by decide +kernel
theorem dW_1729 : decode code 1729 = .ok (.iconst 2, 1) := by decide +kernel
theorem dW_1730 : decode code 1730 = .ok (.iadd, 1) := by decide +kernel
theorem dW_1731 : decode code 1731 = .ok (.iaload, 1) := by decide +kernel
theorem dW_1732 : decode code 1732 = .ok (.aload_n 0, 1) := by decide +kernel
theorem dW_1733 : decode code 1733 = .ok (.iload 4, 2) := by decide +kernel
theorem dW_1735 : decode code 1735 = .ok (.iconst 3, 1) := by decide +kernel
theorem dW_1736 : decode code 1736 = .ok (.iadd, 1) := by decide +kernel
theorem dW_1737 : decode code 1737 = .ok (.iaload, 1) := by decide +kernel
theorem dW_1738 : decode code 1738 = .ok (.aload_n 3, 1) := by decide +kernel
theorem dW_1739 : decode code 1739 = .ok (.invokestatic 286, 3) := by decide +kernel
theorem dW_1742 : decode code 1742 = .ok (.istore 5, 2) := by decide +kernel
theorem dW_1744 : decode code 1744 = .ok (.aload_n 2, 1) := by decide +kernel
theorem dW_1745 : decode code 1745 = .ok (.aload_n 0, 1) := by decide +kernel
theorem dW_1746 : decode code 1746 = .ok (.iload 4, 2) := by decide +kernel
theorem dW_1748 : decode code 1748 = .ok (.iconst 1, 1) := by decide +kernel
theorem dW_1749 : decode code 1749 = .ok (.iadd, 1) := by decide +kernel
theorem dW_1750 : decode code 1750 = .ok (.iaload, 1) := by decide +kernel
theorem dW_1751 : decode code 1751 = .ok (.aload_n 0, 1) := by decide +kernel
theorem dW_1752 : decode code 1752 = .ok (.iload 4, 2) := by decide +kernel
theorem dW_1754 : decode code 1754 = .ok (.iconst 2, 1) := by decide +kernel
theorem dW_1755 : decode code 1755 = .ok (.iadd, 1) := by decide +kernel
theorem dW_1756 : decode code 1756 = .ok (.iaload, 1) := by decide +kernel
theorem dW_1757 : decode code 1757 = .ok (.aload_n 0, 1) := by decide +kernel
theorem dW_1758 : decode code 1758 = .ok (.iload 4, 2) := by decide +kernel
theorem dW_1760 : decode code 1760 = .ok (.iconst 3, 1) := by decide +kernel
theorem dW_1761 : decode code 1761 = .ok (.iadd, 1) := by decide +kernel
theorem dW_1762 : decode code 1762 = .ok (.iaload, 1) := by decide +kernel
theorem dW_1763 : decode code 1763 = .ok (.invokevirtual 288, 3) := by decide +kernel
theorem dW_1766 : decode code 1766 = .ok (.istore 6, 2) := by decide +kernel
theorem dW_1768 : decode code 1768 = .ok (.goto 559, 3) := by decide +kernel
theorem dW_1771 : decode code 1771 = .ok (.aload_n 1, 1) := by decide +kernel
theorem dW_1772 : decode code 1772 = .ok (.aload_n 0, 1) := by decide +kernel
theorem dW_1773 : decode code 1773 = .ok (.iload 4, 2) := by decide +kernel
theorem dW_1775 : decode code 1775 = .ok (.iconst 1, 1) := by decide +kernel
theorem dW_1776 : decode code 1776 = .ok (.iadd, 1) := by decide +kernel
theorem dW_1777 : decode code 1777 = .ok (.iaload, 1) := by decide +kernel
theorem dW_1778 : decode code 1778 = .ok (.aload_n 0, 1) := by decide +kernel
theorem dW_1779 : decode code 1779 = .ok (.iload 4, 2) := by decide +kernel
theorem dW_1781 : decode code 1781 = .ok (.iconst 2, 1) := by decide +kernel
theorem dW_1782 : decode code 1782 = .ok (.iadd, 1) := by decide +kernel
theorem dW_1783 : decode code 1783 = .ok (.iaload, 1) := by decide +kernel
theorem dW_1784 : decode code 1784 = .ok (.aload_n 3, 1) := by decide +kernel
theorem dW_1785 : decode code 1785 = .ok (.invokestatic 289, 3) := by decide +kernel
theorem dW_1788 : decode code 1788 = .ok (.istore 5, 2) := by decide +kernel
theorem dW_1790 : decode code 1790 = .ok (.aload_n 2, 1) := by decide +kernel
theorem dW_1791 : decode code 1791 = .ok (.aload_n 0, 1) := by decide +kernel
theorem dW_1792 : decode code 1792 = .ok (.iload 4, 2) := by decide +kernel
theorem dW_1794 : decode code 1794 = .ok (.iconst 1, 1) := by decide +kernel
theorem dW_1795 : decode code 1795 = .ok (.iadd, 1) := by decide +kernel
theorem dW_1796 : decode code 1796 = .ok (.iaload, 1) := by decide +kernel
theorem dW_1797 : decode code 1797 = .ok (.aload_n 0, 1) := by decide +kernel
theorem dW_1798 : decode code 1798 = .ok (.iload 4, 2) := by decide +kernel
theorem dW_1800 : decode code 1800 = .ok (.iconst 2, 1) := by decide +kernel
theorem dW_1801 : decode code 1801 = .ok (.iadd, 1) := by decide +kernel
theorem dW_1802 : decode code 1802 = .ok (.iaload, 1) := by decide +kernel
theorem dW_1803 : decode code 1803 = .ok (.invokevirtual 291, 3) := by decide +kernel
theorem dW_1806 : decode code 1806 = .ok (.istore 6, 2) := by decide +kernel
theorem dW_1808 : decode code 1808 = .ok (.goto 519, 3) := by decide +kernel
theorem dW_1811 : decode code 1811 = .ok (.aload_n 1, 1) := by decide +kernel
theorem dW_1812 : decode code 1812 = .ok (.aload_n 0, 1) := by decide +kernel
theorem dW_1813 : decode code 1813 = .ok (.iload 4, 2) := by decide +kernel
theorem dW_1815 : decode code 1815 = .ok (.iconst 1, 1) := by decide +kernel
theorem dW_1816 : decode code 1816 = .ok (.iadd, 1) := by decide +kernel
theorem dW_1817 : decode code 1817 = .ok (.iaload, 1) := by decide +kernel
theorem dW_1818 : decode code 1818 = .ok (.aload_n 3, 1) := by decide +kernel
theorem dW_1819 : decode code 1819 = .ok (.invokestatic 292, 3) := by decide +kernel
theorem dW_1822 : decode code 1822 = .ok (.istore 5, 2) := by decide +kernel
theorem dW_1824 : decode code 1824 = .ok (.aload_n 2, 1) := by decide +kernel
theorem dW_1825 : decode code 1825 = .ok (.aload_n 0, 1) := by decide +kernel
theorem dW_1826 : decode code 1826 = .ok (.iload 4, 2) := by decide +kernel
theorem dW_1828 : decode code 1828 = .ok (.iconst 1, 1) := by decide +kernel
theorem dW_1829 : decode code 1829 = .ok (.iadd, 1) := by decide +kernel
theorem dW_1830 : decode code 1830 = .ok (.iaload, 1) := by decide +kernel
theorem dW_1831 : decode code 1831 = .ok (.invokevirtual 294, 3) := by decide +kernel
theorem dW_1834 : decode code 1834 = .ok (.istore 6, 2) := by decide +kernel
theorem dW_1836 : decode code 1836 = .ok (.goto 491, 3) := by decide +kernel
theorem dW_1839 : decode code 1839 = .ok (.aload_n 1, 1) := by decide +kernel
theorem dW_1840 : decode code 1840 = .ok (.aload_n 0, 1) := by decide +kernel
theorem dW_1841 : decode code 1841 = .ok (.iload 4, 2) := by decide +kernel
theorem dW_1843 : decode code 1843 = .ok (.iconst 1, 1) := by decide +kernel
theorem dW_1844 : decode code 1844 = .ok (.iadd, 1) := by decide +kernel
theorem dW_1845 : decode code 1845 = .ok (.iaload, 1) := by decide +kernel
theorem dW_1846 : decode code 1846 = .ok (.aload_n 3, 1) := by decide +kernel
theorem dW_1847 : decode code 1847 = .ok (.invokestatic 295, 3) := by decide +kernel
theorem dW_1850 : decode code 1850 = .ok (.istore 5, 2) := by decide +kernel
theorem dW_1852 : decode code 1852 = .ok (.aload_n 2, 1) := by decide +kernel
theorem dW_1853 : decode code 1853 = .ok (.aload_n 0, 1) := by decide +kernel
theorem dW_1854 : decode code 1854 = .ok (.iload 4, 2) := by decide +kernel
theorem dW_1856 : decode code 1856 = .ok (.iconst 1, 1) := by decide +kernel
theorem dW_1857 : decode code 1857 = .ok (.iadd, 1) := by decide +kernel
theorem dW_1858 : decode code 1858 = .ok (.iaload, 1) := by decide +kernel
theorem dW_1859 : decode code 1859 = .ok (.invokevirtual 297, 3) := by decide +kernel
theorem dW_1862 : decode code 1862 = .ok (.istore 6, 2) := by decide +kernel
theorem dW_1864 : decode code 1864 = .ok (.goto 463, 3) := by decide +kernel
theorem dW_1867 : decode code 1867 = .ok (.aload_n 1, 1) := by decide +kernel
theorem dW_1868 : decode code 1868 = .ok (.aload_n 0, 1) := by decide +kernel
theorem dW_1869 : decode code 1869 = .ok (.iload 4, 2) := by decide +kernel
theorem dW_1871 : decode code 1871 = .ok (.iconst 1, 1) := by decide +kernel
theorem dW_1872 : decode code 1872 = .ok (.iadd, 1) := by decide +kernel
theorem dW_1873 : decode code 1873 = .ok (.iaload, 1) := by decide +kernel
theorem dW_1874 : decode code 1874 = .ok (.aload_n 0, 1) := by decide +kernel
theorem dW_1875 : decode code 1875 = .ok (.iload 4, 2) := by decide +kernel
theorem dW_1877 : decode code 1877 = .ok (.iconst 2, 1) := by decide +kernel
theorem dW_1878 : decode code 1878 = .ok (.iadd, 1) := by decide +kernel
theorem dW_1879 : decode code 1879 = .ok (.iaload, 1) := by decide +kernel
theorem dW_1880 : decode code 1880 = .ok (.ifCond .eq 7, 3) := by decide +kernel
theorem dW_1883 : decode code 1883 = .ok (.iconst 1, 1) := by decide +kernel
theorem dW_1884 : decode code 1884 = .ok (.goto 4, 3) := by decide +kernel
theorem dW_1887 : decode code 1887 = .ok (.iconst 0, 1) := by decide +kernel
theorem dW_1888 : decode code 1888 = .ok (.aload_n 3, 1) := by decide +kernel
theorem dW_1889 : decode code 1889 = .ok (.invokestatic 298, 3) := by decide +kernel
theorem dW_1892 : decode code 1892 = .ok (.istore 5, 2) := by decide +kernel
theorem dW_1894 : decode code 1894 = .ok (.aload_n 2, 1) := by decide +kernel
theorem dW_1895 : decode code 1895 = .ok (.aload_n 0, 1) := by decide +kernel
theorem dW_1896 : decode code 1896 = .ok (.iload 4, 2) := by decide +kernel
theorem dW_1898 : decode code 1898 = .ok (.iconst 1, 1) := by decide +kernel
theorem dW_1899 : decode code 1899 = .ok (.iadd, 1) := by decide +kernel
theorem dW_1900 : decode code 1900 = .ok (.iaload, 1) := by decide +kernel
theorem dW_1901 : decode code 1901 = .ok (.aload_n 0, 1) := by decide +kernel
theorem dW_1902 : decode code 1902 = .ok (.iload 4, 2) := by decide +kernel
theorem dW_1904 : decode code 1904 = .ok (.iconst 2, 1) := by decide +kernel
theorem dW_1905 : decode code 1905 = .ok (.iadd, 1) := by decide +kernel
theorem dW_1906 : decode code 1906 = .ok (.iaload, 1) := by decide +kernel
theorem dW_1907 : decode code 1907 = .ok (.ifCond .eq 7, 3) := by decide +kernel
theorem dW_1910 : decode code 1910 = .ok (.iconst 1, 1) := by decide +kernel
theorem dW_1911 : decode code 1911 = .ok (.goto 4, 3) := by decide +kernel
theorem dW_1914 : decode code 1914 = .ok (.iconst 0, 1) := by decide +kernel
theorem dW_1915 : decode code 1915 = .ok (.invokevirtual 300, 3) := by decide +kernel
theorem dW_1918 : decode code 1918 = .ok (.istore 6, 2) := by decide +kernel
theorem dW_1920 : decode code 1920 = .ok (.goto 407, 3) := by decide +kernel
theorem dW_1923 : decode code 1923 = .ok (.aload_n 1, 1) := by decide +kernel
theorem dW_1924 : decode code 1924 = .ok (.aload_n 0, 1) := by decide +kernel
theorem dW_1925 : decode code 1925 = .ok (.iload 4, 2) := by decide +kernel
theorem dW_1927 : decode code 1927 = .ok (.iconst 1, 1) := by decide +kernel
theorem dW_1928 : decode code 1928 = .ok (.iadd, 1) := by decide +kernel
theorem dW_1929 : decode code 1929 = .ok (.iaload, 1) := by decide +kernel
theorem dW_1930 : decode code 1930 = .ok (.aload_n 0, 1) := by decide +kernel
theorem dW_1931 : decode code 1931 = .ok (.iload 4, 2) := by decide +kernel
theorem dW_1933 : decode code 1933 = .ok (.iconst 2, 1) := by decide +kernel
theorem dW_1934 : decode code 1934 = .ok (.iadd, 1) := by decide +kernel
theorem dW_1935 : decode code 1935 = .ok (.iaload, 1) := by decide +kernel
theorem dW_1936 : decode code 1936 = .ok (.aload_n 3, 1) := by decide +kernel
theorem dW_1937 : decode code 1937 = .ok (.invokestatic 301, 3) := by decide +kernel
theorem dW_1940 : decode code 1940 = .ok (.istore 5, 2) := by decide +kernel
theorem dW_1942 : decode code 1942 = .ok (.aload_n 2, 1) := by decide +kernel
theorem dW_1943 : decode code 1943 = .ok (.aload_n 0, 1) := by decide +kernel
theorem dW_1944 : decode code 1944 = .ok (.iload 4, 2) := by decide +kernel
theorem dW_1946 : decode code 1946 = .ok (.iconst 1, 1) := by decide +kernel
theorem dW_1947 : decode code 1947 = .ok (.iadd, 1) := by decide +kernel
theorem dW_1948 : decode code 1948 = .ok (.iaload, 1) := by decide +kernel
theorem dW_1949 : decode code 1949 = .ok (.aload_n 0, 1) := by decide +kernel
theorem dW_1950 : decode code 1950 = .ok (.iload 4, 2) := by decide +kernel
theorem dW_1952 : decode code 1952 = .ok (.iconst 2, 1) := by decide +kernel
theorem dW_1953 : decode code 1953 = .ok (.iadd, 1) := by decide +kernel
theorem dW_1954 : decode code 1954 = .ok (.iaload, 1) := by decide +kernel
theorem dW_1955 : decode code 1955 = .ok (.invokevirtual 303, 3) := by decide +kernel
theorem dW_1958 : decode code 1958 = .ok (.istore 6, 2) := by decide +kernel
theorem dW_1960 : decode code 1960 = .ok (.goto 367, 3) := by decide +kernel
theorem dW_1963 : decode code 1963 = .ok (.aload_n 1, 1) := by decide +kernel
theorem dW_1964 : decode code 1964 = .ok (.aload_n 0, 1) := by decide +kernel
theorem dW_1965 : decode code 1965 = .ok (.iload 4, 2) := by decide +kernel
theorem dW_1967 : decode code 1967 = .ok (.iconst 1, 1) := by decide +kernel
theorem dW_1968 : decode code 1968 = .ok (.iadd, 1) := by decide +kernel
theorem dW_1969 : decode code 1969 = .ok (.iaload, 1) := by decide +kernel
theorem dW_1970 : decode code 1970 = .ok (.aload_n 0, 1) := by decide +kernel
theorem dW_1971 : decode code 1971 = .ok (.iload 4, 2) := by decide +kernel
theorem dW_1973 : decode code 1973 = .ok (.iconst 2, 1) := by decide +kernel
theorem dW_1974 : decode code 1974 = .ok (.iadd, 1) := by decide +kernel
theorem dW_1975 : decode code 1975 = .ok (.iaload, 1) := by decide +kernel
theorem dW_1976 : decode code 1976 = .ok (.aload_n 3, 1) := by decide +kernel
theorem dW_1977 : decode code 1977 = .ok (.invokestatic 304, 3) := by decide +kernel
theorem dW_1980 : decode code 1980 = .ok (.istore 5, 2) := by decide +kernel
theorem dW_1982 : decode code 1982 = .ok (.aload_n 2, 1) := by decide +kernel
theorem dW_1983 : decode code 1983 = .ok (.aload_n 0, 1) := by decide +kernel
theorem dW_1984 : decode code 1984 = .ok (.iload 4, 2) := by decide +kernel
theorem dW_1986 : decode code 1986 = .ok (.iconst 1, 1) := by decide +kernel
theorem dW_1987 : decode code 1987 = .ok (.iadd, 1) := by decide +kernel
