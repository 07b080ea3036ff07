theorem dW_1555 : decode code 1555 = .ok (.iconst 1, 1) := by decide +kernel
theorem dW_1556 : decode code 1556 = .ok (.iadd, 1) := by decide +kernel
theorem dW_1557 : decode code 1557 = .ok (.iaload, 1) := by decide +kernel
theorem dW_1558 : decode code 1558 = .ok (.aload_n 0, 1) := by decide +kernel
theorem dW_1559 : decode code 1559 = .ok (.iload 4, 2) := by decide +kernel
theorem dW_1561 : decode code 1561 = .ok (.iconst 2, 1) := by decide +kernel
theorem dW_1562 : decode code 1562 = .ok (.iadd, 1) := by decide +kernel
theorem dW_1563 : decode code 1563 = .ok (.iaload, 1) := by decide +kernel
theorem dW_1564 : decode code 1564 = .ok (.invokevirtual 273, 3) := by decide +kernel
theorem dW_1567 : decode code 1567 = .ok (.istore 6, 2) := by decide +kernel
theorem dW_1569 : decode code 1569 = .ok (.goto 787, 3) := by decide +kernel
theorem dW_1572 : decode code 1572 = .ok (.aload_n 1, 1) := by decide +kernel
theorem dW_1573 : decode code 1573 = .ok (.aload_n 0, 1) := by decide +kernel
theorem dW_1574 : decode code 1574 = .ok (.iload 4, 2) := by decide +kernel
theorem dW_1576 : decode code 1576 = .ok (.iconst 1, 1) := by decide +kernel
theorem dW_1577 : decode code 1577 = .ok (.iadd, 1) := by decide +kernel
theorem dW_1578 : decode code 1578 = .ok (.iaload, 1) := by decide +kernel
theorem dW_1579 : decode code 1579 = .ok (.aload_n 0, 1) := by decide +kernel
theorem dW_1580 : decode code 1580 = .ok (.iload 4, 2) := by decide +kernel
theorem dW_1582 : decode code 1582 = .ok (.iconst 2, 1) := by decide +kernel
theorem dW_1583 : decode code 1583 = .ok (.iadd, 1) := by decide +kernel
theorem dW_1584 : decode code 1584 = .ok (.iaload, 1) := by decide +kernel
theorem dW_1585 : decode code 1585 = .ok (.aload_n 3, 1) := by decide +kernel
theorem dW_1586 : decode code 1586 = .ok (.invokestatic 274, 3) := by decide +kernel
theorem dW_1589 : decode code 1589 = .ok (.istore 5, 2) := by decide +kernel
theorem dW_1591 : decode code 1591 = .ok (.aload_n 2, 1) := by decide +kernel
theorem dW_1592 : decode code 1592 = .ok (.aload_n 0, 1) := by decide +kernel
theorem dW_1593 : decode code 1593 = .ok (.iload 4, 2) := by decide +kernel
theorem dW_1595 : decode code 1595 = .ok (.iconst 1, 1) := by decide +kernel
theorem dW_1596 : decode code 1596 = .ok (.iadd, 1) := by decide +kernel
theorem dW_1597 : decode code 1597 = .ok (.iaload, 1) := by decide +kernel
theorem dW_1598 : decode code 1598 = .ok (.aload_n 0, 1) := by decide +kernel
theorem dW_1599 : decode code 1599 = .ok (.iload 4, 2) := by decide +kernel
theorem dW_1601 : decode code 1601 = .ok (.iconst 2, 1) := by decide +kernel
theorem dW_1602 : decode code 1602 = .ok (.iadd, 1) := by decide +kernel
theorem dW_1603 : decode code 1603 = .ok (.iaload, 1) := by decide +kernel
theorem dW_1604 : decode code 1604 = .ok (.invokevirtual 276, 3) := by decide +kernel
theorem dW_1607 : decode code 1607 = .ok (.istore 6, 2) := by decide +kernel
theorem dW_1609 : decode code 1609 = .ok (.goto 747, 3) := by decide +kernel
theorem dW_1612 : decode code 1612 = .ok (.aload_n 1, 1) := by decide +kernel
theorem dW_1613 : decode code 1613 = .ok (.aload_n 0, 1) := by decide +kernel
theorem dW_1614 : decode code 1614 = .ok (.iload 4, 2) := by decide +kernel
theorem dW_1616 : decode code 1616 = .ok (.iconst 1, 1) := by decide +kernel
theorem dW_1617 : decode code 1617 = .ok (.iadd, 1) := by decide +kernel
theorem dW_1618 : decode code 1618 = .ok (.iaload, 1) := by decide +kernel
theorem dW_1619 : decode code 1619 = .ok (.aload_n 3, 1) := by decide +kernel
theorem dW_1620 : decode code 1620 = .ok (.invokestatic 277, 3) := by decide +kernel
theorem dW_1623 : decode code 1623 = .ok (.istore 5, 2) := by decide +kernel
theorem dW_1625 : decode code 1625 = .ok (.aload_n 2, 1) := by decide +kernel
theorem dW_1626 : decode code 1626 = .ok (.aload_n 0, 1) := by decide +kernel
theorem dW_1627 : decode code 1627 = .ok (.iload 4, 2) := by decide +kernel
theorem dW_1629 : decode code 1629 = .ok (.iconst 1, 1) := by decide +kernel
theorem dW_1630 : decode code 1630 = .ok (.iadd, 1) := by decide +kernel
theorem dW_1631 : decode code 1631 = .ok (.iaload, 1) := by decide +kernel
theorem dW_1632 : decode code 1632 = .ok (.invokevirtual 279, 3) := by decide +kernel
theorem dW_1635 : decode code 1635 = .ok (.istore 6, 2) := by decide +kernel
theorem dW_1637 : decode code 1637 = .ok (.goto 719, 3) := by decide +kernel
theorem dW_1640 : decode code 1640 = .ok (.aload_n 1, 1) := by decide +kernel
theorem dW_1641 : decode code 1641 = .ok (.aload_n 0, 1) := by decide +kernel
theorem dW_1642 : decode code 1642 = .ok (.iload 4, 2) := by decide +kernel
theorem dW_1644 : decode code 1644 = .ok (.iconst 1, 1) := by decide +kernel
theorem dW_1645 : decode code 1645 = .ok (.iadd, 1) := by decide +kernel
theorem dW_1646 : decode code 1646 = .ok (.iaload, 1) := by decide +kernel
theorem dW_1647 : decode code 1647 = .ok (.aload_n 3, 1) := by decide +kernel
theorem dW_1648 : decode code 1648 = .ok (.invokestatic 280, 3) := by decide +kernel
theorem dW_1651 : decode code 1651 = .ok (.istore 5, 2) := by decide +kernel
theorem dW_1653 : decode code 1653 = .ok (.aload_n 2, 1) := by decide +kernel
theorem dW_1654 : decode code 1654 = .ok (.aload_n 0, 1) := by decide +kernel
theorem dW_1655 : decode code 1655 = .ok (.iload 4, 2) := by decide +kernel
theorem dW_1657 : decode code 1657 = .ok (.iconst 1, 1) := by decide +kernel
theorem dW_1658 : decode code 1658 = .ok (.iadd, 1) := by decide +kernel
theorem dW_1659 : decode code 1659 = .ok (.iaload, 1) := by decide +kernel
theorem dW_1660 : decode code 1660 = .ok (.invokevirtual 282, 3) := by decide +kernel
theorem dW_1663 : decode code 1663 = .ok (.istore 6, 2) := by decide +kernel
theorem dW_1665 : decode code 1665 = .ok (.goto 691, 3) := by decide +kernel
theorem dW_1668 : decode code 1668 = .ok (.aload_n 1, 1) := by decide +kernel
theorem dW_1669 : decode code 1669 = .ok (.aload_n 0, 1) := by decide +kernel
theorem dW_1670 : decode code 1670 = .ok (.iload 4, 2) := by decide +kernel
theorem dW_1672 : decode code 1672 = .ok (.iconst 1, 1) := by decide +kernel
theorem dW_1673 : decode code 1673 = .ok (.iadd, 1) := by decide +kernel
theorem dW_1674 : decode code 1674 = .ok (.iaload, 1) := by decide +kernel
theorem dW_1675 : decode code 1675 = .ok (.aload_n 3, 1) := by decide +kernel
theorem dW_1676 : decode code 1676 = .ok (.invokestatic 283, 3) := by decide +kernel
theorem dW_1679 : decode code 1679 = .ok (.istore 5, 2) := by decide +kernel
theorem dW_1681 : decode code 1681 = .ok (.aload_n 2, 1) := by decide +kernel
theorem dW_1682 : decode code 1682 = .ok (.aload_n 0, 1) := by decide +kernel
theorem dW_1683 : decode code 1683 = .ok (.iload 4, 2) := by decide +kernel
theorem dW_1685 : decode code 1685 = .ok (.iconst 1, 1) := by decide +kernel
theorem dW_1686 : decode code 1686 = .ok (.iadd, 1) := by decide +kernel
theorem dW_1687 : decode code 1687 = .ok (.iaload, 1) := by decide +kernel
theorem dW_1688 : decode code 1688 = .ok (.invokevirtual 285, 3) := by decide +kernel
theorem dW_1691 : decode code 1691 = .ok (.istore 6, 2) := by decide +kernel
theorem dW_1693 : decode code 1693 = .ok (.goto 663, 3) := by decide +kernel
theorem dW_1696 : decode code 1696 = .ok (.aload_n 1, 1) := by decide +kernel
theorem dW_1697 : decode code 1697 = .ok (.aload_n 0, 1) := by decide +kernel
theorem dW_1698 : decode code 1698 = .ok (.iload 4, 2) := by decide +kernel
theorem dW_1700 : decode code 1700 = .ok (.iconst 1, 1) := by decide +kernel
theorem dW_1701 : decode code 1701 = .ok (.iadd, 1) := by decide +kernel
theorem dW_1702 : decode code 1702 = .ok (.iaload, 1) := by decide +kernel
theorem dW_1703 : decode code 1703 = .ok (.aload_n 0, 1) := by decide +kernel
theorem dW_1704 : decode code 1704 = .ok (.iload 4, 2) := by decide +kernel
theorem dW_1706 : decode code 1706 = .ok (.iconst 2, 1) := by decide +kernel
theorem dW_1707 : decode code 1707 = .ok (.iadd, 1) := by decide +kernel
theorem dW_1708 : decode code 1708 = .ok (.iaload, 1) := by decide +kernel
theorem dW_1709 : decode code 1709 = .ok (.aload_n 0, 1) := by decide +kernel
theorem dW_1710 : decode code 1710 = .ok (.iload 4, 2) := by decide +kernel
theorem dW_1712 : decode code 1712 = .ok (.iconst 3, 1) := by decide +kernel
theorem dW_1713 : decode code 1713 = .ok (.iadd, 1) := by decide +kernel
theorem dW_1714 : decode code 1714 = .ok (.iaload, 1) := by decide +kernel
theorem dW_1715 : decode code 1715 = .ok (.aload_n 3, 1) := by decide +kernel
theorem dW_1716 : decode code 1716 = .ok (.invokestatic 286, 3) := by decide +kernel
theorem dW_1719 : decode code 1719 = .ok (.istore 5, 2) := by decide +kernel
theorem dW_1721 : decode code 1721 = .ok (.aload_n 2, 1) := by decide +kernel
theorem dW_1722 : decode code 1722 = .ok (.aload_n 0, 1) := by decide +kernel
theorem dW_1723 : decode code 1723 = .ok (.iload 4, 2) := by decide +kernel
theorem dW_1725 : decode code 1725 = .ok (.iconst 1, 1) := by decide +kernel
theorem dW_1726 : decode code 1726 = .ok (.iadd, 1) := by decide +kernel
theorem dW_1727 : decode code 1727 = .ok (.iaload, 1) := by decide +kernel
theorem dW_1728 : decode code 1728 = .ok (.aload_n 0, 1) := by decide +kernel
theorem dW_1729 : decode code 1729 = .ok (.iload 4, 2) := by decide +kernel
theorem dW_1731 : decode code 1731 = .ok (.iconst 2, 1) := by decide +kernel
theorem dW_1732 : decode code 1732 = .ok (.iadd, 1) := by decide +kernel
theorem dW_1733 : decode code 1733 = .ok (.iaload, 1) := by decide +kernel
theorem dW_1734 : decode code 1734 = .ok (.aload_n 0, 1) := by decide +kernel
theorem dW_1735 : decode code 1735 = .ok (.iload 4, 2) := by decide +kernel
theorem dW_1737 : decode code 1737 = .ok (.iconst 3, 1) := by decide +kernel
theorem dW_1738 : decode code 1738 = .ok (.iadd, 1) := by decide +kernel
theorem dW_1739 : decode code 1739 = .ok (.iaload, 1) := by decide +kernel
theorem dW_1740 : decode code 1740 = .ok (.invokevirtual 288, 3) := by decide +kernel
theorem dW_1743 : decode code 1743 = .ok (.istore 6, 2) := by decide +kernel
theorem dW_1745 : decode code 1745 = .ok (.goto 611, 3) := by decide +kernel
theorem dW_1748 : decode code 1748 = .ok (.aload_n 1, 1) := by decide +kernel
theorem dW_1749 : decode code 1749 = .ok (.aload_n 0, 1) := by decide +kernel
theorem dW_1750 : decode code 1750 = .ok (.iload 4, 2) := by decide +kernel
theorem dW_1752 : decode code 1752 = .ok (.iconst 1, 1) := by decide +kernel
theorem dW_1753 : decode code 1753 = .ok (.iadd, 1) := by decide +kernel
theorem dW_1754 : decode code 1754 = .ok (.iaload, 1) := by decide +kernel
theorem dW_1755 : decode code 1755 = .ok (.aload_n 0, 1) := by decide +kernel
theorem dW_1756 : decode code 1756 = .ok (.iload 4, 2) := by decide +kernel
theorem dW_1758 : decode code 1758 = .ok (.iconst 2, 1) := by decide +kernel
theorem dW_1759 : decode code 1759 = .ok (.iadd, 1) := by decide +kernel
theorem dW_1760 : decode code 1760 = .ok (.iaload, 1) := by decide +kernel
theorem dW_1761 : decode code 1761 = .ok (.aload_n 0, 1) := by decide +kernel
theorem dW_1762 : decode code 1762 = .ok (.iload 4, 2) := by decide +kernel
theorem dW_1764 : decode code 1764 = .ok (.iconst 3, 1) := by decide +kernel
theorem dW_1765 : decode code 1765 = .ok (.iadd, 1) := by decide +kernel
theorem dW_1766 : decode code 1766 = .ok (.iaload, 1) := by decide +kernel
theorem dW_1767 : decode code 1767 = .ok (.aload_n 3, 1) := by decide +kernel
theorem dW_1768 : decode code 1768 = .ok (.invokestatic 289, 3) := by decide +kernel
theorem dW_1771 : decode code 1771 = .ok (.istore 5, 2) := by decide +kernel
theorem dW_1773 : decode code 1773 = .ok (.aload_n 2, 1) := by decide +kernel
theorem dW_1774 : decode code 1774 = .ok (.aload_n 0, 1) := by decide +kernel
theorem dW_1775 : decode code 1775 = .ok (.iload 4, 2) := by decide +kernel
theorem dW_1777 : decode code 1777 = .ok (.iconst 1, 1) := by decide +kernel
theorem dW_1778 : decode code 1778 = .ok (.iadd, 1) := by decide +kernel
theorem dW_1779 : decode code 1779 = .ok (.iaload, 1) := by decide +kernel
theorem dW_1780 : decode code 1780 = .ok (.aload_n 0, 1) := by decide +kernel
theorem dW_1781 : decode code 1781 = .ok (.iload 4, 2) := by decide +kernel
theorem dW_1783 : decode code 1783 = .ok (.iconst 2, 1) := by decide +kernel
theorem dW_1784 : decode code 1784 = .ok (.iadd, 1) := by decide +kernel
theorem dW_1785 : decode code 1785 = .ok (.iaload, 1) := by decide +kernel
theorem dW_1786 : decode code 1786 = .ok (.aload_n 0, 1) := by decide +kernel
theorem dW_1787 : decode code 1787 = .ok (.iload 4, 2) := by decide +kernel
theorem dW_1789 : decode code 1789 = .ok (.iconst 3, 1) := by decide +kernel
theorem dW_1790 : decode code 1790 = .ok (.iadd, 1) := by decide +kernel
theorem dW_1791 : decode code 1791 = .ok (.iaload, 1) := by decide +kernel
theorem dW_1792 : decode code 1792 = .ok (.invokevirtual 291, 3) := by decide +kernel
theorem dW_1795 : decode code 1795 = .ok (.istore 6, 2) := by decide +kernel
theorem dW_1797 : decode code 1797 = .ok (.goto 559, 3) := by decide +kernel
theorem dW_1800 : decode code 1800 = .ok (.aload_n 1, 1) := by decide +kernel
theorem dW_1801 : decode code 1801 = .ok (.aload_n 0, 1) := by decide +kernel
theorem dW_1802 : decode code 1802 = .ok (.iload 4, 2) := by decide +kernel
theorem dW_1804 : decode code 1804 = .ok (.iconst 1, 1) := by decide +kernel
theorem dW_1805 : decode code 1805 = .ok (.iadd, 1) := by decide +kernel
theorem dW_1806 : decode code 1806 = .ok (.iaload, 1) := by decide +kernel
theorem dW_1807 : decode code 1807 = .ok (.aload_n 0, 1) := by decide +kernel
theorem dW_1808 : decode code 1808 = .ok (.iload 4, 2) := by decide +kernel
theorem dW_1810 : decode code 1810 = .ok (.iconst 2, 1) := by decide +kernel
theorem dW_1811 : decode code 1811 = .ok (.iadd, 1) := by decide +kernel
theorem dW_1812 : decode code 1812 = .ok (.iaload, 1) := by decide +kernel
theorem dW_1813 : decode code 1813 = .ok (.aload_n 3, 1) := by decide +kernel
theorem dW_1814 : decode code 1814 = .ok (.invokestatic 292, 3) := by decide +kernel
theorem dW_1817 : decode code 1817 = .ok (.istore 5, 2) := by decide +kernel
theorem dW_1819 : decode code 1819 = .ok (.aload_n 2, 1) := by decide +kernel
theorem dW_1820 : decode code 1820 = .ok (.aload_n 0, 1) := by decide +kernel
theorem dW_1821 : decode code 1821 = .ok (.iload 4, 2) := by decide +kernel
theorem dW_1823 : decode code 1823 = .ok (.iconst 1, 1) := by decide +kernel
theorem dW_1824 : decode code 1824 = .ok (.iadd, 1) := by decide +kernel
theorem dW_1825 : decode code 1825 = .ok (.iaload, 1) := by decide +kernel
theorem dW_1826 : decode code 1826 = .ok (.aload_n 0, 1) := by decide +kernel
theorem dW_1827 : decode code 1827 = .ok (.iload 4, 2) := by decide +kernel
theorem dW_1829 : decode code 1829 = .ok (.iconst 2, 1) := by decide +kernel
theorem dW_1830 : decode code 1830 = .ok (.iadd, 1) := by decide +kernel
theorem dW_1831 : decode code 1831 = .ok (.iaload, 1) := by decide +kernel
theorem dW_1832 : decode code 1832 = .ok (.invokevirtual 294, 3) := by decide +kernel
theorem dW_1835 : decode code 1835 = .ok (.istore 6, 2) := by decide +kernel
theorem dW_1837 : decode code 1837 = .ok (.goto 519, 3) := by decide +kernel
theorem dW_1840 : decode code 1840 = .ok (.aload_n 1, 1) := by decide +kernel
theorem dW_1841 : decode code 1841 = .ok (.aload_n 0, 1) := by decide +kernel
theorem dW_1842 : decode code 1842 = .ok (.iload 4, 2) := by decide +kernel
theorem dW_1844 : decode code 1844 = .ok (.iconst 1, 1) := by decide +kernel
theorem dW_1845 : decode code 1845 = .ok (.iadd, 1) := by decide +kernel
theorem dW_1846 : decode code 1846 = .ok (.iaload, 1) := by decide +kernel
theorem dW_1847 : decode code 1847 = .ok (.aload_n 3, 1) := by decide +kernel
theorem dW_1848 : decode code 1848 = .ok (.invokestatic 295, 3) := by decide +kernel
theorem dW_1851 : decode code 1851 = .ok (.istore 5, 2) := by decide +kernel
theorem dW_1853 : decode code 1853 = .ok (.aload_n 2, 1) := by decide +kernel
theorem dW_1854 : decode code 1854 = .ok (.aload_n 0, 1) := by decide +kernel
theorem dW_1855 : decode code 1855 = .ok (.iload 4, 2) := by decide +kernel
theorem dW_1857 : decode code 1857 = .ok (.iconst 1, 1) := by decide +kernel
theorem dW_1858 : decode code 1858 = .ok (.iadd, 1) := by decide +kernel
theorem dW_1859 : decode code 1859 = .ok (.iaload, 1) := by decide +kernel
theorem dW_1860 : decode code 1860 = .ok (.invokevirtual 297, 3) := by decide +kernel
theorem dW_1863 : decode code 1863 = .ok (.istore 6, 2) := by decide +kernel
theorem dW_1865 : decode code 1865 = .ok (.goto 491, 3) := by decide +kernel
theorem dW_1868 : decode code 1868 = .ok (.aload_n 1, 1) := by decide +kernel
theorem dW_1869 : decode code 1869 = .ok (.aload_n 0, 1) := by decide +kernel
theorem dW_1870 : decode code 1870 = .ok (.iload 4, 2) := by decide +kernel
theorem dW_1872 : decode code 1872 = .ok (.iconst 1, 1) := by decide +kernel
theorem dW_1873 : decode code 1873 = .ok (.iadd, 1) := by decide +kernel
theorem dW_1874 : decode code 1874 = .ok (.iaload, 1) := by decide +kernel
theorem dW_1875 : decode code 1875 = .ok (.aload_n 3, 1) := by decide +kernel
theorem dW_1876 : decode code 1876 = .ok (.invokestatic 298, 3) := by decide +kernel
theorem dW_1879 : decode code 1879 = .ok (.istore 5, 2) := by decide +kernel
theorem dW_1881 : decode code 1881 = .ok (.aload_n 2, 1) := by decide +kernel
theorem dW_1882 : decode code 1882 = .ok (.aload_n 0, 1) := by decide +kernel
theorem dW_1883 : decode code 1883 = .ok (.iload 4, 2) := by decide +kernel
theorem dW_1885 : decode code 1885 = .ok (.iconst 1, 1) := by decide +kernel
theorem dW_1886 : decode code 1886 = .ok (.iadd, 1) := by decide +kernel
theorem dW_1887 : decode code 1887 = .ok (.iaload, 1) := by decide +kernel
theorem dW_1888 : decode code 1888 = .ok (.invokevirtual 300, 3) := by decide +kernel
theorem dW_1891 : decode code 1891 = .ok (.istore 6, 2) := by decide +kernel
theorem dW_1893 : decode code 1893 = .ok (.goto 463, 3) := by decide +kernel
theorem dW_1896 : decode code 1896 = .ok (.aload_n 1, 1) := by decide +kernel
theorem dW_1897 : decode code 1897 = .ok (.aload_n 0, 1) := by decide +kernel
theorem dW_1898 : decode code 1898 = .ok (.iload 4, 2) := by decide +kernel
theorem dW_1900 : decode code 1900 = .ok (.iconst 1, 1) := by decide +kernel
theorem dW_1901 : decode code 1901 = .ok (.iadd, 1) := by decide +kernel
theorem dW_1902 : decode code 1902 = .ok (.iaload, 1) := by decide +kernel
theorem dW_1903 : decode code 1903 = .ok (.aload_n 0, 1) := by decide +kernel
theorem dW_1904 : decode code 1904 = .ok (.iload 4, 2) := by decide +kernel
theorem dW_1906 : decode code 1906 = .ok (.iconst 2, 1) := by decide +kernel
theorem dW_1907 : decode code 1907 = .ok (.iadd, 1) := by decide +kernel
theorem dW_1908 : decode code 1908 = .ok (.iaload, 1) := by decide +kernel
theorem dW_1909 : decode code 1909 = .ok (.ifCond .eq 7, 3) := by decide +kernel
theorem dW_1912 : decode code 1912 = .ok (.iconst 1, 1) := by decide +kernel
theorem dW_1913 : decode code 1913 = .ok (.goto 4, 3) := by decide +kernel
theorem dW_1916 : decode code 1916 = .ok (.iconst 0, 1) := by decide +kernel
theorem dW_1917 : decode code 1917 = .ok (.aload_n 3, 1) := by decide +kernel
theorem dW_1918 : decode code 1918 = .ok (.invokestatic 301, 3) := by decide +kernel
theorem dW_1921 : decode code 1921 = .ok (.istore 5, 2) := by decide +kernel
theorem dW_1923 : decode code 1923 = .ok (.aload_n 2, 1) := by decide +kernel
theorem dW_1924 : decode code 1924 = .ok (.aload_n 0, 1) := by decide +kernel
theorem dW_1925 : decode code 1925 = .ok (.iload 4, 2) := by decide +kernel
theorem dW_1927 : decode code 1927 = .ok (.iconst 1, 1) := by decide +kernel
theorem dW_1928 : decode code 1928 = .ok (.iadd, 1) := by decide +kernel
theorem dW_1929 : decode code 1929 = .ok (.iaload, 1) := by decide +kernel
theorem dW_1930 : decode code 1930 = .ok (.aload_n 0, 1) := by decide +kernel
theorem dW_1931 : decode code 1931 = .ok (.iload 4, 2) := by decide +kernel
theorem dW_1933 : decode code 1933 = .ok (.iconst 2, 1) := by decide +kernel
theorem dW_1934 : decode code 1934 = .ok (.iadd, 1) := by decide +kernel
theorem dW_1935 : decode code 1935 = .ok (.iaload, 1) := by decide +kernel
theorem dW_1936 : decode code 1936 = .ok (.ifCond .eq 7, 3) := by decide +kernel
theorem dW_1939 : decode code 1939 = .ok (.iconst 1, 1) := by decide +kernel
theorem dW_1940 : decode code 1940 = .ok (.goto 4, 3) := by decide +kernel
theorem dW_1943 : decode code 1943 = .ok (.iconst 0, 1) := by decide +kernel
theorem dW_1944 : decode code 1944 = .ok (.invokevirtual 303, 3) := by decide +kernel
theorem dW_1947 : decode code 1947 = .ok (.istore 6, 2) := by decide +kernel
theorem dW_1949 : decode code 1949 = .ok (.goto 407, 3) := by decide +kernel
theorem dW_1952 : decode code 1952 = .ok (.aload_n 1, 1) := by decide +kernel
theorem dW_1953 : decode code 1953 = .ok (.aload_n 0, 1) := by decide +kernel
theorem dW_1954 : decode code 1954 = .ok (.iload 4, 2) := by decide +kernel
theorem dW_1956 : decode code 1956 = .ok (.iconst 1, 1) := by decide +kernel
theorem dW_1957 : decode code 1957 = .ok (.iadd, 1) := by decide +kernel
theorem dW_1958 : decode code 1958 = .ok (.iaload, 1) := by decide +kernel
theorem dW_1959 : decode code 1959 = .ok (.aload_n 0, 1) := by decide +kernel
theorem dW_1960 : decode code 1960 = .ok (.iload 4, 2) := by decide +kernel
theorem dW_1962 : decode code 1962 = .ok (.iconst 2, 1) := by decide +kernel
theorem dW_1963 : decode code 1963 = .ok (.iadd, 1) := by decide +kernel
theorem dW_1964 : decode code 1964 = .ok (.iaload, 1) := by decide +kernel
theorem dW_1965 : decode code 1965 = .ok (.aload_n 3, 1) := by decide +kernel
theorem dW_1966 : decode code 1966 = .ok (.invokestatic 304, 3) := by decide +kernel
theorem dW_1969 : decode code 1969 = .ok (.istore 5, 2) := by decide +kernel
theorem dW_1971 : decode code 1971 = .ok (.aload_n 2, 1) := by decide +kernel
theorem dW_1972 : decode code 1972 = .ok (.aload_n 0, 1) := by decide +kernel
theorem dW_1973 : decode code 1973 = .ok (.iload 4, 2) := by decide +kernel
theorem dW_1975 : decode code 1975 = .ok (.iconst 1, 1) := by decide +kernel
theorem dW_1976 : decode code 1976 = .ok (.iadd, 1) := by decide +kernel
theorem dW_1977 : decode code 1977 = .ok (.iaload, 1) := by decide +kernel
theorem dW_1978 : decode code 1978 = .ok (.aload_n 0, 1) := by decide +kernel
theorem dW_1979 : decode code 1979 = .ok (.iload 4, 2) := by decide +kernel
theorem dW_1981 : decode code 1981 = .ok (.iconst 2, 1) := by decide +kernel
theorem dW_1982 : decode code 1982 = .ok (.iadd, 1) := by decide +kernel
theorem dW_1983 : decode code 1983 = .ok (.iaload, 1) := by decide +kernel
theorem dW_1984 : decode code 1984 = .ok (.invokevirtual 306, 3) := by decide +kernel
theorem dW_1987 : decode code 1987 = .ok (.istore 6, 2) := by decide +kernel
theorem dW_1989 : decode code 1989 = .ok (.goto 367, 3) := by decide +kernel
theorem dW_1992 : decode code 1992 = .ok (.aload_n 1, 1) := by decide +kernel
theorem dW_1993 : decode code 1993 = .ok (.aload_n 0, 1) := by decide +kernel
theorem dW_1994 : decode code 1994 = .ok (.iload 4, 2) := by decide +kernel
