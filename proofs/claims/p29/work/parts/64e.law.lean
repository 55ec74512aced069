/-! ===== more of them ===== -/
set_option maxRecDepth 100000 in
theorem la_1661 : dm_at 329 1661 = some (.iadd, 1, []) := by decide +kernel
set_option maxRecDepth 100000 in
theorem la_1662 : dm_at 329 1662 = some (.iaload, 1, []) := by decide +kernel
set_option maxRecDepth 100000 in
theorem la_1663 : dm_at 329 1663 = some (.aload_n 0, 1, []) := by decide +kernel
set_option maxRecDepth 100000 in
theorem la_1664 : dm_at 329 1664 = some (.iload 4, 2, []) := by decide +kernel
set_option maxRecDepth 100000 in
theorem la_1666 : dm_at 329 1666 = some (.iconst 4, 1, []) := by decide +kernel
set_option maxRecDepth 100000 in
theorem la_1667 : dm_at 329 1667 = some (.iadd, 1, []) := by decide +kernel
set_option maxRecDepth 100000 in
theorem la_1668 : dm_at 329 1668 = some (.iaload, 1, []) := by decide +kernel
set_option maxRecDepth 100000 in
theorem la_1669 : dm_at 329 1669 = some (.aload_n 3, 1, []) := by decide +kernel
set_option maxRecDepth 100000 in
theorem la_1670 : dm_at 329 1670 = some (.invokestatic 282, 3, [314, 0, 5161, 5162, 1000, 5163]) := by decide +kernel
set_option maxRecDepth 100000 in
theorem la_1673 : dm_at 329 1673 = some (.istore 5, 2, []) := by decide +kernel
set_option maxRecDepth 100000 in
theorem la_1675 : dm_at 329 1675 = some (.aload_n 2, 1, []) := by decide +kernel
set_option maxRecDepth 100000 in
theorem la_1676 : dm_at 329 1676 = some (.aload_n 0, 1, []) := by decide +kernel
set_option maxRecDepth 100000 in
theorem la_1677 : dm_at 329 1677 = some (.iload 4, 2, []) := by decide +kernel
set_option maxRecDepth 100000 in
theorem la_1679 : dm_at 329 1679 = some (.iconst 1, 1, []) := by decide +kernel
set_option maxRecDepth 100000 in
theorem la_1680 : dm_at 329 1680 = some (.iadd, 1, []) := by decide +kernel
set_option maxRecDepth 100000 in
theorem la_1681 : dm_at 329 1681 = some (.iaload, 1, []) := by decide +kernel
set_option maxRecDepth 100000 in
theorem la_1682 : dm_at 329 1682 = some (.aload_n 0, 1, []) := by decide +kernel
set_option maxRecDepth 100000 in
theorem la_1683 : dm_at 329 1683 = some (.iload 4, 2, []) := by decide +kernel
set_option maxRecDepth 100000 in
theorem la_1685 : dm_at 329 1685 = some (.iconst 2, 1, []) := by decide +kernel
set_option maxRecDepth 100000 in
theorem la_1686 : dm_at 329 1686 = some (.iadd, 1, []) := by decide +kernel
set_option maxRecDepth 100000 in
theorem la_1687 : dm_at 329 1687 = some (.iaload, 1, []) := by decide +kernel
set_option maxRecDepth 100000 in
theorem la_1688 : dm_at 329 1688 = some (.aload_n 0, 1, []) := by decide +kernel
set_option maxRecDepth 100000 in
theorem la_1689 : dm_at 329 1689 = some (.iload 4, 2, []) := by decide +kernel
set_option maxRecDepth 100000 in
theorem la_1691 : dm_at 329 1691 = some (.iconst 3, 1, []) := by decide +kernel
set_option maxRecDepth 100000 in
theorem la_1692 : dm_at 329 1692 = some (.iadd, 1, []) := by decide +kernel
set_option maxRecDepth 100000 in
theorem la_1693 : dm_at 329 1693 = some (.iaload, 1, []) := by decide +kernel
set_option maxRecDepth 100000 in
theorem la_1694 : dm_at 329 1694 = some (.aload_n 0, 1, []) := by decide +kernel
set_option maxRecDepth 100000 in
theorem la_1695 : dm_at 329 1695 = some (.iload 4, 2, []) := by decide +kernel
set_option maxRecDepth 100000 in
theorem la_1697 : dm_at 329 1697 = some (.iconst 4, 1, []) := by decide +kernel
set_option maxRecDepth 100000 in
theorem la_1698 : dm_at 329 1698 = some (.iadd, 1, []) := by decide +kernel
set_option maxRecDepth 100000 in
theorem la_1699 : dm_at 329 1699 = some (.iaload, 1, []) := by decide +kernel
set_option maxRecDepth 100000 in
theorem la_1700 : dm_at 329 1700 = some (.invokevirtual 284, 3, [180, 1, 7057, 7058, 7059, 1008, 7060]) := by decide +kernel
set_option maxRecDepth 100000 in
theorem la_1703 : dm_at 329 1703 = some (.istore 6, 2, []) := by decide +kernel
set_option maxRecDepth 100000 in
theorem la_1705 : dm_at 329 1705 = some (.goto 682, 3, [2387]) := by decide +kernel
set_option maxRecDepth 100000 in
theorem la_1708 : dm_at 329 1708 = some (.aload_n 1, 1, []) := by decide +kernel
set_option maxRecDepth 100000 in
theorem la_1709 : dm_at 329 1709 = some (.aload_n 0, 1, []) := by decide +kernel
set_option maxRecDepth 100000 in
theorem la_1710 : dm_at 329 1710 = some (.iload 4, 2, []) := by decide +kernel
set_option maxRecDepth 100000 in
theorem la_1712 : dm_at 329 1712 = some (.iconst 1, 1, []) := by decide +kernel
set_option maxRecDepth 100000 in
theorem la_1713 : dm_at 329 1713 = some (.iadd, 1, []) := by decide +kernel
set_option maxRecDepth 100000 in
theorem la_1714 : dm_at 329 1714 = some (.iaload, 1, []) := by decide +kernel
set_option maxRecDepth 100000 in
theorem la_1715 : dm_at 329 1715 = some (.aload_n 0, 1, []) := by decide +kernel
set_option maxRecDepth 100000 in
theorem la_1716 : dm_at 329 1716 = some (.iload 4, 2, []) := by decide +kernel
set_option maxRecDepth 100000 in
theorem la_1718 : dm_at 329 1718 = some (.iconst 2, 1, []) := by decide +kernel
set_option maxRecDepth 100000 in
theorem la_1719 : dm_at 329 1719 = some (.iadd, 1, []) := by decide +kernel
set_option maxRecDepth 100000 in
theorem la_1720 : dm_at 329 1720 = some (.iaload, 1, []) := by decide +kernel
set_option maxRecDepth 100000 in
theorem la_1721 : dm_at 329 1721 = some (.aload_n 0, 1, []) := by decide +kernel
set_option maxRecDepth 100000 in
theorem la_1722 : dm_at 329 1722 = some (.iload 4, 2, []) := by decide +kernel
set_option maxRecDepth 100000 in
theorem la_1724 : dm_at 329 1724 = some (.iconst 3, 1, []) := by decide +kernel
set_option maxRecDepth 100000 in
theorem la_1725 : dm_at 329 1725 = some (.iadd, 1, []) := by decide +kernel
set_option maxRecDepth 100000 in
theorem la_1726 : dm_at 329 1726 = some (.iaload, 1, []) := by decide +kernel
set_option maxRecDepth 100000 in
theorem la_1727 : dm_at 329 1727 = some (.aload_n 0, 1, []) := by decide +kernel
set_option maxRecDepth 100000 in
theorem la_1728 : dm_at 329 1728 = some (.iload 4, 2, []) := by decide +kernel
set_option maxRecDepth 100000 in
theorem la_1730 : dm_at 329 1730 = some (.iconst 4, 1, []) := by decide +kernel
set_option maxRecDepth 100000 in
theorem la_1731 : dm_at 329 1731 = some (.iadd, 1, []) := by decide +kernel
set_option maxRecDepth 100000 in
theorem la_1732 : dm_at 329 1732 = some (.iaload, 1, []) := by decide +kernel
set_option maxRecDepth 100000 in
theorem la_1733 : dm_at 329 1733 = some (.aload_n 0, 1, []) := by decide +kernel
set_option maxRecDepth 100000 in
theorem la_1734 : dm_at 329 1734 = some (.iload 4, 2, []) := by decide +kernel
set_option maxRecDepth 100000 in
theorem la_1736 : dm_at 329 1736 = some (.iconst 5, 1, []) := by decide +kernel
set_option maxRecDepth 100000 in
theorem la_1737 : dm_at 329 1737 = some (.iadd, 1, []) := by decide +kernel
set_option maxRecDepth 100000 in
theorem la_1738 : dm_at 329 1738 = some (.iaload, 1, []) := by decide +kernel
set_option maxRecDepth 100000 in
theorem la_1739 : dm_at 329 1739 = some (.aload_n 3, 1, []) := by decide +kernel
set_option maxRecDepth 100000 in
theorem la_1740 : dm_at 329 1740 = some (.invokestatic 285, 3, [315, 0, 5168, 5169, 1000, 5170]) := by decide +kernel
set_option maxRecDepth 100000 in
theorem la_1743 : dm_at 329 1743 = some (.istore 5, 2, []) := by decide +kernel
set_option maxRecDepth 100000 in
theorem la_1745 : dm_at 329 1745 = some (.aload_n 2, 1, []) := by decide +kernel
set_option maxRecDepth 100000 in
theorem la_1746 : dm_at 329 1746 = some (.aload_n 0, 1, []) := by decide +kernel
set_option maxRecDepth 100000 in
theorem la_1747 : dm_at 329 1747 = some (.iload 4, 2, []) := by decide +kernel
set_option maxRecDepth 100000 in
theorem la_1749 : dm_at 329 1749 = some (.iconst 1, 1, []) := by decide +kernel
set_option maxRecDepth 100000 in
theorem la_1750 : dm_at 329 1750 = some (.iadd, 1, []) := by decide +kernel
set_option maxRecDepth 100000 in
theorem la_1751 : dm_at 329 1751 = some (.iaload, 1, []) := by decide +kernel
set_option maxRecDepth 100000 in
theorem la_1752 : dm_at 329 1752 = some (.aload_n 0, 1, []) := by decide +kernel
set_option maxRecDepth 100000 in
theorem la_1753 : dm_at 329 1753 = some (.iload 4, 2, []) := by decide +kernel
set_option maxRecDepth 100000 in
theorem la_1755 : dm_at 329 1755 = some (.iconst 2, 1, []) := by decide +kernel
set_option maxRecDepth 100000 in
theorem la_1756 : dm_at 329 1756 = some (.iadd, 1, []) := by decide +kernel
set_option maxRecDepth 100000 in
theorem la_1757 : dm_at 329 1757 = some (.iaload, 1, []) := by decide +kernel
set_option maxRecDepth 100000 in
theorem la_1758 : dm_at 329 1758 = some (.aload_n 0, 1, []) := by decide +kernel
set_option maxRecDepth 100000 in
theorem la_1759 : dm_at 329 1759 = some (.iload 4, 2, []) := by decide +kernel
set_option maxRecDepth 100000 in
theorem la_1761 : dm_at 329 1761 = some (.iconst 3, 1, []) := by decide +kernel
set_option maxRecDepth 100000 in
theorem la_1762 : dm_at 329 1762 = some (.iadd, 1, []) := by decide +kernel
set_option maxRecDepth 100000 in
theorem la_1763 : dm_at 329 1763 = some (.iaload, 1, []) := by decide +kernel
set_option maxRecDepth 100000 in
theorem la_1764 : dm_at 329 1764 = some (.aload_n 0, 1, []) := by decide +kernel
set_option maxRecDepth 100000 in
theorem la_1765 : dm_at 329 1765 = some (.iload 4, 2, []) := by decide +kernel
set_option maxRecDepth 100000 in
theorem la_1767 : dm_at 329 1767 = some (.iconst 4, 1, []) := by decide +kernel
set_option maxRecDepth 100000 in
theorem la_1768 : dm_at 329 1768 = some (.iadd, 1, []) := by decide +kernel
set_option maxRecDepth 100000 in
theorem la_1769 : dm_at 329 1769 = some (.iaload, 1, []) := by decide +kernel
set_option maxRecDepth 100000 in
theorem la_1770 : dm_at 329 1770 = some (.aload_n 0, 1, []) := by decide +kernel
set_option maxRecDepth 100000 in
theorem la_1771 : dm_at 329 1771 = some (.iload 4, 2, []) := by decide +kernel
set_option maxRecDepth 100000 in
theorem la_1773 : dm_at 329 1773 = some (.iconst 5, 1, []) := by decide +kernel
set_option maxRecDepth 100000 in
theorem la_1774 : dm_at 329 1774 = some (.iadd, 1, []) := by decide +kernel
set_option maxRecDepth 100000 in
theorem la_1775 : dm_at 329 1775 = some (.iaload, 1, []) := by decide +kernel
set_option maxRecDepth 100000 in
theorem la_1776 : dm_at 329 1776 = some (.invokevirtual 287, 3, [181, 1, 7061, 7062, 7063, 1008, 7064]) := by decide +kernel
set_option maxRecDepth 100000 in
theorem la_1779 : dm_at 329 1779 = some (.istore 6, 2, []) := by decide +kernel
set_option maxRecDepth 100000 in
theorem la_1781 : dm_at 329 1781 = some (.goto 606, 3, [2387]) := by decide +kernel
set_option maxRecDepth 100000 in
theorem la_1784 : dm_at 329 1784 = some (.aload_n 1, 1, []) := by decide +kernel
set_option maxRecDepth 100000 in
theorem la_1785 : dm_at 329 1785 = some (.aload_n 0, 1, []) := by decide +kernel
set_option maxRecDepth 100000 in
theorem la_1786 : dm_at 329 1786 = some (.iload 4, 2, []) := by decide +kernel
set_option maxRecDepth 100000 in
theorem la_1788 : dm_at 329 1788 = some (.iconst 1, 1, []) := by decide +kernel
set_option maxRecDepth 100000 in
theorem la_1789 : dm_at 329 1789 = some (.iadd, 1, []) := by decide +kernel
set_option maxRecDepth 100000 in
theorem la_1790 : dm_at 329 1790 = some (.iaload, 1, []) := by decide +kernel
set_option maxRecDepth 100000 in
theorem la_1791 : dm_at 329 1791 = some (.aload_n 0, 1, []) := by decide +kernel
set_option maxRecDepth 100000 in
theorem la_1792 : dm_at 329 1792 = some (.iload 4, 2, []) := by decide +kernel
set_option maxRecDepth 100000 in
theorem la_1794 : dm_at 329 1794 = some (.iconst 2, 1, []) := by decide +kernel
set_option maxRecDepth 100000 in
theorem la_1795 : dm_at 329 1795 = some (.iadd, 1, []) := by decide +kernel
set_option maxRecDepth 100000 in
theorem la_1796 : dm_at 329 1796 = some (.iaload, 1, []) := by decide +kernel
set_option maxRecDepth 100000 in
theorem la_1797 : dm_at 329 1797 = some (.ifCond .eq 7, 3, [1804]) := by decide +kernel
set_option maxRecDepth 100000 in
theorem la_1800 : dm_at 329 1800 = some (.iconst 1, 1, []) := by decide +kernel
set_option maxRecDepth 100000 in
theorem la_1801 : dm_at 329 1801 = some (.goto 4, 3, [1805]) := by decide +kernel
set_option maxRecDepth 100000 in
theorem la_1804 : dm_at 329 1804 = some (.iconst 0, 1, []) := by decide +kernel
set_option maxRecDepth 100000 in
theorem la_1805 : dm_at 329 1805 = some (.aload_n 3, 1, []) := by decide +kernel
set_option maxRecDepth 100000 in
theorem la_1806 : dm_at 329 1806 = some (.invokestatic 288, 3, [316, 0, 5175, 5176, 1000, 5177]) := by decide +kernel
set_option maxRecDepth 100000 in
theorem la_1809 : dm_at 329 1809 = some (.istore 5, 2, []) := by decide +kernel
set_option maxRecDepth 100000 in
theorem la_1811 : dm_at 329 1811 = some (.aload_n 2, 1, []) := by decide +kernel
set_option maxRecDepth 100000 in
theorem la_1812 : dm_at 329 1812 = some (.aload_n 0, 1, []) := by decide +kernel
set_option maxRecDepth 100000 in
theorem la_1813 : dm_at 329 1813 = some (.iload 4, 2, []) := by decide +kernel
set_option maxRecDepth 100000 in
theorem la_1815 : dm_at 329 1815 = some (.iconst 1, 1, []) := by decide +kernel
set_option maxRecDepth 100000 in
theorem la_1816 : dm_at 329 1816 = some (.iadd, 1, []) := by decide +kernel
set_option maxRecDepth 100000 in
theorem la_1817 : dm_at 329 1817 = some (.iaload, 1, []) := by decide +kernel
set_option maxRecDepth 100000 in
theorem la_1818 : dm_at 329 1818 = some (.aload_n 0, 1, []) := by decide +kernel
set_option maxRecDepth 100000 in
theorem la_1819 : dm_at 329 1819 = some (.iload 4, 2, []) := by decide +kernel
set_option maxRecDepth 100000 in
theorem la_1821 : dm_at 329 1821 = some (.iconst 2, 1, []) := by decide +kernel
set_option maxRecDepth 100000 in
theorem la_1822 : dm_at 329 1822 = some (.iadd, 1, []) := by decide +kernel
set_option maxRecDepth 100000 in
theorem la_1823 : dm_at 329 1823 = some (.iaload, 1, []) := by decide +kernel
set_option maxRecDepth 100000 in
theorem la_1824 : dm_at 329 1824 = some (.ifCond .eq 7, 3, [1831]) := by decide +kernel
set_option maxRecDepth 100000 in
theorem la_1827 : dm_at 329 1827 = some (.iconst 1, 1, []) := by decide +kernel
set_option maxRecDepth 100000 in
theorem la_1828 : dm_at 329 1828 = some (.goto 4, 3, [1832]) := by decide +kernel
set_option maxRecDepth 100000 in
theorem la_1831 : dm_at 329 1831 = some (.iconst 0, 1, []) := by decide +kernel
set_option maxRecDepth 100000 in
theorem la_1832 : dm_at 329 1832 = some (.invokevirtual 290, 3, [183, 1, 7065, 7066, 7067, 1008, 7068]) := by decide +kernel
set_option maxRecDepth 100000 in
theorem la_1835 : dm_at 329 1835 = some (.astore 6, 2, []) := by decide +kernel
set_option maxRecDepth 100000 in
theorem la_1837 : dm_at 329 1837 = some (.goto 550, 3, [2387]) := by decide +kernel
set_option maxRecDepth 100000 in
theorem la_1840 : dm_at 329 1840 = some (.aload_n 1, 1, []) := by decide +kernel
set_option maxRecDepth 100000 in
theorem la_1841 : dm_at 329 1841 = some (.aload_n 0, 1, []) := by decide +kernel
set_option maxRecDepth 100000 in
theorem la_1842 : dm_at 329 1842 = some (.iload 4, 2, []) := by decide +kernel
set_option maxRecDepth 100000 in
theorem la_1844 : dm_at 329 1844 = some (.iconst 1, 1, []) := by decide +kernel
set_option maxRecDepth 100000 in
theorem la_1845 : dm_at 329 1845 = some (.iadd, 1, []) := by decide +kernel
set_option maxRecDepth 100000 in
theorem la_1846 : dm_at 329 1846 = some (.iaload, 1, []) := by decide +kernel
set_option maxRecDepth 100000 in
theorem la_1847 : dm_at 329 1847 = some (.aload_n 0, 1, []) := by decide +kernel
set_option maxRecDepth 100000 in
theorem la_1848 : dm_at 329 1848 = some (.iload 4, 2, []) := by decide +kernel
set_option maxRecDepth 100000 in
theorem la_1850 : dm_at 329 1850 = some (.iconst 2, 1, []) := by decide +kernel
set_option maxRecDepth 100000 in
theorem la_1851 : dm_at 329 1851 = some (.iadd, 1, []) := by decide +kernel
set_option maxRecDepth 100000 in
theorem la_1852 : dm_at 329 1852 = some (.iaload, 1, []) := by decide +kernel
set_option maxRecDepth 100000 in
theorem la_1853 : dm_at 329 1853 = some (.aload_n 3, 1, []) := by decide +kernel
set_option maxRecDepth 100000 in
theorem la_1854 : dm_at 329 1854 = some (.invokestatic 291, 3, [317, 0, 5182, 5183, 1000, 5184]) := by decide +kernel
set_option maxRecDepth 100000 in
theorem la_1857 : dm_at 329 1857 = some (.istore 5, 2, []) := by decide +kernel
set_option maxRecDepth 100000 in
theorem la_1859 : dm_at 329 1859 = some (.aload_n 2, 1, []) := by decide +kernel
set_option maxRecDepth 100000 in
theorem la_1860 : dm_at 329 1860 = some (.aload_n 0, 1, []) := by decide +kernel
set_option maxRecDepth 100000 in
theorem la_1861 : dm_at 329 1861 = some (.iload 4, 2, []) := by decide +kernel
set_option maxRecDepth 100000 in
theorem la_1863 : dm_at 329 1863 = some (.iconst 1, 1, []) := by decide +kernel
set_option maxRecDepth 100000 in
theorem la_1864 : dm_at 329 1864 = some (.iadd, 1, []) := by decide +kernel
set_option maxRecDepth 100000 in
theorem la_1865 : dm_at 329 1865 = some (.iaload, 1, []) := by decide +kernel
set_option maxRecDepth 100000 in
theorem la_1866 : dm_at 329 1866 = some (.aload_n 0, 1, []) := by decide +kernel
set_option maxRecDepth 100000 in
theorem la_1867 : dm_at 329 1867 = some (.iload 4, 2, []) := by decide +kernel
set_option maxRecDepth 100000 in
theorem la_1869 : dm_at 329 1869 = some (.iconst 2, 1, []) := by decide +kernel
set_option maxRecDepth 100000 in
theorem la_1870 : dm_at 329 1870 = some (.iadd, 1, []) := by decide +kernel
set_option maxRecDepth 100000 in
theorem la_1871 : dm_at 329 1871 = some (.iaload, 1, []) := by decide +kernel
set_option maxRecDepth 100000 in
theorem la_1872 : dm_at 329 1872 = some (.invokevirtual 293, 3, [184, 1, 7069, 7070, 7071, 1008, 7072]) := by decide +kernel
set_option maxRecDepth 100000 in
theorem la_1875 : dm_at 329 1875 = some (.istore 6, 2, []) := by decide +kernel
set_option maxRecDepth 100000 in
theorem la_1877 : dm_at 329 1877 = some (.goto 510, 3, [2387]) := by decide +kernel
set_option maxRecDepth 100000 in
theorem la_1880 : dm_at 329 1880 = some (.aload_n 1, 1, []) := by decide +kernel
set_option maxRecDepth 100000 in
theorem la_1881 : dm_at 329 1881 = some (.aload_n 0, 1, []) := by decide +kernel
set_option maxRecDepth 100000 in
theorem la_1882 : dm_at 329 1882 = some (.iload 4, 2, []) := by decide +kernel
set_option maxRecDepth 100000 in
theorem la_1884 : dm_at 329 1884 = some (.iconst 1, 1, []) := by decide +kernel
set_option maxRecDepth 100000 in
theorem la_1885 : dm_at 329 1885 = some (.iadd, 1, []) := by decide +kernel
set_option maxRecDepth 100000 in
theorem la_1886 : dm_at 329 1886 = some (.iaload, 1, []) := by decide +kernel
set_option maxRecDepth 100000 in
theorem la_1887 : dm_at 329 1887 = some (.aload_n 3, 1, []) := by decide +kernel
set_option maxRecDepth 100000 in
theorem la_1888 : dm_at 329 1888 = some (.invokestatic 294, 3, [318, 0, 5193, 5194, 1000, 5195]) := by decide +kernel
set_option maxRecDepth 100000 in
theorem la_1891 : dm_at 329 1891 = some (.istore 5, 2, []) := by decide +kernel
set_option maxRecDepth 100000 in
theorem la_1893 : dm_at 329 1893 = some (.aload_n 2, 1, []) := by decide +kernel
set_option maxRecDepth 100000 in
theorem la_1894 : dm_at 329 1894 = some (.aload_n 0, 1, []) := by decide +kernel
set_option maxRecDepth 100000 in
theorem la_1895 : dm_at 329 1895 = some (.iload 4, 2, []) := by decide +kernel
set_option maxRecDepth 100000 in
theorem la_1897 : dm_at 329 1897 = some (.iconst 1, 1, []) := by decide +kernel
set_option maxRecDepth 100000 in
theorem la_1898 : dm_at 329 1898 = some (.iadd, 1, []) := by decide +kernel
set_option maxRecDepth 100000 in
theorem la_1899 : dm_at 329 1899 = some (.iaload, 1, []) := by decide +kernel
set_option maxRecDepth 100000 in
theorem la_1900 : dm_at 329 1900 = some (.invokevirtual 296, 3, [191, 1, 7073, 7074, 7075, 1008, 7076]) := by decide +kernel
set_option maxRecDepth 100000 in
theorem la_1903 : dm_at 329 1903 = some (.istore 6, 2, []) := by decide +kernel
set_option maxRecDepth 100000 in
theorem la_1905 : dm_at 329 1905 = some (.goto 482, 3, [2387]) := by decide +kernel
set_option maxRecDepth 100000 in
theorem la_1908 : dm_at 329 1908 = some (.aload_n 1, 1, []) := by decide +kernel
set_option maxRecDepth 100000 in
theorem la_1909 : dm_at 329 1909 = some (.aload_n 0, 1, []) := by decide +kernel
set_option maxRecDepth 100000 in
theorem la_1910 : dm_at 329 1910 = some (.iload 4, 2, []) := by decide +kernel
set_option maxRecDepth 100000 in
theorem la_1912 : dm_at 329 1912 = some (.iconst 1, 1, []) := by decide +kernel
set_option maxRecDepth 100000 in
theorem la_1913 : dm_at 329 1913 = some (.iadd, 1, []) := by decide +kernel
set_option maxRecDepth 100000 in
theorem la_1914 : dm_at 329 1914 = some (.iaload, 1, []) := by decide +kernel
set_option maxRecDepth 100000 in
theorem la_1915 : dm_at 329 1915 = some (.aload_n 0, 1, []) := by decide +kernel
set_option maxRecDepth 100000 in
theorem la_1916 : dm_at 329 1916 = some (.iload 4, 2, []) := by decide +kernel
set_option maxRecDepth 100000 in
theorem la_1918 : dm_at 329 1918 = some (.iconst 2, 1, []) := by decide +kernel
set_option maxRecDepth 100000 in
theorem la_1919 : dm_at 329 1919 = some (.iadd, 1, []) := by decide +kernel
set_option maxRecDepth 100000 in
theorem la_1920 : dm_at 329 1920 = some (.iaload, 1, []) := by decide +kernel
set_option maxRecDepth 100000 in
theorem la_1921 : dm_at 329 1921 = some (.aload_n 3, 1, []) := by decide +kernel
set_option maxRecDepth 100000 in
theorem la_1922 : dm_at 329 1922 = some (.invokestatic 297, 3, [319, 0, 5197, 5198, 1000, 5199]) := by decide +kernel
set_option maxRecDepth 100000 in
theorem la_1925 : dm_at 329 1925 = some (.istore 5, 2, []) := by decide +kernel
set_option maxRecDepth 100000 in
theorem la_1927 : dm_at 329 1927 = some (.aload_n 2, 1, []) := by decide +kernel
set_option maxRecDepth 100000 in
theorem la_1928 : dm_at 329 1928 = some (.aload_n 0, 1, []) := by decide +kernel
set_option maxRecDepth 100000 in
theorem la_1929 : dm_at 329 1929 = some (.iload 4, 2, []) := by decide +kernel
set_option maxRecDepth 100000 in
theorem la_1931 : dm_at 329 1931 = some (.iconst 1, 1, []) := by decide +kernel
set_option maxRecDepth 100000 in
theorem la_1932 : dm_at 329 1932 = some (.iadd, 1, []) := by decide +kernel
set_option maxRecDepth 100000 in
theorem la_1933 : dm_at 329 1933 = some (.iaload, 1, []) := by decide +kernel
set_option maxRecDepth 100000 in
theorem la_1934 : dm_at 329 1934 = some (.aload_n 0, 1, []) := by decide +kernel
set_option maxRecDepth 100000 in
theorem la_1935 : dm_at 329 1935 = some (.iload 4, 2, []) := by decide +kernel
set_option maxRecDepth 100000 in
theorem la_1937 : dm_at 329 1937 = some (.iconst 2, 1, []) := by decide +kernel
set_option maxRecDepth 100000 in
theorem la_1938 : dm_at 329 1938 = some (.iadd, 1, []) := by decide +kernel
set_option maxRecDepth 100000 in
theorem la_1939 : dm_at 329 1939 = some (.iaload, 1, []) := by decide +kernel
set_option maxRecDepth 100000 in
theorem la_1940 : dm_at 329 1940 = some (.invokevirtual 299, 3, [192, 1, 7085, 7086, 7087, 1008, 7088]) := by decide +kernel
set_option maxRecDepth 100000 in
theorem la_1943 : dm_at 329 1943 = some (.istore 6, 2, []) := by decide +kernel
set_option maxRecDepth 100000 in
theorem la_1945 : dm_at 329 1945 = some (.goto 442, 3, [2387]) := by decide +kernel
set_option maxRecDepth 100000 in
theorem la_1948 : dm_at 329 1948 = some (.aload_n 1, 1, []) := by decide +kernel
set_option maxRecDepth 100000 in
theorem la_1949 : dm_at 329 1949 = some (.aload_n 0, 1, []) := by decide +kernel
set_option maxRecDepth 100000 in
theorem la_1950 : dm_at 329 1950 = some (.iload 4, 2, []) := by decide +kernel
set_option maxRecDepth 100000 in
theorem la_1952 : dm_at 329 1952 = some (.iconst 1, 1, []) := by decide +kernel
set_option maxRecDepth 100000 in
theorem la_1953 : dm_at 329 1953 = some (.iadd, 1, []) := by decide +kernel
set_option maxRecDepth 100000 in
theorem la_1954 : dm_at 329 1954 = some (.iaload, 1, []) := by decide +kernel
set_option maxRecDepth 100000 in
theorem la_1955 : dm_at 329 1955 = some (.aload_n 0, 1, []) := by decide +kernel
set_option maxRecDepth 100000 in
theorem la_1956 : dm_at 329 1956 = some (.iload 4, 2, []) := by decide +kernel
set_option maxRecDepth 100000 in
theorem la_1958 : dm_at 329 1958 = some (.iconst 2, 1, []) := by decide +kernel
set_option maxRecDepth 100000 in
theorem la_1959 : dm_at 329 1959 = some (.iadd, 1, []) := by decide +kernel
set_option maxRecDepth 100000 in
theorem la_1960 : dm_at 329 1960 = some (.iaload, 1, []) := by decide +kernel
set_option maxRecDepth 100000 in
theorem la_1961 : dm_at 329 1961 = some (.aload_n 3, 1, []) := by decide +kernel
set_option maxRecDepth 100000 in
theorem la_1962 : dm_at 329 1962 = some (.invokestatic 300, 3, [320, 0, 5201, 5202, 1000, 5203]) := by decide +kernel
set_option maxRecDepth 100000 in
theorem la_1965 : dm_at 329 1965 = some (.istore 5, 2, []) := by decide +kernel
set_option maxRecDepth 100000 in
theorem la_1967 : dm_at 329 1967 = some (.aload_n 2, 1, []) := by decide +kernel
set_option maxRecDepth 100000 in
theorem la_1968 : dm_at 329 1968 = some (.aload_n 0, 1, []) := by decide +kernel
set_option maxRecDepth 100000 in
theorem la_1969 : dm_at 329 1969 = some (.iload 4, 2, []) := by decide +kernel
set_option maxRecDepth 100000 in
theorem la_1971 : dm_at 329 1971 = some (.iconst 1, 1, []) := by decide +kernel
set_option maxRecDepth 100000 in
theorem la_1972 : dm_at 329 1972 = some (.iadd, 1, []) := by decide +kernel
set_option maxRecDepth 100000 in
theorem la_1973 : dm_at 329 1973 = some (.iaload, 1, []) := by decide +kernel
set_option maxRecDepth 100000 in
theorem la_1974 : dm_at 329 1974 = some (.aload_n 0, 1, []) := by decide +kernel
set_option maxRecDepth 100000 in
theorem la_1975 : dm_at 329 1975 = some (.iload 4, 2, []) := by decide +kernel
set_option maxRecDepth 100000 in
theorem la_1977 : dm_at 329 1977 = some (.iconst 2, 1, []) := by decide +kernel
set_option maxRecDepth 100000 in
theorem la_1978 : dm_at 329 1978 = some (.iadd, 1, []) := by decide +kernel
set_option maxRecDepth 100000 in
theorem la_1979 : dm_at 329 1979 = some (.iaload, 1, []) := by decide +kernel
set_option maxRecDepth 100000 in
theorem la_1980 : dm_at 329 1980 = some (.invokevirtual 302, 3, [195, 1, 7089, 7090, 7091, 1008, 7092]) := by decide +kernel
set_option maxRecDepth 100000 in
theorem la_1983 : dm_at 329 1983 = some (.istore 6, 2, []) := by decide +kernel
set_option maxRecDepth 100000 in
theorem la_1985 : dm_at 329 1985 = some (.goto 402, 3, [2387]) := by decide +kernel
set_option maxRecDepth 100000 in
theorem la_1988 : dm_at 329 1988 = some (.aload_n 1, 1, []) := by decide +kernel
set_option maxRecDepth 100000 in
theorem la_1989 : dm_at 329 1989 = some (.aload_n 0, 1, []) := by decide +kernel
set_option maxRecDepth 100000 in
theorem la_1990 : dm_at 329 1990 = some (.iload 4, 2, []) := by decide +kernel
set_option maxRecDepth 100000 in
theorem la_1992 : dm_at 329 1992 = some (.iconst 1, 1, []) := by decide +kernel
set_option maxRecDepth 100000 in
theorem la_1993 : dm_at 329 1993 = some (.iadd, 1, []) := by decide +kernel
set_option maxRecDepth 100000 in
theorem la_1994 : dm_at 329 1994 = some (.iaload, 1, []) := by decide +kernel
set_option maxRecDepth 100000 in
theorem la_1995 : dm_at 329 1995 = some (.aload_n 0, 1, []) := by decide +kernel
set_option maxRecDepth 100000 in
theorem la_1996 : dm_at 329 1996 = some (.iload 4, 2, []) := by decide +kernel
set_option maxRecDepth 100000 in
theorem la_1998 : dm_at 329 1998 = some (.iconst 2, 1, []) := by decide +kernel
set_option maxRecDepth 100000 in
theorem la_1999 : dm_at 329 1999 = some (.iadd, 1, []) := by decide +kernel
set_option maxRecDepth 100000 in
theorem la_2000 : dm_at 329 2000 = some (.iaload, 1, []) := by decide +kernel
set_option maxRecDepth 100000 in
theorem la_2001 : dm_at 329 2001 = some (.aload_n 3, 1, []) := by decide +kernel
set_option maxRecDepth 100000 in
theorem la_2002 : dm_at 329 2002 = some (.invokestatic 303, 3, [321, 0, 5215, 5216, 1000, 5217]) := by decide +kernel
set_option maxRecDepth 100000 in
theorem la_2005 : dm_at 329 2005 = some (.istore 5, 2, []) := by decide +kernel
set_option maxRecDepth 100000 in
theorem la_2007 : dm_at 329 2007 = some (.aload_n 2, 1, []) := by decide +kernel
set_option maxRecDepth 100000 in
theorem la_2008 : dm_at 329 2008 = some (.aload_n 0, 1, []) := by decide +kernel
set_option maxRecDepth 100000 in
theorem la_2009 : dm_at 329 2009 = some (.iload 4, 2, []) := by decide +kernel
set_option maxRecDepth 100000 in
theorem la_2011 : dm_at 329 2011 = some (.iconst 1, 1, []) := by decide +kernel
set_option maxRecDepth 100000 in
theorem la_2012 : dm_at 329 2012 = some (.iadd, 1, []) := by decide +kernel
set_option maxRecDepth 100000 in
theorem la_2013 : dm_at 329 2013 = some (.iaload, 1, []) := by decide +kernel
set_option maxRecDepth 100000 in
theorem la_2014 : dm_at 329 2014 = some (.aload_n 0, 1, []) := by decide +kernel
set_option maxRecDepth 100000 in
theorem la_2015 : dm_at 329 2015 = some (.iload 4, 2, []) := by decide +kernel
set_option maxRecDepth 100000 in
theorem la_2017 : dm_at 329 2017 = some (.iconst 2, 1, []) := by decide +kernel
set_option maxRecDepth 100000 in
theorem la_2018 : dm_at 329 2018 = some (.iadd, 1, []) := by decide +kernel
set_option maxRecDepth 100000 in
theorem la_2019 : dm_at 329 2019 = some (.iaload, 1, []) := by decide +kernel
set_option maxRecDepth 100000 in
theorem la_2020 : dm_at 329 2020 = some (.invokevirtual 305, 3, [197, 1, 7116, 7117, 7118, 1008, 7119]) := by decide +kernel
set_option maxRecDepth 100000 in
theorem la_2023 : dm_at 329 2023 = some (.istore 6, 2, []) := by decide +kernel
set_option maxRecDepth 100000 in
theorem la_2025 : dm_at 329 2025 = some (.goto 362, 3, [2387]) := by decide +kernel
set_option maxRecDepth 100000 in
theorem la_2028 : dm_at 329 2028 = some (.aload_n 1, 1, []) := by decide +kernel
set_option maxRecDepth 100000 in
theorem la_2029 : dm_at 329 2029 = some (.aload_n 0, 1, []) := by decide +kernel
set_option maxRecDepth 100000 in
theorem la_2030 : dm_at 329 2030 = some (.iload 4, 2, []) := by decide +kernel
set_option maxRecDepth 100000 in
theorem la_2032 : dm_at 329 2032 = some (.iconst 1, 1, []) := by decide +kernel
set_option maxRecDepth 100000 in
theorem la_2033 : dm_at 329 2033 = some (.iadd, 1, []) := by decide +kernel
set_option maxRecDepth 100000 in
theorem la_2034 : dm_at 329 2034 = some (.iaload, 1, []) := by decide +kernel
set_option maxRecDepth 100000 in
theorem la_2035 : dm_at 329 2035 = some (.aload_n 0, 1, []) := by decide +kernel
set_option maxRecDepth 100000 in
theorem la_2036 : dm_at 329 2036 = some (.iload 4, 2, []) := by decide +kernel
set_option maxRecDepth 100000 in
theorem la_2038 : dm_at 329 2038 = some (.iconst 2, 1, []) := by decide +kernel
set_option maxRecDepth 100000 in
theorem la_2039 : dm_at 329 2039 = some (.iadd, 1, []) := by decide +kernel
set_option maxRecDepth 100000 in
theorem la_2040 : dm_at 329 2040 = some (.iaload, 1, []) := by decide +kernel
set_option maxRecDepth 100000 in
theorem la_2041 : dm_at 329 2041 = some (.aload_n 3, 1, []) := by decide +kernel
set_option maxRecDepth 100000 in
theorem la_2042 : dm_at 329 2042 = some (.invokestatic 306, 3, [322, 0, 5223, 5224, 1000, 5225]) := by decide +kernel
set_option maxRecDepth 100000 in
theorem la_2045 : dm_at 329 2045 = some (.istore 5, 2, []) := by decide +kernel
set_option maxRecDepth 100000 in
theorem la_2047 : dm_at 329 2047 = some (.aload_n 2, 1, []) := by decide +kernel
set_option maxRecDepth 100000 in
theorem la_2048 : dm_at 329 2048 = some (.aload_n 0, 1, []) := by decide +kernel
set_option maxRecDepth 100000 in
theorem la_2049 : dm_at 329 2049 = some (.iload 4, 2, []) := by decide +kernel
set_option maxRecDepth 100000 in
theorem la_2051 : dm_at 329 2051 = some (.iconst 1, 1, []) := by decide +kernel
set_option maxRecDepth 100000 in
theorem la_2052 : dm_at 329 2052 = some (.iadd, 1, []) := by decide +kernel
set_option maxRecDepth 100000 in
theorem la_2053 : dm_at 329 2053 = some (.iaload, 1, []) := by decide +kernel
set_option maxRecDepth 100000 in
theorem la_2054 : dm_at 329 2054 = some (.aload_n 0, 1, []) := by decide +kernel
set_option maxRecDepth 100000 in
theorem la_2055 : dm_at 329 2055 = some (.iload 4, 2, []) := by decide +kernel
set_option maxRecDepth 100000 in
theorem la_2057 : dm_at 329 2057 = some (.iconst 2, 1, []) := by decide +kernel
set_option maxRecDepth 100000 in
theorem la_2058 : dm_at 329 2058 = some (.iadd, 1, []) := by decide +kernel
set_option maxRecDepth 100000 in
theorem la_2059 : dm_at 329 2059 = some (.iaload, 1, []) := by decide +kernel
set_option maxRecDepth 100000 in
theorem la_2060 : dm_at 329 2060 = some (.invokevirtual 308, 3, [199, 1, 7123, 7124, 7125, 1008, 7126]) := by decide +kernel
set_option maxRecDepth 100000 in
theorem la_2063 : dm_at 329 2063 = some (.istore 6, 2, []) := by decide +kernel
set_option maxRecDepth 100000 in
theorem la_2065 : dm_at 329 2065 = some (.goto 322, 3, [2387]) := by decide +kernel
set_option maxRecDepth 100000 in
theorem la_2068 : dm_at 329 2068 = some (.aload_n 1, 1, []) := by decide +kernel
set_option maxRecDepth 100000 in
theorem la_2069 : dm_at 329 2069 = some (.aload_n 0, 1, []) := by decide +kernel
set_option maxRecDepth 100000 in
theorem la_2070 : dm_at 329 2070 = some (.iload 4, 2, []) := by decide +kernel
set_option maxRecDepth 100000 in
theorem la_2072 : dm_at 329 2072 = some (.iconst 1, 1, []) := by decide +kernel
set_option maxRecDepth 100000 in
theorem la_2073 : dm_at 329 2073 = some (.iadd, 1, []) := by decide +kernel
set_option maxRecDepth 100000 in
theorem la_2074 : dm_at 329 2074 = some (.iaload, 1, []) := by decide +kernel
set_option maxRecDepth 100000 in
theorem la_2075 : dm_at 329 2075 = some (.aload_n 0, 1, []) := by decide +kernel
set_option maxRecDepth 100000 in
theorem la_2076 : dm_at 329 2076 = some (.iload 4, 2, []) := by decide +kernel
set_option maxRecDepth 100000 in
theorem la_2078 : dm_at 329 2078 = some (.iconst 2, 1, []) := by decide +kernel
set_option maxRecDepth 100000 in
theorem la_2079 : dm_at 329 2079 = some (.iadd, 1, []) := by decide +kernel
set_option maxRecDepth 100000 in
theorem la_2080 : dm_at 329 2080 = some (.iaload, 1, []) := by decide +kernel
set_option maxRecDepth 100000 in
theorem la_2081 : dm_at 329 2081 = some (.ifCond .eq 7, 3, [2088]) := by decide +kernel
set_option maxRecDepth 100000 in
theorem la_2084 : dm_at 329 2084 = some (.iconst 1, 1, []) := by decide +kernel
set_option maxRecDepth 100000 in
theorem la_2085 : dm_at 329 2085 = some (.goto 4, 3, [2089]) := by decide +kernel
set_option maxRecDepth 100000 in
theorem la_2088 : dm_at 329 2088 = some (.iconst 0, 1, []) := by decide +kernel
set_option maxRecDepth 100000 in
theorem la_2089 : dm_at 329 2089 = some (.aload_n 3, 1, []) := by decide +kernel
set_option maxRecDepth 100000 in
theorem la_2090 : dm_at 329 2090 = some (.invokestatic 309, 3, [323, 0, 5235, 5236, 1000, 5237]) := by decide +kernel
set_option maxRecDepth 100000 in
theorem la_2093 : dm_at 329 2093 = some (.istore 5, 2, []) := by decide +kernel
set_option maxRecDepth 100000 in
theorem la_2095 : dm_at 329 2095 = some (.aload_n 2, 1, []) := by decide +kernel
set_option maxRecDepth 100000 in
theorem la_2096 : dm_at 329 2096 = some (.aload_n 0, 1, []) := by decide +kernel
set_option maxRecDepth 100000 in
theorem la_2097 : dm_at 329 2097 = some (.iload 4, 2, []) := by decide +kernel
set_option maxRecDepth 100000 in
theorem la_2099 : dm_at 329 2099 = some (.iconst 1, 1, []) := by decide +kernel
set_option maxRecDepth 100000 in
theorem la_2100 : dm_at 329 2100 = some (.iadd, 1, []) := by decide +kernel
set_option maxRecDepth 100000 in
theorem la_2101 : dm_at 329 2101 = some (.iaload, 1, []) := by decide +kernel
set_option maxRecDepth 100000 in
theorem la_2102 : dm_at 329 2102 = some (.aload_n 0, 1, []) := by decide +kernel
set_option maxRecDepth 100000 in
theorem la_2103 : dm_at 329 2103 = some (.iload 4, 2, []) := by decide +kernel
set_option maxRecDepth 100000 in
theorem la_2105 : dm_at 329 2105 = some (.iconst 2, 1, []) := by decide +kernel
set_option maxRecDepth 100000 in
theorem la_2106 : dm_at 329 2106 = some (.iadd, 1, []) := by decide +kernel
set_option maxRecDepth 100000 in
theorem la_2107 : dm_at 329 2107 = some (.iaload, 1, []) := by decide +kernel
set_option maxRecDepth 100000 in
theorem la_2108 : dm_at 329 2108 = some (.ifCond .eq 7, 3, [2115]) := by decide +kernel
set_option maxRecDepth 100000 in
theorem la_2111 : dm_at 329 2111 = some (.iconst 1, 1, []) := by decide +kernel
set_option maxRecDepth 100000 in
theorem la_2112 : dm_at 329 2112 = some (.goto 4, 3, [2116]) := by decide +kernel
set_option maxRecDepth 100000 in
theorem la_2115 : dm_at 329 2115 = some (.iconst 0, 1, []) := by decide +kernel
set_option maxRecDepth 100000 in
theorem la_2116 : dm_at 329 2116 = some (.invokevirtual 311, 3, [202, 1, 7131, 7132, 7133, 1008, 7134]) := by decide +kernel
set_option maxRecDepth 100000 in
theorem la_2119 : dm_at 329 2119 = some (.istore 6, 2, []) := by decide +kernel
set_option maxRecDepth 100000 in
theorem la_2121 : dm_at 329 2121 = some (.goto 266, 3, [2387]) := by decide +kernel
set_option maxRecDepth 100000 in
theorem la_2124 : dm_at 329 2124 = some (.aload_n 1, 1, []) := by decide +kernel
set_option maxRecDepth 100000 in
theorem la_2125 : dm_at 329 2125 = some (.aload_n 0, 1, []) := by decide +kernel
set_option maxRecDepth 100000 in
theorem la_2126 : dm_at 329 2126 = some (.iload 4, 2, []) := by decide +kernel
set_option maxRecDepth 100000 in
theorem la_2128 : dm_at 329 2128 = some (.iconst 1, 1, []) := by decide +kernel
set_option maxRecDepth 100000 in
theorem la_2129 : dm_at 329 2129 = some (.iadd, 1, []) := by decide +kernel
set_option maxRecDepth 100000 in
theorem la_2130 : dm_at 329 2130 = some (.iaload, 1, []) := by decide +kernel
set_option maxRecDepth 100000 in
theorem la_2131 : dm_at 329 2131 = some (.aload_n 3, 1, []) := by decide +kernel
set_option maxRecDepth 100000 in
theorem la_2132 : dm_at 329 2132 = some (.invokestatic 312, 3, [324, 0, 5239, 6000, 1000, 6001]) := by decide +kernel
set_option maxRecDepth 100000 in
theorem la_2135 : dm_at 329 2135 = some (.istore 5, 2, []) := by decide +kernel
set_option maxRecDepth 100000 in
theorem la_2137 : dm_at 329 2137 = some (.aload_n 2, 1, []) := by decide +kernel
set_option maxRecDepth 100000 in
theorem la_2138 : dm_at 329 2138 = some (.aload_n 0, 1, []) := by decide +kernel
set_option maxRecDepth 100000 in
theorem la_2139 : dm_at 329 2139 = some (.iload 4, 2, []) := by decide +kernel
set_option maxRecDepth 100000 in
theorem la_2141 : dm_at 329 2141 = some (.iconst 1, 1, []) := by decide +kernel
set_option maxRecDepth 100000 in
theorem la_2142 : dm_at 329 2142 = some (.iadd, 1, []) := by decide +kernel
set_option maxRecDepth 100000 in
theorem la_2143 : dm_at 329 2143 = some (.iaload, 1, []) := by decide +kernel
set_option maxRecDepth 100000 in
theorem la_2144 : dm_at 329 2144 = some (.invokevirtual 314, 3, [206, 1, 7143, 7144, 7145, 1008, 7146]) := by decide +kernel
set_option maxRecDepth 100000 in
theorem la_2147 : dm_at 329 2147 = some (.istore 6, 2, []) := by decide +kernel
set_option maxRecDepth 100000 in
theorem la_2149 : dm_at 329 2149 = some (.goto 238, 3, [2387]) := by decide +kernel
set_option maxRecDepth 100000 in
theorem la_2152 : dm_at 329 2152 = some (.aload_n 1, 1, []) := by decide +kernel
set_option maxRecDepth 100000 in
theorem la_2153 : dm_at 329 2153 = some (.aload_n 0, 1, []) := by decide +kernel
set_option maxRecDepth 100000 in
theorem la_2154 : dm_at 329 2154 = some (.iload 4, 2, []) := by decide +kernel
set_option maxRecDepth 100000 in
theorem la_2156 : dm_at 329 2156 = some (.iconst 1, 1, []) := by decide +kernel
set_option maxRecDepth 100000 in
theorem la_2157 : dm_at 329 2157 = some (.iadd, 1, []) := by decide +kernel
set_option maxRecDepth 100000 in
theorem la_2158 : dm_at 329 2158 = some (.iaload, 1, []) := by decide +kernel
set_option maxRecDepth 100000 in
theorem la_2159 : dm_at 329 2159 = some (.aload_n 0, 1, []) := by decide +kernel
set_option maxRecDepth 100000 in
theorem la_2160 : dm_at 329 2160 = some (.iload 4, 2, []) := by decide +kernel
set_option maxRecDepth 100000 in
theorem la_2162 : dm_at 329 2162 = some (.iconst 2, 1, []) := by decide +kernel
set_option maxRecDepth 100000 in
theorem la_2163 : dm_at 329 2163 = some (.iadd, 1, []) := by decide +kernel
set_option maxRecDepth 100000 in
theorem la_2164 : dm_at 329 2164 = some (.iaload, 1, []) := by decide +kernel
set_option maxRecDepth 100000 in
theorem la_2165 : dm_at 329 2165 = some (.aload_n 0, 1, []) := by decide +kernel
set_option maxRecDepth 100000 in
theorem la_2166 : dm_at 329 2166 = some (.iload 4, 2, []) := by decide +kernel
set_option maxRecDepth 100000 in
theorem la_2168 : dm_at 329 2168 = some (.iconst 3, 1, []) := by decide +kernel
set_option maxRecDepth 100000 in
theorem la_2169 : dm_at 329 2169 = some (.iadd, 1, []) := by decide +kernel
set_option maxRecDepth 100000 in
theorem la_2170 : dm_at 329 2170 = some (.iaload, 1, []) := by decide +kernel
set_option maxRecDepth 100000 in
theorem la_2171 : dm_at 329 2171 = some (.aload_n 3, 1, []) := by decide +kernel
set_option maxRecDepth 100000 in
theorem la_2172 : dm_at 329 2172 = some (.invokestatic 315, 3, [325, 0, 6003, 6004, 1000, 6005]) := by decide +kernel
set_option maxRecDepth 100000 in
theorem la_2175 : dm_at 329 2175 = some (.istore 5, 2, []) := by decide +kernel
set_option maxRecDepth 100000 in
theorem la_2177 : dm_at 329 2177 = some (.aload_n 2, 1, []) := by decide +kernel
set_option maxRecDepth 100000 in
theorem la_2178 : dm_at 329 2178 = some (.aload_n 0, 1, []) := by decide +kernel
set_option maxRecDepth 100000 in
theorem la_2179 : dm_at 329 2179 = some (.iload 4, 2, []) := by decide +kernel
set_option maxRecDepth 100000 in
theorem la_2181 : dm_at 329 2181 = some (.iconst 1, 1, []) := by decide +kernel
set_option maxRecDepth 100000 in
theorem la_2182 : dm_at 329 2182 = some (.iadd, 1, []) := by decide +kernel
set_option maxRecDepth 100000 in
theorem la_2183 : dm_at 329 2183 = some (.iaload, 1, []) := by decide +kernel
set_option maxRecDepth 100000 in
theorem la_2184 : dm_at 329 2184 = some (.aload_n 0, 1, []) := by decide +kernel
set_option maxRecDepth 100000 in
theorem la_2185 : dm_at 329 2185 = some (.iload 4, 2, []) := by decide +kernel
set_option maxRecDepth 100000 in
theorem la_2187 : dm_at 329 2187 = some (.iconst 2, 1, []) := by decide +kernel
set_option maxRecDepth 100000 in
theorem la_2188 : dm_at 329 2188 = some (.iadd, 1, []) := by decide +kernel
set_option maxRecDepth 100000 in
theorem la_2189 : dm_at 329 2189 = some (.iaload, 1, []) := by decide +kernel
set_option maxRecDepth 100000 in
theorem la_2190 : dm_at 329 2190 = some (.aload_n 0, 1, []) := by decide +kernel
set_option maxRecDepth 100000 in
theorem la_2191 : dm_at 329 2191 = some (.iload 4, 2, []) := by decide +kernel
set_option maxRecDepth 100000 in
theorem la_2193 : dm_at 329 2193 = some (.iconst 3, 1, []) := by decide +kernel
set_option maxRecDepth 100000 in
theorem la_2194 : dm_at 329 2194 = some (.iadd, 1, []) := by decide +kernel
set_option maxRecDepth 100000 in
theorem la_2195 : dm_at 329 2195 = some (.iaload, 1, []) := by decide +kernel
set_option maxRecDepth 100000 in
theorem la_2196 : dm_at 329 2196 = some (.invokevirtual 317, 3, [208, 1, 7157, 7158, 7159, 1008, 7160]) := by decide +kernel
set_option maxRecDepth 100000 in
theorem la_2199 : dm_at 329 2199 = some (.istore 6, 2, []) := by decide +kernel
set_option maxRecDepth 100000 in
theorem la_2201 : dm_at 329 2201 = some (.goto 186, 3, [2387]) := by decide +kernel
set_option maxRecDepth 100000 in
theorem la_2204 : dm_at 329 2204 = some (.aload_n 1, 1, []) := by decide +kernel
set_option maxRecDepth 100000 in
theorem la_2205 : dm_at 329 2205 = some (.aload_n 0, 1, []) := by decide +kernel
set_option maxRecDepth 100000 in
theorem la_2206 : dm_at 329 2206 = some (.iload 4, 2, []) := by decide +kernel
set_option maxRecDepth 100000 in
theorem la_2208 : dm_at 329 2208 = some (.iconst 1, 1, []) := by decide +kernel
set_option maxRecDepth 100000 in
theorem la_2209 : dm_at 329 2209 = some (.iadd, 1, []) := by decide +kernel
set_option maxRecDepth 100000 in
theorem la_2210 : dm_at 329 2210 = some (.iaload, 1, []) := by decide +kernel
set_option maxRecDepth 100000 in
theorem la_2211 : dm_at 329 2211 = some (.aload_n 0, 1, []) := by decide +kernel
set_option maxRecDepth 100000 in
theorem la_2212 : dm_at 329 2212 = some (.iload 4, 2, []) := by decide +kernel
set_option maxRecDepth 100000 in
theorem la_2214 : dm_at 329 2214 = some (.iconst 2, 1, []) := by decide +kernel
set_option maxRecDepth 100000 in
theorem la_2215 : dm_at 329 2215 = some (.iadd, 1, []) := by decide +kernel
set_option maxRecDepth 100000 in
theorem la_2216 : dm_at 329 2216 = some (.iaload, 1, []) := by decide +kernel
set_option maxRecDepth 100000 in
theorem la_2217 : dm_at 329 2217 = some (.aload_n 0, 1, []) := by decide +kernel
set_option maxRecDepth 100000 in
theorem la_2218 : dm_at 329 2218 = some (.iload 4, 2, []) := by decide +kernel
set_option maxRecDepth 100000 in
theorem la_2220 : dm_at 329 2220 = some (.iconst 3, 1, []) := by decide +kernel
set_option maxRecDepth 100000 in
theorem la_2221 : dm_at 329 2221 = some (.iadd, 1, []) := by decide +kernel
set_option maxRecDepth 100000 in
theorem la_2222 : dm_at 329 2222 = some (.iaload, 1, []) := by decide +kernel
set_option maxRecDepth 100000 in
theorem la_2223 : dm_at 329 2223 = some (.aload_n 3, 1, []) := by decide +kernel
set_option maxRecDepth 100000 in
theorem la_2224 : dm_at 329 2224 = some (.invokestatic 318, 3, [326, 0, 6007, 6008, 1000, 6009]) := by decide +kernel
set_option maxRecDepth 100000 in
theorem la_2227 : dm_at 329 2227 = some (.istore 5, 2, []) := by decide +kernel
set_option maxRecDepth 100000 in
theorem la_2229 : dm_at 329 2229 = some (.aload_n 2, 1, []) := by decide +kernel
set_option maxRecDepth 100000 in
theorem la_2230 : dm_at 329 2230 = some (.aload_n 0, 1, []) := by decide +kernel
set_option maxRecDepth 100000 in
theorem la_2231 : dm_at 329 2231 = some (.iload 4, 2, []) := by decide +kernel
set_option maxRecDepth 100000 in
theorem la_2233 : dm_at 329 2233 = some (.iconst 1, 1, []) := by decide +kernel
set_option maxRecDepth 100000 in
theorem la_2234 : dm_at 329 2234 = some (.iadd, 1, []) := by decide +kernel
set_option maxRecDepth 100000 in
theorem la_2235 : dm_at 329 2235 = some (.iaload, 1, []) := by decide +kernel
set_option maxRecDepth 100000 in
theorem la_2236 : dm_at 329 2236 = some (.aload_n 0, 1, []) := by decide +kernel
set_option maxRecDepth 100000 in
theorem la_2237 : dm_at 329 2237 = some (.iload 4, 2, []) := by decide +kernel
set_option maxRecDepth 100000 in
theorem la_2239 : dm_at 329 2239 = some (.iconst 2, 1, []) := by decide +kernel
set_option maxRecDepth 100000 in
theorem la_2240 : dm_at 329 2240 = some (.iadd, 1, []) := by decide +kernel
set_option maxRecDepth 100000 in
theorem la_2241 : dm_at 329 2241 = some (.iaload, 1, []) := by decide +kernel
set_option maxRecDepth 100000 in
theorem la_2242 : dm_at 329 2242 = some (.aload_n 0, 1, []) := by decide +kernel
set_option maxRecDepth 100000 in
theorem la_2243 : dm_at 329 2243 = some (.iload 4, 2, []) := by decide +kernel
set_option maxRecDepth 100000 in
theorem la_2245 : dm_at 329 2245 = some (.iconst 3, 1, []) := by decide +kernel
set_option maxRecDepth 100000 in
theorem la_2246 : dm_at 329 2246 = some (.iadd, 1, []) := by decide +kernel
set_option maxRecDepth 100000 in
theorem la_2247 : dm_at 329 2247 = some (.iaload, 1, []) := by decide +kernel
set_option maxRecDepth 100000 in
theorem la_2248 : dm_at 329 2248 = some (.invokevirtual 320, 3, [211, 1, 7165, 7166, 7167, 1008, 7168]) := by decide +kernel
set_option maxRecDepth 100000 in
theorem la_2251 : dm_at 329 2251 = some (.istore 6, 2, []) := by decide +kernel
set_option maxRecDepth 100000 in
theorem la_2253 : dm_at 329 2253 = some (.goto 134, 3, [2387]) := by decide +kernel
set_option maxRecDepth 100000 in
theorem la_2256 : dm_at 329 2256 = some (.aload_n 1, 1, []) := by decide +kernel
set_option maxRecDepth 100000 in
theorem la_2257 : dm_at 329 2257 = some (.aload_n 0, 1, []) := by decide +kernel
set_option maxRecDepth 100000 in
theorem la_2258 : dm_at 329 2258 = some (.iload 4, 2, []) := by decide +kernel
set_option maxRecDepth 100000 in
theorem la_2260 : dm_at 329 2260 = some (.iconst 1, 1, []) := by decide +kernel
set_option maxRecDepth 100000 in
theorem la_2261 : dm_at 329 2261 = some (.iadd, 1, []) := by decide +kernel
set_option maxRecDepth 100000 in
theorem la_2262 : dm_at 329 2262 = some (.iaload, 1, []) := by decide +kernel
set_option maxRecDepth 100000 in
theorem la_2263 : dm_at 329 2263 = some (.aload_n 0, 1, []) := by decide +kernel
set_option maxRecDepth 100000 in
theorem la_2264 : dm_at 329 2264 = some (.iload 4, 2, []) := by decide +kernel
set_option maxRecDepth 100000 in
theorem la_2266 : dm_at 329 2266 = some (.iconst 2, 1, []) := by decide +kernel
set_option maxRecDepth 100000 in
theorem la_2267 : dm_at 329 2267 = some (.iadd, 1, []) := by decide +kernel
set_option maxRecDepth 100000 in
theorem la_2268 : dm_at 329 2268 = some (.iaload, 1, []) := by decide +kernel
set_option maxRecDepth 100000 in
theorem la_2269 : dm_at 329 2269 = some (.aload_n 0, 1, []) := by decide +kernel
set_option maxRecDepth 100000 in
theorem la_2270 : dm_at 329 2270 = some (.iload 4, 2, []) := by decide +kernel
set_option maxRecDepth 100000 in
theorem la_2272 : dm_at 329 2272 = some (.iconst 3, 1, []) := by decide +kernel
set_option maxRecDepth 100000 in
theorem la_2273 : dm_at 329 2273 = some (.iadd, 1, []) := by decide +kernel
set_option maxRecDepth 100000 in
theorem la_2274 : dm_at 329 2274 = some (.iaload, 1, []) := by decide +kernel
set_option maxRecDepth 100000 in
theorem la_2275 : dm_at 329 2275 = some (.aload_n 0, 1, []) := by decide +kernel
set_option maxRecDepth 100000 in
theorem la_2276 : dm_at 329 2276 = some (.iload 4, 2, []) := by decide +kernel
set_option maxRecDepth 100000 in
theorem la_2278 : dm_at 329 2278 = some (.iconst 4, 1, []) := by decide +kernel
set_option maxRecDepth 100000 in
theorem la_2279 : dm_at 329 2279 = some (.iadd, 1, []) := by decide +kernel
set_option maxRecDepth 100000 in
theorem la_2280 : dm_at 329 2280 = some (.iaload, 1, []) := by decide +kernel
set_option maxRecDepth 100000 in
theorem la_2281 : dm_at 329 2281 = some (.aload_n 3, 1, []) := by decide +kernel
set_option maxRecDepth 100000 in
theorem la_2282 : dm_at 329 2282 = some (.invokestatic 321, 3, [327, 0, 6015, 6016, 1000, 6017]) := by decide +kernel
set_option maxRecDepth 100000 in
theorem la_2285 : dm_at 329 2285 = some (.istore 5, 2, []) := by decide +kernel
set_option maxRecDepth 100000 in
theorem la_2287 : dm_at 329 2287 = some (.aload_n 2, 1, []) := by decide +kernel
set_option maxRecDepth 100000 in
theorem la_2288 : dm_at 329 2288 = some (.aload_n 0, 1, []) := by decide +kernel
set_option maxRecDepth 100000 in
theorem la_2289 : dm_at 329 2289 = some (.iload 4, 2, []) := by decide +kernel
set_option maxRecDepth 100000 in
theorem la_2291 : dm_at 329 2291 = some (.iconst 1, 1, []) := by decide +kernel
set_option maxRecDepth 100000 in
theorem la_2292 : dm_at 329 2292 = some (.iadd, 1, []) := by decide +kernel
set_option maxRecDepth 100000 in
theorem la_2293 : dm_at 329 2293 = some (.iaload, 1, []) := by decide +kernel
set_option maxRecDepth 100000 in
theorem la_2294 : dm_at 329 2294 = some (.aload_n 0, 1, []) := by decide +kernel
set_option maxRecDepth 100000 in
theorem la_2295 : dm_at 329 2295 = some (.iload 4, 2, []) := by decide +kernel
set_option maxRecDepth 100000 in
theorem la_2297 : dm_at 329 2297 = some (.iconst 2, 1, []) := by decide +kernel
set_option maxRecDepth 100000 in
theorem la_2298 : dm_at 329 2298 = some (.iadd, 1, []) := by decide +kernel
set_option maxRecDepth 100000 in
theorem la_2299 : dm_at 329 2299 = some (.iaload, 1, []) := by decide +kernel
set_option maxRecDepth 100000 in
theorem la_2300 : dm_at 329 2300 = some (.aload_n 0, 1, []) := by decide +kernel
set_option maxRecDepth 100000 in
theorem la_2301 : dm_at 329 2301 = some (.iload 4, 2, []) := by decide +kernel
set_option maxRecDepth 100000 in
theorem la_2303 : dm_at 329 2303 = some (.iconst 3, 1, []) := by decide +kernel
set_option maxRecDepth 100000 in
theorem la_2304 : dm_at 329 2304 = some (.iadd, 1, []) := by decide +kernel
set_option maxRecDepth 100000 in
theorem la_2305 : dm_at 329 2305 = some (.iaload, 1, []) := by decide +kernel
set_option maxRecDepth 100000 in
theorem la_2306 : dm_at 329 2306 = some (.aload_n 0, 1, []) := by decide +kernel
set_option maxRecDepth 100000 in
theorem la_2307 : dm_at 329 2307 = some (.iload 4, 2, []) := by decide +kernel
set_option maxRecDepth 100000 in
theorem la_2309 : dm_at 329 2309 = some (.iconst 4, 1, []) := by decide +kernel
set_option maxRecDepth 100000 in
theorem la_2310 : dm_at 329 2310 = some (.iadd, 1, []) := by decide +kernel
set_option maxRecDepth 100000 in
theorem la_2311 : dm_at 329 2311 = some (.iaload, 1, []) := by decide +kernel
set_option maxRecDepth 100000 in
theorem la_2312 : dm_at 329 2312 = some (.invokevirtual 323, 3, [212, 1, 7177, 7178, 7179, 1008, 7180]) := by decide +kernel
set_option maxRecDepth 100000 in
theorem la_2315 : dm_at 329 2315 = some (.istore 6, 2, []) := by decide +kernel
set_option maxRecDepth 100000 in
theorem la_2317 : dm_at 329 2317 = some (.goto 70, 3, [2387]) := by decide +kernel
set_option maxRecDepth 100000 in
theorem la_2320 : dm_at 329 2320 = some (.aload_n 1, 1, []) := by decide +kernel
set_option maxRecDepth 100000 in
theorem la_2321 : dm_at 329 2321 = some (.aload_n 0, 1, []) := by decide +kernel
set_option maxRecDepth 100000 in
theorem la_2322 : dm_at 329 2322 = some (.iload 4, 2, []) := by decide +kernel
set_option maxRecDepth 100000 in
theorem la_2324 : dm_at 329 2324 = some (.iconst 1, 1, []) := by decide +kernel
set_option maxRecDepth 100000 in
theorem la_2325 : dm_at 329 2325 = some (.iadd, 1, []) := by decide +kernel
set_option maxRecDepth 100000 in
theorem la_2326 : dm_at 329 2326 = some (.iaload, 1, []) := by decide +kernel
set_option maxRecDepth 100000 in
theorem la_2327 : dm_at 329 2327 = some (.aload_n 3, 1, []) := by decide +kernel
set_option maxRecDepth 100000 in
theorem la_2328 : dm_at 329 2328 = some (.invokestatic 324, 3, [328, 0, 6022, 6023, 1000, 6024]) := by decide +kernel
set_option maxRecDepth 100000 in
theorem la_2331 : dm_at 329 2331 = some (.istore 5, 2, []) := by decide +kernel
set_option maxRecDepth 100000 in
theorem la_2333 : dm_at 329 2333 = some (.aload_n 2, 1, []) := by decide +kernel
set_option maxRecDepth 100000 in
theorem la_2334 : dm_at 329 2334 = some (.aload_n 0, 1, []) := by decide +kernel
set_option maxRecDepth 100000 in
theorem la_2335 : dm_at 329 2335 = some (.iload 4, 2, []) := by decide +kernel
set_option maxRecDepth 100000 in
theorem la_2337 : dm_at 329 2337 = some (.iconst 1, 1, []) := by decide +kernel
set_option maxRecDepth 100000 in
theorem la_2338 : dm_at 329 2338 = some (.iadd, 1, []) := by decide +kernel
set_option maxRecDepth 100000 in
theorem la_2339 : dm_at 329 2339 = some (.iaload, 1, []) := by decide +kernel
set_option maxRecDepth 100000 in
theorem la_2340 : dm_at 329 2340 = some (.invokevirtual 326, 3, [214, 1, 7181, 7182, 7183, 1008, 7184]) := by decide +kernel
set_option maxRecDepth 100000 in
theorem la_2343 : dm_at 329 2343 = some (.istore 6, 2, []) := by decide +kernel
set_option maxRecDepth 100000 in
theorem la_2345 : dm_at 329 2345 = some (.goto 42, 3, [2387]) := by decide +kernel
set_option maxRecDepth 100000 in
theorem la_2348 : dm_at 329 2348 = some (.aload_n 1, 1, []) := by decide +kernel
set_option maxRecDepth 100000 in
theorem la_2349 : dm_at 329 2349 = some (.invokevirtual 327, 3, [100, 1, 1183, 1184, 1185, 1001, 1186]) := by decide +kernel
set_option maxRecDepth 100000 in
theorem la_2352 : dm_at 329 2352 = some (.pop, 1, []) := by decide +kernel
set_option maxRecDepth 100000 in
theorem la_2353 : dm_at 329 2353 = some (.aload_n 2, 1, []) := by decide +kernel
set_option maxRecDepth 100000 in
theorem la_2354 : dm_at 329 2354 = some (.invokevirtual 330, 3, [215, 1, 7189, 7190, 7191, 1008, 7192]) := by decide +kernel
set_option maxRecDepth 100000 in
theorem la_2357 : dm_at 329 2357 = some (.pop, 1, []) := by decide +kernel
set_option maxRecDepth 100000 in
theorem la_2358 : dm_at 329 2358 = some (.goto 29, 3, [2387]) := by decide +kernel
set_option maxRecDepth 100000 in
theorem la_2361 : dm_at 329 2361 = some (.aload_n 1, 1, []) := by decide +kernel
set_option maxRecDepth 100000 in
theorem la_2362 : dm_at 329 2362 = some (.invokevirtual 331, 3, [101, 1, 1187, 1188, 1189, 1001, 1190]) := by decide +kernel
set_option maxRecDepth 100000 in
theorem la_2365 : dm_at 329 2365 = some (.pop, 1, []) := by decide +kernel
set_option maxRecDepth 100000 in
theorem la_2366 : dm_at 329 2366 = some (.aload_n 2, 1, []) := by decide +kernel
set_option maxRecDepth 100000 in
theorem la_2367 : dm_at 329 2367 = some (.invokevirtual 335, 3, [222, 1, 7193, 7194, 7195, 1008, 7196]) := by decide +kernel
set_option maxRecDepth 100000 in
theorem la_2370 : dm_at 329 2370 = some (.pop, 1, []) := by decide +kernel
set_option maxRecDepth 100000 in
theorem la_2371 : dm_at 329 2371 = some (.goto 16, 3, [2387]) := by decide +kernel
set_option maxRecDepth 100000 in
theorem la_2374 : dm_at 329 2374 = some (.aload_n 1, 1, []) := by decide +kernel
set_option maxRecDepth 100000 in
theorem la_2375 : dm_at 329 2375 = some (.invokevirtual 336, 3, [102, 1, 2110, 2111, 2112, 1001, 2113]) := by decide +kernel
set_option maxRecDepth 100000 in
theorem la_2378 : dm_at 329 2378 = some (.pop2, 1, []) := by decide +kernel
set_option maxRecDepth 100000 in
theorem la_2379 : dm_at 329 2379 = some (.aload_n 2, 1, []) := by decide +kernel
set_option maxRecDepth 100000 in
theorem la_2380 : dm_at 329 2380 = some (.invokevirtual 340, 3, [224, 1, 7218, 7219, 7220, 1008, 7221]) := by decide +kernel
set_option maxRecDepth 100000 in
theorem la_2383 : dm_at 329 2383 = some (.pop2, 1, []) := by decide +kernel
set_option maxRecDepth 100000 in
theorem la_2384 : dm_at 329 2384 = some (.goto 3, 3, [2387]) := by decide +kernel
set_option maxRecDepth 100000 in
theorem la_2387 : dm_at 329 2387 = some (.iinc 4 6, 3, []) := by decide +kernel
set_option maxRecDepth 100000 in
theorem la_2390 : dm_at 329 2390 = some (.goto (-2363), 3, [27]) := by decide +kernel
set_option maxRecDepth 100000 in
theorem la_2393 : dm_at 329 2393 = some (.iconst 1, 1, []) := by decide +kernel
set_option maxRecDepth 100000 in
theorem la_2394 : dm_at 329 2394 = some (.ireturn, 1, []) := by decide +kernel
