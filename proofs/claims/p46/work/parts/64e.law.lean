/-! ===== more of them ===== -/
set_option maxRecDepth 100000 in
theorem la_1647 : dm_at 329 1647 = some (.iload 4, 2, []) := by decide +kernel
set_option maxRecDepth 100000 in
theorem la_1649 : dm_at 329 1649 = some (.iconst 2, 1, []) := by decide +kernel
set_option maxRecDepth 100000 in
theorem la_1650 : dm_at 329 1650 = some (.iadd, 1, []) := by decide +kernel
set_option maxRecDepth 100000 in
theorem la_1651 : dm_at 329 1651 = some (.iaload, 1, []) := by decide +kernel
set_option maxRecDepth 100000 in
theorem la_1652 : dm_at 329 1652 = some (.aload_n 0, 1, []) := by decide +kernel
set_option maxRecDepth 100000 in
theorem la_1653 : dm_at 329 1653 = some (.iload 4, 2, []) := by decide +kernel
set_option maxRecDepth 100000 in
theorem la_1655 : dm_at 329 1655 = some (.iconst 3, 1, []) := by decide +kernel
set_option maxRecDepth 100000 in
theorem la_1656 : dm_at 329 1656 = some (.iadd, 1, []) := by decide +kernel
set_option maxRecDepth 100000 in
theorem la_1657 : dm_at 329 1657 = some (.iaload, 1, []) := by decide +kernel
set_option maxRecDepth 100000 in
theorem la_1658 : dm_at 329 1658 = some (.aload_n 0, 1, []) := by decide +kernel
set_option maxRecDepth 100000 in
theorem la_1659 : dm_at 329 1659 = some (.iload 4, 2, []) := by decide +kernel
set_option maxRecDepth 100000 in
theorem la_1661 : dm_at 329 1661 = some (.iconst 4, 1, []) := by decide +kernel
set_option maxRecDepth 100000 in
theorem la_1662 : dm_at 329 1662 = some (.iadd, 1, []) := by decide +kernel
set_option maxRecDepth 100000 in
theorem la_1663 : dm_at 329 1663 = some (.iaload, 1, []) := by decide +kernel
set_option maxRecDepth 100000 in
theorem la_1664 : dm_at 329 1664 = some (.invokevirtual 281, 3, [180, 1, 7057, 7058, 7059, 1008, 7060]) := by decide +kernel
set_option maxRecDepth 100000 in
theorem la_1667 : dm_at 329 1667 = some (.istore 6, 2, []) := by decide +kernel
set_option maxRecDepth 100000 in
theorem la_1669 : dm_at 329 1669 = some (.goto 711, 3, [2380]) := by decide +kernel
set_option maxRecDepth 100000 in
theorem la_1672 : dm_at 329 1672 = some (.aload_n 1, 1, []) := by decide +kernel
set_option maxRecDepth 100000 in
theorem la_1673 : dm_at 329 1673 = some (.aload_n 0, 1, []) := by decide +kernel
set_option maxRecDepth 100000 in
theorem la_1674 : dm_at 329 1674 = some (.iload 4, 2, []) := by decide +kernel
set_option maxRecDepth 100000 in
theorem la_1676 : dm_at 329 1676 = some (.iconst 1, 1, []) := by decide +kernel
set_option maxRecDepth 100000 in
theorem la_1677 : dm_at 329 1677 = some (.iadd, 1, []) := by decide +kernel
set_option maxRecDepth 100000 in
theorem la_1678 : dm_at 329 1678 = some (.iaload, 1, []) := by decide +kernel
set_option maxRecDepth 100000 in
theorem la_1679 : dm_at 329 1679 = some (.aload_n 0, 1, []) := by decide +kernel
set_option maxRecDepth 100000 in
theorem la_1680 : dm_at 329 1680 = some (.iload 4, 2, []) := by decide +kernel
set_option maxRecDepth 100000 in
theorem la_1682 : dm_at 329 1682 = some (.iconst 2, 1, []) := by decide +kernel
set_option maxRecDepth 100000 in
theorem la_1683 : dm_at 329 1683 = some (.iadd, 1, []) := by decide +kernel
set_option maxRecDepth 100000 in
theorem la_1684 : dm_at 329 1684 = some (.iaload, 1, []) := by decide +kernel
set_option maxRecDepth 100000 in
theorem la_1685 : dm_at 329 1685 = some (.aload_n 0, 1, []) := by decide +kernel
set_option maxRecDepth 100000 in
theorem la_1686 : dm_at 329 1686 = some (.iload 4, 2, []) := by decide +kernel
set_option maxRecDepth 100000 in
theorem la_1688 : dm_at 329 1688 = some (.iconst 3, 1, []) := by decide +kernel
set_option maxRecDepth 100000 in
theorem la_1689 : dm_at 329 1689 = some (.iadd, 1, []) := by decide +kernel
set_option maxRecDepth 100000 in
theorem la_1690 : dm_at 329 1690 = some (.iaload, 1, []) := by decide +kernel
set_option maxRecDepth 100000 in
theorem la_1691 : dm_at 329 1691 = some (.aload_n 0, 1, []) := by decide +kernel
set_option maxRecDepth 100000 in
theorem la_1692 : dm_at 329 1692 = some (.iload 4, 2, []) := by decide +kernel
set_option maxRecDepth 100000 in
theorem la_1694 : dm_at 329 1694 = some (.iconst 4, 1, []) := by decide +kernel
set_option maxRecDepth 100000 in
theorem la_1695 : dm_at 329 1695 = some (.iadd, 1, []) := by decide +kernel
set_option maxRecDepth 100000 in
theorem la_1696 : dm_at 329 1696 = some (.iaload, 1, []) := by decide +kernel
set_option maxRecDepth 100000 in
theorem la_1697 : dm_at 329 1697 = some (.aload_n 0, 1, []) := by decide +kernel
set_option maxRecDepth 100000 in
theorem la_1698 : dm_at 329 1698 = some (.iload 4, 2, []) := by decide +kernel
set_option maxRecDepth 100000 in
theorem la_1700 : dm_at 329 1700 = some (.iconst 5, 1, []) := by decide +kernel
set_option maxRecDepth 100000 in
theorem la_1701 : dm_at 329 1701 = some (.iadd, 1, []) := by decide +kernel
set_option maxRecDepth 100000 in
theorem la_1702 : dm_at 329 1702 = some (.iaload, 1, []) := by decide +kernel
set_option maxRecDepth 100000 in
theorem la_1703 : dm_at 329 1703 = some (.aload_n 3, 1, []) := by decide +kernel
set_option maxRecDepth 100000 in
theorem la_1704 : dm_at 329 1704 = some (.invokestatic 282, 3, [315, 0, 5168, 5169, 1000, 5170]) := by decide +kernel
set_option maxRecDepth 100000 in
theorem la_1707 : dm_at 329 1707 = some (.istore 5, 2, []) := by decide +kernel
set_option maxRecDepth 100000 in
theorem la_1709 : dm_at 329 1709 = some (.aload_n 2, 1, []) := by decide +kernel
set_option maxRecDepth 100000 in
theorem la_1710 : dm_at 329 1710 = some (.aload_n 0, 1, []) := by decide +kernel
set_option maxRecDepth 100000 in
theorem la_1711 : dm_at 329 1711 = some (.iload 4, 2, []) := by decide +kernel
set_option maxRecDepth 100000 in
theorem la_1713 : dm_at 329 1713 = some (.iconst 1, 1, []) := by decide +kernel
set_option maxRecDepth 100000 in
theorem la_1714 : dm_at 329 1714 = some (.iadd, 1, []) := by decide +kernel
set_option maxRecDepth 100000 in
theorem la_1715 : dm_at 329 1715 = some (.iaload, 1, []) := by decide +kernel
set_option maxRecDepth 100000 in
theorem la_1716 : dm_at 329 1716 = some (.aload_n 0, 1, []) := by decide +kernel
set_option maxRecDepth 100000 in
theorem la_1717 : dm_at 329 1717 = some (.iload 4, 2, []) := by decide +kernel
set_option maxRecDepth 100000 in
theorem la_1719 : dm_at 329 1719 = some (.iconst 2, 1, []) := by decide +kernel
set_option maxRecDepth 100000 in
theorem la_1720 : dm_at 329 1720 = some (.iadd, 1, []) := by decide +kernel
set_option maxRecDepth 100000 in
theorem la_1721 : dm_at 329 1721 = some (.iaload, 1, []) := by decide +kernel
set_option maxRecDepth 100000 in
theorem la_1722 : dm_at 329 1722 = some (.aload_n 0, 1, []) := by decide +kernel
set_option maxRecDepth 100000 in
theorem la_1723 : dm_at 329 1723 = some (.iload 4, 2, []) := by decide +kernel
set_option maxRecDepth 100000 in
theorem la_1725 : dm_at 329 1725 = some (.iconst 3, 1, []) := by decide +kernel
set_option maxRecDepth 100000 in
theorem la_1726 : dm_at 329 1726 = some (.iadd, 1, []) := by decide +kernel
set_option maxRecDepth 100000 in
theorem la_1727 : dm_at 329 1727 = some (.iaload, 1, []) := by decide +kernel
set_option maxRecDepth 100000 in
theorem la_1728 : dm_at 329 1728 = some (.aload_n 0, 1, []) := by decide +kernel
set_option maxRecDepth 100000 in
theorem la_1729 : dm_at 329 1729 = some (.iload 4, 2, []) := by decide +kernel
set_option maxRecDepth 100000 in
theorem la_1731 : dm_at 329 1731 = some (.iconst 4, 1, []) := by decide +kernel
set_option maxRecDepth 100000 in
theorem la_1732 : dm_at 329 1732 = some (.iadd, 1, []) := by decide +kernel
set_option maxRecDepth 100000 in
theorem la_1733 : dm_at 329 1733 = some (.iaload, 1, []) := by decide +kernel
set_option maxRecDepth 100000 in
theorem la_1734 : dm_at 329 1734 = some (.aload_n 0, 1, []) := by decide +kernel
set_option maxRecDepth 100000 in
theorem la_1735 : dm_at 329 1735 = some (.iload 4, 2, []) := by decide +kernel
set_option maxRecDepth 100000 in
theorem la_1737 : dm_at 329 1737 = some (.iconst 5, 1, []) := by decide +kernel
set_option maxRecDepth 100000 in
theorem la_1738 : dm_at 329 1738 = some (.iadd, 1, []) := by decide +kernel
set_option maxRecDepth 100000 in
theorem la_1739 : dm_at 329 1739 = some (.iaload, 1, []) := by decide +kernel
set_option maxRecDepth 100000 in
theorem la_1740 : dm_at 329 1740 = some (.invokevirtual 284, 3, [181, 1, 7061, 7062, 7063, 1008, 7064]) := by decide +kernel
set_option maxRecDepth 100000 in
theorem la_1743 : dm_at 329 1743 = some (.istore 6, 2, []) := by decide +kernel
set_option maxRecDepth 100000 in
theorem la_1745 : dm_at 329 1745 = some (.goto 635, 3, [2380]) := by decide +kernel
set_option maxRecDepth 100000 in
theorem la_1748 : dm_at 329 1748 = some (.aload_n 1, 1, []) := by decide +kernel
set_option maxRecDepth 100000 in
theorem la_1749 : dm_at 329 1749 = some (.aload_n 0, 1, []) := by decide +kernel
set_option maxRecDepth 100000 in
theorem la_1750 : dm_at 329 1750 = some (.iload 4, 2, []) := by decide +kernel
set_option maxRecDepth 100000 in
theorem la_1752 : dm_at 329 1752 = some (.iconst 1, 1, []) := by decide +kernel
set_option maxRecDepth 100000 in
theorem la_1753 : dm_at 329 1753 = some (.iadd, 1, []) := by decide +kernel
set_option maxRecDepth 100000 in
theorem la_1754 : dm_at 329 1754 = some (.iaload, 1, []) := by decide +kernel
set_option maxRecDepth 100000 in
theorem la_1755 : dm_at 329 1755 = some (.aload_n 0, 1, []) := by decide +kernel
set_option maxRecDepth 100000 in
theorem la_1756 : dm_at 329 1756 = some (.iload 4, 2, []) := by decide +kernel
set_option maxRecDepth 100000 in
theorem la_1758 : dm_at 329 1758 = some (.iconst 2, 1, []) := by decide +kernel
set_option maxRecDepth 100000 in
theorem la_1759 : dm_at 329 1759 = some (.iadd, 1, []) := by decide +kernel
set_option maxRecDepth 100000 in
theorem la_1760 : dm_at 329 1760 = some (.iaload, 1, []) := by decide +kernel
set_option maxRecDepth 100000 in
theorem la_1761 : dm_at 329 1761 = some (.ifCond .eq 7, 3, [1768]) := by decide +kernel
set_option maxRecDepth 100000 in
theorem la_1764 : dm_at 329 1764 = some (.iconst 1, 1, []) := by decide +kernel
set_option maxRecDepth 100000 in
theorem la_1765 : dm_at 329 1765 = some (.goto 4, 3, [1769]) := by decide +kernel
set_option maxRecDepth 100000 in
theorem la_1768 : dm_at 329 1768 = some (.iconst 0, 1, []) := by decide +kernel
set_option maxRecDepth 100000 in
theorem la_1769 : dm_at 329 1769 = some (.aload_n 3, 1, []) := by decide +kernel
set_option maxRecDepth 100000 in
theorem la_1770 : dm_at 329 1770 = some (.invokestatic 285, 3, [316, 0, 5175, 5176, 1000, 5177]) := by decide +kernel
set_option maxRecDepth 100000 in
theorem la_1773 : dm_at 329 1773 = some (.istore 5, 2, []) := by decide +kernel
set_option maxRecDepth 100000 in
theorem la_1775 : dm_at 329 1775 = some (.aload_n 2, 1, []) := by decide +kernel
set_option maxRecDepth 100000 in
theorem la_1776 : dm_at 329 1776 = some (.aload_n 0, 1, []) := by decide +kernel
set_option maxRecDepth 100000 in
theorem la_1777 : dm_at 329 1777 = some (.iload 4, 2, []) := by decide +kernel
set_option maxRecDepth 100000 in
theorem la_1779 : dm_at 329 1779 = some (.iconst 1, 1, []) := by decide +kernel
set_option maxRecDepth 100000 in
theorem la_1780 : dm_at 329 1780 = some (.iadd, 1, []) := by decide +kernel
set_option maxRecDepth 100000 in
theorem la_1781 : dm_at 329 1781 = some (.iaload, 1, []) := by decide +kernel
set_option maxRecDepth 100000 in
theorem la_1782 : dm_at 329 1782 = some (.aload_n 0, 1, []) := by decide +kernel
set_option maxRecDepth 100000 in
theorem la_1783 : dm_at 329 1783 = some (.iload 4, 2, []) := by decide +kernel
set_option maxRecDepth 100000 in
theorem la_1785 : dm_at 329 1785 = some (.iconst 2, 1, []) := by decide +kernel
set_option maxRecDepth 100000 in
theorem la_1786 : dm_at 329 1786 = some (.iadd, 1, []) := by decide +kernel
set_option maxRecDepth 100000 in
theorem la_1787 : dm_at 329 1787 = some (.iaload, 1, []) := by decide +kernel
set_option maxRecDepth 100000 in
theorem la_1788 : dm_at 329 1788 = some (.ifCond .eq 7, 3, [1795]) := by decide +kernel
set_option maxRecDepth 100000 in
theorem la_1791 : dm_at 329 1791 = some (.iconst 1, 1, []) := by decide +kernel
set_option maxRecDepth 100000 in
theorem la_1792 : dm_at 329 1792 = some (.goto 4, 3, [1796]) := by decide +kernel
set_option maxRecDepth 100000 in
theorem la_1795 : dm_at 329 1795 = some (.iconst 0, 1, []) := by decide +kernel
set_option maxRecDepth 100000 in
theorem la_1796 : dm_at 329 1796 = some (.invokevirtual 287, 3, [183, 1, 7065, 7066, 7067, 1008, 7068]) := by decide +kernel
set_option maxRecDepth 100000 in
theorem la_1799 : dm_at 329 1799 = some (.astore 6, 2, []) := by decide +kernel
set_option maxRecDepth 100000 in
theorem la_1801 : dm_at 329 1801 = some (.goto 579, 3, [2380]) := by decide +kernel
set_option maxRecDepth 100000 in
theorem la_1804 : dm_at 329 1804 = some (.aload_n 1, 1, []) := by decide +kernel
set_option maxRecDepth 100000 in
theorem la_1805 : dm_at 329 1805 = some (.aload_n 0, 1, []) := by decide +kernel
set_option maxRecDepth 100000 in
theorem la_1806 : dm_at 329 1806 = some (.iload 4, 2, []) := by decide +kernel
set_option maxRecDepth 100000 in
theorem la_1808 : dm_at 329 1808 = some (.iconst 1, 1, []) := by decide +kernel
set_option maxRecDepth 100000 in
theorem la_1809 : dm_at 329 1809 = some (.iadd, 1, []) := by decide +kernel
set_option maxRecDepth 100000 in
theorem la_1810 : dm_at 329 1810 = some (.iaload, 1, []) := by decide +kernel
set_option maxRecDepth 100000 in
theorem la_1811 : dm_at 329 1811 = some (.aload_n 0, 1, []) := by decide +kernel
set_option maxRecDepth 100000 in
theorem la_1812 : dm_at 329 1812 = some (.iload 4, 2, []) := by decide +kernel
set_option maxRecDepth 100000 in
theorem la_1814 : dm_at 329 1814 = some (.iconst 2, 1, []) := by decide +kernel
set_option maxRecDepth 100000 in
theorem la_1815 : dm_at 329 1815 = some (.iadd, 1, []) := by decide +kernel
set_option maxRecDepth 100000 in
theorem la_1816 : dm_at 329 1816 = some (.iaload, 1, []) := by decide +kernel
set_option maxRecDepth 100000 in
theorem la_1817 : dm_at 329 1817 = some (.aload_n 3, 1, []) := by decide +kernel
set_option maxRecDepth 100000 in
theorem la_1818 : dm_at 329 1818 = some (.invokestatic 288, 3, [317, 0, 5182, 5183, 1000, 5184]) := by decide +kernel
set_option maxRecDepth 100000 in
theorem la_1821 : dm_at 329 1821 = some (.istore 5, 2, []) := by decide +kernel
set_option maxRecDepth 100000 in
theorem la_1823 : dm_at 329 1823 = some (.aload_n 2, 1, []) := by decide +kernel
set_option maxRecDepth 100000 in
theorem la_1824 : dm_at 329 1824 = some (.aload_n 0, 1, []) := by decide +kernel
set_option maxRecDepth 100000 in
theorem la_1825 : dm_at 329 1825 = some (.iload 4, 2, []) := by decide +kernel
set_option maxRecDepth 100000 in
theorem la_1827 : dm_at 329 1827 = some (.iconst 1, 1, []) := by decide +kernel
set_option maxRecDepth 100000 in
theorem la_1828 : dm_at 329 1828 = some (.iadd, 1, []) := by decide +kernel
set_option maxRecDepth 100000 in
theorem la_1829 : dm_at 329 1829 = some (.iaload, 1, []) := by decide +kernel
set_option maxRecDepth 100000 in
theorem la_1830 : dm_at 329 1830 = some (.aload_n 0, 1, []) := by decide +kernel
set_option maxRecDepth 100000 in
theorem la_1831 : dm_at 329 1831 = some (.iload 4, 2, []) := by decide +kernel
set_option maxRecDepth 100000 in
theorem la_1833 : dm_at 329 1833 = some (.iconst 2, 1, []) := by decide +kernel
set_option maxRecDepth 100000 in
theorem la_1834 : dm_at 329 1834 = some (.iadd, 1, []) := by decide +kernel
set_option maxRecDepth 100000 in
theorem la_1835 : dm_at 329 1835 = some (.iaload, 1, []) := by decide +kernel
set_option maxRecDepth 100000 in
theorem la_1836 : dm_at 329 1836 = some (.invokevirtual 290, 3, [184, 1, 7069, 7070, 7071, 1008, 7072]) := by decide +kernel
set_option maxRecDepth 100000 in
theorem la_1839 : dm_at 329 1839 = some (.istore 6, 2, []) := by decide +kernel
set_option maxRecDepth 100000 in
theorem la_1841 : dm_at 329 1841 = some (.goto 539, 3, [2380]) := by decide +kernel
set_option maxRecDepth 100000 in
theorem la_1844 : dm_at 329 1844 = some (.aload_n 1, 1, []) := by decide +kernel
set_option maxRecDepth 100000 in
theorem la_1845 : dm_at 329 1845 = some (.aload_n 0, 1, []) := by decide +kernel
set_option maxRecDepth 100000 in
theorem la_1846 : dm_at 329 1846 = some (.iload 4, 2, []) := by decide +kernel
set_option maxRecDepth 100000 in
theorem la_1848 : dm_at 329 1848 = some (.iconst 1, 1, []) := by decide +kernel
set_option maxRecDepth 100000 in
theorem la_1849 : dm_at 329 1849 = some (.iadd, 1, []) := by decide +kernel
set_option maxRecDepth 100000 in
theorem la_1850 : dm_at 329 1850 = some (.iaload, 1, []) := by decide +kernel
set_option maxRecDepth 100000 in
theorem la_1851 : dm_at 329 1851 = some (.aload_n 3, 1, []) := by decide +kernel
set_option maxRecDepth 100000 in
theorem la_1852 : dm_at 329 1852 = some (.invokestatic 291, 3, [318, 0, 5193, 5194, 1000, 5195]) := by decide +kernel
set_option maxRecDepth 100000 in
theorem la_1855 : dm_at 329 1855 = some (.istore 5, 2, []) := by decide +kernel
set_option maxRecDepth 100000 in
theorem la_1857 : dm_at 329 1857 = some (.aload_n 2, 1, []) := by decide +kernel
set_option maxRecDepth 100000 in
theorem la_1858 : dm_at 329 1858 = some (.aload_n 0, 1, []) := by decide +kernel
set_option maxRecDepth 100000 in
theorem la_1859 : dm_at 329 1859 = some (.iload 4, 2, []) := by decide +kernel
set_option maxRecDepth 100000 in
theorem la_1861 : dm_at 329 1861 = some (.iconst 1, 1, []) := by decide +kernel
set_option maxRecDepth 100000 in
theorem la_1862 : dm_at 329 1862 = some (.iadd, 1, []) := by decide +kernel
set_option maxRecDepth 100000 in
theorem la_1863 : dm_at 329 1863 = some (.iaload, 1, []) := by decide +kernel
set_option maxRecDepth 100000 in
theorem la_1864 : dm_at 329 1864 = some (.invokevirtual 293, 3, [191, 1, 7073, 7074, 7075, 1008, 7076]) := by decide +kernel
set_option maxRecDepth 100000 in
theorem la_1867 : dm_at 329 1867 = some (.istore 6, 2, []) := by decide +kernel
set_option maxRecDepth 100000 in
theorem la_1869 : dm_at 329 1869 = some (.goto 511, 3, [2380]) := by decide +kernel
set_option maxRecDepth 100000 in
theorem la_1872 : dm_at 329 1872 = some (.aload_n 1, 1, []) := by decide +kernel
set_option maxRecDepth 100000 in
theorem la_1873 : dm_at 329 1873 = some (.aload_n 0, 1, []) := by decide +kernel
set_option maxRecDepth 100000 in
theorem la_1874 : dm_at 329 1874 = some (.iload 4, 2, []) := by decide +kernel
set_option maxRecDepth 100000 in
theorem la_1876 : dm_at 329 1876 = some (.iconst 1, 1, []) := by decide +kernel
set_option maxRecDepth 100000 in
theorem la_1877 : dm_at 329 1877 = some (.iadd, 1, []) := by decide +kernel
set_option maxRecDepth 100000 in
theorem la_1878 : dm_at 329 1878 = some (.iaload, 1, []) := by decide +kernel
set_option maxRecDepth 100000 in
theorem la_1879 : dm_at 329 1879 = some (.aload_n 0, 1, []) := by decide +kernel
set_option maxRecDepth 100000 in
theorem la_1880 : dm_at 329 1880 = some (.iload 4, 2, []) := by decide +kernel
set_option maxRecDepth 100000 in
theorem la_1882 : dm_at 329 1882 = some (.iconst 2, 1, []) := by decide +kernel
set_option maxRecDepth 100000 in
theorem la_1883 : dm_at 329 1883 = some (.iadd, 1, []) := by decide +kernel
set_option maxRecDepth 100000 in
theorem la_1884 : dm_at 329 1884 = some (.iaload, 1, []) := by decide +kernel
set_option maxRecDepth 100000 in
theorem la_1885 : dm_at 329 1885 = some (.aload_n 3, 1, []) := by decide +kernel
set_option maxRecDepth 100000 in
theorem la_1886 : dm_at 329 1886 = some (.invokestatic 294, 3, [319, 0, 5197, 5198, 1000, 5199]) := by decide +kernel
set_option maxRecDepth 100000 in
theorem la_1889 : dm_at 329 1889 = some (.istore 5, 2, []) := by decide +kernel
set_option maxRecDepth 100000 in
theorem la_1891 : dm_at 329 1891 = some (.aload_n 2, 1, []) := by decide +kernel
set_option maxRecDepth 100000 in
theorem la_1892 : dm_at 329 1892 = some (.aload_n 0, 1, []) := by decide +kernel
set_option maxRecDepth 100000 in
theorem la_1893 : dm_at 329 1893 = some (.iload 4, 2, []) := by decide +kernel
set_option maxRecDepth 100000 in
theorem la_1895 : dm_at 329 1895 = some (.iconst 1, 1, []) := by decide +kernel
set_option maxRecDepth 100000 in
theorem la_1896 : dm_at 329 1896 = some (.iadd, 1, []) := by decide +kernel
set_option maxRecDepth 100000 in
theorem la_1897 : dm_at 329 1897 = some (.iaload, 1, []) := by decide +kernel
set_option maxRecDepth 100000 in
theorem la_1898 : dm_at 329 1898 = some (.aload_n 0, 1, []) := by decide +kernel
set_option maxRecDepth 100000 in
theorem la_1899 : dm_at 329 1899 = some (.iload 4, 2, []) := by decide +kernel
set_option maxRecDepth 100000 in
theorem la_1901 : dm_at 329 1901 = some (.iconst 2, 1, []) := by decide +kernel
set_option maxRecDepth 100000 in
theorem la_1902 : dm_at 329 1902 = some (.iadd, 1, []) := by decide +kernel
set_option maxRecDepth 100000 in
theorem la_1903 : dm_at 329 1903 = some (.iaload, 1, []) := by decide +kernel
set_option maxRecDepth 100000 in
theorem la_1904 : dm_at 329 1904 = some (.invokevirtual 296, 3, [192, 1, 7085, 7086, 7087, 1008, 7088]) := by decide +kernel
set_option maxRecDepth 100000 in
theorem la_1907 : dm_at 329 1907 = some (.istore 6, 2, []) := by decide +kernel
set_option maxRecDepth 100000 in
theorem la_1909 : dm_at 329 1909 = some (.goto 471, 3, [2380]) := by decide +kernel
set_option maxRecDepth 100000 in
theorem la_1912 : dm_at 329 1912 = some (.aload_n 1, 1, []) := by decide +kernel
set_option maxRecDepth 100000 in
theorem la_1913 : dm_at 329 1913 = some (.aload_n 0, 1, []) := by decide +kernel
set_option maxRecDepth 100000 in
theorem la_1914 : dm_at 329 1914 = some (.iload 4, 2, []) := by decide +kernel
set_option maxRecDepth 100000 in
theorem la_1916 : dm_at 329 1916 = some (.iconst 1, 1, []) := by decide +kernel
set_option maxRecDepth 100000 in
theorem la_1917 : dm_at 329 1917 = some (.iadd, 1, []) := by decide +kernel
set_option maxRecDepth 100000 in
theorem la_1918 : dm_at 329 1918 = some (.iaload, 1, []) := by decide +kernel
set_option maxRecDepth 100000 in
theorem la_1919 : dm_at 329 1919 = some (.aload_n 0, 1, []) := by decide +kernel
set_option maxRecDepth 100000 in
theorem la_1920 : dm_at 329 1920 = some (.iload 4, 2, []) := by decide +kernel
set_option maxRecDepth 100000 in
theorem la_1922 : dm_at 329 1922 = some (.iconst 2, 1, []) := by decide +kernel
set_option maxRecDepth 100000 in
theorem la_1923 : dm_at 329 1923 = some (.iadd, 1, []) := by decide +kernel
set_option maxRecDepth 100000 in
theorem la_1924 : dm_at 329 1924 = some (.iaload, 1, []) := by decide +kernel
set_option maxRecDepth 100000 in
theorem la_1925 : dm_at 329 1925 = some (.aload_n 3, 1, []) := by decide +kernel
set_option maxRecDepth 100000 in
theorem la_1926 : dm_at 329 1926 = some (.invokestatic 297, 3, [320, 0, 5201, 5202, 1000, 5203]) := by decide +kernel
set_option maxRecDepth 100000 in
theorem la_1929 : dm_at 329 1929 = some (.istore 5, 2, []) := by decide +kernel
set_option maxRecDepth 100000 in
theorem la_1931 : dm_at 329 1931 = some (.aload_n 2, 1, []) := by decide +kernel
set_option maxRecDepth 100000 in
theorem la_1932 : dm_at 329 1932 = some (.aload_n 0, 1, []) := by decide +kernel
set_option maxRecDepth 100000 in
theorem la_1933 : dm_at 329 1933 = some (.iload 4, 2, []) := by decide +kernel
set_option maxRecDepth 100000 in
theorem la_1935 : dm_at 329 1935 = some (.iconst 1, 1, []) := by decide +kernel
set_option maxRecDepth 100000 in
theorem la_1936 : dm_at 329 1936 = some (.iadd, 1, []) := by decide +kernel
set_option maxRecDepth 100000 in
theorem la_1937 : dm_at 329 1937 = some (.iaload, 1, []) := by decide +kernel
set_option maxRecDepth 100000 in
theorem la_1938 : dm_at 329 1938 = some (.aload_n 0, 1, []) := by decide +kernel
set_option maxRecDepth 100000 in
theorem la_1939 : dm_at 329 1939 = some (.iload 4, 2, []) := by decide +kernel
set_option maxRecDepth 100000 in
theorem la_1941 : dm_at 329 1941 = some (.iconst 2, 1, []) := by decide +kernel
set_option maxRecDepth 100000 in
theorem la_1942 : dm_at 329 1942 = some (.iadd, 1, []) := by decide +kernel
set_option maxRecDepth 100000 in
theorem la_1943 : dm_at 329 1943 = some (.iaload, 1, []) := by decide +kernel
set_option maxRecDepth 100000 in
theorem la_1944 : dm_at 329 1944 = some (.invokevirtual 299, 3, [195, 1, 7089, 7090, 7091, 1008, 7092]) := by decide +kernel
set_option maxRecDepth 100000 in
theorem la_1947 : dm_at 329 1947 = some (.istore 6, 2, []) := by decide +kernel
set_option maxRecDepth 100000 in
theorem la_1949 : dm_at 329 1949 = some (.goto 431, 3, [2380]) := by decide +kernel
set_option maxRecDepth 100000 in
theorem la_1952 : dm_at 329 1952 = some (.aload_n 1, 1, []) := by decide +kernel
set_option maxRecDepth 100000 in
theorem la_1953 : dm_at 329 1953 = some (.aload_n 0, 1, []) := by decide +kernel
set_option maxRecDepth 100000 in
theorem la_1954 : dm_at 329 1954 = some (.iload 4, 2, []) := by decide +kernel
set_option maxRecDepth 100000 in
theorem la_1956 : dm_at 329 1956 = some (.iconst 1, 1, []) := by decide +kernel
set_option maxRecDepth 100000 in
theorem la_1957 : dm_at 329 1957 = some (.iadd, 1, []) := by decide +kernel
set_option maxRecDepth 100000 in
theorem la_1958 : dm_at 329 1958 = some (.iaload, 1, []) := by decide +kernel
set_option maxRecDepth 100000 in
theorem la_1959 : dm_at 329 1959 = some (.aload_n 0, 1, []) := by decide +kernel
set_option maxRecDepth 100000 in
theorem la_1960 : dm_at 329 1960 = some (.iload 4, 2, []) := by decide +kernel
set_option maxRecDepth 100000 in
theorem la_1962 : dm_at 329 1962 = some (.iconst 2, 1, []) := by decide +kernel
set_option maxRecDepth 100000 in
theorem la_1963 : dm_at 329 1963 = some (.iadd, 1, []) := by decide +kernel
set_option maxRecDepth 100000 in
theorem la_1964 : dm_at 329 1964 = some (.iaload, 1, []) := by decide +kernel
set_option maxRecDepth 100000 in
theorem la_1965 : dm_at 329 1965 = some (.aload_n 3, 1, []) := by decide +kernel
set_option maxRecDepth 100000 in
theorem la_1966 : dm_at 329 1966 = some (.invokestatic 300, 3, [321, 0, 5215, 5216, 1000, 5217]) := by decide +kernel
set_option maxRecDepth 100000 in
theorem la_1969 : dm_at 329 1969 = some (.istore 5, 2, []) := by decide +kernel
set_option maxRecDepth 100000 in
theorem la_1971 : dm_at 329 1971 = some (.aload_n 2, 1, []) := by decide +kernel
set_option maxRecDepth 100000 in
theorem la_1972 : dm_at 329 1972 = some (.aload_n 0, 1, []) := by decide +kernel
set_option maxRecDepth 100000 in
theorem la_1973 : dm_at 329 1973 = some (.iload 4, 2, []) := by decide +kernel
set_option maxRecDepth 100000 in
theorem la_1975 : dm_at 329 1975 = some (.iconst 1, 1, []) := by decide +kernel
set_option maxRecDepth 100000 in
theorem la_1976 : dm_at 329 1976 = some (.iadd, 1, []) := by decide +kernel
set_option maxRecDepth 100000 in
theorem la_1977 : dm_at 329 1977 = some (.iaload, 1, []) := by decide +kernel
set_option maxRecDepth 100000 in
theorem la_1978 : dm_at 329 1978 = some (.aload_n 0, 1, []) := by decide +kernel
set_option maxRecDepth 100000 in
theorem la_1979 : dm_at 329 1979 = some (.iload 4, 2, []) := by decide +kernel
set_option maxRecDepth 100000 in
theorem la_1981 : dm_at 329 1981 = some (.iconst 2, 1, []) := by decide +kernel
set_option maxRecDepth 100000 in
theorem la_1982 : dm_at 329 1982 = some (.iadd, 1, []) := by decide +kernel
set_option maxRecDepth 100000 in
theorem la_1983 : dm_at 329 1983 = some (.iaload, 1, []) := by decide +kernel
set_option maxRecDepth 100000 in
theorem la_1984 : dm_at 329 1984 = some (.invokevirtual 302, 3, [197, 1, 7116, 7117, 7118, 1008, 7119]) := by decide +kernel
set_option maxRecDepth 100000 in
theorem la_1987 : dm_at 329 1987 = some (.istore 6, 2, []) := by decide +kernel
set_option maxRecDepth 100000 in
theorem la_1989 : dm_at 329 1989 = some (.goto 391, 3, [2380]) := by decide +kernel
set_option maxRecDepth 100000 in
theorem la_1992 : dm_at 329 1992 = some (.aload_n 1, 1, []) := by decide +kernel
set_option maxRecDepth 100000 in
theorem la_1993 : dm_at 329 1993 = some (.aload_n 0, 1, []) := by decide +kernel
set_option maxRecDepth 100000 in
theorem la_1994 : dm_at 329 1994 = some (.iload 4, 2, []) := by decide +kernel
set_option maxRecDepth 100000 in
theorem la_1996 : dm_at 329 1996 = some (.iconst 1, 1, []) := by decide +kernel
set_option maxRecDepth 100000 in
theorem la_1997 : dm_at 329 1997 = some (.iadd, 1, []) := by decide +kernel
set_option maxRecDepth 100000 in
theorem la_1998 : dm_at 329 1998 = some (.iaload, 1, []) := by decide +kernel
set_option maxRecDepth 100000 in
theorem la_1999 : dm_at 329 1999 = some (.aload_n 0, 1, []) := by decide +kernel
set_option maxRecDepth 100000 in
theorem la_2000 : dm_at 329 2000 = some (.iload 4, 2, []) := by decide +kernel
set_option maxRecDepth 100000 in
theorem la_2002 : dm_at 329 2002 = some (.iconst 2, 1, []) := by decide +kernel
set_option maxRecDepth 100000 in
theorem la_2003 : dm_at 329 2003 = some (.iadd, 1, []) := by decide +kernel
set_option maxRecDepth 100000 in
theorem la_2004 : dm_at 329 2004 = some (.iaload, 1, []) := by decide +kernel
set_option maxRecDepth 100000 in
theorem la_2005 : dm_at 329 2005 = some (.aload_n 3, 1, []) := by decide +kernel
set_option maxRecDepth 100000 in
theorem la_2006 : dm_at 329 2006 = some (.invokestatic 303, 3, [322, 0, 5223, 5224, 1000, 5225]) := by decide +kernel
set_option maxRecDepth 100000 in
theorem la_2009 : dm_at 329 2009 = some (.istore 5, 2, []) := by decide +kernel
set_option maxRecDepth 100000 in
theorem la_2011 : dm_at 329 2011 = some (.aload_n 2, 1, []) := by decide +kernel
set_option maxRecDepth 100000 in
theorem la_2012 : dm_at 329 2012 = some (.aload_n 0, 1, []) := by decide +kernel
set_option maxRecDepth 100000 in
theorem la_2013 : dm_at 329 2013 = some (.iload 4, 2, []) := by decide +kernel
set_option maxRecDepth 100000 in
theorem la_2015 : dm_at 329 2015 = some (.iconst 1, 1, []) := by decide +kernel
set_option maxRecDepth 100000 in
theorem la_2016 : dm_at 329 2016 = some (.iadd, 1, []) := by decide +kernel
set_option maxRecDepth 100000 in
theorem la_2017 : dm_at 329 2017 = some (.iaload, 1, []) := by decide +kernel
set_option maxRecDepth 100000 in
theorem la_2018 : dm_at 329 2018 = some (.aload_n 0, 1, []) := by decide +kernel
set_option maxRecDepth 100000 in
theorem la_2019 : dm_at 329 2019 = some (.iload 4, 2, []) := by decide +kernel
set_option maxRecDepth 100000 in
theorem la_2021 : dm_at 329 2021 = some (.iconst 2, 1, []) := by decide +kernel
set_option maxRecDepth 100000 in
theorem la_2022 : dm_at 329 2022 = some (.iadd, 1, []) := by decide +kernel
set_option maxRecDepth 100000 in
theorem la_2023 : dm_at 329 2023 = some (.iaload, 1, []) := by decide +kernel
set_option maxRecDepth 100000 in
theorem la_2024 : dm_at 329 2024 = some (.invokevirtual 305, 3, [199, 1, 7123, 7124, 7125, 1008, 7126]) := by decide +kernel
set_option maxRecDepth 100000 in
theorem la_2027 : dm_at 329 2027 = some (.istore 6, 2, []) := by decide +kernel
set_option maxRecDepth 100000 in
theorem la_2029 : dm_at 329 2029 = some (.goto 351, 3, [2380]) := by decide +kernel
set_option maxRecDepth 100000 in
theorem la_2032 : dm_at 329 2032 = some (.aload_n 1, 1, []) := by decide +kernel
set_option maxRecDepth 100000 in
theorem la_2033 : dm_at 329 2033 = some (.aload_n 0, 1, []) := by decide +kernel
set_option maxRecDepth 100000 in
theorem la_2034 : dm_at 329 2034 = some (.iload 4, 2, []) := by decide +kernel
set_option maxRecDepth 100000 in
theorem la_2036 : dm_at 329 2036 = some (.iconst 1, 1, []) := by decide +kernel
set_option maxRecDepth 100000 in
theorem la_2037 : dm_at 329 2037 = some (.iadd, 1, []) := by decide +kernel
set_option maxRecDepth 100000 in
theorem la_2038 : dm_at 329 2038 = some (.iaload, 1, []) := by decide +kernel
set_option maxRecDepth 100000 in
theorem la_2039 : dm_at 329 2039 = some (.aload_n 0, 1, []) := by decide +kernel
set_option maxRecDepth 100000 in
theorem la_2040 : dm_at 329 2040 = some (.iload 4, 2, []) := by decide +kernel
set_option maxRecDepth 100000 in
theorem la_2042 : dm_at 329 2042 = some (.iconst 2, 1, []) := by decide +kernel
set_option maxRecDepth 100000 in
theorem la_2043 : dm_at 329 2043 = some (.iadd, 1, []) := by decide +kernel
set_option maxRecDepth 100000 in
theorem la_2044 : dm_at 329 2044 = some (.iaload, 1, []) := by decide +kernel
set_option maxRecDepth 100000 in
theorem la_2045 : dm_at 329 2045 = some (.ifCond .eq 7, 3, [2052]) := by decide +kernel
set_option maxRecDepth 100000 in
theorem la_2048 : dm_at 329 2048 = some (.iconst 1, 1, []) := by decide +kernel
set_option maxRecDepth 100000 in
theorem la_2049 : dm_at 329 2049 = some (.goto 4, 3, [2053]) := by decide +kernel
set_option maxRecDepth 100000 in
theorem la_2052 : dm_at 329 2052 = some (.iconst 0, 1, []) := by decide +kernel
set_option maxRecDepth 100000 in
theorem la_2053 : dm_at 329 2053 = some (.aload_n 3, 1, []) := by decide +kernel
set_option maxRecDepth 100000 in
theorem la_2054 : dm_at 329 2054 = some (.invokestatic 306, 3, [323, 0, 5235, 5236, 1000, 5237]) := by decide +kernel
set_option maxRecDepth 100000 in
theorem la_2057 : dm_at 329 2057 = some (.istore 5, 2, []) := by decide +kernel
set_option maxRecDepth 100000 in
theorem la_2059 : dm_at 329 2059 = some (.aload_n 2, 1, []) := by decide +kernel
set_option maxRecDepth 100000 in
theorem la_2060 : dm_at 329 2060 = some (.aload_n 0, 1, []) := by decide +kernel
set_option maxRecDepth 100000 in
theorem la_2061 : dm_at 329 2061 = some (.iload 4, 2, []) := by decide +kernel
set_option maxRecDepth 100000 in
theorem la_2063 : dm_at 329 2063 = some (.iconst 1, 1, []) := by decide +kernel
set_option maxRecDepth 100000 in
theorem la_2064 : dm_at 329 2064 = some (.iadd, 1, []) := by decide +kernel
set_option maxRecDepth 100000 in
theorem la_2065 : dm_at 329 2065 = some (.iaload, 1, []) := by decide +kernel
set_option maxRecDepth 100000 in
theorem la_2066 : dm_at 329 2066 = some (.aload_n 0, 1, []) := by decide +kernel
set_option maxRecDepth 100000 in
theorem la_2067 : dm_at 329 2067 = some (.iload 4, 2, []) := by decide +kernel
set_option maxRecDepth 100000 in
theorem la_2069 : dm_at 329 2069 = some (.iconst 2, 1, []) := by decide +kernel
set_option maxRecDepth 100000 in
theorem la_2070 : dm_at 329 2070 = some (.iadd, 1, []) := by decide +kernel
set_option maxRecDepth 100000 in
theorem la_2071 : dm_at 329 2071 = some (.iaload, 1, []) := by decide +kernel
set_option maxRecDepth 100000 in
theorem la_2072 : dm_at 329 2072 = some (.ifCond .eq 7, 3, [2079]) := by decide +kernel
set_option maxRecDepth 100000 in
theorem la_2075 : dm_at 329 2075 = some (.iconst 1, 1, []) := by decide +kernel
set_option maxRecDepth 100000 in
theorem la_2076 : dm_at 329 2076 = some (.goto 4, 3, [2080]) := by decide +kernel
set_option maxRecDepth 100000 in
theorem la_2079 : dm_at 329 2079 = some (.iconst 0, 1, []) := by decide +kernel
set_option maxRecDepth 100000 in
theorem la_2080 : dm_at 329 2080 = some (.invokevirtual 308, 3, [202, 1, 7131, 7132, 7133, 1008, 7134]) := by decide +kernel
set_option maxRecDepth 100000 in
theorem la_2083 : dm_at 329 2083 = some (.istore 6, 2, []) := by decide +kernel
set_option maxRecDepth 100000 in
theorem la_2085 : dm_at 329 2085 = some (.goto 295, 3, [2380]) := by decide +kernel
set_option maxRecDepth 100000 in
theorem la_2088 : dm_at 329 2088 = some (.aload_n 1, 1, []) := by decide +kernel
set_option maxRecDepth 100000 in
theorem la_2089 : dm_at 329 2089 = some (.aload_n 0, 1, []) := by decide +kernel
set_option maxRecDepth 100000 in
theorem la_2090 : dm_at 329 2090 = some (.iload 4, 2, []) := by decide +kernel
set_option maxRecDepth 100000 in
theorem la_2092 : dm_at 329 2092 = some (.iconst 1, 1, []) := by decide +kernel
set_option maxRecDepth 100000 in
theorem la_2093 : dm_at 329 2093 = some (.iadd, 1, []) := by decide +kernel
set_option maxRecDepth 100000 in
theorem la_2094 : dm_at 329 2094 = some (.iaload, 1, []) := by decide +kernel
set_option maxRecDepth 100000 in
theorem la_2095 : dm_at 329 2095 = some (.aload_n 3, 1, []) := by decide +kernel
set_option maxRecDepth 100000 in
theorem la_2096 : dm_at 329 2096 = some (.invokestatic 309, 3, [324, 0, 5239, 6000, 1000, 6001]) := by decide +kernel
set_option maxRecDepth 100000 in
theorem la_2099 : dm_at 329 2099 = some (.istore 5, 2, []) := by decide +kernel
set_option maxRecDepth 100000 in
theorem la_2101 : dm_at 329 2101 = some (.aload_n 2, 1, []) := by decide +kernel
set_option maxRecDepth 100000 in
theorem la_2102 : dm_at 329 2102 = some (.aload_n 0, 1, []) := by decide +kernel
set_option maxRecDepth 100000 in
theorem la_2103 : dm_at 329 2103 = some (.iload 4, 2, []) := by decide +kernel
set_option maxRecDepth 100000 in
theorem la_2105 : dm_at 329 2105 = some (.iconst 1, 1, []) := by decide +kernel
set_option maxRecDepth 100000 in
theorem la_2106 : dm_at 329 2106 = some (.iadd, 1, []) := by decide +kernel
set_option maxRecDepth 100000 in
theorem la_2107 : dm_at 329 2107 = some (.iaload, 1, []) := by decide +kernel
set_option maxRecDepth 100000 in
theorem la_2108 : dm_at 329 2108 = some (.invokevirtual 311, 3, [206, 1, 7143, 7144, 7145, 1008, 7146]) := by decide +kernel
set_option maxRecDepth 100000 in
theorem la_2111 : dm_at 329 2111 = some (.istore 6, 2, []) := by decide +kernel
set_option maxRecDepth 100000 in
theorem la_2113 : dm_at 329 2113 = some (.goto 267, 3, [2380]) := by decide +kernel
set_option maxRecDepth 100000 in
theorem la_2116 : dm_at 329 2116 = some (.aload_n 1, 1, []) := by decide +kernel
set_option maxRecDepth 100000 in
theorem la_2117 : dm_at 329 2117 = some (.aload_n 0, 1, []) := by decide +kernel
set_option maxRecDepth 100000 in
theorem la_2118 : dm_at 329 2118 = some (.iload 4, 2, []) := by decide +kernel
set_option maxRecDepth 100000 in
theorem la_2120 : dm_at 329 2120 = some (.iconst 1, 1, []) := by decide +kernel
set_option maxRecDepth 100000 in
theorem la_2121 : dm_at 329 2121 = some (.iadd, 1, []) := by decide +kernel
set_option maxRecDepth 100000 in
theorem la_2122 : dm_at 329 2122 = some (.iaload, 1, []) := by decide +kernel
set_option maxRecDepth 100000 in
theorem la_2123 : dm_at 329 2123 = some (.aload_n 0, 1, []) := by decide +kernel
set_option maxRecDepth 100000 in
theorem la_2124 : dm_at 329 2124 = some (.iload 4, 2, []) := by decide +kernel
set_option maxRecDepth 100000 in
theorem la_2126 : dm_at 329 2126 = some (.iconst 2, 1, []) := by decide +kernel
set_option maxRecDepth 100000 in
theorem la_2127 : dm_at 329 2127 = some (.iadd, 1, []) := by decide +kernel
set_option maxRecDepth 100000 in
theorem la_2128 : dm_at 329 2128 = some (.iaload, 1, []) := by decide +kernel
set_option maxRecDepth 100000 in
theorem la_2129 : dm_at 329 2129 = some (.aload_n 0, 1, []) := by decide +kernel
set_option maxRecDepth 100000 in
theorem la_2130 : dm_at 329 2130 = some (.iload 4, 2, []) := by decide +kernel
set_option maxRecDepth 100000 in
theorem la_2132 : dm_at 329 2132 = some (.iconst 3, 1, []) := by decide +kernel
set_option maxRecDepth 100000 in
theorem la_2133 : dm_at 329 2133 = some (.iadd, 1, []) := by decide +kernel
set_option maxRecDepth 100000 in
theorem la_2134 : dm_at 329 2134 = some (.iaload, 1, []) := by decide +kernel
set_option maxRecDepth 100000 in
theorem la_2135 : dm_at 329 2135 = some (.aload_n 3, 1, []) := by decide +kernel
set_option maxRecDepth 100000 in
theorem la_2136 : dm_at 329 2136 = some (.invokestatic 312, 3, [325, 0, 6003, 6004, 1000, 6005]) := by decide +kernel
set_option maxRecDepth 100000 in
theorem la_2139 : dm_at 329 2139 = some (.istore 5, 2, []) := by decide +kernel
set_option maxRecDepth 100000 in
theorem la_2141 : dm_at 329 2141 = some (.aload_n 2, 1, []) := by decide +kernel
set_option maxRecDepth 100000 in
theorem la_2142 : dm_at 329 2142 = some (.aload_n 0, 1, []) := by decide +kernel
set_option maxRecDepth 100000 in
theorem la_2143 : dm_at 329 2143 = some (.iload 4, 2, []) := by decide +kernel
set_option maxRecDepth 100000 in
theorem la_2145 : dm_at 329 2145 = some (.iconst 1, 1, []) := by decide +kernel
set_option maxRecDepth 100000 in
theorem la_2146 : dm_at 329 2146 = some (.iadd, 1, []) := by decide +kernel
set_option maxRecDepth 100000 in
theorem la_2147 : dm_at 329 2147 = some (.iaload, 1, []) := by decide +kernel
set_option maxRecDepth 100000 in
theorem la_2148 : dm_at 329 2148 = some (.aload_n 0, 1, []) := by decide +kernel
set_option maxRecDepth 100000 in
theorem la_2149 : dm_at 329 2149 = some (.iload 4, 2, []) := by decide +kernel
set_option maxRecDepth 100000 in
theorem la_2151 : dm_at 329 2151 = some (.iconst 2, 1, []) := by decide +kernel
set_option maxRecDepth 100000 in
theorem la_2152 : dm_at 329 2152 = some (.iadd, 1, []) := by decide +kernel
set_option maxRecDepth 100000 in
theorem la_2153 : dm_at 329 2153 = some (.iaload, 1, []) := by decide +kernel
set_option maxRecDepth 100000 in
theorem la_2154 : dm_at 329 2154 = some (.aload_n 0, 1, []) := by decide +kernel
set_option maxRecDepth 100000 in
theorem la_2155 : dm_at 329 2155 = some (.iload 4, 2, []) := by decide +kernel
set_option maxRecDepth 100000 in
theorem la_2157 : dm_at 329 2157 = some (.iconst 3, 1, []) := by decide +kernel
set_option maxRecDepth 100000 in
theorem la_2158 : dm_at 329 2158 = some (.iadd, 1, []) := by decide +kernel
set_option maxRecDepth 100000 in
theorem la_2159 : dm_at 329 2159 = some (.iaload, 1, []) := by decide +kernel
set_option maxRecDepth 100000 in
theorem la_2160 : dm_at 329 2160 = some (.invokevirtual 314, 3, [208, 1, 7157, 7158, 7159, 1008, 7160]) := by decide +kernel
set_option maxRecDepth 100000 in
theorem la_2163 : dm_at 329 2163 = some (.istore 6, 2, []) := by decide +kernel
set_option maxRecDepth 100000 in
theorem la_2165 : dm_at 329 2165 = some (.goto 215, 3, [2380]) := by decide +kernel
set_option maxRecDepth 100000 in
theorem la_2168 : dm_at 329 2168 = some (.aload_n 1, 1, []) := by decide +kernel
set_option maxRecDepth 100000 in
theorem la_2169 : dm_at 329 2169 = some (.aload_n 0, 1, []) := by decide +kernel
set_option maxRecDepth 100000 in
theorem la_2170 : dm_at 329 2170 = some (.iload 4, 2, []) := by decide +kernel
set_option maxRecDepth 100000 in
theorem la_2172 : dm_at 329 2172 = some (.iconst 1, 1, []) := by decide +kernel
set_option maxRecDepth 100000 in
theorem la_2173 : dm_at 329 2173 = some (.iadd, 1, []) := by decide +kernel
set_option maxRecDepth 100000 in
theorem la_2174 : dm_at 329 2174 = some (.iaload, 1, []) := by decide +kernel
set_option maxRecDepth 100000 in
theorem la_2175 : dm_at 329 2175 = some (.aload_n 0, 1, []) := by decide +kernel
set_option maxRecDepth 100000 in
theorem la_2176 : dm_at 329 2176 = some (.iload 4, 2, []) := by decide +kernel
set_option maxRecDepth 100000 in
theorem la_2178 : dm_at 329 2178 = some (.iconst 2, 1, []) := by decide +kernel
set_option maxRecDepth 100000 in
theorem la_2179 : dm_at 329 2179 = some (.iadd, 1, []) := by decide +kernel
set_option maxRecDepth 100000 in
theorem la_2180 : dm_at 329 2180 = some (.iaload, 1, []) := by decide +kernel
set_option maxRecDepth 100000 in
theorem la_2181 : dm_at 329 2181 = some (.aload_n 0, 1, []) := by decide +kernel
set_option maxRecDepth 100000 in
theorem la_2182 : dm_at 329 2182 = some (.iload 4, 2, []) := by decide +kernel
set_option maxRecDepth 100000 in
theorem la_2184 : dm_at 329 2184 = some (.iconst 3, 1, []) := by decide +kernel
set_option maxRecDepth 100000 in
theorem la_2185 : dm_at 329 2185 = some (.iadd, 1, []) := by decide +kernel
set_option maxRecDepth 100000 in
theorem la_2186 : dm_at 329 2186 = some (.iaload, 1, []) := by decide +kernel
set_option maxRecDepth 100000 in
theorem la_2187 : dm_at 329 2187 = some (.aload_n 3, 1, []) := by decide +kernel
set_option maxRecDepth 100000 in
theorem la_2188 : dm_at 329 2188 = some (.invokestatic 315, 3, [326, 0, 6007, 6008, 1000, 6009]) := by decide +kernel
set_option maxRecDepth 100000 in
theorem la_2191 : dm_at 329 2191 = some (.istore 5, 2, []) := by decide +kernel
set_option maxRecDepth 100000 in
theorem la_2193 : dm_at 329 2193 = some (.aload_n 2, 1, []) := by decide +kernel
set_option maxRecDepth 100000 in
theorem la_2194 : dm_at 329 2194 = some (.aload_n 0, 1, []) := by decide +kernel
set_option maxRecDepth 100000 in
theorem la_2195 : dm_at 329 2195 = some (.iload 4, 2, []) := by decide +kernel
set_option maxRecDepth 100000 in
theorem la_2197 : dm_at 329 2197 = some (.iconst 1, 1, []) := by decide +kernel
set_option maxRecDepth 100000 in
theorem la_2198 : dm_at 329 2198 = some (.iadd, 1, []) := by decide +kernel
set_option maxRecDepth 100000 in
theorem la_2199 : dm_at 329 2199 = some (.iaload, 1, []) := by decide +kernel
set_option maxRecDepth 100000 in
theorem la_2200 : dm_at 329 2200 = some (.aload_n 0, 1, []) := by decide +kernel
set_option maxRecDepth 100000 in
theorem la_2201 : dm_at 329 2201 = some (.iload 4, 2, []) := by decide +kernel
set_option maxRecDepth 100000 in
theorem la_2203 : dm_at 329 2203 = some (.iconst 2, 1, []) := by decide +kernel
set_option maxRecDepth 100000 in
theorem la_2204 : dm_at 329 2204 = some (.iadd, 1, []) := by decide +kernel
set_option maxRecDepth 100000 in
theorem la_2205 : dm_at 329 2205 = some (.iaload, 1, []) := by decide +kernel
set_option maxRecDepth 100000 in
theorem la_2206 : dm_at 329 2206 = some (.aload_n 0, 1, []) := by decide +kernel
set_option maxRecDepth 100000 in
theorem la_2207 : dm_at 329 2207 = some (.iload 4, 2, []) := by decide +kernel
set_option maxRecDepth 100000 in
theorem la_2209 : dm_at 329 2209 = some (.iconst 3, 1, []) := by decide +kernel
set_option maxRecDepth 100000 in
theorem la_2210 : dm_at 329 2210 = some (.iadd, 1, []) := by decide +kernel
set_option maxRecDepth 100000 in
theorem la_2211 : dm_at 329 2211 = some (.iaload, 1, []) := by decide +kernel
set_option maxRecDepth 100000 in
theorem la_2212 : dm_at 329 2212 = some (.invokevirtual 317, 3, [211, 1, 7165, 7166, 7167, 1008, 7168]) := by decide +kernel
set_option maxRecDepth 100000 in
theorem la_2215 : dm_at 329 2215 = some (.istore 6, 2, []) := by decide +kernel
set_option maxRecDepth 100000 in
theorem la_2217 : dm_at 329 2217 = some (.goto 163, 3, [2380]) := by decide +kernel
set_option maxRecDepth 100000 in
theorem la_2220 : dm_at 329 2220 = some (.aload_n 1, 1, []) := by decide +kernel
set_option maxRecDepth 100000 in
theorem la_2221 : dm_at 329 2221 = some (.aload_n 0, 1, []) := by decide +kernel
set_option maxRecDepth 100000 in
theorem la_2222 : dm_at 329 2222 = some (.iload 4, 2, []) := by decide +kernel
set_option maxRecDepth 100000 in
theorem la_2224 : dm_at 329 2224 = some (.iconst 1, 1, []) := by decide +kernel
set_option maxRecDepth 100000 in
theorem la_2225 : dm_at 329 2225 = some (.iadd, 1, []) := by decide +kernel
set_option maxRecDepth 100000 in
theorem la_2226 : dm_at 329 2226 = some (.iaload, 1, []) := by decide +kernel
set_option maxRecDepth 100000 in
theorem la_2227 : dm_at 329 2227 = some (.aload_n 0, 1, []) := by decide +kernel
set_option maxRecDepth 100000 in
theorem la_2228 : dm_at 329 2228 = some (.iload 4, 2, []) := by decide +kernel
set_option maxRecDepth 100000 in
theorem la_2230 : dm_at 329 2230 = some (.iconst 2, 1, []) := by decide +kernel
set_option maxRecDepth 100000 in
theorem la_2231 : dm_at 329 2231 = some (.iadd, 1, []) := by decide +kernel
set_option maxRecDepth 100000 in
theorem la_2232 : dm_at 329 2232 = some (.iaload, 1, []) := by decide +kernel
set_option maxRecDepth 100000 in
theorem la_2233 : dm_at 329 2233 = some (.aload_n 0, 1, []) := by decide +kernel
set_option maxRecDepth 100000 in
theorem la_2234 : dm_at 329 2234 = some (.iload 4, 2, []) := by decide +kernel
set_option maxRecDepth 100000 in
theorem la_2236 : dm_at 329 2236 = some (.iconst 3, 1, []) := by decide +kernel
set_option maxRecDepth 100000 in
theorem la_2237 : dm_at 329 2237 = some (.iadd, 1, []) := by decide +kernel
set_option maxRecDepth 100000 in
theorem la_2238 : dm_at 329 2238 = some (.iaload, 1, []) := by decide +kernel
set_option maxRecDepth 100000 in
theorem la_2239 : dm_at 329 2239 = some (.aload_n 0, 1, []) := by decide +kernel
set_option maxRecDepth 100000 in
theorem la_2240 : dm_at 329 2240 = some (.iload 4, 2, []) := by decide +kernel
set_option maxRecDepth 100000 in
theorem la_2242 : dm_at 329 2242 = some (.iconst 4, 1, []) := by decide +kernel
set_option maxRecDepth 100000 in
theorem la_2243 : dm_at 329 2243 = some (.iadd, 1, []) := by decide +kernel
set_option maxRecDepth 100000 in
theorem la_2244 : dm_at 329 2244 = some (.iaload, 1, []) := by decide +kernel
set_option maxRecDepth 100000 in
theorem la_2245 : dm_at 329 2245 = some (.aload_n 3, 1, []) := by decide +kernel
set_option maxRecDepth 100000 in
theorem la_2246 : dm_at 329 2246 = some (.invokestatic 318, 3, [327, 0, 6015, 6016, 1000, 6017]) := by decide +kernel
set_option maxRecDepth 100000 in
theorem la_2249 : dm_at 329 2249 = some (.istore 5, 2, []) := by decide +kernel
set_option maxRecDepth 100000 in
theorem la_2251 : dm_at 329 2251 = some (.aload_n 2, 1, []) := by decide +kernel
set_option maxRecDepth 100000 in
theorem la_2252 : dm_at 329 2252 = some (.aload_n 0, 1, []) := by decide +kernel
set_option maxRecDepth 100000 in
theorem la_2253 : dm_at 329 2253 = some (.iload 4, 2, []) := by decide +kernel
set_option maxRecDepth 100000 in
theorem la_2255 : dm_at 329 2255 = some (.iconst 1, 1, []) := by decide +kernel
set_option maxRecDepth 100000 in
theorem la_2256 : dm_at 329 2256 = some (.iadd, 1, []) := by decide +kernel
set_option maxRecDepth 100000 in
theorem la_2257 : dm_at 329 2257 = some (.iaload, 1, []) := by decide +kernel
set_option maxRecDepth 100000 in
theorem la_2258 : dm_at 329 2258 = some (.aload_n 0, 1, []) := by decide +kernel
set_option maxRecDepth 100000 in
theorem la_2259 : dm_at 329 2259 = some (.iload 4, 2, []) := by decide +kernel
set_option maxRecDepth 100000 in
theorem la_2261 : dm_at 329 2261 = some (.iconst 2, 1, []) := by decide +kernel
set_option maxRecDepth 100000 in
theorem la_2262 : dm_at 329 2262 = some (.iadd, 1, []) := by decide +kernel
set_option maxRecDepth 100000 in
theorem la_2263 : dm_at 329 2263 = some (.iaload, 1, []) := by decide +kernel
set_option maxRecDepth 100000 in
theorem la_2264 : dm_at 329 2264 = some (.aload_n 0, 1, []) := by decide +kernel
set_option maxRecDepth 100000 in
theorem la_2265 : dm_at 329 2265 = some (.iload 4, 2, []) := by decide +kernel
set_option maxRecDepth 100000 in
theorem la_2267 : dm_at 329 2267 = some (.iconst 3, 1, []) := by decide +kernel
set_option maxRecDepth 100000 in
theorem la_2268 : dm_at 329 2268 = some (.iadd, 1, []) := by decide +kernel
set_option maxRecDepth 100000 in
theorem la_2269 : dm_at 329 2269 = some (.iaload, 1, []) := by decide +kernel
set_option maxRecDepth 100000 in
theorem la_2270 : dm_at 329 2270 = some (.aload_n 0, 1, []) := by decide +kernel
set_option maxRecDepth 100000 in
theorem la_2271 : dm_at 329 2271 = some (.iload 4, 2, []) := by decide +kernel
set_option maxRecDepth 100000 in
theorem la_2273 : dm_at 329 2273 = some (.iconst 4, 1, []) := by decide +kernel
set_option maxRecDepth 100000 in
theorem la_2274 : dm_at 329 2274 = some (.iadd, 1, []) := by decide +kernel
set_option maxRecDepth 100000 in
theorem la_2275 : dm_at 329 2275 = some (.iaload, 1, []) := by decide +kernel
set_option maxRecDepth 100000 in
theorem la_2276 : dm_at 329 2276 = some (.invokevirtual 320, 3, [212, 1, 7177, 7178, 7179, 1008, 7180]) := by decide +kernel
set_option maxRecDepth 100000 in
theorem la_2279 : dm_at 329 2279 = some (.istore 6, 2, []) := by decide +kernel
set_option maxRecDepth 100000 in
theorem la_2281 : dm_at 329 2281 = some (.goto 99, 3, [2380]) := by decide +kernel
set_option maxRecDepth 100000 in
theorem la_2284 : dm_at 329 2284 = some (.aload_n 1, 1, []) := by decide +kernel
set_option maxRecDepth 100000 in
theorem la_2285 : dm_at 329 2285 = some (.aload_n 0, 1, []) := by decide +kernel
set_option maxRecDepth 100000 in
theorem la_2286 : dm_at 329 2286 = some (.iload 4, 2, []) := by decide +kernel
set_option maxRecDepth 100000 in
theorem la_2288 : dm_at 329 2288 = some (.iconst 1, 1, []) := by decide +kernel
set_option maxRecDepth 100000 in
theorem la_2289 : dm_at 329 2289 = some (.iadd, 1, []) := by decide +kernel
set_option maxRecDepth 100000 in
theorem la_2290 : dm_at 329 2290 = some (.iaload, 1, []) := by decide +kernel
set_option maxRecDepth 100000 in
theorem la_2291 : dm_at 329 2291 = some (.aload_n 3, 1, []) := by decide +kernel
set_option maxRecDepth 100000 in
theorem la_2292 : dm_at 329 2292 = some (.invokestatic 321, 3, [328, 0, 6022, 6023, 1000, 6024]) := by decide +kernel
set_option maxRecDepth 100000 in
theorem la_2295 : dm_at 329 2295 = some (.istore 5, 2, []) := by decide +kernel
set_option maxRecDepth 100000 in
theorem la_2297 : dm_at 329 2297 = some (.aload_n 2, 1, []) := by decide +kernel
set_option maxRecDepth 100000 in
theorem la_2298 : dm_at 329 2298 = some (.aload_n 0, 1, []) := by decide +kernel
set_option maxRecDepth 100000 in
theorem la_2299 : dm_at 329 2299 = some (.iload 4, 2, []) := by decide +kernel
set_option maxRecDepth 100000 in
theorem la_2301 : dm_at 329 2301 = some (.iconst 1, 1, []) := by decide +kernel
set_option maxRecDepth 100000 in
theorem la_2302 : dm_at 329 2302 = some (.iadd, 1, []) := by decide +kernel
set_option maxRecDepth 100000 in
theorem la_2303 : dm_at 329 2303 = some (.iaload, 1, []) := by decide +kernel
set_option maxRecDepth 100000 in
theorem la_2304 : dm_at 329 2304 = some (.invokevirtual 323, 3, [214, 1, 7181, 7182, 7183, 1008, 7184]) := by decide +kernel
set_option maxRecDepth 100000 in
theorem la_2307 : dm_at 329 2307 = some (.istore 6, 2, []) := by decide +kernel
set_option maxRecDepth 100000 in
theorem la_2309 : dm_at 329 2309 = some (.aload_n 2, 1, []) := by decide +kernel
set_option maxRecDepth 100000 in
theorem la_2310 : dm_at 329 2310 = some (.invokevirtual 324, 3, [330, 1, 6074, 6075, 6076, 1008, 6077]) := by decide +kernel
set_option maxRecDepth 100000 in
theorem la_2313 : dm_at 329 2313 = some (.iload 5, 2, []) := by decide +kernel
set_option maxRecDepth 100000 in
theorem la_2315 : dm_at 329 2315 = some (.if_icmp .eq 5, 3, [2320]) := by decide +kernel
set_option maxRecDepth 100000 in
theorem la_2320 : dm_at 329 2320 = some (.iload 5, 2, []) := by decide +kernel
set_option maxRecDepth 100000 in
theorem la_2322 : dm_at 329 2322 = some (.ifCond .ne 16, 3, [2338]) := by decide +kernel
set_option maxRecDepth 100000 in
theorem la_2325 : dm_at 329 2325 = some (.aload_n 3, 1, []) := by decide +kernel
set_option maxRecDepth 100000 in
theorem la_2326 : dm_at 329 2326 = some (.getfield 13, 3, [9, 0, 1, 3096]) := by decide +kernel
set_option maxRecDepth 100000 in
theorem la_2329 : dm_at 329 2329 = some (.iload 6, 2, []) := by decide +kernel
set_option maxRecDepth 100000 in
theorem la_2331 : dm_at 329 2331 = some (.i2l, 1, []) := by decide +kernel
set_option maxRecDepth 100000 in
theorem la_2332 : dm_at 329 2332 = some (.lcmp, 1, []) := by decide +kernel
set_option maxRecDepth 100000 in
theorem la_2333 : dm_at 329 2333 = some (.ifCond .eq 5, 3, [2338]) := by decide +kernel
set_option maxRecDepth 100000 in
theorem la_2338 : dm_at 329 2338 = some (.goto 42, 3, [2380]) := by decide +kernel
set_option maxRecDepth 100000 in
theorem la_2341 : dm_at 329 2341 = some (.aload_n 1, 1, []) := by decide +kernel
set_option maxRecDepth 100000 in
theorem la_2342 : dm_at 329 2342 = some (.invokevirtual 327, 3, [100, 1, 1183, 1184, 1185, 1001, 1186]) := by decide +kernel
set_option maxRecDepth 100000 in
theorem la_2345 : dm_at 329 2345 = some (.pop, 1, []) := by decide +kernel
set_option maxRecDepth 100000 in
theorem la_2346 : dm_at 329 2346 = some (.aload_n 2, 1, []) := by decide +kernel
set_option maxRecDepth 100000 in
theorem la_2347 : dm_at 329 2347 = some (.invokevirtual 330, 3, [215, 1, 7189, 7190, 7191, 1008, 7192]) := by decide +kernel
set_option maxRecDepth 100000 in
theorem la_2350 : dm_at 329 2350 = some (.pop, 1, []) := by decide +kernel
set_option maxRecDepth 100000 in
theorem la_2351 : dm_at 329 2351 = some (.goto 29, 3, [2380]) := by decide +kernel
set_option maxRecDepth 100000 in
theorem la_2354 : dm_at 329 2354 = some (.aload_n 1, 1, []) := by decide +kernel
set_option maxRecDepth 100000 in
theorem la_2355 : dm_at 329 2355 = some (.invokevirtual 331, 3, [101, 1, 1187, 1188, 1189, 1001, 1190]) := by decide +kernel
set_option maxRecDepth 100000 in
theorem la_2358 : dm_at 329 2358 = some (.pop, 1, []) := by decide +kernel
set_option maxRecDepth 100000 in
theorem la_2359 : dm_at 329 2359 = some (.aload_n 2, 1, []) := by decide +kernel
set_option maxRecDepth 100000 in
theorem la_2360 : dm_at 329 2360 = some (.invokevirtual 335, 3, [222, 1, 7193, 7194, 7195, 1008, 7196]) := by decide +kernel
set_option maxRecDepth 100000 in
theorem la_2363 : dm_at 329 2363 = some (.pop, 1, []) := by decide +kernel
set_option maxRecDepth 100000 in
theorem la_2364 : dm_at 329 2364 = some (.goto 16, 3, [2380]) := by decide +kernel
set_option maxRecDepth 100000 in
theorem la_2367 : dm_at 329 2367 = some (.aload_n 1, 1, []) := by decide +kernel
set_option maxRecDepth 100000 in
theorem la_2368 : dm_at 329 2368 = some (.invokevirtual 336, 3, [102, 1, 2110, 2111, 2112, 1001, 2113]) := by decide +kernel
set_option maxRecDepth 100000 in
theorem la_2371 : dm_at 329 2371 = some (.pop2, 1, []) := by decide +kernel
set_option maxRecDepth 100000 in
theorem la_2372 : dm_at 329 2372 = some (.aload_n 2, 1, []) := by decide +kernel
set_option maxRecDepth 100000 in
theorem la_2373 : dm_at 329 2373 = some (.invokevirtual 340, 3, [224, 1, 7218, 7219, 7220, 1008, 7221]) := by decide +kernel
set_option maxRecDepth 100000 in
theorem la_2376 : dm_at 329 2376 = some (.pop2, 1, []) := by decide +kernel
set_option maxRecDepth 100000 in
theorem la_2377 : dm_at 329 2377 = some (.goto 3, 3, [2380]) := by decide +kernel
set_option maxRecDepth 100000 in
theorem la_2380 : dm_at 329 2380 = some (.iinc 4 6, 3, []) := by decide +kernel
set_option maxRecDepth 100000 in
theorem la_2383 : dm_at 329 2383 = some (.goto (-2356), 3, [27]) := by decide +kernel
set_option maxRecDepth 100000 in
theorem la_2386 : dm_at 329 2386 = some (.iconst 1, 1, []) := by decide +kernel
set_option maxRecDepth 100000 in
theorem la_2387 : dm_at 329 2387 = some (.ireturn, 1, []) := by decide +kernel
