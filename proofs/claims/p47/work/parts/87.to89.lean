/-! ===== 87.case4 -/
section PT_87
/-! THE LAW'S CASES, 4 -/
theorem dL_law_1708 : decode cL_law 1708 = .ok (.aload_n 1, 1) := dqo_43 (kb_26 44 rfl)
theorem dL_law_1709 : decode cL_law 1709 = .ok (.aload_n 0, 1) := dqo_42 (kb_26 45 rfl)
theorem dL_law_1710 : decode cL_law 1710 = .ok (.iload 4, 2) := dqo_21 4 (kb_26 46 rfl) (kb_26 47 rfl)
theorem dL_law_1712 : decode cL_law 1712 = .ok (.iconst 1, 1) := dqo_4 (kb_26 48 rfl)
theorem dL_law_1713 : decode cL_law 1713 = .ok (.iadd, 1) := dqo_96 (kb_26 49 rfl)
theorem dL_law_1714 : decode cL_law 1714 = .ok (.iaload, 1) := dqo_46 (kb_26 50 rfl)
theorem dL_law_1715 : decode cL_law 1715 = .ok (.aload_n 0, 1) := dqo_42 (kb_26 51 rfl)
theorem dL_law_1716 : decode cL_law 1716 = .ok (.iload 4, 2) := dqo_21 4 (kb_26 52 rfl) (kb_26 53 rfl)
theorem dL_law_1718 : decode cL_law 1718 = .ok (.iconst 2, 1) := dqo_5 (kb_26 54 rfl)
theorem dL_law_1719 : decode cL_law 1719 = .ok (.iadd, 1) := dqo_96 (kb_26 55 rfl)
theorem dL_law_1720 : decode cL_law 1720 = .ok (.iaload, 1) := dqo_46 (kb_26 56 rfl)
theorem dL_law_1721 : decode cL_law 1721 = .ok (.aload_n 3, 1) := dqo_45 (kb_26 57 rfl)
theorem dL_law_1722 : decode cL_law 1722 = .ok (.invokestatic 290, 3) := dqo_184 1 34 (kb_26 58 rfl) (kb_26 59 rfl) (kb_26 60 rfl)
theorem dL_law_1725 : decode cL_law 1725 = .ok (.istore 5, 2) := dqo_54 5 (kb_26 61 rfl) (kb_26 62 rfl)
theorem dL_law_1727 : decode cL_law 1727 = .ok (.aload_n 2, 1) := dqo_44 (kb_26 63 rfl)
theorem dL_law_1728 : decode cL_law 1728 = .ok (.aload_n 0, 1) := dqo_42 (kb_27 0 rfl)
theorem dL_law_1729 : decode cL_law 1729 = .ok (.iload 4, 2) := dqo_21 4 (kb_27 1 rfl) (kb_27 2 rfl)
theorem dL_law_1731 : decode cL_law 1731 = .ok (.iconst 1, 1) := dqo_4 (kb_27 3 rfl)
theorem dL_law_1732 : decode cL_law 1732 = .ok (.iadd, 1) := dqo_96 (kb_27 4 rfl)
theorem dL_law_1733 : decode cL_law 1733 = .ok (.iaload, 1) := dqo_46 (kb_27 5 rfl)
theorem dL_law_1734 : decode cL_law 1734 = .ok (.aload_n 0, 1) := dqo_42 (kb_27 6 rfl)
theorem dL_law_1735 : decode cL_law 1735 = .ok (.iload 4, 2) := dqo_21 4 (kb_27 7 rfl) (kb_27 8 rfl)
theorem dL_law_1737 : decode cL_law 1737 = .ok (.iconst 2, 1) := dqo_5 (kb_27 9 rfl)
theorem dL_law_1738 : decode cL_law 1738 = .ok (.iadd, 1) := dqo_96 (kb_27 10 rfl)
theorem dL_law_1739 : decode cL_law 1739 = .ok (.iaload, 1) := dqo_46 (kb_27 11 rfl)
theorem dL_law_1740 : decode cL_law 1740 = .ok (.invokevirtual 292, 3) := dqo_182 1 36 (kb_27 12 rfl) (kb_27 13 rfl) (kb_27 14 rfl)
theorem dL_law_1743 : decode cL_law 1743 = .ok (.istore 6, 2) := dqo_54 6 (kb_27 15 rfl) (kb_27 16 rfl)
theorem dL_law_1745 : decode cL_law 1745 = .ok (.goto 383, 3) := dqo_167 1 127 (by decide) (kb_27 17 rfl) (kb_27 18 rfl) (kb_27 19 rfl)
theorem dL_law_1748 : decode cL_law 1748 = .ok (.aload_n 1, 1) := dqo_43 (kb_27 20 rfl)
theorem dL_law_1749 : decode cL_law 1749 = .ok (.aload_n 0, 1) := dqo_42 (kb_27 21 rfl)
theorem dL_law_1750 : decode cL_law 1750 = .ok (.iload 4, 2) := dqo_21 4 (kb_27 22 rfl) (kb_27 23 rfl)
theorem dL_law_1752 : decode cL_law 1752 = .ok (.iconst 1, 1) := dqo_4 (kb_27 24 rfl)
theorem dL_law_1753 : decode cL_law 1753 = .ok (.iadd, 1) := dqo_96 (kb_27 25 rfl)
theorem dL_law_1754 : decode cL_law 1754 = .ok (.iaload, 1) := dqo_46 (kb_27 26 rfl)
theorem dL_law_1755 : decode cL_law 1755 = .ok (.aload_n 0, 1) := dqo_42 (kb_27 27 rfl)
theorem dL_law_1756 : decode cL_law 1756 = .ok (.iload 4, 2) := dqo_21 4 (kb_27 28 rfl) (kb_27 29 rfl)
theorem dL_law_1758 : decode cL_law 1758 = .ok (.iconst 2, 1) := dqo_5 (kb_27 30 rfl)
theorem dL_law_1759 : decode cL_law 1759 = .ok (.iadd, 1) := dqo_96 (kb_27 31 rfl)
theorem dL_law_1760 : decode cL_law 1760 = .ok (.iaload, 1) := dqo_46 (kb_27 32 rfl)
theorem dL_law_1761 : decode cL_law 1761 = .ok (.aload_n 0, 1) := dqo_42 (kb_27 33 rfl)
theorem dL_law_1762 : decode cL_law 1762 = .ok (.iload 4, 2) := dqo_21 4 (kb_27 34 rfl) (kb_27 35 rfl)
theorem dL_law_1764 : decode cL_law 1764 = .ok (.iconst 3, 1) := dqo_6 (kb_27 36 rfl)
theorem dL_law_1765 : decode cL_law 1765 = .ok (.iadd, 1) := dqo_96 (kb_27 37 rfl)
theorem dL_law_1766 : decode cL_law 1766 = .ok (.iaload, 1) := dqo_46 (kb_27 38 rfl)
theorem dL_law_1767 : decode cL_law 1767 = .ok (.aload_n 3, 1) := dqo_45 (kb_27 39 rfl)
theorem dL_law_1768 : decode cL_law 1768 = .ok (.invokestatic 293, 3) := dqo_184 1 37 (kb_27 40 rfl) (kb_27 41 rfl) (kb_27 42 rfl)
theorem dL_law_1771 : decode cL_law 1771 = .ok (.istore 5, 2) := dqo_54 5 (kb_27 43 rfl) (kb_27 44 rfl)
theorem dL_law_1773 : decode cL_law 1773 = .ok (.aload_n 2, 1) := dqo_44 (kb_27 45 rfl)
theorem dL_law_1774 : decode cL_law 1774 = .ok (.aload_n 0, 1) := dqo_42 (kb_27 46 rfl)
theorem dL_law_1775 : decode cL_law 1775 = .ok (.iload 4, 2) := dqo_21 4 (kb_27 47 rfl) (kb_27 48 rfl)
theorem dL_law_1777 : decode cL_law 1777 = .ok (.iconst 1, 1) := dqo_4 (kb_27 49 rfl)
theorem dL_law_1778 : decode cL_law 1778 = .ok (.iadd, 1) := dqo_96 (kb_27 50 rfl)
theorem dL_law_1779 : decode cL_law 1779 = .ok (.iaload, 1) := dqo_46 (kb_27 51 rfl)
theorem dL_law_1780 : decode cL_law 1780 = .ok (.aload_n 0, 1) := dqo_42 (kb_27 52 rfl)
theorem dL_law_1781 : decode cL_law 1781 = .ok (.iload 4, 2) := dqo_21 4 (kb_27 53 rfl) (kb_27 54 rfl)
theorem dL_law_1783 : decode cL_law 1783 = .ok (.iconst 2, 1) := dqo_5 (kb_27 55 rfl)
theorem dL_law_1784 : decode cL_law 1784 = .ok (.iadd, 1) := dqo_96 (kb_27 56 rfl)
theorem dL_law_1785 : decode cL_law 1785 = .ok (.iaload, 1) := dqo_46 (kb_27 57 rfl)
theorem dL_law_1786 : decode cL_law 1786 = .ok (.aload_n 0, 1) := dqo_42 (kb_27 58 rfl)
theorem dL_law_1787 : decode cL_law 1787 = .ok (.iload 4, 2) := dqo_21 4 (kb_27 59 rfl) (kb_27 60 rfl)
theorem dL_law_1789 : decode cL_law 1789 = .ok (.iconst 3, 1) := dqo_6 (kb_27 61 rfl)
theorem dL_law_1790 : decode cL_law 1790 = .ok (.iadd, 1) := dqo_96 (kb_27 62 rfl)
theorem dL_law_1791 : decode cL_law 1791 = .ok (.iaload, 1) := dqo_46 (kb_27 63 rfl)
theorem dL_law_1792 : decode cL_law 1792 = .ok (.invokevirtual 295, 3) := dqo_182 1 39 (kb_28 0 rfl) (kb_28 1 rfl) (kb_28 2 rfl)
theorem dL_law_1795 : decode cL_law 1795 = .ok (.istore 6, 2) := dqo_54 6 (kb_28 3 rfl) (kb_28 4 rfl)
theorem dL_law_1797 : decode cL_law 1797 = .ok (.goto 331, 3) := dqo_167 1 75 (by decide) (kb_28 5 rfl) (kb_28 6 rfl) (kb_28 7 rfl)
theorem dL_law_1800 : decode cL_law 1800 = .ok (.aload_n 1, 1) := dqo_43 (kb_28 8 rfl)
theorem dL_law_1801 : decode cL_law 1801 = .ok (.aload_n 0, 1) := dqo_42 (kb_28 9 rfl)
theorem dL_law_1802 : decode cL_law 1802 = .ok (.iload 4, 2) := dqo_21 4 (kb_28 10 rfl) (kb_28 11 rfl)
theorem dL_law_1804 : decode cL_law 1804 = .ok (.iconst 1, 1) := dqo_4 (kb_28 12 rfl)
theorem dL_law_1805 : decode cL_law 1805 = .ok (.iadd, 1) := dqo_96 (kb_28 13 rfl)
theorem dL_law_1806 : decode cL_law 1806 = .ok (.iaload, 1) := dqo_46 (kb_28 14 rfl)
theorem dL_law_1807 : decode cL_law 1807 = .ok (.aload_n 3, 1) := dqo_45 (kb_28 15 rfl)
theorem dL_law_1808 : decode cL_law 1808 = .ok (.invokestatic 296, 3) := dqo_184 1 40 (kb_28 16 rfl) (kb_28 17 rfl) (kb_28 18 rfl)
theorem dL_law_1811 : decode cL_law 1811 = .ok (.istore 5, 2) := dqo_54 5 (kb_28 19 rfl) (kb_28 20 rfl)
theorem dL_law_1813 : decode cL_law 1813 = .ok (.aload_n 2, 1) := dqo_44 (kb_28 21 rfl)
theorem dL_law_1814 : decode cL_law 1814 = .ok (.aload_n 0, 1) := dqo_42 (kb_28 22 rfl)
theorem dL_law_1815 : decode cL_law 1815 = .ok (.iload 4, 2) := dqo_21 4 (kb_28 23 rfl) (kb_28 24 rfl)
theorem dL_law_1817 : decode cL_law 1817 = .ok (.iconst 1, 1) := dqo_4 (kb_28 25 rfl)
theorem dL_law_1818 : decode cL_law 1818 = .ok (.iadd, 1) := dqo_96 (kb_28 26 rfl)
theorem dL_law_1819 : decode cL_law 1819 = .ok (.iaload, 1) := dqo_46 (kb_28 27 rfl)
theorem dL_law_1820 : decode cL_law 1820 = .ok (.invokevirtual 298, 3) := dqo_182 1 42 (kb_28 28 rfl) (kb_28 29 rfl) (kb_28 30 rfl)
theorem dL_law_1823 : decode cL_law 1823 = .ok (.istore 6, 2) := dqo_54 6 (kb_28 31 rfl) (kb_28 32 rfl)
theorem dL_law_1825 : decode cL_law 1825 = .ok (.goto 303, 3) := dqo_167 1 47 (by decide) (kb_28 33 rfl) (kb_28 34 rfl) (kb_28 35 rfl)
theorem dL_law_1828 : decode cL_law 1828 = .ok (.aload_n 1, 1) := dqo_43 (kb_28 36 rfl)
theorem dL_law_1829 : decode cL_law 1829 = .ok (.aload_n 0, 1) := dqo_42 (kb_28 37 rfl)
theorem dL_law_1830 : decode cL_law 1830 = .ok (.iload 4, 2) := dqo_21 4 (kb_28 38 rfl) (kb_28 39 rfl)
theorem dL_law_1832 : decode cL_law 1832 = .ok (.iconst 1, 1) := dqo_4 (kb_28 40 rfl)
theorem dL_law_1833 : decode cL_law 1833 = .ok (.iadd, 1) := dqo_96 (kb_28 41 rfl)
theorem dL_law_1834 : decode cL_law 1834 = .ok (.iaload, 1) := dqo_46 (kb_28 42 rfl)
theorem dL_law_1835 : decode cL_law 1835 = .ok (.aload_n 3, 1) := dqo_45 (kb_28 43 rfl)
theorem dL_law_1836 : decode cL_law 1836 = .ok (.invokestatic 299, 3) := dqo_184 1 43 (kb_28 44 rfl) (kb_28 45 rfl) (kb_28 46 rfl)
theorem dL_law_1839 : decode cL_law 1839 = .ok (.istore 5, 2) := dqo_54 5 (kb_28 47 rfl) (kb_28 48 rfl)
theorem dL_law_1841 : decode cL_law 1841 = .ok (.aload_n 2, 1) := dqo_44 (kb_28 49 rfl)
theorem dL_law_1842 : decode cL_law 1842 = .ok (.aload_n 0, 1) := dqo_42 (kb_28 50 rfl)
theorem dL_law_1843 : decode cL_law 1843 = .ok (.iload 4, 2) := dqo_21 4 (kb_28 51 rfl) (kb_28 52 rfl)
theorem dL_law_1845 : decode cL_law 1845 = .ok (.iconst 1, 1) := dqo_4 (kb_28 53 rfl)
theorem dL_law_1846 : decode cL_law 1846 = .ok (.iadd, 1) := dqo_96 (kb_28 54 rfl)
theorem dL_law_1847 : decode cL_law 1847 = .ok (.iaload, 1) := dqo_46 (kb_28 55 rfl)
theorem dL_law_1848 : decode cL_law 1848 = .ok (.invokevirtual 301, 3) := dqo_182 1 45 (kb_28 56 rfl) (kb_28 57 rfl) (kb_28 58 rfl)
theorem dL_law_1851 : decode cL_law 1851 = .ok (.istore 6, 2) := dqo_54 6 (kb_28 59 rfl) (kb_28 60 rfl)
theorem dL_law_1853 : decode cL_law 1853 = .ok (.goto 275, 3) := dqo_167 1 19 (by decide) (kb_28 61 rfl) (kb_28 62 rfl) (kb_28 63 rfl)
theorem dL_law_1856 : decode cL_law 1856 = .ok (.aload_n 1, 1) := dqo_43 (kb_29 0 rfl)
theorem dL_law_1857 : decode cL_law 1857 = .ok (.aload_n 0, 1) := dqo_42 (kb_29 1 rfl)
theorem dL_law_1858 : decode cL_law 1858 = .ok (.iload 4, 2) := dqo_21 4 (kb_29 2 rfl) (kb_29 3 rfl)
theorem dL_law_1860 : decode cL_law 1860 = .ok (.iconst 1, 1) := dqo_4 (kb_29 4 rfl)
theorem dL_law_1861 : decode cL_law 1861 = .ok (.iadd, 1) := dqo_96 (kb_29 5 rfl)
theorem dL_law_1862 : decode cL_law 1862 = .ok (.iaload, 1) := dqo_46 (kb_29 6 rfl)
theorem dL_law_1863 : decode cL_law 1863 = .ok (.aload_n 3, 1) := dqo_45 (kb_29 7 rfl)
theorem dL_law_1864 : decode cL_law 1864 = .ok (.invokestatic 302, 3) := dqo_184 1 46 (kb_29 8 rfl) (kb_29 9 rfl) (kb_29 10 rfl)
theorem dL_law_1867 : decode cL_law 1867 = .ok (.istore 5, 2) := dqo_54 5 (kb_29 11 rfl) (kb_29 12 rfl)
theorem dL_law_1869 : decode cL_law 1869 = .ok (.aload_n 2, 1) := dqo_44 (kb_29 13 rfl)
theorem dL_law_1870 : decode cL_law 1870 = .ok (.aload_n 0, 1) := dqo_42 (kb_29 14 rfl)
theorem dL_law_1871 : decode cL_law 1871 = .ok (.iload 4, 2) := dqo_21 4 (kb_29 15 rfl) (kb_29 16 rfl)
theorem dL_law_1873 : decode cL_law 1873 = .ok (.iconst 1, 1) := dqo_4 (kb_29 17 rfl)
theorem dL_law_1874 : decode cL_law 1874 = .ok (.iadd, 1) := dqo_96 (kb_29 18 rfl)
theorem dL_law_1875 : decode cL_law 1875 = .ok (.iaload, 1) := dqo_46 (kb_29 19 rfl)
theorem dL_law_1876 : decode cL_law 1876 = .ok (.invokevirtual 304, 3) := dqo_182 1 48 (kb_29 20 rfl) (kb_29 21 rfl) (kb_29 22 rfl)
theorem dL_law_1879 : decode cL_law 1879 = .ok (.istore 6, 2) := dqo_54 6 (kb_29 23 rfl) (kb_29 24 rfl)
theorem dL_law_1881 : decode cL_law 1881 = .ok (.goto 247, 3) := dqo_167 0 247 (by decide) (kb_29 25 rfl) (kb_29 26 rfl) (kb_29 27 rfl)
theorem dL_law_1884 : decode cL_law 1884 = .ok (.aload_n 1, 1) := dqo_43 (kb_29 28 rfl)
theorem dL_law_1885 : decode cL_law 1885 = .ok (.aload_n 0, 1) := dqo_42 (kb_29 29 rfl)
theorem dL_law_1886 : decode cL_law 1886 = .ok (.iload 4, 2) := dqo_21 4 (kb_29 30 rfl) (kb_29 31 rfl)
theorem dL_law_1888 : decode cL_law 1888 = .ok (.iconst 1, 1) := dqo_4 (kb_29 32 rfl)
theorem dL_law_1889 : decode cL_law 1889 = .ok (.iadd, 1) := dqo_96 (kb_29 33 rfl)
theorem dL_law_1890 : decode cL_law 1890 = .ok (.iaload, 1) := dqo_46 (kb_29 34 rfl)
theorem dL_law_1891 : decode cL_law 1891 = .ok (.aload_n 0, 1) := dqo_42 (kb_29 35 rfl)
theorem dL_law_1892 : decode cL_law 1892 = .ok (.iload 4, 2) := dqo_21 4 (kb_29 36 rfl) (kb_29 37 rfl)
theorem dL_law_1894 : decode cL_law 1894 = .ok (.iconst 2, 1) := dqo_5 (kb_29 38 rfl)
theorem dL_law_1895 : decode cL_law 1895 = .ok (.iadd, 1) := dqo_96 (kb_29 39 rfl)
theorem dL_law_1896 : decode cL_law 1896 = .ok (.iaload, 1) := dqo_46 (kb_29 40 rfl)
theorem dL_law_1897 : decode cL_law 1897 = .ok (.aload_n 3, 1) := dqo_45 (kb_29 41 rfl)
theorem dL_law_1898 : decode cL_law 1898 = .ok (.invokestatic 305, 3) := dqo_184 1 49 (kb_29 42 rfl) (kb_29 43 rfl) (kb_29 44 rfl)
theorem dL_law_1901 : decode cL_law 1901 = .ok (.istore 5, 2) := dqo_54 5 (kb_29 45 rfl) (kb_29 46 rfl)
theorem dL_law_1903 : decode cL_law 1903 = .ok (.aload_n 2, 1) := dqo_44 (kb_29 47 rfl)
theorem dL_law_1904 : decode cL_law 1904 = .ok (.aload_n 0, 1) := dqo_42 (kb_29 48 rfl)
theorem dL_law_1905 : decode cL_law 1905 = .ok (.iload 4, 2) := dqo_21 4 (kb_29 49 rfl) (kb_29 50 rfl)
theorem dL_law_1907 : decode cL_law 1907 = .ok (.iconst 1, 1) := dqo_4 (kb_29 51 rfl)
theorem dL_law_1908 : decode cL_law 1908 = .ok (.iadd, 1) := dqo_96 (kb_29 52 rfl)
theorem dL_law_1909 : decode cL_law 1909 = .ok (.iaload, 1) := dqo_46 (kb_29 53 rfl)
theorem dL_law_1910 : decode cL_law 1910 = .ok (.aload_n 0, 1) := dqo_42 (kb_29 54 rfl)
theorem dL_law_1911 : decode cL_law 1911 = .ok (.iload 4, 2) := dqo_21 4 (kb_29 55 rfl) (kb_29 56 rfl)
theorem dL_law_1913 : decode cL_law 1913 = .ok (.iconst 2, 1) := dqo_5 (kb_29 57 rfl)
theorem dL_law_1914 : decode cL_law 1914 = .ok (.iadd, 1) := dqo_96 (kb_29 58 rfl)
theorem dL_law_1915 : decode cL_law 1915 = .ok (.iaload, 1) := dqo_46 (kb_29 59 rfl)
theorem dL_law_1916 : decode cL_law 1916 = .ok (.invokevirtual 307, 3) := dqo_182 1 51 (kb_29 60 rfl) (kb_29 61 rfl) (kb_29 62 rfl)
theorem dL_law_1919 : decode cL_law 1919 = .ok (.istore 6, 2) := dqo_54 6 (kb_29 63 rfl) (kb_30 0 rfl)
theorem dL_law_1921 : decode cL_law 1921 = .ok (.goto 207, 3) := dqo_167 0 207 (by decide) (kb_30 1 rfl) (kb_30 2 rfl) (kb_30 3 rfl)
theorem dL_law_1924 : decode cL_law 1924 = .ok (.aload_n 1, 1) := dqo_43 (kb_30 4 rfl)
theorem dL_law_1925 : decode cL_law 1925 = .ok (.aload_n 0, 1) := dqo_42 (kb_30 5 rfl)
theorem dL_law_1926 : decode cL_law 1926 = .ok (.iload 4, 2) := dqo_21 4 (kb_30 6 rfl) (kb_30 7 rfl)
theorem dL_law_1928 : decode cL_law 1928 = .ok (.iconst 1, 1) := dqo_4 (kb_30 8 rfl)
theorem dL_law_1929 : decode cL_law 1929 = .ok (.iadd, 1) := dqo_96 (kb_30 9 rfl)
theorem dL_law_1930 : decode cL_law 1930 = .ok (.iaload, 1) := dqo_46 (kb_30 10 rfl)
theorem dL_law_1931 : decode cL_law 1931 = .ok (.aload_n 3, 1) := dqo_45 (kb_30 11 rfl)
theorem dL_law_1932 : decode cL_law 1932 = .ok (.invokestatic 308, 3) := dqo_184 1 52 (kb_30 12 rfl) (kb_30 13 rfl) (kb_30 14 rfl)
theorem dL_law_1935 : decode cL_law 1935 = .ok (.istore 5, 2) := dqo_54 5 (kb_30 15 rfl) (kb_30 16 rfl)
theorem dL_law_1937 : decode cL_law 1937 = .ok (.aload_n 2, 1) := dqo_44 (kb_30 17 rfl)
theorem dL_law_1938 : decode cL_law 1938 = .ok (.aload_n 0, 1) := dqo_42 (kb_30 18 rfl)
theorem dL_law_1939 : decode cL_law 1939 = .ok (.iload 4, 2) := dqo_21 4 (kb_30 19 rfl) (kb_30 20 rfl)
theorem dL_law_1941 : decode cL_law 1941 = .ok (.iconst 1, 1) := dqo_4 (kb_30 21 rfl)
theorem dL_law_1942 : decode cL_law 1942 = .ok (.iadd, 1) := dqo_96 (kb_30 22 rfl)
theorem dL_law_1943 : decode cL_law 1943 = .ok (.iaload, 1) := dqo_46 (kb_30 23 rfl)
theorem dL_law_1944 : decode cL_law 1944 = .ok (.invokevirtual 310, 3) := dqo_182 1 54 (kb_30 24 rfl) (kb_30 25 rfl) (kb_30 26 rfl)
theorem dL_law_1947 : decode cL_law 1947 = .ok (.istore 6, 2) := dqo_54 6 (kb_30 27 rfl) (kb_30 28 rfl)
theorem dL_law_1949 : decode cL_law 1949 = .ok (.goto 179, 3) := dqo_167 0 179 (by decide) (kb_30 29 rfl) (kb_30 30 rfl) (kb_30 31 rfl)
theorem dL_law_1952 : decode cL_law 1952 = .ok (.aload_n 1, 1) := dqo_43 (kb_30 32 rfl)
theorem dL_law_1953 : decode cL_law 1953 = .ok (.aload_n 0, 1) := dqo_42 (kb_30 33 rfl)
theorem dL_law_1954 : decode cL_law 1954 = .ok (.iload 4, 2) := dqo_21 4 (kb_30 34 rfl) (kb_30 35 rfl)
theorem dL_law_1956 : decode cL_law 1956 = .ok (.iconst 1, 1) := dqo_4 (kb_30 36 rfl)
theorem dL_law_1957 : decode cL_law 1957 = .ok (.iadd, 1) := dqo_96 (kb_30 37 rfl)
theorem dL_law_1958 : decode cL_law 1958 = .ok (.iaload, 1) := dqo_46 (kb_30 38 rfl)
theorem dL_law_1959 : decode cL_law 1959 = .ok (.aload_n 0, 1) := dqo_42 (kb_30 39 rfl)
theorem dL_law_1960 : decode cL_law 1960 = .ok (.iload 4, 2) := dqo_21 4 (kb_30 40 rfl) (kb_30 41 rfl)
theorem dL_law_1962 : decode cL_law 1962 = .ok (.iconst 2, 1) := dqo_5 (kb_30 42 rfl)
theorem dL_law_1963 : decode cL_law 1963 = .ok (.iadd, 1) := dqo_96 (kb_30 43 rfl)
theorem dL_law_1964 : decode cL_law 1964 = .ok (.iaload, 1) := dqo_46 (kb_30 44 rfl)
theorem dL_law_1965 : decode cL_law 1965 = .ok (.aload_n 3, 1) := dqo_45 (kb_30 45 rfl)
theorem dL_law_1966 : decode cL_law 1966 = .ok (.invokestatic 311, 3) := dqo_184 1 55 (kb_30 46 rfl) (kb_30 47 rfl) (kb_30 48 rfl)
theorem dL_law_1969 : decode cL_law 1969 = .ok (.istore 5, 2) := dqo_54 5 (kb_30 49 rfl) (kb_30 50 rfl)
theorem dL_law_1971 : decode cL_law 1971 = .ok (.aload_n 2, 1) := dqo_44 (kb_30 51 rfl)
theorem dL_law_1972 : decode cL_law 1972 = .ok (.aload_n 0, 1) := dqo_42 (kb_30 52 rfl)
theorem dL_law_1973 : decode cL_law 1973 = .ok (.iload 4, 2) := dqo_21 4 (kb_30 53 rfl) (kb_30 54 rfl)
theorem dL_law_1975 : decode cL_law 1975 = .ok (.iconst 1, 1) := dqo_4 (kb_30 55 rfl)
theorem dL_law_1976 : decode cL_law 1976 = .ok (.iadd, 1) := dqo_96 (kb_30 56 rfl)
theorem dL_law_1977 : decode cL_law 1977 = .ok (.iaload, 1) := dqo_46 (kb_30 57 rfl)
theorem dL_law_1978 : decode cL_law 1978 = .ok (.aload_n 0, 1) := dqo_42 (kb_30 58 rfl)
theorem dL_law_1979 : decode cL_law 1979 = .ok (.iload 4, 2) := dqo_21 4 (kb_30 59 rfl) (kb_30 60 rfl)
theorem dL_law_1981 : decode cL_law 1981 = .ok (.iconst 2, 1) := dqo_5 (kb_30 61 rfl)
theorem dL_law_1982 : decode cL_law 1982 = .ok (.iadd, 1) := dqo_96 (kb_30 62 rfl)
theorem dL_law_1983 : decode cL_law 1983 = .ok (.iaload, 1) := dqo_46 (kb_30 63 rfl)
theorem dL_law_1984 : decode cL_law 1984 = .ok (.invokevirtual 313, 3) := dqo_182 1 57 (kb_31 0 rfl) (kb_31 1 rfl) (kb_31 2 rfl)
theorem dL_law_1987 : decode cL_law 1987 = .ok (.istore 6, 2) := dqo_54 6 (kb_31 3 rfl) (kb_31 4 rfl)
theorem dL_law_1989 : decode cL_law 1989 = .ok (.goto 139, 3) := dqo_167 0 139 (by decide) (kb_31 5 rfl) (kb_31 6 rfl) (kb_31 7 rfl)
theorem dL_law_1992 : decode cL_law 1992 = .ok (.aload_n 1, 1) := dqo_43 (kb_31 8 rfl)
theorem dL_law_1993 : decode cL_law 1993 = .ok (.aload_n 0, 1) := dqo_42 (kb_31 9 rfl)
theorem dL_law_1994 : decode cL_law 1994 = .ok (.iload 4, 2) := dqo_21 4 (kb_31 10 rfl) (kb_31 11 rfl)
theorem dL_law_1996 : decode cL_law 1996 = .ok (.iconst 1, 1) := dqo_4 (kb_31 12 rfl)
theorem dL_law_1997 : decode cL_law 1997 = .ok (.iadd, 1) := dqo_96 (kb_31 13 rfl)
theorem dL_law_1998 : decode cL_law 1998 = .ok (.iaload, 1) := dqo_46 (kb_31 14 rfl)
theorem dL_law_1999 : decode cL_law 1999 = .ok (.aload_n 0, 1) := dqo_42 (kb_31 15 rfl)
theorem dL_law_2000 : decode cL_law 2000 = .ok (.iload 4, 2) := dqo_21 4 (kb_31 16 rfl) (kb_31 17 rfl)
theorem dL_law_2002 : decode cL_law 2002 = .ok (.iconst 2, 1) := dqo_5 (kb_31 18 rfl)
theorem dL_law_2003 : decode cL_law 2003 = .ok (.iadd, 1) := dqo_96 (kb_31 19 rfl)
theorem dL_law_2004 : decode cL_law 2004 = .ok (.iaload, 1) := dqo_46 (kb_31 20 rfl)
theorem dL_law_2005 : decode cL_law 2005 = .ok (.aload_n 3, 1) := dqo_45 (kb_31 21 rfl)
theorem dL_law_2006 : decode cL_law 2006 = .ok (.invokestatic 314, 3) := dqo_184 1 58 (kb_31 22 rfl) (kb_31 23 rfl) (kb_31 24 rfl)
theorem dL_law_2009 : decode cL_law 2009 = .ok (.istore 5, 2) := dqo_54 5 (kb_31 25 rfl) (kb_31 26 rfl)
theorem dL_law_2011 : decode cL_law 2011 = .ok (.aload_n 2, 1) := dqo_44 (kb_31 27 rfl)
theorem dL_law_2012 : decode cL_law 2012 = .ok (.aload_n 0, 1) := dqo_42 (kb_31 28 rfl)
theorem dL_law_2013 : decode cL_law 2013 = .ok (.iload 4, 2) := dqo_21 4 (kb_31 29 rfl) (kb_31 30 rfl)
theorem dL_law_2015 : decode cL_law 2015 = .ok (.iconst 1, 1) := dqo_4 (kb_31 31 rfl)
theorem dL_law_2016 : decode cL_law 2016 = .ok (.iadd, 1) := dqo_96 (kb_31 32 rfl)
theorem dL_law_2017 : decode cL_law 2017 = .ok (.iaload, 1) := dqo_46 (kb_31 33 rfl)
theorem dL_law_2018 : decode cL_law 2018 = .ok (.aload_n 0, 1) := dqo_42 (kb_31 34 rfl)
theorem dL_law_2019 : decode cL_law 2019 = .ok (.iload 4, 2) := dqo_21 4 (kb_31 35 rfl) (kb_31 36 rfl)
theorem dL_law_2021 : decode cL_law 2021 = .ok (.iconst 2, 1) := dqo_5 (kb_31 37 rfl)
theorem dL_law_2022 : decode cL_law 2022 = .ok (.iadd, 1) := dqo_96 (kb_31 38 rfl)
theorem dL_law_2023 : decode cL_law 2023 = .ok (.iaload, 1) := dqo_46 (kb_31 39 rfl)
theorem dL_law_2024 : decode cL_law 2024 = .ok (.invokevirtual 316, 3) := dqo_182 1 60 (kb_31 40 rfl) (kb_31 41 rfl) (kb_31 42 rfl)
theorem dL_law_2027 : decode cL_law 2027 = .ok (.istore 6, 2) := dqo_54 6 (kb_31 43 rfl) (kb_31 44 rfl)
theorem dL_law_2029 : decode cL_law 2029 = .ok (.goto 99, 3) := dqo_167 0 99 (by decide) (kb_31 45 rfl) (kb_31 46 rfl) (kb_31 47 rfl)
theorem dL_law_2032 : decode cL_law 2032 = .ok (.aload_n 1, 1) := dqo_43 (kb_31 48 rfl)
theorem dL_law_2033 : decode cL_law 2033 = .ok (.aload_n 0, 1) := dqo_42 (kb_31 49 rfl)
theorem dL_law_2034 : decode cL_law 2034 = .ok (.iload 4, 2) := dqo_21 4 (kb_31 50 rfl) (kb_31 51 rfl)
theorem dL_law_2036 : decode cL_law 2036 = .ok (.iconst 1, 1) := dqo_4 (kb_31 52 rfl)
theorem dL_law_2037 : decode cL_law 2037 = .ok (.iadd, 1) := dqo_96 (kb_31 53 rfl)
theorem dL_law_2038 : decode cL_law 2038 = .ok (.iaload, 1) := dqo_46 (kb_31 54 rfl)
theorem dL_law_2039 : decode cL_law 2039 = .ok (.aload_n 3, 1) := dqo_45 (kb_31 55 rfl)
theorem dL_law_2040 : decode cL_law 2040 = .ok (.invokestatic 317, 3) := dqo_184 1 61 (kb_31 56 rfl) (kb_31 57 rfl) (kb_31 58 rfl)
theorem dL_law_2043 : decode cL_law 2043 = .ok (.istore 5, 2) := dqo_54 5 (kb_31 59 rfl) (kb_31 60 rfl)
theorem dL_law_2045 : decode cL_law 2045 = .ok (.aload_n 2, 1) := dqo_44 (kb_31 61 rfl)
theorem dL_law_2046 : decode cL_law 2046 = .ok (.aload_n 0, 1) := dqo_42 (kb_31 62 rfl)
theorem dL_law_2047 : decode cL_law 2047 = .ok (.iload 4, 2) := dqo_21 4 (kb_31 63 rfl) (kb_32 0 rfl)
theorem dL_law_2049 : decode cL_law 2049 = .ok (.iconst 1, 1) := dqo_4 (kb_32 1 rfl)
theorem dL_law_2050 : decode cL_law 2050 = .ok (.iadd, 1) := dqo_96 (kb_32 2 rfl)
theorem dL_law_2051 : decode cL_law 2051 = .ok (.iaload, 1) := dqo_46 (kb_32 3 rfl)
theorem dL_law_2052 : decode cL_law 2052 = .ok (.invokevirtual 319, 3) := dqo_182 1 63 (kb_32 4 rfl) (kb_32 5 rfl) (kb_32 6 rfl)
theorem dL_law_2055 : decode cL_law 2055 = .ok (.istore 6, 2) := dqo_54 6 (kb_32 7 rfl) (kb_32 8 rfl)
theorem dL_law_2057 : decode cL_law 2057 = .ok (.aload_n 2, 1) := dqo_44 (kb_32 9 rfl)
theorem dL_law_2058 : decode cL_law 2058 = .ok (.invokevirtual 320, 3) := dqo_182 1 64 (kb_32 10 rfl) (kb_32 11 rfl) (kb_32 12 rfl)
theorem dL_law_2061 : decode cL_law 2061 = .ok (.iload 5, 2) := dqo_21 5 (kb_32 13 rfl) (kb_32 14 rfl)
theorem dL_law_2063 : decode cL_law 2063 = .ok (.if_icmp .eq 5, 3) := dqo_159 0 5 (by decide) (kb_32 15 rfl) (kb_32 16 rfl) (kb_32 17 rfl)
theorem dL_law_2068 : decode cL_law 2068 = .ok (.iload 5, 2) := dqo_21 5 (kb_32 20 rfl) (kb_32 21 rfl)
theorem dL_law_2070 : decode cL_law 2070 = .ok (.ifCond .ne 16, 3) := dqo_154 0 16 (by decide) (kb_32 22 rfl) (kb_32 23 rfl) (kb_32 24 rfl)
theorem dL_law_2073 : decode cL_law 2073 = .ok (.aload_n 3, 1) := dqo_45 (kb_32 25 rfl)
theorem dL_law_2074 : decode cL_law 2074 = .ok (.getfield 13, 3) := dqo_180 0 13 (kb_32 26 rfl) (kb_32 27 rfl) (kb_32 28 rfl)
theorem dL_law_2077 : decode cL_law 2077 = .ok (.iload 6, 2) := dqo_21 6 (kb_32 29 rfl) (kb_32 30 rfl)
theorem dL_law_2079 : decode cL_law 2079 = .ok (.i2l, 1) := dqo_133 (kb_32 31 rfl)
theorem dL_law_2080 : decode cL_law 2080 = .ok (.lcmp, 1) := dqo_148 (kb_32 32 rfl)
theorem dL_law_2081 : decode cL_law 2081 = .ok (.ifCond .eq 5, 3) := dqo_153 0 5 (by decide) (kb_32 33 rfl) (kb_32 34 rfl) (kb_32 35 rfl)
theorem dL_law_2086 : decode cL_law 2086 = .ok (.goto 42, 3) := dqo_167 0 42 (by decide) (kb_32 38 rfl) (kb_32 39 rfl) (kb_32 40 rfl)
theorem dL_law_2089 : decode cL_law 2089 = .ok (.aload_n 1, 1) := dqo_43 (kb_32 41 rfl)
theorem dL_law_2090 : decode cL_law 2090 = .ok (.invokevirtual 324, 3) := dqo_182 1 68 (kb_32 42 rfl) (kb_32 43 rfl) (kb_32 44 rfl)
theorem dL_law_2093 : decode cL_law 2093 = .ok (.pop, 1) := dqo_87 (kb_32 45 rfl)
theorem dL_law_2094 : decode cL_law 2094 = .ok (.aload_n 2, 1) := dqo_44 (kb_32 46 rfl)
theorem dL_law_2095 : decode cL_law 2095 = .ok (.invokevirtual 327, 3) := dqo_182 1 71 (kb_32 47 rfl) (kb_32 48 rfl) (kb_32 49 rfl)
theorem dL_law_2098 : decode cL_law 2098 = .ok (.pop, 1) := dqo_87 (kb_32 50 rfl)
theorem dL_law_2099 : decode cL_law 2099 = .ok (.goto 29, 3) := dqo_167 0 29 (by decide) (kb_32 51 rfl) (kb_32 52 rfl) (kb_32 53 rfl)
theorem dL_law_2102 : decode cL_law 2102 = .ok (.aload_n 1, 1) := dqo_43 (kb_32 54 rfl)
theorem dL_law_2103 : decode cL_law 2103 = .ok (.invokevirtual 328, 3) := dqo_182 1 72 (kb_32 55 rfl) (kb_32 56 rfl) (kb_32 57 rfl)
theorem dL_law_2106 : decode cL_law 2106 = .ok (.pop, 1) := dqo_87 (kb_32 58 rfl)
theorem dL_law_2107 : decode cL_law 2107 = .ok (.aload_n 2, 1) := dqo_44 (kb_32 59 rfl)
theorem dL_law_2108 : decode cL_law 2108 = .ok (.invokevirtual 332, 3) := dqo_182 1 76 (kb_32 60 rfl) (kb_32 61 rfl) (kb_32 62 rfl)
theorem dL_law_2111 : decode cL_law 2111 = .ok (.pop, 1) := dqo_87 (kb_32 63 rfl)
theorem dL_law_2112 : decode cL_law 2112 = .ok (.goto 16, 3) := by decide +kernel
theorem dL_law_2115 : decode cL_law 2115 = .ok (.aload_n 1, 1) := by decide +kernel
theorem dL_law_2116 : decode cL_law 2116 = .ok (.invokevirtual 333, 3) := by decide +kernel
theorem dL_law_2119 : decode cL_law 2119 = .ok (.pop2, 1) := by decide +kernel
theorem dL_law_2120 : decode cL_law 2120 = .ok (.aload_n 2, 1) := by decide +kernel
theorem dL_law_2121 : decode cL_law 2121 = .ok (.invokevirtual 337, 3) := by decide +kernel
theorem dL_law_2124 : decode cL_law 2124 = .ok (.pop2, 1) := by decide +kernel
theorem dL_law_2125 : decode cL_law 2125 = .ok (.goto 3, 3) := by decide +kernel
theorem S_ofWindow {p : Program} {l : Launch} {e : Env} {s : State} {m : MethodId} {args : Array Value} {below : List Frame} {meth : Method} {c : Code} {D : va_G} {cy : Nat → ClassId} {A : Nat → Prop} {Q : State → Prop} {X : (Nat → Prop) → State → Heap → Prop} {aK aV : Nat → Nat} {tO tT : Nat} {gO gT : Nat → Int32} {a : Nat → Nat → Nat} {ba : Nat → Nat} {o b L i cells slots : Nat} {xs : Nat → Int32} {w : va_W} (C : Fg p s m args meth c cL_law 7 RL D cy A) (hE : X A s s.heap) (hT : EnvT X cy aK aV tO tT gO gT) (hN : EnvN X) (hl : l.stackTraces = false) (hx : va_X b L xs s s.heap) (hbl : b < s.heap.size) (hbA : ¬ A b) (hi : i + 5 ≤ L) (hL : L ≤ 2560) (hc : cells + 500 ≤ room_1.cells) (hs : slots + 10000 ≤ room_1.slots) (hJ : JW cy a ba o w) (kk : ∀ w' : va_W, JW cy a ba o w' → vW p l e room_1 s m args below meth c D vwCl A Q 7 (cells + 500) (slots + 10000) w' [some (.ref b), some (.ref (a 0 0)), some (.ref (ba 9)), some (.ref o), some (.int (nI i)), none, none] 2128 []) : vW p l e room_1 s m args below meth c D vwCl A Q 7 cells slots w [some (.ref b), some (.ref (a 0 0)), some (.ref (ba 9)), some (.ref o), some (.int (nI i)), none, none] 1708 [] := by
  have hX := hT.1.1
  obtain ⟨f, r, hf, hq, kn, ra, th, sm, n, v, hC, hB, hM, rfl⟩ := hJ
  refine r_aload_n C dL_law_1708 rfl ?_
  refine r_aload_n C dL_law_1709 rfl ?_
  refine r_iload C dL_law_1710 rfl ?_
  refine r_iconst (v := nI 1) C dL_law_1712 (by decide) ?_
  refine r_iaddN C dL_law_1713 ?_
  refine r_sld C hx hbl hbA (show i + 1 < L by omega) (by omega) dL_law_1714 ?_
  refine r_aload_n C dL_law_1715 rfl ?_
  refine r_iload C dL_law_1716 rfl ?_
  refine r_iconst (v := nI 2) C dL_law_1718 (by decide) ?_
  refine r_iaddN C dL_law_1719 ?_
  refine r_sld C hx hbl hbA (show i + 2 < L by omega) (by omega) dL_law_1720 ?_
  refine r_aload_n C dL_law_1721 rfl ?_
  refine c_SH (st := []) hX.1.stb C hE (W_ofWindow hX.1 hN hC hB hM (P_ofWindow hX hl hC hB hM (xs (i + 1)) (xs (i + 2)))) pk_L_ofWindow qm_L_290 rfl rfl (Nat.le_of_ble_eq_true rfl) dL_law_1722 ⟨(Nat.le_of_ble_eq_true rfl), (Nat.le_of_ble_eq_true rfl)⟩ ⟨show cells + 1 ≤ room_1.cells by omega, show slots + 6 ≤ room_1.slots by omega⟩ (fun v9 w9 h9 => ?_) (fun _ h9 => h9.elim)
  obtain ⟨f', r', k, n1, rfl, rfl, hf', hq', n2, hC', hB', hM', hk0, hk4, h2⟩ := h9
  refine r_istore C dL_law_1725 (by decide) rfl ?_
  refine r_aload_n C dL_law_1727 rfl ?_
  refine r_aload_n C dL_law_1728 rfl ?_
  refine r_iload C dL_law_1729 rfl ?_
  refine r_iconst (v := nI 1) C dL_law_1731 (by decide) ?_
  refine r_iaddN C dL_law_1732 ?_
  refine r_sld C hx hbl hbA (show i + 1 < L by omega) (by omega) dL_law_1733 ?_
  refine r_aload_n C dL_law_1734 rfl ?_
  refine r_iload C dL_law_1735 rfl ?_
  refine r_iconst (v := nI 2) C dL_law_1737 (by decide) ?_
  refine r_iaddN C dL_law_1738 ?_
  refine r_sld C hx hbl hbA (show i + 2 < L by omega) (by omega) dL_law_1739 ?_
  refine t_swap3 ?_
  refine c_V (st := []) hX.1.stb C hE (h2 _) pk_X4_ofWindow qm_L_292 0 8 rfl rfl wm_0 rfl rfl (Nat.le_of_ble_eq_true rfl) dL_law_1740 ⟨(Nat.le_of_ble_eq_true rfl), (Nat.le_of_ble_eq_true rfl)⟩ ⟨show cells + 1 + 4 ≤ room_1.cells by omega, show slots + 6 + 48 ≤ room_1.slots by omega⟩ (fun v9 w9 h9 => ?_) (fun _ h9 => h9.elim)
  obtain ⟨ra9, rfl, rfl⟩ := h9
  refine r_istore C dL_law_1743 (by decide) rfl ?_
  refine t_swap3 ?_
  refine r_goto (tgt := 2128) C dL_law_1745 (by decide) ?_
  refine r_widen (k := cells + 500) (n := slots + 10000) (show cells + 1 + 4 ≤ cells + 500 by omega) (show slots + 6 + 48 ≤ slots + 10000 by omega) ?_
  refine r_drop 5 ?_
  refine r_drop 6 ?_
  exact kk _ ⟨f', r', hf', hq', kn, ra9, _, sm, _, _, hC', hB', hM', rfl⟩
theorem S_open {p : Program} {l : Launch} {e : Env} {s : State} {m : MethodId} {args : Array Value} {below : List Frame} {meth : Method} {c : Code} {D : va_G} {cy : Nat → ClassId} {A : Nat → Prop} {Q : State → Prop} {X : (Nat → Prop) → State → Heap → Prop} {aK aV : Nat → Nat} {tO tT : Nat} {gO gT : Nat → Int32} {a : Nat → Nat → Nat} {ba : Nat → Nat} {o b L i cells slots : Nat} {xs : Nat → Int32} {w : va_W} (C : Fg p s m args meth c cL_law 7 RL D cy A) (hE : X A s s.heap) (hT : EnvT X cy aK aV tO tT gO gT) (hN : EnvN X) (hl : l.stackTraces = false) (hx : va_X b L xs s s.heap) (hbl : b < s.heap.size) (hbA : ¬ A b) (hi : i + 5 ≤ L) (hL : L ≤ 2560) (hc : cells + 500 ≤ room_1.cells) (hs : slots + 10000 ≤ room_1.slots) (hJ : JW cy a ba o w) (kk : ∀ w' : va_W, JW cy a ba o w' → vW p l e room_1 s m args below meth c D vwCl A Q 7 (cells + 500) (slots + 10000) w' [some (.ref b), some (.ref (a 0 0)), some (.ref (ba 9)), some (.ref o), some (.int (nI i)), none, none] 2128 []) : vW p l e room_1 s m args below meth c D vwCl A Q 7 cells slots w [some (.ref b), some (.ref (a 0 0)), some (.ref (ba 9)), some (.ref o), some (.int (nI i)), none, none] 1748 [] := by
  have hX := hT.1.1
  obtain ⟨f, r, hf, hq, kn, ra, th, sm, n, v, hC, hB, hM, rfl⟩ := hJ
  refine r_aload_n C dL_law_1748 rfl ?_
  refine r_aload_n C dL_law_1749 rfl ?_
  refine r_iload C dL_law_1750 rfl ?_
  refine r_iconst (v := nI 1) C dL_law_1752 (by decide) ?_
  refine r_iaddN C dL_law_1753 ?_
  refine r_sld C hx hbl hbA (show i + 1 < L by omega) (by omega) dL_law_1754 ?_
  refine r_aload_n C dL_law_1755 rfl ?_
  refine r_iload C dL_law_1756 rfl ?_
  refine r_iconst (v := nI 2) C dL_law_1758 (by decide) ?_
  refine r_iaddN C dL_law_1759 ?_
  refine r_sld C hx hbl hbA (show i + 2 < L by omega) (by omega) dL_law_1760 ?_
  refine r_aload_n C dL_law_1761 rfl ?_
  refine r_iload C dL_law_1762 rfl ?_
  refine r_iconst (v := nI 3) C dL_law_1764 (by decide) ?_
  refine r_iaddN C dL_law_1765 ?_
  refine r_sld C hx hbl hbA (show i + 3 < L by omega) (by omega) dL_law_1766 ?_
  refine r_aload_n C dL_law_1767 rfl ?_
  refine c_SH (st := []) hX.1.stb C hE (W_open hX.1 hN hC hB hM (P_open hX hl hC hB hM (xs (i + 1)) (xs (i + 2)) (xs (i + 3)))) pk_L_open qm_L_293 rfl rfl (Nat.le_of_ble_eq_true rfl) dL_law_1768 ⟨(Nat.le_of_ble_eq_true rfl), (Nat.le_of_ble_eq_true rfl)⟩ ⟨show cells + 1 ≤ room_1.cells by omega, show slots + 6 ≤ room_1.slots by omega⟩ (fun v9 w9 h9 => ?_) (fun _ h9 => h9.elim)
  obtain ⟨f', r', k, n1, rfl, rfl, hf', hq', n2, hC', hB', hM', hk0, hk4, h2⟩ := h9
  refine r_istore C dL_law_1771 (by decide) rfl ?_
  refine r_aload_n C dL_law_1773 rfl ?_
  refine r_aload_n C dL_law_1774 rfl ?_
  refine r_iload C dL_law_1775 rfl ?_
  refine r_iconst (v := nI 1) C dL_law_1777 (by decide) ?_
  refine r_iaddN C dL_law_1778 ?_
  refine r_sld C hx hbl hbA (show i + 1 < L by omega) (by omega) dL_law_1779 ?_
  refine r_aload_n C dL_law_1780 rfl ?_
  refine r_iload C dL_law_1781 rfl ?_
  refine r_iconst (v := nI 2) C dL_law_1783 (by decide) ?_
  refine r_iaddN C dL_law_1784 ?_
  refine r_sld C hx hbl hbA (show i + 2 < L by omega) (by omega) dL_law_1785 ?_
  refine r_aload_n C dL_law_1786 rfl ?_
  refine r_iload C dL_law_1787 rfl ?_
  refine r_iconst (v := nI 3) C dL_law_1789 (by decide) ?_
  refine r_iaddN C dL_law_1790 ?_
  refine r_sld C hx hbl hbA (show i + 3 < L by omega) (by omega) dL_law_1791 ?_
  refine t_swap3 ?_
  refine c_V (st := []) hX.1.stb C hE (h2 _) pk_X4_open qm_L_295 0 8 rfl rfl wm_0 rfl rfl (Nat.le_of_ble_eq_true rfl) dL_law_1792 ⟨(Nat.le_of_ble_eq_true rfl), (Nat.le_of_ble_eq_true rfl)⟩ ⟨show cells + 1 + 4 ≤ room_1.cells by omega, show slots + 6 + 48 ≤ room_1.slots by omega⟩ (fun v9 w9 h9 => ?_) (fun _ h9 => h9.elim)
  obtain ⟨ra9, rfl, rfl⟩ := h9
  refine r_istore C dL_law_1795 (by decide) rfl ?_
  refine t_swap3 ?_
  refine r_goto (tgt := 2128) C dL_law_1797 (by decide) ?_
  refine r_widen (k := cells + 500) (n := slots + 10000) (show cells + 1 + 4 ≤ cells + 500 by omega) (show slots + 6 + 48 ≤ slots + 10000 by omega) ?_
  refine r_drop 5 ?_
  refine r_drop 6 ?_
  exact kk _ ⟨f', r', hf', hq', kn, ra9, _, sm, _, _, hC', hB', hM', rfl⟩
theorem S_shut {p : Program} {l : Launch} {e : Env} {s : State} {m : MethodId} {args : Array Value} {below : List Frame} {meth : Method} {c : Code} {D : va_G} {cy : Nat → ClassId} {A : Nat → Prop} {Q : State → Prop} {X : (Nat → Prop) → State → Heap → Prop} {aK aV : Nat → Nat} {tO tT : Nat} {gO gT : Nat → Int32} {a : Nat → Nat → Nat} {ba : Nat → Nat} {o b L i cells slots : Nat} {xs : Nat → Int32} {w : va_W} (C : Fg p s m args meth c cL_law 7 RL D cy A) (hE : X A s s.heap) (hT : EnvT X cy aK aV tO tT gO gT) (hN : EnvN X) (hl : l.stackTraces = false) (hx : va_X b L xs s s.heap) (hbl : b < s.heap.size) (hbA : ¬ A b) (hi : i + 5 ≤ L) (hL : L ≤ 2560) (hc : cells + 500 ≤ room_1.cells) (hs : slots + 10000 ≤ room_1.slots) (hJ : JW cy a ba o w) (kk : ∀ w' : va_W, JW cy a ba o w' → vW p l e room_1 s m args below meth c D vwCl A Q 7 (cells + 500) (slots + 10000) w' [some (.ref b), some (.ref (a 0 0)), some (.ref (ba 9)), some (.ref o), some (.int (nI i)), none, none] 2128 []) : vW p l e room_1 s m args below meth c D vwCl A Q 7 cells slots w [some (.ref b), some (.ref (a 0 0)), some (.ref (ba 9)), some (.ref o), some (.int (nI i)), none, none] 1800 [] := by
  have hX := hT.1.1
  obtain ⟨f, r, hf, hq, kn, ra, th, sm, n, v, hC, hB, hM, rfl⟩ := hJ
  refine r_aload_n C dL_law_1800 rfl ?_
  refine r_aload_n C dL_law_1801 rfl ?_
  refine r_iload C dL_law_1802 rfl ?_
  refine r_iconst (v := nI 1) C dL_law_1804 (by decide) ?_
  refine r_iaddN C dL_law_1805 ?_
  refine r_sld C hx hbl hbA (show i + 1 < L by omega) (by omega) dL_law_1806 ?_
  refine r_aload_n C dL_law_1807 rfl ?_
  refine c_SH (st := []) hX.1.stb C hE (W_shut hX.1 hN hC hB hM (P_shut hX hl hC hB hM (xs (i + 1)))) pk_L_shut qm_L_296 rfl rfl (Nat.le_of_ble_eq_true rfl) dL_law_1808 ⟨(Nat.le_of_ble_eq_true rfl), (Nat.le_of_ble_eq_true rfl)⟩ ⟨show cells + 1 ≤ room_1.cells by omega, show slots + 6 ≤ room_1.slots by omega⟩ (fun v9 w9 h9 => ?_) (fun _ h9 => h9.elim)
  obtain ⟨f', r', k, n1, rfl, rfl, hf', hq', n2, hC', hB', hM', hk0, hk4, h2⟩ := h9
  refine r_istore C dL_law_1811 (by decide) rfl ?_
  refine r_aload_n C dL_law_1813 rfl ?_
  refine r_aload_n C dL_law_1814 rfl ?_
  refine r_iload C dL_law_1815 rfl ?_
  refine r_iconst (v := nI 1) C dL_law_1817 (by decide) ?_
  refine r_iaddN C dL_law_1818 ?_
  refine r_sld C hx hbl hbA (show i + 1 < L by omega) (by omega) dL_law_1819 ?_
  refine t_swap3 ?_
  refine c_V (st := []) hX.1.stb C hE (h2 _) pk_X4_shut qm_L_298 0 8 rfl rfl wm_0 rfl rfl (Nat.le_of_ble_eq_true rfl) dL_law_1820 ⟨(Nat.le_of_ble_eq_true rfl), (Nat.le_of_ble_eq_true rfl)⟩ ⟨show cells + 1 + 4 ≤ room_1.cells by omega, show slots + 6 + 48 ≤ room_1.slots by omega⟩ (fun v9 w9 h9 => ?_) (fun _ h9 => h9.elim)
  obtain ⟨ra9, rfl, rfl⟩ := h9
  refine r_istore C dL_law_1823 (by decide) rfl ?_
  refine t_swap3 ?_
  refine r_goto (tgt := 2128) C dL_law_1825 (by decide) ?_
  refine r_widen (k := cells + 500) (n := slots + 10000) (show cells + 1 + 4 ≤ cells + 500 by omega) (show slots + 6 + 48 ≤ slots + 10000 by omega) ?_
  refine r_drop 5 ?_
  refine r_drop 6 ?_
  exact kk _ ⟨f', r', hf', hq', kn, ra9, _, sm, _, _, hC', hB', hM', rfl⟩
theorem S_next {p : Program} {l : Launch} {e : Env} {s : State} {m : MethodId} {args : Array Value} {below : List Frame} {meth : Method} {c : Code} {D : va_G} {cy : Nat → ClassId} {A : Nat → Prop} {Q : State → Prop} {X : (Nat → Prop) → State → Heap → Prop} {aK aV : Nat → Nat} {tO tT : Nat} {gO gT : Nat → Int32} {a : Nat → Nat → Nat} {ba : Nat → Nat} {o b L i cells slots : Nat} {xs : Nat → Int32} {w : va_W} (C : Fg p s m args meth c cL_law 7 RL D cy A) (hE : X A s s.heap) (hT : EnvT X cy aK aV tO tT gO gT) (hN : EnvN X) (hl : l.stackTraces = false) (hx : va_X b L xs s s.heap) (hbl : b < s.heap.size) (hbA : ¬ A b) (hi : i + 5 ≤ L) (hL : L ≤ 2560) (hc : cells + 500 ≤ room_1.cells) (hs : slots + 10000 ≤ room_1.slots) (hJ : JW cy a ba o w) (kk : ∀ w' : va_W, JW cy a ba o w' → vW p l e room_1 s m args below meth c D vwCl A Q 7 (cells + 500) (slots + 10000) w' [some (.ref b), some (.ref (a 0 0)), some (.ref (ba 9)), some (.ref o), some (.int (nI i)), none, none] 2128 []) : vW p l e room_1 s m args below meth c D vwCl A Q 7 cells slots w [some (.ref b), some (.ref (a 0 0)), some (.ref (ba 9)), some (.ref o), some (.int (nI i)), none, none] 1828 [] := by
  have hX := hT.1.1
  obtain ⟨f, r, hf, hq, kn, ra, th, sm, n, v, hC, hB, hM, rfl⟩ := hJ
  refine r_aload_n C dL_law_1828 rfl ?_
  refine r_aload_n C dL_law_1829 rfl ?_
  refine r_iload C dL_law_1830 rfl ?_
  refine r_iconst (v := nI 1) C dL_law_1832 (by decide) ?_
  refine r_iaddN C dL_law_1833 ?_
  refine r_sld C hx hbl hbA (show i + 1 < L by omega) (by omega) dL_law_1834 ?_
  refine r_aload_n C dL_law_1835 rfl ?_
  refine c_SH (st := []) hX.1.stb C hE (W_next hX.1 hN hC hB hM (P_next hX hl hC hB hM (xs (i + 1)))) pk_L_next qm_L_299 rfl rfl (Nat.le_of_ble_eq_true rfl) dL_law_1836 ⟨(Nat.le_of_ble_eq_true rfl), (Nat.le_of_ble_eq_true rfl)⟩ ⟨show cells + 1 ≤ room_1.cells by omega, show slots + 6 ≤ room_1.slots by omega⟩ (fun v9 w9 h9 => ?_) (fun _ h9 => h9.elim)
  obtain ⟨f', r', k, n1, rfl, rfl, hf', hq', n2, hC', hB', hM', hk0, hk4, h2⟩ := h9
  refine r_istore C dL_law_1839 (by decide) rfl ?_
  refine r_aload_n C dL_law_1841 rfl ?_
  refine r_aload_n C dL_law_1842 rfl ?_
  refine r_iload C dL_law_1843 rfl ?_
  refine r_iconst (v := nI 1) C dL_law_1845 (by decide) ?_
  refine r_iaddN C dL_law_1846 ?_
  refine r_sld C hx hbl hbA (show i + 1 < L by omega) (by omega) dL_law_1847 ?_
  refine t_swap3 ?_
  refine c_V (st := []) hX.1.stb C hE (h2 _) pk_X4_next qm_L_301 0 8 rfl rfl wm_0 rfl rfl (Nat.le_of_ble_eq_true rfl) dL_law_1848 ⟨(Nat.le_of_ble_eq_true rfl), (Nat.le_of_ble_eq_true rfl)⟩ ⟨show cells + 1 + 4 ≤ room_1.cells by omega, show slots + 6 + 48 ≤ room_1.slots by omega⟩ (fun v9 w9 h9 => ?_) (fun _ h9 => h9.elim)
  obtain ⟨ra9, rfl, rfl⟩ := h9
  refine r_istore C dL_law_1851 (by decide) rfl ?_
  refine t_swap3 ?_
  refine r_goto (tgt := 2128) C dL_law_1853 (by decide) ?_
  refine r_widen (k := cells + 500) (n := slots + 10000) (show cells + 1 + 4 ≤ cells + 500 by omega) (show slots + 6 + 48 ≤ slots + 10000 by omega) ?_
  refine r_drop 5 ?_
  refine r_drop 6 ?_
  exact kk _ ⟨f', r', hf', hq', kn, ra9, _, sm, _, _, hC', hB', hM', rfl⟩
theorem S_previous {p : Program} {l : Launch} {e : Env} {s : State} {m : MethodId} {args : Array Value} {below : List Frame} {meth : Method} {c : Code} {D : va_G} {cy : Nat → ClassId} {A : Nat → Prop} {Q : State → Prop} {X : (Nat → Prop) → State → Heap → Prop} {aK aV : Nat → Nat} {tO tT : Nat} {gO gT : Nat → Int32} {a : Nat → Nat → Nat} {ba : Nat → Nat} {o b L i cells slots : Nat} {xs : Nat → Int32} {w : va_W} (C : Fg p s m args meth c cL_law 7 RL D cy A) (hE : X A s s.heap) (hT : EnvT X cy aK aV tO tT gO gT) (hN : EnvN X) (hl : l.stackTraces = false) (hx : va_X b L xs s s.heap) (hbl : b < s.heap.size) (hbA : ¬ A b) (hi : i + 5 ≤ L) (hL : L ≤ 2560) (hc : cells + 500 ≤ room_1.cells) (hs : slots + 10000 ≤ room_1.slots) (hJ : JW cy a ba o w) (kk : ∀ w' : va_W, JW cy a ba o w' → vW p l e room_1 s m args below meth c D vwCl A Q 7 (cells + 500) (slots + 10000) w' [some (.ref b), some (.ref (a 0 0)), some (.ref (ba 9)), some (.ref o), some (.int (nI i)), none, none] 2128 []) : vW p l e room_1 s m args below meth c D vwCl A Q 7 cells slots w [some (.ref b), some (.ref (a 0 0)), some (.ref (ba 9)), some (.ref o), some (.int (nI i)), none, none] 1856 [] := by
  have hX := hT.1.1
  obtain ⟨f, r, hf, hq, kn, ra, th, sm, n, v, hC, hB, hM, rfl⟩ := hJ
  refine r_aload_n C dL_law_1856 rfl ?_
  refine r_aload_n C dL_law_1857 rfl ?_
  refine r_iload C dL_law_1858 rfl ?_
  refine r_iconst (v := nI 1) C dL_law_1860 (by decide) ?_
  refine r_iaddN C dL_law_1861 ?_
  refine r_sld C hx hbl hbA (show i + 1 < L by omega) (by omega) dL_law_1862 ?_
  refine r_aload_n C dL_law_1863 rfl ?_
  refine c_SH (st := []) hX.1.stb C hE (W_previous hX.1 hN hC hB hM (P_previous hX hl hC hB hM (xs (i + 1)))) pk_L_previous qm_L_302 rfl rfl (Nat.le_of_ble_eq_true rfl) dL_law_1864 ⟨(Nat.le_of_ble_eq_true rfl), (Nat.le_of_ble_eq_true rfl)⟩ ⟨show cells + 1 ≤ room_1.cells by omega, show slots + 6 ≤ room_1.slots by omega⟩ (fun v9 w9 h9 => ?_) (fun _ h9 => h9.elim)
  obtain ⟨f', r', k, n1, rfl, rfl, hf', hq', n2, hC', hB', hM', hk0, hk4, h2⟩ := h9
  refine r_istore C dL_law_1867 (by decide) rfl ?_
  refine r_aload_n C dL_law_1869 rfl ?_
  refine r_aload_n C dL_law_1870 rfl ?_
  refine r_iload C dL_law_1871 rfl ?_
  refine r_iconst (v := nI 1) C dL_law_1873 (by decide) ?_
  refine r_iaddN C dL_law_1874 ?_
  refine r_sld C hx hbl hbA (show i + 1 < L by omega) (by omega) dL_law_1875 ?_
  refine t_swap3 ?_
  refine c_V (st := []) hX.1.stb C hE (h2 _) pk_X4_previous qm_L_304 0 8 rfl rfl wm_0 rfl rfl (Nat.le_of_ble_eq_true rfl) dL_law_1876 ⟨(Nat.le_of_ble_eq_true rfl), (Nat.le_of_ble_eq_true rfl)⟩ ⟨show cells + 1 + 4 ≤ room_1.cells by omega, show slots + 6 + 48 ≤ room_1.slots by omega⟩ (fun v9 w9 h9 => ?_) (fun _ h9 => h9.elim)
  obtain ⟨ra9, rfl, rfl⟩ := h9
  refine r_istore C dL_law_1879 (by decide) rfl ?_
  refine t_swap3 ?_
  refine r_goto (tgt := 2128) C dL_law_1881 (by decide) ?_
  refine r_widen (k := cells + 500) (n := slots + 10000) (show cells + 1 + 4 ≤ cells + 500 by omega) (show slots + 6 + 48 ≤ slots + 10000 by omega) ?_
  refine r_drop 5 ?_
  refine r_drop 6 ?_
  exact kk _ ⟨f', r', hf', hq', kn, ra9, _, sm, _, _, hC', hB', hM', rfl⟩
theorem S_put {p : Program} {l : Launch} {e : Env} {s : State} {m : MethodId} {args : Array Value} {below : List Frame} {meth : Method} {c : Code} {D : va_G} {cy : Nat → ClassId} {A : Nat → Prop} {Q : State → Prop} {X : (Nat → Prop) → State → Heap → Prop} {aK aV : Nat → Nat} {tO tT : Nat} {gO gT : Nat → Int32} {a : Nat → Nat → Nat} {ba : Nat → Nat} {o b L i cells slots : Nat} {xs : Nat → Int32} {w : va_W} (C : Fg p s m args meth c cL_law 7 RL D cy A) (hE : X A s s.heap) (hT : EnvT X cy aK aV tO tT gO gT) (hN : EnvN X) (hl : l.stackTraces = false) (hx : va_X b L xs s s.heap) (hbl : b < s.heap.size) (hbA : ¬ A b) (hi : i + 5 ≤ L) (hL : L ≤ 2560) (hc : cells + 500 ≤ room_1.cells) (hs : slots + 10000 ≤ room_1.slots) (hJ : JW cy a ba o w) (kk : ∀ w' : va_W, JW cy a ba o w' → vW p l e room_1 s m args below meth c D vwCl A Q 7 (cells + 500) (slots + 10000) w' [some (.ref b), some (.ref (a 0 0)), some (.ref (ba 9)), some (.ref o), some (.int (nI i)), none, none] 2128 []) : vW p l e room_1 s m args below meth c D vwCl A Q 7 cells slots w [some (.ref b), some (.ref (a 0 0)), some (.ref (ba 9)), some (.ref o), some (.int (nI i)), none, none] 1884 [] := by
  have hX := hT.1.1
  obtain ⟨f, r, hf, hq, kn, ra, th, sm, n, v, hC, hB, hM, rfl⟩ := hJ
  refine r_aload_n C dL_law_1884 rfl ?_
  refine r_aload_n C dL_law_1885 rfl ?_
  refine r_iload C dL_law_1886 rfl ?_
  refine r_iconst (v := nI 1) C dL_law_1888 (by decide) ?_
  refine r_iaddN C dL_law_1889 ?_
  refine r_sld C hx hbl hbA (show i + 1 < L by omega) (by omega) dL_law_1890 ?_
  refine r_aload_n C dL_law_1891 rfl ?_
  refine r_iload C dL_law_1892 rfl ?_
  refine r_iconst (v := nI 2) C dL_law_1894 (by decide) ?_
  refine r_iaddN C dL_law_1895 ?_
  refine r_sld C hx hbl hbA (show i + 2 < L by omega) (by omega) dL_law_1896 ?_
  refine r_aload_n C dL_law_1897 rfl ?_
  refine c_SH (st := []) hX.1.stb C hE (W_put hX.1 hN hC hB hM (P_put hX hl hC hB hM (xs (i + 1)) (xs (i + 2)))) pk_L_put qm_L_305 rfl rfl (Nat.le_of_ble_eq_true rfl) dL_law_1898 ⟨(Nat.le_of_ble_eq_true rfl), (Nat.le_of_ble_eq_true rfl)⟩ ⟨show cells + 1 ≤ room_1.cells by omega, show slots + 6 ≤ room_1.slots by omega⟩ (fun v9 w9 h9 => ?_) (fun _ h9 => h9.elim)
  obtain ⟨f', r', k, n1, rfl, rfl, hf', hq', n2, hC', hB', hM', hk0, hk4, h2⟩ := h9
  refine r_istore C dL_law_1901 (by decide) rfl ?_
  refine r_aload_n C dL_law_1903 rfl ?_
  refine r_aload_n C dL_law_1904 rfl ?_
  refine r_iload C dL_law_1905 rfl ?_
  refine r_iconst (v := nI 1) C dL_law_1907 (by decide) ?_
  refine r_iaddN C dL_law_1908 ?_
  refine r_sld C hx hbl hbA (show i + 1 < L by omega) (by omega) dL_law_1909 ?_
  refine r_aload_n C dL_law_1910 rfl ?_
  refine r_iload C dL_law_1911 rfl ?_
  refine r_iconst (v := nI 2) C dL_law_1913 (by decide) ?_
  refine r_iaddN C dL_law_1914 ?_
  refine r_sld C hx hbl hbA (show i + 2 < L by omega) (by omega) dL_law_1915 ?_
  refine t_swap3 ?_
  refine c_V (st := []) hX.1.stb C hE (h2 _) pk_X4_put_ qm_L_307 0 8 rfl rfl wm_0 rfl rfl (Nat.le_of_ble_eq_true rfl) dL_law_1916 ⟨(Nat.le_of_ble_eq_true rfl), (Nat.le_of_ble_eq_true rfl)⟩ ⟨show cells + 1 + 4 ≤ room_1.cells by omega, show slots + 6 + 48 ≤ room_1.slots by omega⟩ (fun v9 w9 h9 => ?_) (fun _ h9 => h9.elim)
  obtain ⟨ra9, rfl, rfl⟩ := h9
  refine r_istore C dL_law_1919 (by decide) rfl ?_
  refine t_swap3 ?_
  refine r_goto (tgt := 2128) C dL_law_1921 (by decide) ?_
  refine r_widen (k := cells + 500) (n := slots + 10000) (show cells + 1 + 4 ≤ cells + 500 by omega) (show slots + 6 + 48 ≤ slots + 10000 by omega) ?_
  refine r_drop 5 ?_
  refine r_drop 6 ?_
  exact kk _ ⟨f', r', hf', hq', kn, ra9, _, sm, _, _, hC', hB', hM', rfl⟩
theorem S_take {p : Program} {l : Launch} {e : Env} {s : State} {m : MethodId} {args : Array Value} {below : List Frame} {meth : Method} {c : Code} {D : va_G} {cy : Nat → ClassId} {A : Nat → Prop} {Q : State → Prop} {X : (Nat → Prop) → State → Heap → Prop} {aK aV : Nat → Nat} {tO tT : Nat} {gO gT : Nat → Int32} {a : Nat → Nat → Nat} {ba : Nat → Nat} {o b L i cells slots : Nat} {xs : Nat → Int32} {w : va_W} (C : Fg p s m args meth c cL_law 7 RL D cy A) (hE : X A s s.heap) (hT : EnvT X cy aK aV tO tT gO gT) (hN : EnvN X) (hl : l.stackTraces = false) (hx : va_X b L xs s s.heap) (hbl : b < s.heap.size) (hbA : ¬ A b) (hi : i + 5 ≤ L) (hL : L ≤ 2560) (hc : cells + 500 ≤ room_1.cells) (hs : slots + 10000 ≤ room_1.slots) (hJ : JW cy a ba o w) (kk : ∀ w' : va_W, JW cy a ba o w' → vW p l e room_1 s m args below meth c D vwCl A Q 7 (cells + 500) (slots + 10000) w' [some (.ref b), some (.ref (a 0 0)), some (.ref (ba 9)), some (.ref o), some (.int (nI i)), none, none] 2128 []) : vW p l e room_1 s m args below meth c D vwCl A Q 7 cells slots w [some (.ref b), some (.ref (a 0 0)), some (.ref (ba 9)), some (.ref o), some (.int (nI i)), none, none] 1924 [] := by
  have hX := hT.1.1
  obtain ⟨f, r, hf, hq, kn, ra, th, sm, n, v, hC, hB, hM, rfl⟩ := hJ
  refine r_aload_n C dL_law_1924 rfl ?_
  refine r_aload_n C dL_law_1925 rfl ?_
  refine r_iload C dL_law_1926 rfl ?_
  refine r_iconst (v := nI 1) C dL_law_1928 (by decide) ?_
  refine r_iaddN C dL_law_1929 ?_
  refine r_sld C hx hbl hbA (show i + 1 < L by omega) (by omega) dL_law_1930 ?_
  refine r_aload_n C dL_law_1931 rfl ?_
  refine c_SH (st := []) hX.1.stb C hE (W_take hX.1 hN hC hB hM (P_take hX hl hC hB hM (xs (i + 1)))) pk_L_take qm_L_308 rfl rfl (Nat.le_of_ble_eq_true rfl) dL_law_1932 ⟨(Nat.le_of_ble_eq_true rfl), (Nat.le_of_ble_eq_true rfl)⟩ ⟨show cells + 1 ≤ room_1.cells by omega, show slots + 6 ≤ room_1.slots by omega⟩ (fun v9 w9 h9 => ?_) (fun _ h9 => h9.elim)
  obtain ⟨f', r', k, n1, rfl, rfl, hf', hq', n2, hC', hB', hM', hk0, hk4, h2⟩ := h9
  refine r_istore C dL_law_1935 (by decide) rfl ?_
  refine r_aload_n C dL_law_1937 rfl ?_
  refine r_aload_n C dL_law_1938 rfl ?_
  refine r_iload C dL_law_1939 rfl ?_
  refine r_iconst (v := nI 1) C dL_law_1941 (by decide) ?_
  refine r_iaddN C dL_law_1942 ?_
  refine r_sld C hx hbl hbA (show i + 1 < L by omega) (by omega) dL_law_1943 ?_
  refine t_swap3 ?_
  refine c_V (st := []) hX.1.stb C hE (h2 _) pk_X4_take qm_L_310 0 8 rfl rfl wm_0 rfl rfl (Nat.le_of_ble_eq_true rfl) dL_law_1944 ⟨(Nat.le_of_ble_eq_true rfl), (Nat.le_of_ble_eq_true rfl)⟩ ⟨show cells + 1 + 4 ≤ room_1.cells by omega, show slots + 6 + 48 ≤ room_1.slots by omega⟩ (fun v9 w9 h9 => ?_) (fun _ h9 => h9.elim)
  obtain ⟨ra9, rfl, rfl⟩ := h9
  refine r_istore C dL_law_1947 (by decide) rfl ?_
  refine t_swap3 ?_
  refine r_goto (tgt := 2128) C dL_law_1949 (by decide) ?_
  refine r_widen (k := cells + 500) (n := slots + 10000) (show cells + 1 + 4 ≤ cells + 500 by omega) (show slots + 6 + 48 ≤ slots + 10000 by omega) ?_
  refine r_drop 5 ?_
  refine r_drop 6 ?_
  exact kk _ ⟨f', r', hf', hq', kn, ra9, _, sm, _, _, hC', hB', hM', rfl⟩
theorem S_replace {p : Program} {l : Launch} {e : Env} {s : State} {m : MethodId} {args : Array Value} {below : List Frame} {meth : Method} {c : Code} {D : va_G} {cy : Nat → ClassId} {A : Nat → Prop} {Q : State → Prop} {X : (Nat → Prop) → State → Heap → Prop} {aK aV : Nat → Nat} {tO tT : Nat} {gO gT : Nat → Int32} {a : Nat → Nat → Nat} {ba : Nat → Nat} {o b L i cells slots : Nat} {xs : Nat → Int32} {w : va_W} (C : Fg p s m args meth c cL_law 7 RL D cy A) (hE : X A s s.heap) (hT : EnvT X cy aK aV tO tT gO gT) (hN : EnvN X) (hl : l.stackTraces = false) (hx : va_X b L xs s s.heap) (hbl : b < s.heap.size) (hbA : ¬ A b) (hi : i + 5 ≤ L) (hL : L ≤ 2560) (hc : cells + 500 ≤ room_1.cells) (hs : slots + 10000 ≤ room_1.slots) (hJ : JW cy a ba o w) (kk : ∀ w' : va_W, JW cy a ba o w' → vW p l e room_1 s m args below meth c D vwCl A Q 7 (cells + 500) (slots + 10000) w' [some (.ref b), some (.ref (a 0 0)), some (.ref (ba 9)), some (.ref o), some (.int (nI i)), none, none] 2128 []) : vW p l e room_1 s m args below meth c D vwCl A Q 7 cells slots w [some (.ref b), some (.ref (a 0 0)), some (.ref (ba 9)), some (.ref o), some (.int (nI i)), none, none] 1952 [] := by
  have hX := hT.1.1
  obtain ⟨f, r, hf, hq, kn, ra, th, sm, n, v, hC, hB, hM, rfl⟩ := hJ
  refine r_aload_n C dL_law_1952 rfl ?_
  refine r_aload_n C dL_law_1953 rfl ?_
  refine r_iload C dL_law_1954 rfl ?_
  refine r_iconst (v := nI 1) C dL_law_1956 (by decide) ?_
  refine r_iaddN C dL_law_1957 ?_
  refine r_sld C hx hbl hbA (show i + 1 < L by omega) (by omega) dL_law_1958 ?_
  refine r_aload_n C dL_law_1959 rfl ?_
  refine r_iload C dL_law_1960 rfl ?_
  refine r_iconst (v := nI 2) C dL_law_1962 (by decide) ?_
  refine r_iaddN C dL_law_1963 ?_
  refine r_sld C hx hbl hbA (show i + 2 < L by omega) (by omega) dL_law_1964 ?_
  refine r_aload_n C dL_law_1965 rfl ?_
  refine c_SH (st := []) hX.1.stb C hE (W_replace hX.1 hN hC hB hM (P_replace hX hl hC hB hM (xs (i + 1)) (xs (i + 2)))) pk_L_replace qm_L_311 rfl rfl (Nat.le_of_ble_eq_true rfl) dL_law_1966 ⟨(Nat.le_of_ble_eq_true rfl), (Nat.le_of_ble_eq_true rfl)⟩ ⟨show cells + 1 ≤ room_1.cells by omega, show slots + 6 ≤ room_1.slots by omega⟩ (fun v9 w9 h9 => ?_) (fun _ h9 => h9.elim)
  obtain ⟨f', r', k, n1, rfl, rfl, hf', hq', n2, hC', hB', hM', hk0, hk4, h2⟩ := h9
  refine r_istore C dL_law_1969 (by decide) rfl ?_
  refine r_aload_n C dL_law_1971 rfl ?_
  refine r_aload_n C dL_law_1972 rfl ?_
  refine r_iload C dL_law_1973 rfl ?_
  refine r_iconst (v := nI 1) C dL_law_1975 (by decide) ?_
  refine r_iaddN C dL_law_1976 ?_
  refine r_sld C hx hbl hbA (show i + 1 < L by omega) (by omega) dL_law_1977 ?_
  refine r_aload_n C dL_law_1978 rfl ?_
  refine r_iload C dL_law_1979 rfl ?_
  refine r_iconst (v := nI 2) C dL_law_1981 (by decide) ?_
  refine r_iaddN C dL_law_1982 ?_
  refine r_sld C hx hbl hbA (show i + 2 < L by omega) (by omega) dL_law_1983 ?_
  refine t_swap3 ?_
  refine c_V (st := []) hX.1.stb C hE (h2 _) pk_X4_replace qm_L_313 0 8 rfl rfl wm_0 rfl rfl (Nat.le_of_ble_eq_true rfl) dL_law_1984 ⟨(Nat.le_of_ble_eq_true rfl), (Nat.le_of_ble_eq_true rfl)⟩ ⟨show cells + 1 + 4 ≤ room_1.cells by omega, show slots + 6 + 48 ≤ room_1.slots by omega⟩ (fun v9 w9 h9 => ?_) (fun _ h9 => h9.elim)
  obtain ⟨ra9, rfl, rfl⟩ := h9
  refine r_istore C dL_law_1987 (by decide) rfl ?_
  refine t_swap3 ?_
  refine r_goto (tgt := 2128) C dL_law_1989 (by decide) ?_
  refine r_widen (k := cells + 500) (n := slots + 10000) (show cells + 1 + 4 ≤ cells + 500 by omega) (show slots + 6 + 48 ≤ slots + 10000 by omega) ?_
  refine r_drop 5 ?_
  refine r_drop 6 ?_
  exact kk _ ⟨f', r', hf', hq', kn, ra9, _, sm, _, _, hC', hB', hM', rfl⟩
theorem S_ofCursor {p : Program} {l : Launch} {e : Env} {s : State} {m : MethodId} {args : Array Value} {below : List Frame} {meth : Method} {c : Code} {D : va_G} {cy : Nat → ClassId} {A : Nat → Prop} {Q : State → Prop} {X : (Nat → Prop) → State → Heap → Prop} {aK aV : Nat → Nat} {tO tT : Nat} {gO gT : Nat → Int32} {a : Nat → Nat → Nat} {ba : Nat → Nat} {o b L i cells slots : Nat} {xs : Nat → Int32} {w : va_W} (C : Fg p s m args meth c cL_law 7 RL D cy A) (hE : X A s s.heap) (hT : EnvT X cy aK aV tO tT gO gT) (hN : EnvN X) (hl : l.stackTraces = false) (hx : va_X b L xs s s.heap) (hbl : b < s.heap.size) (hbA : ¬ A b) (hi : i + 5 ≤ L) (hL : L ≤ 2560) (hc : cells + 500 ≤ room_1.cells) (hs : slots + 10000 ≤ room_1.slots) (hJ : JW cy a ba o w) (kk : ∀ w' : va_W, JW cy a ba o w' → vW p l e room_1 s m args below meth c D vwCl A Q 7 (cells + 500) (slots + 10000) w' [some (.ref b), some (.ref (a 0 0)), some (.ref (ba 9)), some (.ref o), some (.int (nI i)), none, none] 2128 []) : vW p l e room_1 s m args below meth c D vwCl A Q 7 cells slots w [some (.ref b), some (.ref (a 0 0)), some (.ref (ba 9)), some (.ref o), some (.int (nI i)), none, none] 1992 [] := by
  have hX := hT.1.1
  obtain ⟨f, r, hf, hq, kn, ra, th, sm, n, v, hC, hB, hM, rfl⟩ := hJ
  refine r_aload_n C dL_law_1992 rfl ?_
  refine r_aload_n C dL_law_1993 rfl ?_
  refine r_iload C dL_law_1994 rfl ?_
  refine r_iconst (v := nI 1) C dL_law_1996 (by decide) ?_
  refine r_iaddN C dL_law_1997 ?_
  refine r_sld C hx hbl hbA (show i + 1 < L by omega) (by omega) dL_law_1998 ?_
  refine r_aload_n C dL_law_1999 rfl ?_
  refine r_iload C dL_law_2000 rfl ?_
  refine r_iconst (v := nI 2) C dL_law_2002 (by decide) ?_
  refine r_iaddN C dL_law_2003 ?_
  refine r_sld C hx hbl hbA (show i + 2 < L by omega) (by omega) dL_law_2004 ?_
  refine r_aload_n C dL_law_2005 rfl ?_
  refine c_SH (st := []) hX.1.stb C hE (W_ofCursor hX.1 hN hC hB hM (P_ofCursor hX hl hC hB hM (xs (i + 1)) (xs (i + 2)))) pk_L_ofCursor qm_L_314 rfl rfl (Nat.le_of_ble_eq_true rfl) dL_law_2006 ⟨(Nat.le_of_ble_eq_true rfl), (Nat.le_of_ble_eq_true rfl)⟩ ⟨show cells + 1 ≤ room_1.cells by omega, show slots + 6 ≤ room_1.slots by omega⟩ (fun v9 w9 h9 => ?_) (fun _ h9 => h9.elim)
  obtain ⟨f', r', k, n1, rfl, rfl, hf', hq', n2, hC', hB', hM', hk0, hk4, h2⟩ := h9
  refine r_istore C dL_law_2009 (by decide) rfl ?_
  refine r_aload_n C dL_law_2011 rfl ?_
  refine r_aload_n C dL_law_2012 rfl ?_
  refine r_iload C dL_law_2013 rfl ?_
  refine r_iconst (v := nI 1) C dL_law_2015 (by decide) ?_
  refine r_iaddN C dL_law_2016 ?_
  refine r_sld C hx hbl hbA (show i + 1 < L by omega) (by omega) dL_law_2017 ?_
  refine r_aload_n C dL_law_2018 rfl ?_
  refine r_iload C dL_law_2019 rfl ?_
  refine r_iconst (v := nI 2) C dL_law_2021 (by decide) ?_
  refine r_iaddN C dL_law_2022 ?_
  refine r_sld C hx hbl hbA (show i + 2 < L by omega) (by omega) dL_law_2023 ?_
  refine t_swap3 ?_
  refine c_V (st := []) hX.1.stb C hE (h2 _) pk_X4_ofCursor qm_L_316 0 8 rfl rfl wm_0 rfl rfl (Nat.le_of_ble_eq_true rfl) dL_law_2024 ⟨(Nat.le_of_ble_eq_true rfl), (Nat.le_of_ble_eq_true rfl)⟩ ⟨show cells + 1 + 4 ≤ room_1.cells by omega, show slots + 6 + 48 ≤ room_1.slots by omega⟩ (fun v9 w9 h9 => ?_) (fun _ h9 => h9.elim)
  obtain ⟨ra9, rfl, rfl⟩ := h9
  refine r_istore C dL_law_2027 (by decide) rfl ?_
  refine t_swap3 ?_
  refine r_goto (tgt := 2128) C dL_law_2029 (by decide) ?_
  refine r_widen (k := cells + 500) (n := slots + 10000) (show cells + 1 + 4 ≤ cells + 500 by omega) (show slots + 6 + 48 ≤ slots + 10000 by omega) ?_
  refine r_drop 5 ?_
  refine r_drop 6 ?_
  exact kk _ ⟨f', r', hf', hq', kn, ra9, _, sm, _, _, hC', hB', hM', rfl⟩
theorem S_house {p : Program} {l : Launch} {e : Env} {s : State} {m : MethodId} {args : Array Value} {below : List Frame} {meth : Method} {c : Code} {D : va_G} {cy : Nat → ClassId} {A : Nat → Prop} {Q : State → Prop} {X : (Nat → Prop) → State → Heap → Prop} {aK aV : Nat → Nat} {tO tT : Nat} {gO gT : Nat → Int32} {a : Nat → Nat → Nat} {ba : Nat → Nat} {o b L i cells slots : Nat} {xs : Nat → Int32} {w : va_W} (C : Fg p s m args meth c cL_law 7 RL D cy A) (hE : X A s s.heap) (hT : EnvT X cy aK aV tO tT gO gT) (hN : EnvN X) (hl : l.stackTraces = false) (hx : va_X b L xs s s.heap) (hbl : b < s.heap.size) (hbA : ¬ A b) (hi : i + 5 ≤ L) (hL : L ≤ 2560) (hc : cells + 500 ≤ room_1.cells) (hs : slots + 10000 ≤ room_1.slots) (hJ : JW cy a ba o w) (kk : ∀ w' : va_W, JW cy a ba o w' → vW p l e room_1 s m args below meth c D vwCl A Q 7 (cells + 500) (slots + 10000) w' [some (.ref b), some (.ref (a 0 0)), some (.ref (ba 9)), some (.ref o), some (.int (nI i)), none, none] 2128 []) : vW p l e room_1 s m args below meth c D vwCl A Q 7 cells slots w [some (.ref b), some (.ref (a 0 0)), some (.ref (ba 9)), some (.ref o), some (.int (nI i)), none, none] 2032 [] := by
  have hX := hT.1.1
  obtain ⟨f, r, hf, hq, kn, ra, th, sm, n, v, hC, hB, hM, rfl⟩ := hJ
  refine r_aload_n C dL_law_2032 rfl ?_
  refine r_aload_n C dL_law_2033 rfl ?_
  refine r_iload C dL_law_2034 rfl ?_
  refine r_iconst (v := nI 1) C dL_law_2036 (by decide) ?_
  refine r_iaddN C dL_law_2037 ?_
  refine r_sld C hx hbl hbA (show i + 1 < L by omega) (by omega) dL_law_2038 ?_
  refine r_aload_n C dL_law_2039 rfl ?_
  refine c_SH (st := []) hX.1.stb C hE (W_house hX.1 hN hC hB hM (P_house hX hl hC hB hM (xs (i + 1)))) pk_L_house qm_L_317 rfl rfl (Nat.le_of_ble_eq_true rfl) dL_law_2040 ⟨(Nat.le_of_ble_eq_true rfl), (Nat.le_of_ble_eq_true rfl)⟩ ⟨show cells + 1 ≤ room_1.cells by omega, show slots + 6 ≤ room_1.slots by omega⟩ (fun v9 w9 h9 => ?_) (fun _ h9 => h9.elim)
  obtain ⟨f', r', k, n1, rfl, rfl, hf', hq', n2, hC', hB', hM', hk0, hk4, h2⟩ := h9
  refine r_istore C dL_law_2043 (by decide) rfl ?_
  refine r_aload_n C dL_law_2045 rfl ?_
  refine r_aload_n C dL_law_2046 rfl ?_
  refine r_iload C dL_law_2047 rfl ?_
  refine r_iconst (v := nI 1) C dL_law_2049 (by decide) ?_
  refine r_iaddN C dL_law_2050 ?_
  refine r_sld C hx hbl hbA (show i + 1 < L by omega) (by omega) dL_law_2051 ?_
  refine t_swap3 ?_
  refine c_V (st := []) hX.1.stb C hE (h2 _) pk_X4_house qm_L_319 0 8 rfl rfl wm_0 rfl rfl (Nat.le_of_ble_eq_true rfl) dL_law_2052 ⟨(Nat.le_of_ble_eq_true rfl), (Nat.le_of_ble_eq_true rfl)⟩ ⟨show cells + 1 + 4 ≤ room_1.cells by omega, show slots + 6 + 48 ≤ room_1.slots by omega⟩ (fun v9 w9 h9 => ?_) (fun _ h9 => h9.elim)
  obtain ⟨ra9, rfl, rfl⟩ := h9
  refine r_istore C dL_law_2055 (by decide) rfl ?_
  refine r_aload_n C dL_law_2057 rfl ?_
  refine d_V (st := []) hX.1.stb C hE (D_thrown hX) pk_X4_thrown qm_L_320 0 8 rfl rfl wm_0 rfl rfl (Nat.le_of_ble_eq_true rfl) dL_law_2058 ⟨(Nat.le_of_ble_eq_true rfl), (Nat.le_of_ble_eq_true rfl)⟩ ⟨show cells + 1 + 4 + 0 ≤ room_1.cells by omega, show slots + 6 + 48 + 0 ≤ room_1.slots by omega⟩ ?_
  refine r_iload C dL_law_2061 rfl ?_
  refine r_ic_eq (tgt := 2068) C dL_law_2063 (by decide) (fun _ => ?_) (fun hne => absurd rfl hne)
  refine t_swap3 ?_
  refine r_iload C dL_law_2068 rfl ?_
  refine r_ifN_ne (a := k) (tgt := 2086) C (by omega) dL_law_2070 (by decide) (fun hk => ?_) (fun hk => ?_)
  · skip
    refine r_goto (tgt := 2128) C dL_law_2086 (by decide) ?_
    refine r_widen (k := cells + 500) (n := slots + 10000) (show cells + 1 + 4 + 0 ≤ cells + 500 by omega) (show slots + 6 + 48 + 0 ≤ slots + 10000 by omega) ?_
    refine r_drop 5 ?_
    refine r_drop 6 ?_
    exact kk _ ⟨f', r', hf', hq', kn, ra9, _, sm, _, _, hC', hB', hM', rfl⟩
  · subst hk
    have e1 := hk0 rfl
    subst e1
    refine r_aload_n C dL_law_2073 rfl ?_
    refine g_getN hX.1 C hE qu_X3 (ci := 7) rfl 38 outo_at 0 (by decide) qn_L_13 rfl rfl dL_law_2074 ?_
    refine r_iload C dL_law_2077 rfl ?_
    refine r_i2l C dL_law_2079 ?_
    refine r_lcmpE C dL_law_2080 ?_
    refine r_if_eq (tgt := 2086) C dL_law_2081 (by decide) (fun _ => ?_) (fun hne => absurd rfl hne)
    refine r_goto (tgt := 2128) C dL_law_2086 (by decide) ?_
    refine r_widen (k := cells + 500) (n := slots + 10000) (show cells + 1 + 4 + 0 ≤ cells + 500 by omega) (show slots + 6 + 48 + 0 ≤ slots + 10000 by omega) ?_
    refine r_drop 5 ?_
    refine r_drop 6 ?_
    exact kk _ ⟨f', r', hf', hq', kn, ra9, _, sm, _, _, hC', hB', hM', rfl⟩
theorem S_knock {p : Program} {l : Launch} {e : Env} {s : State} {m : MethodId} {args : Array Value} {below : List Frame} {meth : Method} {c : Code} {D : va_G} {cy : Nat → ClassId} {A : Nat → Prop} {Q : State → Prop} {X : (Nat → Prop) → State → Heap → Prop} {aK aV : Nat → Nat} {tO tT : Nat} {gO gT : Nat → Int32} {a : Nat → Nat → Nat} {ba : Nat → Nat} {o b L i cells slots : Nat} {xs : Nat → Int32} {w : va_W} (C : Fg p s m args meth c cL_law 7 RL D cy A) (hE : X A s s.heap) (hT : EnvT X cy aK aV tO tT gO gT) (hN : EnvN X) (hl : l.stackTraces = false) (hx : va_X b L xs s s.heap) (hbl : b < s.heap.size) (hbA : ¬ A b) (hi : i + 5 ≤ L) (hL : L ≤ 2560) (hc : cells + 500 ≤ room_1.cells) (hs : slots + 10000 ≤ room_1.slots) (hJ : JW cy a ba o w) (kk : ∀ w' : va_W, JW cy a ba o w' → vW p l e room_1 s m args below meth c D vwCl A Q 7 (cells + 500) (slots + 10000) w' [some (.ref b), some (.ref (a 0 0)), some (.ref (ba 9)), some (.ref o), some (.int (nI i)), none, none] 2128 []) : vW p l e room_1 s m args below meth c D vwCl A Q 7 cells slots w [some (.ref b), some (.ref (a 0 0)), some (.ref (ba 9)), some (.ref o), some (.int (nI i)), none, none] 2089 [] := by
  have hX := hT.1.1
  obtain ⟨f, r, hf, hq, kn, ra, th, sm, n, v, hC, hB, hM, rfl⟩ := hJ
  refine r_aload_n C dL_law_2089 rfl ?_
  refine c_V (st := []) hX.1.stb C hE (C_knock hX.1 hC) pk_X2_knock qm_L_324 0 6 rfl rfl wc_0 rfl rfl (Nat.le_of_ble_eq_true rfl) dL_law_2090 ⟨(Nat.le_of_ble_eq_true rfl), (Nat.le_of_ble_eq_true rfl)⟩ ⟨show cells + 0 ≤ room_1.cells by omega, show slots + 0 ≤ room_1.slots by omega⟩ (fun v9 w9 h9 => ?_) (fun _ h9 => h9.elim)
  obtain ⟨rfl, rfl⟩ := h9
  refine r_pop C dL_law_2093 rfl ?_
  refine r_aload_n C dL_law_2094 rfl ?_
  refine t_swap3 ?_
  refine c_V (st := []) hX.1.stb C hE (D_knock hX) pk_X4_knock qm_L_327 0 8 rfl rfl wm_0 rfl rfl (Nat.le_of_ble_eq_true rfl) dL_law_2095 ⟨(Nat.le_of_ble_eq_true rfl), (Nat.le_of_ble_eq_true rfl)⟩ ⟨show cells + 0 + 0 ≤ room_1.cells by omega, show slots + 0 + 0 ≤ room_1.slots by omega⟩ (fun v9 w9 h9 => ?_) (fun _ h9 => h9.elim)
  obtain ⟨rfl, rfl⟩ := h9
  refine r_pop C dL_law_2098 rfl ?_
  refine t_swap3 ?_
  refine r_goto (tgt := 2128) C dL_law_2099 (by decide) ?_
  refine r_widen (k := cells + 500) (n := slots + 10000) (show cells + 0 + 0 ≤ cells + 500 by omega) (show slots + 0 + 0 ≤ slots + 10000 by omega) ?_
  exact kk _ ⟨f, r, hf, hq, _, ra, _, _, n, v, hC, hB, hM, rfl⟩
theorem S_isSound {p : Program} {l : Launch} {e : Env} {s : State} {m : MethodId} {args : Array Value} {below : List Frame} {meth : Method} {c : Code} {D : va_G} {cy : Nat → ClassId} {A : Nat → Prop} {Q : State → Prop} {X : (Nat → Prop) → State → Heap → Prop} {aK aV : Nat → Nat} {tO tT : Nat} {gO gT : Nat → Int32} {a : Nat → Nat → Nat} {ba : Nat → Nat} {o b L i cells slots : Nat} {xs : Nat → Int32} {w : va_W} (C : Fg p s m args meth c cL_law 7 RL D cy A) (hE : X A s s.heap) (hT : EnvT X cy aK aV tO tT gO gT) (hN : EnvN X) (hl : l.stackTraces = false) (hx : va_X b L xs s s.heap) (hbl : b < s.heap.size) (hbA : ¬ A b) (hi : i + 5 ≤ L) (hL : L ≤ 2560) (hc : cells + 500 ≤ room_1.cells) (hs : slots + 10000 ≤ room_1.slots) (hJ : JW cy a ba o w) (kk : ∀ w' : va_W, JW cy a ba o w' → vW p l e room_1 s m args below meth c D vwCl A Q 7 (cells + 500) (slots + 10000) w' [some (.ref b), some (.ref (a 0 0)), some (.ref (ba 9)), some (.ref o), some (.int (nI i)), none, none] 2128 []) : vW p l e room_1 s m args below meth c D vwCl A Q 7 cells slots w [some (.ref b), some (.ref (a 0 0)), some (.ref (ba 9)), some (.ref o), some (.int (nI i)), none, none] 2102 [] := by
  have hX := hT.1.1
  obtain ⟨f, r, hf, hq, kn, ra, th, sm, n, v, hC, hB, hM, rfl⟩ := hJ
  refine r_aload_n C dL_law_2102 rfl ?_
  refine c_V (st := []) hX.1.stb C hE (K_isSound hX.1 hC (fun i q hi hq => hB _ _)) pk_X2_isSound qm_L_328 0 6 rfl rfl wc_0 rfl rfl (Nat.le_of_ble_eq_true rfl) dL_law_2103 ⟨(Nat.le_of_ble_eq_true rfl), (Nat.le_of_ble_eq_true rfl)⟩ ⟨show cells + 0 ≤ room_1.cells by omega, show slots + 0 ≤ room_1.slots by omega⟩ (fun v9 w9 h9 => ?_) (fun _ h9 => h9.elim)
  obtain ⟨rfl, f', r', rfl, sc⟩ := h9
  have hC' := sc.inv hC
  have hB' := sc.2.2.2 hB
  have hM' : MR f' r' hf hq := MR_itm hM sc.1 (fun i k hi hk => ((hM.2.1 i hi).2 k hk).trans (sc.2.2.1 i k hi).symm)
  refine r_pop C dL_law_2106 rfl ?_
  refine r_aload_n C dL_law_2107 rfl ?_
  refine t_swap3 ?_
  refine c_V (st := []) hX.1.stb C hE (D_isSound hX hC' hM') pk_X4_isSound qm_L_332 0 8 rfl rfl wm_0 rfl rfl (Nat.le_of_ble_eq_true rfl) dL_law_2108 ⟨(Nat.le_of_ble_eq_true rfl), (Nat.le_of_ble_eq_true rfl)⟩ ⟨show cells + 0 + 0 ≤ room_1.cells by omega, show slots + 0 + 0 ≤ room_1.slots by omega⟩ (fun v9 w9 h9 => ?_) (fun _ h9 => h9.elim)
  obtain ⟨rfl, rfl⟩ := h9
  refine r_pop C dL_law_2111 rfl ?_
  refine t_swap3 ?_
  refine r_goto (tgt := 2128) C dL_law_2112 (by decide) ?_
  refine r_widen (k := cells + 500) (n := slots + 10000) (show cells + 0 + 0 ≤ cells + 500 by omega) (show slots + 0 + 0 ≤ slots + 10000 by omega) ?_
  exact kk _ ⟨f', r', hf, hq, _, ra, _, _, n, v, hC', hB', hM', rfl⟩
theorem S_digest {p : Program} {l : Launch} {e : Env} {s : State} {m : MethodId} {args : Array Value} {below : List Frame} {meth : Method} {c : Code} {D : va_G} {cy : Nat → ClassId} {A : Nat → Prop} {Q : State → Prop} {X : (Nat → Prop) → State → Heap → Prop} {aK aV : Nat → Nat} {tO tT : Nat} {gO gT : Nat → Int32} {a : Nat → Nat → Nat} {ba : Nat → Nat} {o b L i cells slots : Nat} {xs : Nat → Int32} {w : va_W} (C : Fg p s m args meth c cL_law 7 RL D cy A) (hE : X A s s.heap) (hT : EnvT X cy aK aV tO tT gO gT) (hN : EnvN X) (hl : l.stackTraces = false) (hx : va_X b L xs s s.heap) (hbl : b < s.heap.size) (hbA : ¬ A b) (hi : i + 5 ≤ L) (hL : L ≤ 2560) (hc : cells + 500 ≤ room_1.cells) (hs : slots + 10000 ≤ room_1.slots) (hJ : JW cy a ba o w) (kk : ∀ w' : va_W, JW cy a ba o w' → vW p l e room_1 s m args below meth c D vwCl A Q 7 (cells + 500) (slots + 10000) w' [some (.ref b), some (.ref (a 0 0)), some (.ref (ba 9)), some (.ref o), some (.int (nI i)), none, none] 2128 []) : vW p l e room_1 s m args below meth c D vwCl A Q 7 cells slots w [some (.ref b), some (.ref (a 0 0)), some (.ref (ba 9)), some (.ref o), some (.int (nI i)), none, none] 2115 [] := by
  have hX := hT.1.1
  obtain ⟨f, r, hf, hq, kn, ra, th, sm, n, v, hC, hB, hM, rfl⟩ := hJ
  refine r_aload_n C dL_law_2115 rfl ?_
  refine c_V (st := []) hX.1.stb C hE (C_digest hT.1 hC (fun i q hi hq => hB _ _)) pk_X2_digest qm_L_333 0 6 rfl rfl wc_0 rfl rfl (Nat.le_of_ble_eq_true rfl) dL_law_2116 ⟨(Nat.le_of_ble_eq_true rfl), (Nat.le_of_ble_eq_true rfl)⟩ ⟨show cells + 10 ≤ room_1.cells by omega, show slots + 436 ≤ room_1.slots by omega⟩ (fun v9 w9 h9 => ?_) (fun _ h9 => h9.elim)
  obtain ⟨rfl, f', r', rfl, sc⟩ := h9
  have hC' := sc.inv hC
  have hB' := sc.2.2.2 hB
  have hM' : MR f' r' hf hq := MR_itm hM sc.1 (fun i k hi hk => ((hM.2.1 i hi).2 k hk).trans (sc.2.2.1 i k hi).symm)
  refine r_pop2 C dL_law_2119 rfl ?_
  refine r_aload_n C dL_law_2120 rfl ?_
  refine t_swap3 ?_
  refine c_V (st := []) hX.1.stb C hE (D_digest hT.1 hC' hM' (hM'.hb hC' hB')) pk_X4_digest qm_L_337 0 8 rfl rfl wm_0 rfl rfl (Nat.le_of_ble_eq_true rfl) dL_law_2121 ⟨(Nat.le_of_ble_eq_true rfl), (Nat.le_of_ble_eq_true rfl)⟩ ⟨show cells + 10 + 460 ≤ room_1.cells by omega, show slots + 436 + 9400 ≤ room_1.slots by omega⟩ (fun v9 w9 h9 => ?_) (fun _ h9 => h9.elim)
  obtain ⟨rfl, rfl⟩ := h9
  refine r_pop2 C dL_law_2124 rfl ?_
  refine t_swap3 ?_
  refine r_goto (tgt := 2128) C dL_law_2125 (by decide) ?_
  refine r_widen (k := cells + 500) (n := slots + 10000) (show cells + 10 + 460 ≤ cells + 500 by omega) (show slots + 436 + 9400 ≤ slots + 10000 by omega) ?_
  exact kk _ ⟨f', r', hf, hq, _, ra, _, _, n, v, hC', hB', hM', rfl⟩
end PT_87
/-! ===== 88.lwX -/
section PT_88
/-! WHAT THE LAW KNOWS OUTSIDE THE WORLD -/
def lwX (cy : Nat → ClassId) (aK aV : Nat → Nat) (tO tT : Nat) (gO gT : Nat → Int32) (A : Nat → Prop) (U : State) (H : Heap) : Prop :=
  (∀ w ∈ NWL, va_Nw w U) ∧ (vx_Zq Bundle.tN "UNASSIGNED_STACK" Bundle.steD A U H ∧ vx_Zq Bundle.tN "SUPPRESSED_SENTINEL" Bundle.listD A U H) ∧ (∀ q ∈ SRL, ∃ sa, vk_R q.1 q.2.1 q.2.2 sa U) ∧ AOI cy U ∧
  (KS1 5 aK aV A U H ∧ (∀ (i : Nat) (q : String × Nat × String), KSL[i]? = some q → vk_R q.1 q.2.1 q.2.2 (aK i) U) ∧ va_Z "java/lang/String" "COMPACT_STRINGS" "Z" (.int 1) A U H ∧ va_Z "java/lang/Integer" "DigitOnes" "[B" (.ref tO) A U H ∧ va_T .byte tO 100 (fun j => .int (gO j)) A U H ∧ va_Z "java/lang/Integer" "DigitTens" "[B" (.ref tT) A U H ∧ va_T .byte tT 100 (fun j => .int (gT j)) A U H) ∧
  (∀ w ∈ PVL, va_Nw w U) ∧ (va_AO RX0 U ∧ va_AO RX1 U ∧ AOAI U) ∧ ∀ q ∈ NCL, va_Nc q.1 q.2 U
theorem va_Nw.keep {w : Cond} (hw : nwk w = true) {s U : State} (hW : s.WarmedH U.vm) (h : va_Nw w s) : va_Nw w U := by
  cases w <;> first | (simp [nwk] at hw; done) | exact va_Nw.warmF hW h | exact va_Nw.warmC hW h | exact va_Nw.warmD hW h
theorem va_Nw.keepP {w : Cond} (hw : pvk w = true) {s U : State} (hW : s.WarmedH U.vm) (h : va_Nw w s) : va_Nw w U := by
  cases w <;> first | (simp [pvk] at hw; done) | exact Cond.privateMethod_warm hW h
theorem AOI.moved {cy : Nat → ClassId} {u U : State} (hvm : u.vm.Alike U.vm) (h : AOI cy u) : AOI cy U := by
  obtain ⟨kA, kc, comp, h1, h2, h3, h4⟩ := h
  obtain ⟨kA', hA', eA⟩ := hvm.2.2 _ _ h1
  obtain ⟨kc', hc', -⟩ := hvm.2.2 _ _ h4
  exact ⟨kA', kc', comp, hA', by rw [eA]; exact h2, by rw [hvm.findClass]; exact h3, hc'⟩
theorem idx_bare (vm : Vm) (f : Class → Bool) (hf : ∀ x x' : Class, x.kind = x'.kind → f x = f x') : vm.bare.classes.findIdx? f = vm.classes.findIdx? f := by
  simp only [Vm.bare, Array.findIdx?_map]
  exact congrArg (fun g => vm.classes.findIdx? g) (funext fun x => hf _ _ rfl)
theorem idx_alike {u U : State} (hvm : u.vm.Alike U.vm) (f : Class → Bool) (hf : ∀ x x' : Class, x.kind = x'.kind → f x = f x') : U.vm.classes.findIdx? f = u.vm.classes.findIdx? f := by
  refine (idx_bare U.vm f hf).symm.trans (Eq.trans ?_ (idx_bare u.vm f hf))
  first | rw [hvm.bare_eq] | rw [← hvm.bare_eq]
theorem AOAI.moved {u U : State} (hvm : u.vm.Alike U.vm) (h : AOAI u) : AOAI U := by
  unfold AOAI Cond.before at h ⊢
  simp only [Cond.holds, Cond.value, beq_iff_eq] at h ⊢
  cases hc : u.vm.findClass (FieldType.array .int).toString with
  | none => simp [hc] at h
  | some comp =>
    simp only [hc, Option.bind_some, Option.bind_eq_some_iff, Option.map_eq_some_iff] at h
    obtain ⟨c, hi, k, hk, hb⟩ := h
    have f1 : U.vm.findClass (FieldType.array .int).toString = some comp := by rw [hvm.findClass]; exact hc
    obtain ⟨k', hk', he⟩ := hvm.2.2 _ _ hk
    have hkk : k'.kind = k.kind := by rw [he]
    have key : ∀ F : Class → Bool, (∀ x x' : Class, x.kind = x'.kind → F x = F x') → u.vm.classes.findIdx? F = some c → U.vm.classes.findIdx? F = some c := fun F hF h => (idx_alike hvm F hF).trans h
    have hi2 := key _ (fun x x' e => by simp only [e]) hi
    rw [f1, Option.bind_some, hi2, Option.bind_some, hk', Option.map_some, ← hb, hkk, hvm.findClass]
theorem lwX_stb {cy : Nat → ClassId} {aK aV : Nat → Nat} {tO tT : Nat} {gO gT : Nat → Int32} : Stb (lwX cy aK aV tO tT gO gT) := by
  intro A B u U H H1 hAB hW hH h
  have hvm := hW.alike
  obtain ⟨h1, ⟨h2, h3⟩, h4, h5, ⟨k1, k2, k3, k4, k5, k6, k7⟩, h6, ⟨h7, h8, h9⟩, h10⟩ := h
  exact ⟨fun w hw => va_Nw.keep (List.mem_filter.mp hw).2 hW (h1 w hw), ⟨((h2.moved hvm).kept hH).narrow hAB, ((h3.moved hvm).kept hH).narrow hAB⟩, fun q hq => by
      obtain ⟨sa, e⟩ := h4 q hq
      exact ⟨sa, e.warm hW⟩, h5.moved hvm,
    ⟨fun i hi => (((k1 i hi).moved hvm).kept hH).narrow hAB, fun i q hq => (k2 i q hq).warm hW, ((k3.moved hvm).kept hH).narrow hAB, ((k4.moved hvm).kept hH).narrow hAB, ((k5.moved hvm).kept hH).narrow hAB, ((k6.moved hvm).kept hH).narrow hAB, ((k7.moved hvm).kept hH).narrow hAB⟩,
    fun w hw => va_Nw.keepP (List.mem_filter.mp hw).2 hW (h6 w hw), ⟨h7.moved hvm, h8.moved hvm, h9.moved hvm⟩, fun q hq => (h10 q hq).moved hvm⟩
theorem lwX_T {cy : Nat → ClassId} {aK aV : Nat → Nat} {tO tT : Nat} {gO gT : Nat → Int32} : EnvT (lwX cy aK aV tO tT gO gT) cy aK aV tO tT gO gT :=
  ⟨⟨⟨⟨lwX_stb, fun w hw A U H h => h.1 w hw, fun A U H h => h.2.1, fun q hq A U H h => h.2.2.1 q hq⟩, fun A U H h => h.2.2.2.1⟩, fun A U H h => h.2.2.2.2.1, fun w hw A U H h => h.2.2.2.2.2.1 w hw⟩, fun A U H h => h.2.2.2.2.2.2.1⟩
theorem lwX_N {cy : Nat → ClassId} {aK aV : Nat → Nat} {tO tT : Nat} {gO gT : Nat → Int32} : EnvN (lwX cy aK aV tO tT gO gT) := fun q hq _ _ _ h => h.2.2.2.2.2.2.2 q hq
end PT_88
/-! ===== 89.lwX2 -/
section PT_89
/-! THE LAW'S START: WHAT THE STATEMENT GIVES -/
def FLL : List Cond := flatC (Jvm.Cond.and given_1 narrow_1)
def gO0 (j : Nat) : Int32 := Int32.ofNat (48 + j % 10)
def gT0 (j : Nat) : Int32 := Int32.ofNat (48 + j / 10)
theorem vk_ex {args : Array Value} {s : State} {own tx : String} {k : Nat} (h1 : (Cond.stringRef own k tx).before args s = true) (h2 : (Cond.exactly (.string own k) "java/lang/String").before args s = true) : ∃ sa, vk_R own k tx sa s := by
  obtain ⟨a, -, -, -, q1, -⟩ := Cond.exactly_spec (args := args) (first := s) (o := none) (s := s) (idx := []) (t := .string own k) (cls := "java/lang/String") h2
  exact ⟨a, vk_R.of h1 q1⟩
theorem ks_one {args : Array Value} {s : State} {own : String} {k n : Nat} {bs : List Int32} {A : Nat → Prop} (hn : n < 2 ^ 31) (hex : (Cond.exactly (.string own k) "java/lang/String").before args s = true) (hco : (Cond.eq (.field (.string own k) "java/lang/String" "coder" "B") (.int 0)).before args s = true)
    (har : (Cond.arrayOf (.field (.string own k) "java/lang/String" "value" "[B") .byte).before args s = true) (hle : (Cond.eq (.length (.field (.string own k) "java/lang/String" "value" "[B")) (.int (Int32.ofNat n))).before args s = true)
    (hel : ∀ j : Nat, j < n → (Cond.eq (.elem (.field (.string own k) "java/lang/String" "value" "[B") (.int (Int32.ofNat j))) (.int (bs.getD j 0))).before args s = true) (hA : ∀ a : Nat, a < s.heap.size → ¬ A a) :
    ∃ x y : Nat, vk_S 1 [n] [bs] (fun _ => x) (fun _ => y) A s s.heap ∧ (Term.string own k).eval args s none [] s = some (.ref x) := by
  obtain ⟨adK, adV, h1, h2⟩ := vk_Sof (args := args) (s := s) (N := 1) (tm := fun _ => .string own k) (len := [n]) (byt := [bs]) (A := A) (fun i hi => by
    obtain rfl : i = 0 := by omega
    exact hn) (fun _ _ => hex) (fun _ _ => hco) (fun _ _ => har) (fun i hi => by
    obtain rfl : i = 0 := by omega
    exact hle) (fun i hi j hj => by
    obtain rfl : i = 0 := by omega
    exact hel j hj) (fun i j hi hj hne => absurd (show i = j by omega) hne) hA
  exact ⟨adK 0, adV 0, ⟨fun i hi => by
    obtain rfl : i = 0 := by omega
    exact h1.1 0 hi, fun i j hi hj _ => by omega⟩, h2 0 (by decide)⟩
theorem aoai_of {args : Array Value} {s : State} (h : (Cond.arrayOver (.array .int)).before args s = true) : AOAI s := h
theorem nwk_on {w : Cond} (h : nwk w = true) : w.onTables = true := by
  cases w <;> first | rfl | (simp [nwk] at h)
theorem pvk_on {w : Cond} (h : pvk w = true) : w.onTables = true := by
  cases w <;> first | rfl | (simp [pvk] at h)
theorem digO : ∀ j : Nat, j < 100 → FLL[14 + j]? = some (Cond.eq (.elem (.static "java/lang/Integer" "DigitOnes" "[B") (.int (Int32.ofNat j))) (.int (gO0 j))) := by decide +kernel
theorem digT : ∀ j : Nat, j < 100 → FLL[117 + j]? = some (Cond.eq (.elem (.static "java/lang/Integer" "DigitTens" "[B") (.int (Int32.ofNat j))) (.int (gT0 j))) := by decide +kernel
set_option maxRecDepth 100000 in
theorem srl_ok {args : Array Value} {s : State} (tb : ∀ w ∈ tables_1, w.before args s = true) (fl : ∀ w ∈ FLL, w.before args s = true) : ∀ q ∈ SRL, ∃ sa, vk_R q.1 q.2.1 q.2.2 sa s := List.forall_mem_cons.mpr ⟨vk_ex (tb _ (gm_2 18 rfl)) (fl _ (List.mem_of_getElem? (i := 272) rfl)), List.forall_mem_cons.mpr ⟨vk_ex (tb _ (gm_2 115 rfl)) (fl _ (List.mem_of_getElem? (i := 301) rfl)), List.forall_mem_cons.mpr ⟨vk_ex (tb _ (gm_3 59 rfl)) (fl _ (List.mem_of_getElem? (i := 332) rfl)), List.forall_mem_cons.mpr ⟨vk_ex (tb _ (gm_3 107 rfl)) (fl _ (List.mem_of_getElem? (i := 339) rfl)), List.forall_mem_cons.mpr ⟨vk_ex (tb _ (gm_3 108 rfl)) (fl _ (List.mem_of_getElem? (i := 353) rfl)), List.forall_mem_cons.mpr ⟨vk_ex (tb _ (gm_3 109 rfl)) (fl _ (List.mem_of_getElem? (i := 369) rfl)), List.forall_mem_cons.mpr ⟨vk_ex (tb _ (gm_3 126 rfl)) (fl _ (List.mem_of_getElem? (i := 374) rfl)), List.forall_mem_cons.mpr ⟨vk_ex (tb _ (gm_3 163 rfl)) (fl _ (List.mem_of_getElem? (i := 404) rfl)), List.forall_mem_cons.mpr ⟨vk_ex (tb _ (gm_3 187 rfl)) (fl _ (List.mem_of_getElem? (i := 410) rfl)), List.forall_mem_cons.mpr ⟨vk_ex (tb _ (gm_3 202 rfl)) (fl _ (List.mem_of_getElem? (i := 437) rfl)), List.forall_mem_cons.mpr ⟨vk_ex (tb _ (gm_3 231 rfl)) (fl _ (List.mem_of_getElem? (i := 464) rfl)), List.forall_mem_cons.mpr ⟨vk_ex (tb _ (gm_3 235 rfl)) (fl _ (List.mem_of_getElem? (i := 498) rfl)), List.forall_mem_cons.mpr ⟨vk_ex (tb _ (gm_4 9 rfl)) (fl _ (List.mem_of_getElem? (i := 527) rfl)), List.forall_mem_cons.mpr ⟨vk_ex (tb _ (gm_4 59 rfl)) (fl _ (List.mem_of_getElem? (i := 557) rfl)), List.forall_mem_cons.mpr ⟨vk_ex (tb _ (gm_4 97 rfl)) (fl _ (List.mem_of_getElem? (i := 583) rfl)), List.forall_mem_cons.mpr ⟨vk_ex (tb _ (gm_4 145 rfl)) (fl _ (List.mem_of_getElem? (i := 613) rfl)), List.forall_mem_cons.mpr ⟨vk_ex (tb _ (gm_4 177 rfl)) (fl _ (List.mem_of_getElem? (i := 644) rfl)), List.forall_mem_cons.mpr ⟨vk_ex (tb _ (gm_4 237 rfl)) (fl _ (List.mem_of_getElem? (i := 668) rfl)), List.forall_mem_cons.mpr ⟨vk_ex (tb _ (gm_5 40 rfl)) (fl _ (List.mem_of_getElem? (i := 695) rfl)), List.forall_mem_cons.mpr ⟨vk_ex (tb _ (gm_5 86 rfl)) (fl _ (List.mem_of_getElem? (i := 719) rfl)), List.forall_mem_cons.mpr ⟨vk_ex (tb _ (gm_5 117 rfl)) (fl _ (List.mem_of_getElem? (i := 763) rfl)), List.forall_mem_cons.mpr ⟨vk_ex (tb _ (gm_5 140 rfl)) (fl _ (List.mem_of_getElem? (i := 793) rfl)), List.forall_mem_cons.mpr ⟨vk_ex (tb _ (gm_6 231 rfl)) (fl _ (List.mem_of_getElem? (i := 820) rfl)), List.forall_mem_cons.mpr ⟨vk_ex (tb _ (gm_7 3 rfl)) (fl _ (List.mem_of_getElem? (i := 824) rfl)), List.forall_mem_cons.mpr ⟨vk_ex (tb _ (gm_7 6 rfl)) (fl _ (List.mem_of_getElem? (i := 831) rfl)), List.forall_mem_cons.mpr ⟨vk_ex (tb _ (gm_7 7 rfl)) (fl _ (List.mem_of_getElem? (i := 836) rfl)), fun _ h => absurd h List.not_mem_nil⟩⟩⟩⟩⟩⟩⟩⟩⟩⟩⟩⟩⟩⟩⟩⟩⟩⟩⟩⟩⟩⟩⟩⟩⟩⟩
set_option maxRecDepth 100000 in
theorem ncl_ok {args : Array Value} {s : State} (fl : ∀ w ∈ FLL, w.before args s = true) : ∀ q ∈ NCL, va_Nc q.1 q.2 s := List.forall_mem_cons.mpr ⟨va_Nc.of (fl _ (List.mem_of_getElem? (i := 222) rfl)), List.forall_mem_cons.mpr ⟨va_Nc.of (fl _ (List.mem_of_getElem? (i := 223) rfl)), List.forall_mem_cons.mpr ⟨va_Nc.of (fl _ (List.mem_of_getElem? (i := 232) rfl)), fun _ h => absurd h List.not_mem_nil⟩⟩⟩
set_option maxRecDepth 100000 in
theorem lwX_of {args : Array Value} {s : State} {cy : Nat → ClassId} {A : Nat → Prop} (tb : ∀ w ∈ tables_1, w.before args s = true) (fl : ∀ w ∈ FLL, w.before args s = true) (hA : ∀ a : Nat, a < s.heap.size → ¬ A a) (hI : AOI cy s) : ∃ (aK aV : Nat → Nat) (tO tT : Nat), lwX cy aK aV tO tT gO0 gT0 A s s.heap := by
  obtain ⟨x0, y0, u0, v0⟩ := ks_one (own := "Splicemonoid$Part") (k := 75) (n := 2) (bs := [44, 32]) (by decide) (fl _ (List.mem_of_getElem? (i := 404) rfl)) (fl _ (List.mem_of_getElem? (i := 405) rfl)) (fl _ (List.mem_of_getElem? (i := 406) rfl)) (fl _ (List.mem_of_getElem? (i := 407) rfl)) (fun j hj => by
    rcases (show j = 0 ∨ j = 1 by omega) with rfl | rfl
    · exact (fl _ (List.mem_of_getElem? (i := 408) rfl))
    · exact (fl _ (List.mem_of_getElem? (i := 409) rfl))) hA
  obtain ⟨x1, y1, u1, v1⟩ := ks_one (own := "SplicemonoidModel") (k := 151) (n := 0) (bs := []) (by decide) (fl _ (List.mem_of_getElem? (i := 820) rfl)) (fl _ (List.mem_of_getElem? (i := 821) rfl)) (fl _ (List.mem_of_getElem? (i := 822) rfl)) (fl _ (List.mem_of_getElem? (i := 823) rfl)) (fun j hj => absurd hj (Nat.not_lt_zero _)) hA
  obtain ⟨x2, y2, u2, v2⟩ := ks_one (own := "SplicemonoidModel") (k := 166) (n := 2) (bs := [44, 32]) (by decide) (fl _ (List.mem_of_getElem? (i := 824) rfl)) (fl _ (List.mem_of_getElem? (i := 825) rfl)) (fl _ (List.mem_of_getElem? (i := 826) rfl)) (fl _ (List.mem_of_getElem? (i := 827) rfl)) (fun j hj => by
    rcases (show j = 0 ∨ j = 1 by omega) with rfl | rfl
    · exact (fl _ (List.mem_of_getElem? (i := 828) rfl))
    · exact (fl _ (List.mem_of_getElem? (i := 829) rfl))) hA
  obtain ⟨x3, y3, u3, v3⟩ := ks_one (own := "SplicemonoidModel") (k := 175) (n := 1) (bs := [91]) (by decide) (fl _ (List.mem_of_getElem? (i := 831) rfl)) (fl _ (List.mem_of_getElem? (i := 832) rfl)) (fl _ (List.mem_of_getElem? (i := 833) rfl)) (fl _ (List.mem_of_getElem? (i := 834) rfl)) (fun j hj => by
    obtain rfl : j = 0 := by omega
    exact (fl _ (List.mem_of_getElem? (i := 835) rfl))) hA
  obtain ⟨x4, y4, u4, v4⟩ := ks_one (own := "SplicemonoidModel") (k := 177) (n := 1) (bs := [93]) (by decide) (fl _ (List.mem_of_getElem? (i := 836) rfl)) (fl _ (List.mem_of_getElem? (i := 837) rfl)) (fl _ (List.mem_of_getElem? (i := 838) rfl)) (fl _ (List.mem_of_getElem? (i := 839) rfl)) (fun j hj => by
    obtain rfl : j = 0 := by omega
    exact (fl _ (List.mem_of_getElem? (i := 840) rfl))) hA
  obtain ⟨tO, o1, o2⟩ := va_Tof (args := args) (s := s) (tm := .static "java/lang/Integer" "DigitOnes" "[B") (ty := .byte) (N := 100) (f := fun j => .int (gO0 j)) (A := A) (by decide) (fl _ (List.mem_of_getElem? (i := 12) rfl)) (va_eqt (fl _ (List.mem_of_getElem? (i := 13) rfl))) (fun j hj => va_eqt (fl _ (List.mem_of_getElem? (digO j hj)))) hA
  obtain ⟨tT, p1, p2⟩ := va_Tof (args := args) (s := s) (tm := .static "java/lang/Integer" "DigitTens" "[B") (ty := .byte) (N := 100) (f := fun j => .int (gT0 j)) (A := A) (by decide) (fl _ (List.mem_of_getElem? (i := 115) rfl)) (va_eqt (fl _ (List.mem_of_getElem? (i := 116) rfl))) (fun j hj => va_eqt (fl _ (List.mem_of_getElem? (digT j hj)))) hA
  refine ⟨fun i => [x0, x1, x2, x3, x4].getD i 0, fun i => [y0, y1, y2, y3, y4].getD i 0, tO, tT, fun w hw => va_Nw.of (nwk_on (List.mem_filter.mp hw).2) (tb w (List.mem_filter.mp hw).1), ⟨?_, ?_⟩, srl_ok tb fl, hI, ⟨?_, ?_, ?_, ?_, o2, ?_, p2⟩, fun w hw => va_Nw.of (pvk_on (List.mem_filter.mp hw).2) (tb w (List.mem_filter.mp hw).1), ⟨va_AO.of (tb _ (gm_1 68 rfl)), va_AO.of (tb _ (gm_1 34 rfl)), aoai_of (tb _ (gm_5 193 rfl))⟩, ncl_ok fl⟩
  · exact vx_Zqof (tb _ (gm_2 2 rfl)) (tb _ (gm_1 6 rfl)) (fl _ (List.mem_of_getElem? (i := 4) rfl)) hA
  · exact vx_Zqof (tb _ (gm_2 4 rfl)) (tb _ (gm_1 6 rfl)) (fl _ (List.mem_of_getElem? (i := 5) rfl)) hA
  · intro i hi
    rcases (show i = 0 ∨ i = 1 ∨ i = 2 ∨ i = 3 ∨ i = 4 by omega) with rfl | rfl | rfl | rfl | rfl
    · exact u0
    · exact u1
    · exact u2
    · exact u3
    · exact u4
  · intro i q hq
    rcases Nat.lt_or_ge i 5 with hi | hi
    · rcases (show i = 0 ∨ i = 1 ∨ i = 2 ∨ i = 3 ∨ i = 4 by omega) with rfl | rfl | rfl | rfl | rfl
      · cases hq
        exact vk_R.of (tb _ (gm_3 163 rfl)) v0
      · cases hq
        exact vk_R.of (tb _ (gm_6 231 rfl)) v1
      · cases hq
        exact vk_R.of (tb _ (gm_7 3 rfl)) v2
      · cases hq
        exact vk_R.of (tb _ (gm_7 6 rfl)) v3
      · cases hq
        exact vk_R.of (tb _ (gm_7 7 rfl)) v4
    · rw [List.getElem?_eq_none (show KSL.length ≤ i from hi)] at hq
      cases hq
  · exact va_Zof (tb _ (gm_2 75 rfl)) (tb _ (gm_1 16 rfl)) (va_eqi (fl _ (List.mem_of_getElem? (i := 6) rfl))) hA
  · exact va_Zof (tb _ (gm_3 8 rfl)) (tb _ (gm_1 22 rfl)) o1 hA
  · exact va_Zof (tb _ (gm_3 10 rfl)) (tb _ (gm_1 22 rfl)) p1 hA
end PT_89
