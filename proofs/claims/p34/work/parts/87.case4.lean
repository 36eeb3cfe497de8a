/-! THE LAW'S CASES, 4 -/
theorem dL_law_1738 : decode cL_law 1738 = .ok (.aload_n 1, 1) := dqo_43 (kb_27 10 rfl)
theorem dL_law_1739 : decode cL_law 1739 = .ok (.aload_n 0, 1) := dqo_42 (kb_27 11 rfl)
theorem dL_law_1740 : decode cL_law 1740 = .ok (.iload 4, 2) := dqo_21 4 (kb_27 12 rfl) (kb_27 13 rfl)
theorem dL_law_1742 : decode cL_law 1742 = .ok (.iconst 1, 1) := dqo_4 (kb_27 14 rfl)
theorem dL_law_1743 : decode cL_law 1743 = .ok (.iadd, 1) := dqo_96 (kb_27 15 rfl)
theorem dL_law_1744 : decode cL_law 1744 = .ok (.iaload, 1) := dqo_46 (kb_27 16 rfl)
theorem dL_law_1745 : decode cL_law 1745 = .ok (.aload_n 0, 1) := dqo_42 (kb_27 17 rfl)
theorem dL_law_1746 : decode cL_law 1746 = .ok (.iload 4, 2) := dqo_21 4 (kb_27 18 rfl) (kb_27 19 rfl)
theorem dL_law_1748 : decode cL_law 1748 = .ok (.iconst 2, 1) := dqo_5 (kb_27 20 rfl)
theorem dL_law_1749 : decode cL_law 1749 = .ok (.iadd, 1) := dqo_96 (kb_27 21 rfl)
theorem dL_law_1750 : decode cL_law 1750 = .ok (.iaload, 1) := dqo_46 (kb_27 22 rfl)
theorem dL_law_1751 : decode cL_law 1751 = .ok (.aload_n 3, 1) := dqo_45 (kb_27 23 rfl)
theorem dL_law_1752 : decode cL_law 1752 = .ok (.invokestatic 300, 3) := dqo_184 1 44 (kb_27 24 rfl) (kb_27 25 rfl) (kb_27 26 rfl)
theorem dL_law_1755 : decode cL_law 1755 = .ok (.istore 5, 2) := dqo_54 5 (kb_27 27 rfl) (kb_27 28 rfl)
theorem dL_law_1757 : decode cL_law 1757 = .ok (.aload_n 2, 1) := dqo_44 (kb_27 29 rfl)
theorem dL_law_1758 : decode cL_law 1758 = .ok (.aload_n 0, 1) := dqo_42 (kb_27 30 rfl)
theorem dL_law_1759 : decode cL_law 1759 = .ok (.iload 4, 2) := dqo_21 4 (kb_27 31 rfl) (kb_27 32 rfl)
theorem dL_law_1761 : decode cL_law 1761 = .ok (.iconst 1, 1) := dqo_4 (kb_27 33 rfl)
theorem dL_law_1762 : decode cL_law 1762 = .ok (.iadd, 1) := dqo_96 (kb_27 34 rfl)
theorem dL_law_1763 : decode cL_law 1763 = .ok (.iaload, 1) := dqo_46 (kb_27 35 rfl)
theorem dL_law_1764 : decode cL_law 1764 = .ok (.aload_n 0, 1) := dqo_42 (kb_27 36 rfl)
theorem dL_law_1765 : decode cL_law 1765 = .ok (.iload 4, 2) := dqo_21 4 (kb_27 37 rfl) (kb_27 38 rfl)
theorem dL_law_1767 : decode cL_law 1767 = .ok (.iconst 2, 1) := dqo_5 (kb_27 39 rfl)
theorem dL_law_1768 : decode cL_law 1768 = .ok (.iadd, 1) := dqo_96 (kb_27 40 rfl)
theorem dL_law_1769 : decode cL_law 1769 = .ok (.iaload, 1) := dqo_46 (kb_27 41 rfl)
theorem dL_law_1770 : decode cL_law 1770 = .ok (.invokevirtual 302, 3) := dqo_182 1 46 (kb_27 42 rfl) (kb_27 43 rfl) (kb_27 44 rfl)
theorem dL_law_1773 : decode cL_law 1773 = .ok (.istore 6, 2) := dqo_54 6 (kb_27 45 rfl) (kb_27 46 rfl)
theorem dL_law_1775 : decode cL_law 1775 = .ok (.goto 354, 3) := dqo_167 1 98 (by decide) (kb_27 47 rfl) (kb_27 48 rfl) (kb_27 49 rfl)
theorem dL_law_1778 : decode cL_law 1778 = .ok (.aload_n 1, 1) := dqo_43 (kb_27 50 rfl)
theorem dL_law_1779 : decode cL_law 1779 = .ok (.aload_n 0, 1) := dqo_42 (kb_27 51 rfl)
theorem dL_law_1780 : decode cL_law 1780 = .ok (.iload 4, 2) := dqo_21 4 (kb_27 52 rfl) (kb_27 53 rfl)
theorem dL_law_1782 : decode cL_law 1782 = .ok (.iconst 1, 1) := dqo_4 (kb_27 54 rfl)
theorem dL_law_1783 : decode cL_law 1783 = .ok (.iadd, 1) := dqo_96 (kb_27 55 rfl)
theorem dL_law_1784 : decode cL_law 1784 = .ok (.iaload, 1) := dqo_46 (kb_27 56 rfl)
theorem dL_law_1785 : decode cL_law 1785 = .ok (.aload_n 0, 1) := dqo_42 (kb_27 57 rfl)
theorem dL_law_1786 : decode cL_law 1786 = .ok (.iload 4, 2) := dqo_21 4 (kb_27 58 rfl) (kb_27 59 rfl)
theorem dL_law_1788 : decode cL_law 1788 = .ok (.iconst 2, 1) := dqo_5 (kb_27 60 rfl)
theorem dL_law_1789 : decode cL_law 1789 = .ok (.iadd, 1) := dqo_96 (kb_27 61 rfl)
theorem dL_law_1790 : decode cL_law 1790 = .ok (.iaload, 1) := dqo_46 (kb_27 62 rfl)
theorem dL_law_1791 : decode cL_law 1791 = .ok (.aload_n 0, 1) := dqo_42 (kb_27 63 rfl)
theorem dL_law_1792 : decode cL_law 1792 = .ok (.iload 4, 2) := dqo_21 4 (kb_28 0 rfl) (kb_28 1 rfl)
theorem dL_law_1794 : decode cL_law 1794 = .ok (.iconst 3, 1) := dqo_6 (kb_28 2 rfl)
theorem dL_law_1795 : decode cL_law 1795 = .ok (.iadd, 1) := dqo_96 (kb_28 3 rfl)
theorem dL_law_1796 : decode cL_law 1796 = .ok (.iaload, 1) := dqo_46 (kb_28 4 rfl)
theorem dL_law_1797 : decode cL_law 1797 = .ok (.aload_n 3, 1) := dqo_45 (kb_28 5 rfl)
theorem dL_law_1798 : decode cL_law 1798 = .ok (.invokestatic 303, 3) := dqo_184 1 47 (kb_28 6 rfl) (kb_28 7 rfl) (kb_28 8 rfl)
theorem dL_law_1801 : decode cL_law 1801 = .ok (.istore 5, 2) := dqo_54 5 (kb_28 9 rfl) (kb_28 10 rfl)
theorem dL_law_1803 : decode cL_law 1803 = .ok (.aload_n 2, 1) := dqo_44 (kb_28 11 rfl)
theorem dL_law_1804 : decode cL_law 1804 = .ok (.aload_n 0, 1) := dqo_42 (kb_28 12 rfl)
theorem dL_law_1805 : decode cL_law 1805 = .ok (.iload 4, 2) := dqo_21 4 (kb_28 13 rfl) (kb_28 14 rfl)
theorem dL_law_1807 : decode cL_law 1807 = .ok (.iconst 1, 1) := dqo_4 (kb_28 15 rfl)
theorem dL_law_1808 : decode cL_law 1808 = .ok (.iadd, 1) := dqo_96 (kb_28 16 rfl)
theorem dL_law_1809 : decode cL_law 1809 = .ok (.iaload, 1) := dqo_46 (kb_28 17 rfl)
theorem dL_law_1810 : decode cL_law 1810 = .ok (.aload_n 0, 1) := dqo_42 (kb_28 18 rfl)
theorem dL_law_1811 : decode cL_law 1811 = .ok (.iload 4, 2) := dqo_21 4 (kb_28 19 rfl) (kb_28 20 rfl)
theorem dL_law_1813 : decode cL_law 1813 = .ok (.iconst 2, 1) := dqo_5 (kb_28 21 rfl)
theorem dL_law_1814 : decode cL_law 1814 = .ok (.iadd, 1) := dqo_96 (kb_28 22 rfl)
theorem dL_law_1815 : decode cL_law 1815 = .ok (.iaload, 1) := dqo_46 (kb_28 23 rfl)
theorem dL_law_1816 : decode cL_law 1816 = .ok (.aload_n 0, 1) := dqo_42 (kb_28 24 rfl)
theorem dL_law_1817 : decode cL_law 1817 = .ok (.iload 4, 2) := dqo_21 4 (kb_28 25 rfl) (kb_28 26 rfl)
theorem dL_law_1819 : decode cL_law 1819 = .ok (.iconst 3, 1) := dqo_6 (kb_28 27 rfl)
theorem dL_law_1820 : decode cL_law 1820 = .ok (.iadd, 1) := dqo_96 (kb_28 28 rfl)
theorem dL_law_1821 : decode cL_law 1821 = .ok (.iaload, 1) := dqo_46 (kb_28 29 rfl)
theorem dL_law_1822 : decode cL_law 1822 = .ok (.invokevirtual 305, 3) := dqo_182 1 49 (kb_28 30 rfl) (kb_28 31 rfl) (kb_28 32 rfl)
theorem dL_law_1825 : decode cL_law 1825 = .ok (.istore 6, 2) := dqo_54 6 (kb_28 33 rfl) (kb_28 34 rfl)
theorem dL_law_1827 : decode cL_law 1827 = .ok (.goto 302, 3) := dqo_167 1 46 (by decide) (kb_28 35 rfl) (kb_28 36 rfl) (kb_28 37 rfl)
theorem dL_law_1830 : decode cL_law 1830 = .ok (.aload_n 1, 1) := dqo_43 (kb_28 38 rfl)
theorem dL_law_1831 : decode cL_law 1831 = .ok (.aload_n 0, 1) := dqo_42 (kb_28 39 rfl)
theorem dL_law_1832 : decode cL_law 1832 = .ok (.iload 4, 2) := dqo_21 4 (kb_28 40 rfl) (kb_28 41 rfl)
theorem dL_law_1834 : decode cL_law 1834 = .ok (.iconst 1, 1) := dqo_4 (kb_28 42 rfl)
theorem dL_law_1835 : decode cL_law 1835 = .ok (.iadd, 1) := dqo_96 (kb_28 43 rfl)
theorem dL_law_1836 : decode cL_law 1836 = .ok (.iaload, 1) := dqo_46 (kb_28 44 rfl)
theorem dL_law_1837 : decode cL_law 1837 = .ok (.aload_n 3, 1) := dqo_45 (kb_28 45 rfl)
theorem dL_law_1838 : decode cL_law 1838 = .ok (.invokestatic 306, 3) := dqo_184 1 50 (kb_28 46 rfl) (kb_28 47 rfl) (kb_28 48 rfl)
theorem dL_law_1841 : decode cL_law 1841 = .ok (.istore 5, 2) := dqo_54 5 (kb_28 49 rfl) (kb_28 50 rfl)
theorem dL_law_1843 : decode cL_law 1843 = .ok (.aload_n 2, 1) := dqo_44 (kb_28 51 rfl)
theorem dL_law_1844 : decode cL_law 1844 = .ok (.aload_n 0, 1) := dqo_42 (kb_28 52 rfl)
theorem dL_law_1845 : decode cL_law 1845 = .ok (.iload 4, 2) := dqo_21 4 (kb_28 53 rfl) (kb_28 54 rfl)
theorem dL_law_1847 : decode cL_law 1847 = .ok (.iconst 1, 1) := dqo_4 (kb_28 55 rfl)
theorem dL_law_1848 : decode cL_law 1848 = .ok (.iadd, 1) := dqo_96 (kb_28 56 rfl)
theorem dL_law_1849 : decode cL_law 1849 = .ok (.iaload, 1) := dqo_46 (kb_28 57 rfl)
theorem dL_law_1850 : decode cL_law 1850 = .ok (.invokevirtual 308, 3) := dqo_182 1 52 (kb_28 58 rfl) (kb_28 59 rfl) (kb_28 60 rfl)
theorem dL_law_1853 : decode cL_law 1853 = .ok (.istore 6, 2) := dqo_54 6 (kb_28 61 rfl) (kb_28 62 rfl)
theorem dL_law_1855 : decode cL_law 1855 = .ok (.goto 274, 3) := dqo_167 1 18 (by decide) (kb_28 63 rfl) (kb_29 0 rfl) (kb_29 1 rfl)
theorem dL_law_1858 : decode cL_law 1858 = .ok (.aload_n 1, 1) := dqo_43 (kb_29 2 rfl)
theorem dL_law_1859 : decode cL_law 1859 = .ok (.aload_n 0, 1) := dqo_42 (kb_29 3 rfl)
theorem dL_law_1860 : decode cL_law 1860 = .ok (.iload 4, 2) := dqo_21 4 (kb_29 4 rfl) (kb_29 5 rfl)
theorem dL_law_1862 : decode cL_law 1862 = .ok (.iconst 1, 1) := dqo_4 (kb_29 6 rfl)
theorem dL_law_1863 : decode cL_law 1863 = .ok (.iadd, 1) := dqo_96 (kb_29 7 rfl)
theorem dL_law_1864 : decode cL_law 1864 = .ok (.iaload, 1) := dqo_46 (kb_29 8 rfl)
theorem dL_law_1865 : decode cL_law 1865 = .ok (.aload_n 3, 1) := dqo_45 (kb_29 9 rfl)
theorem dL_law_1866 : decode cL_law 1866 = .ok (.invokestatic 309, 3) := dqo_184 1 53 (kb_29 10 rfl) (kb_29 11 rfl) (kb_29 12 rfl)
theorem dL_law_1869 : decode cL_law 1869 = .ok (.istore 5, 2) := dqo_54 5 (kb_29 13 rfl) (kb_29 14 rfl)
theorem dL_law_1871 : decode cL_law 1871 = .ok (.aload_n 2, 1) := dqo_44 (kb_29 15 rfl)
theorem dL_law_1872 : decode cL_law 1872 = .ok (.aload_n 0, 1) := dqo_42 (kb_29 16 rfl)
theorem dL_law_1873 : decode cL_law 1873 = .ok (.iload 4, 2) := dqo_21 4 (kb_29 17 rfl) (kb_29 18 rfl)
theorem dL_law_1875 : decode cL_law 1875 = .ok (.iconst 1, 1) := dqo_4 (kb_29 19 rfl)
theorem dL_law_1876 : decode cL_law 1876 = .ok (.iadd, 1) := dqo_96 (kb_29 20 rfl)
theorem dL_law_1877 : decode cL_law 1877 = .ok (.iaload, 1) := dqo_46 (kb_29 21 rfl)
theorem dL_law_1878 : decode cL_law 1878 = .ok (.invokevirtual 311, 3) := dqo_182 1 55 (kb_29 22 rfl) (kb_29 23 rfl) (kb_29 24 rfl)
theorem dL_law_1881 : decode cL_law 1881 = .ok (.istore 6, 2) := dqo_54 6 (kb_29 25 rfl) (kb_29 26 rfl)
theorem dL_law_1883 : decode cL_law 1883 = .ok (.goto 246, 3) := dqo_167 0 246 (by decide) (kb_29 27 rfl) (kb_29 28 rfl) (kb_29 29 rfl)
theorem dL_law_1886 : decode cL_law 1886 = .ok (.aload_n 1, 1) := dqo_43 (kb_29 30 rfl)
theorem dL_law_1887 : decode cL_law 1887 = .ok (.aload_n 0, 1) := dqo_42 (kb_29 31 rfl)
theorem dL_law_1888 : decode cL_law 1888 = .ok (.iload 4, 2) := dqo_21 4 (kb_29 32 rfl) (kb_29 33 rfl)
theorem dL_law_1890 : decode cL_law 1890 = .ok (.iconst 1, 1) := dqo_4 (kb_29 34 rfl)
theorem dL_law_1891 : decode cL_law 1891 = .ok (.iadd, 1) := dqo_96 (kb_29 35 rfl)
theorem dL_law_1892 : decode cL_law 1892 = .ok (.iaload, 1) := dqo_46 (kb_29 36 rfl)
theorem dL_law_1893 : decode cL_law 1893 = .ok (.aload_n 3, 1) := dqo_45 (kb_29 37 rfl)
theorem dL_law_1894 : decode cL_law 1894 = .ok (.invokestatic 312, 3) := dqo_184 1 56 (kb_29 38 rfl) (kb_29 39 rfl) (kb_29 40 rfl)
theorem dL_law_1897 : decode cL_law 1897 = .ok (.istore 5, 2) := dqo_54 5 (kb_29 41 rfl) (kb_29 42 rfl)
theorem dL_law_1899 : decode cL_law 1899 = .ok (.aload_n 2, 1) := dqo_44 (kb_29 43 rfl)
theorem dL_law_1900 : decode cL_law 1900 = .ok (.aload_n 0, 1) := dqo_42 (kb_29 44 rfl)
theorem dL_law_1901 : decode cL_law 1901 = .ok (.iload 4, 2) := dqo_21 4 (kb_29 45 rfl) (kb_29 46 rfl)
theorem dL_law_1903 : decode cL_law 1903 = .ok (.iconst 1, 1) := dqo_4 (kb_29 47 rfl)
theorem dL_law_1904 : decode cL_law 1904 = .ok (.iadd, 1) := dqo_96 (kb_29 48 rfl)
theorem dL_law_1905 : decode cL_law 1905 = .ok (.iaload, 1) := dqo_46 (kb_29 49 rfl)
theorem dL_law_1906 : decode cL_law 1906 = .ok (.invokevirtual 314, 3) := dqo_182 1 58 (kb_29 50 rfl) (kb_29 51 rfl) (kb_29 52 rfl)
theorem dL_law_1909 : decode cL_law 1909 = .ok (.istore 6, 2) := dqo_54 6 (kb_29 53 rfl) (kb_29 54 rfl)
theorem dL_law_1911 : decode cL_law 1911 = .ok (.goto 218, 3) := dqo_167 0 218 (by decide) (kb_29 55 rfl) (kb_29 56 rfl) (kb_29 57 rfl)
theorem dL_law_1914 : decode cL_law 1914 = .ok (.aload_n 1, 1) := dqo_43 (kb_29 58 rfl)
theorem dL_law_1915 : decode cL_law 1915 = .ok (.aload_n 0, 1) := dqo_42 (kb_29 59 rfl)
theorem dL_law_1916 : decode cL_law 1916 = .ok (.iload 4, 2) := dqo_21 4 (kb_29 60 rfl) (kb_29 61 rfl)
theorem dL_law_1918 : decode cL_law 1918 = .ok (.iconst 1, 1) := dqo_4 (kb_29 62 rfl)
theorem dL_law_1919 : decode cL_law 1919 = .ok (.iadd, 1) := dqo_96 (kb_29 63 rfl)
theorem dL_law_1920 : decode cL_law 1920 = .ok (.iaload, 1) := dqo_46 (kb_30 0 rfl)
theorem dL_law_1921 : decode cL_law 1921 = .ok (.aload_n 0, 1) := dqo_42 (kb_30 1 rfl)
theorem dL_law_1922 : decode cL_law 1922 = .ok (.iload 4, 2) := dqo_21 4 (kb_30 2 rfl) (kb_30 3 rfl)
theorem dL_law_1924 : decode cL_law 1924 = .ok (.iconst 2, 1) := dqo_5 (kb_30 4 rfl)
theorem dL_law_1925 : decode cL_law 1925 = .ok (.iadd, 1) := dqo_96 (kb_30 5 rfl)
theorem dL_law_1926 : decode cL_law 1926 = .ok (.iaload, 1) := dqo_46 (kb_30 6 rfl)
theorem dL_law_1927 : decode cL_law 1927 = .ok (.aload_n 3, 1) := dqo_45 (kb_30 7 rfl)
theorem dL_law_1928 : decode cL_law 1928 = .ok (.invokestatic 315, 3) := dqo_184 1 59 (kb_30 8 rfl) (kb_30 9 rfl) (kb_30 10 rfl)
theorem dL_law_1931 : decode cL_law 1931 = .ok (.istore 5, 2) := dqo_54 5 (kb_30 11 rfl) (kb_30 12 rfl)
theorem dL_law_1933 : decode cL_law 1933 = .ok (.aload_n 2, 1) := dqo_44 (kb_30 13 rfl)
theorem dL_law_1934 : decode cL_law 1934 = .ok (.aload_n 0, 1) := dqo_42 (kb_30 14 rfl)
theorem dL_law_1935 : decode cL_law 1935 = .ok (.iload 4, 2) := dqo_21 4 (kb_30 15 rfl) (kb_30 16 rfl)
theorem dL_law_1937 : decode cL_law 1937 = .ok (.iconst 1, 1) := dqo_4 (kb_30 17 rfl)
theorem dL_law_1938 : decode cL_law 1938 = .ok (.iadd, 1) := dqo_96 (kb_30 18 rfl)
theorem dL_law_1939 : decode cL_law 1939 = .ok (.iaload, 1) := dqo_46 (kb_30 19 rfl)
theorem dL_law_1940 : decode cL_law 1940 = .ok (.aload_n 0, 1) := dqo_42 (kb_30 20 rfl)
theorem dL_law_1941 : decode cL_law 1941 = .ok (.iload 4, 2) := dqo_21 4 (kb_30 21 rfl) (kb_30 22 rfl)
theorem dL_law_1943 : decode cL_law 1943 = .ok (.iconst 2, 1) := dqo_5 (kb_30 23 rfl)
theorem dL_law_1944 : decode cL_law 1944 = .ok (.iadd, 1) := dqo_96 (kb_30 24 rfl)
theorem dL_law_1945 : decode cL_law 1945 = .ok (.iaload, 1) := dqo_46 (kb_30 25 rfl)
theorem dL_law_1946 : decode cL_law 1946 = .ok (.invokevirtual 317, 3) := dqo_182 1 61 (kb_30 26 rfl) (kb_30 27 rfl) (kb_30 28 rfl)
theorem dL_law_1949 : decode cL_law 1949 = .ok (.istore 6, 2) := dqo_54 6 (kb_30 29 rfl) (kb_30 30 rfl)
theorem dL_law_1951 : decode cL_law 1951 = .ok (.goto 178, 3) := dqo_167 0 178 (by decide) (kb_30 31 rfl) (kb_30 32 rfl) (kb_30 33 rfl)
theorem dL_law_1954 : decode cL_law 1954 = .ok (.aload_n 1, 1) := dqo_43 (kb_30 34 rfl)
theorem dL_law_1955 : decode cL_law 1955 = .ok (.aload_n 0, 1) := dqo_42 (kb_30 35 rfl)
theorem dL_law_1956 : decode cL_law 1956 = .ok (.iload 4, 2) := dqo_21 4 (kb_30 36 rfl) (kb_30 37 rfl)
theorem dL_law_1958 : decode cL_law 1958 = .ok (.iconst 1, 1) := dqo_4 (kb_30 38 rfl)
theorem dL_law_1959 : decode cL_law 1959 = .ok (.iadd, 1) := dqo_96 (kb_30 39 rfl)
theorem dL_law_1960 : decode cL_law 1960 = .ok (.iaload, 1) := dqo_46 (kb_30 40 rfl)
theorem dL_law_1961 : decode cL_law 1961 = .ok (.aload_n 3, 1) := dqo_45 (kb_30 41 rfl)
theorem dL_law_1962 : decode cL_law 1962 = .ok (.invokestatic 318, 3) := dqo_184 1 62 (kb_30 42 rfl) (kb_30 43 rfl) (kb_30 44 rfl)
theorem dL_law_1965 : decode cL_law 1965 = .ok (.istore 5, 2) := dqo_54 5 (kb_30 45 rfl) (kb_30 46 rfl)
theorem dL_law_1967 : decode cL_law 1967 = .ok (.aload_n 2, 1) := dqo_44 (kb_30 47 rfl)
theorem dL_law_1968 : decode cL_law 1968 = .ok (.aload_n 0, 1) := dqo_42 (kb_30 48 rfl)
theorem dL_law_1969 : decode cL_law 1969 = .ok (.iload 4, 2) := dqo_21 4 (kb_30 49 rfl) (kb_30 50 rfl)
theorem dL_law_1971 : decode cL_law 1971 = .ok (.iconst 1, 1) := dqo_4 (kb_30 51 rfl)
theorem dL_law_1972 : decode cL_law 1972 = .ok (.iadd, 1) := dqo_96 (kb_30 52 rfl)
theorem dL_law_1973 : decode cL_law 1973 = .ok (.iaload, 1) := dqo_46 (kb_30 53 rfl)
theorem dL_law_1974 : decode cL_law 1974 = .ok (.invokevirtual 320, 3) := dqo_182 1 64 (kb_30 54 rfl) (kb_30 55 rfl) (kb_30 56 rfl)
theorem dL_law_1977 : decode cL_law 1977 = .ok (.istore 6, 2) := dqo_54 6 (kb_30 57 rfl) (kb_30 58 rfl)
theorem dL_law_1979 : decode cL_law 1979 = .ok (.goto 150, 3) := dqo_167 0 150 (by decide) (kb_30 59 rfl) (kb_30 60 rfl) (kb_30 61 rfl)
theorem dL_law_1982 : decode cL_law 1982 = .ok (.aload_n 1, 1) := dqo_43 (kb_30 62 rfl)
theorem dL_law_1983 : decode cL_law 1983 = .ok (.aload_n 0, 1) := dqo_42 (kb_30 63 rfl)
theorem dL_law_1984 : decode cL_law 1984 = .ok (.iload 4, 2) := dqo_21 4 (kb_31 0 rfl) (kb_31 1 rfl)
theorem dL_law_1986 : decode cL_law 1986 = .ok (.iconst 1, 1) := dqo_4 (kb_31 2 rfl)
theorem dL_law_1987 : decode cL_law 1987 = .ok (.iadd, 1) := dqo_96 (kb_31 3 rfl)
theorem dL_law_1988 : decode cL_law 1988 = .ok (.iaload, 1) := dqo_46 (kb_31 4 rfl)
theorem dL_law_1989 : decode cL_law 1989 = .ok (.aload_n 0, 1) := dqo_42 (kb_31 5 rfl)
theorem dL_law_1990 : decode cL_law 1990 = .ok (.iload 4, 2) := dqo_21 4 (kb_31 6 rfl) (kb_31 7 rfl)
theorem dL_law_1992 : decode cL_law 1992 = .ok (.iconst 2, 1) := dqo_5 (kb_31 8 rfl)
theorem dL_law_1993 : decode cL_law 1993 = .ok (.iadd, 1) := dqo_96 (kb_31 9 rfl)
theorem dL_law_1994 : decode cL_law 1994 = .ok (.iaload, 1) := dqo_46 (kb_31 10 rfl)
theorem dL_law_1995 : decode cL_law 1995 = .ok (.aload_n 3, 1) := dqo_45 (kb_31 11 rfl)
theorem dL_law_1996 : decode cL_law 1996 = .ok (.invokestatic 321, 3) := dqo_184 1 65 (kb_31 12 rfl) (kb_31 13 rfl) (kb_31 14 rfl)
theorem dL_law_1999 : decode cL_law 1999 = .ok (.istore 5, 2) := dqo_54 5 (kb_31 15 rfl) (kb_31 16 rfl)
theorem dL_law_2001 : decode cL_law 2001 = .ok (.aload_n 2, 1) := dqo_44 (kb_31 17 rfl)
theorem dL_law_2002 : decode cL_law 2002 = .ok (.aload_n 0, 1) := dqo_42 (kb_31 18 rfl)
theorem dL_law_2003 : decode cL_law 2003 = .ok (.iload 4, 2) := dqo_21 4 (kb_31 19 rfl) (kb_31 20 rfl)
theorem dL_law_2005 : decode cL_law 2005 = .ok (.iconst 1, 1) := dqo_4 (kb_31 21 rfl)
theorem dL_law_2006 : decode cL_law 2006 = .ok (.iadd, 1) := dqo_96 (kb_31 22 rfl)
theorem dL_law_2007 : decode cL_law 2007 = .ok (.iaload, 1) := dqo_46 (kb_31 23 rfl)
theorem dL_law_2008 : decode cL_law 2008 = .ok (.aload_n 0, 1) := dqo_42 (kb_31 24 rfl)
theorem dL_law_2009 : decode cL_law 2009 = .ok (.iload 4, 2) := dqo_21 4 (kb_31 25 rfl) (kb_31 26 rfl)
theorem dL_law_2011 : decode cL_law 2011 = .ok (.iconst 2, 1) := dqo_5 (kb_31 27 rfl)
theorem dL_law_2012 : decode cL_law 2012 = .ok (.iadd, 1) := dqo_96 (kb_31 28 rfl)
theorem dL_law_2013 : decode cL_law 2013 = .ok (.iaload, 1) := dqo_46 (kb_31 29 rfl)
theorem dL_law_2014 : decode cL_law 2014 = .ok (.invokevirtual 323, 3) := dqo_182 1 67 (kb_31 30 rfl) (kb_31 31 rfl) (kb_31 32 rfl)
theorem dL_law_2017 : decode cL_law 2017 = .ok (.istore 6, 2) := dqo_54 6 (kb_31 33 rfl) (kb_31 34 rfl)
theorem dL_law_2019 : decode cL_law 2019 = .ok (.goto 110, 3) := dqo_167 0 110 (by decide) (kb_31 35 rfl) (kb_31 36 rfl) (kb_31 37 rfl)
theorem dL_law_2022 : decode cL_law 2022 = .ok (.aload_n 1, 1) := dqo_43 (kb_31 38 rfl)
theorem dL_law_2023 : decode cL_law 2023 = .ok (.aload_n 0, 1) := dqo_42 (kb_31 39 rfl)
theorem dL_law_2024 : decode cL_law 2024 = .ok (.iload 4, 2) := dqo_21 4 (kb_31 40 rfl) (kb_31 41 rfl)
theorem dL_law_2026 : decode cL_law 2026 = .ok (.iconst 1, 1) := dqo_4 (kb_31 42 rfl)
theorem dL_law_2027 : decode cL_law 2027 = .ok (.iadd, 1) := dqo_96 (kb_31 43 rfl)
theorem dL_law_2028 : decode cL_law 2028 = .ok (.iaload, 1) := dqo_46 (kb_31 44 rfl)
theorem dL_law_2029 : decode cL_law 2029 = .ok (.aload_n 0, 1) := dqo_42 (kb_31 45 rfl)
theorem dL_law_2030 : decode cL_law 2030 = .ok (.iload 4, 2) := dqo_21 4 (kb_31 46 rfl) (kb_31 47 rfl)
theorem dL_law_2032 : decode cL_law 2032 = .ok (.iconst 2, 1) := dqo_5 (kb_31 48 rfl)
theorem dL_law_2033 : decode cL_law 2033 = .ok (.iadd, 1) := dqo_96 (kb_31 49 rfl)
theorem dL_law_2034 : decode cL_law 2034 = .ok (.iaload, 1) := dqo_46 (kb_31 50 rfl)
theorem dL_law_2035 : decode cL_law 2035 = .ok (.aload_n 3, 1) := dqo_45 (kb_31 51 rfl)
theorem dL_law_2036 : decode cL_law 2036 = .ok (.invokestatic 324, 3) := dqo_184 1 68 (kb_31 52 rfl) (kb_31 53 rfl) (kb_31 54 rfl)
theorem dL_law_2039 : decode cL_law 2039 = .ok (.istore 5, 2) := dqo_54 5 (kb_31 55 rfl) (kb_31 56 rfl)
theorem dL_law_2041 : decode cL_law 2041 = .ok (.aload_n 2, 1) := dqo_44 (kb_31 57 rfl)
theorem dL_law_2042 : decode cL_law 2042 = .ok (.aload_n 0, 1) := dqo_42 (kb_31 58 rfl)
theorem dL_law_2043 : decode cL_law 2043 = .ok (.iload 4, 2) := dqo_21 4 (kb_31 59 rfl) (kb_31 60 rfl)
theorem dL_law_2045 : decode cL_law 2045 = .ok (.iconst 1, 1) := dqo_4 (kb_31 61 rfl)
theorem dL_law_2046 : decode cL_law 2046 = .ok (.iadd, 1) := dqo_96 (kb_31 62 rfl)
theorem dL_law_2047 : decode cL_law 2047 = .ok (.iaload, 1) := dqo_46 (kb_31 63 rfl)
theorem dL_law_2048 : decode cL_law 2048 = .ok (.aload_n 0, 1) := dqo_42 (kb_32 0 rfl)
theorem dL_law_2049 : decode cL_law 2049 = .ok (.iload 4, 2) := dqo_21 4 (kb_32 1 rfl) (kb_32 2 rfl)
theorem dL_law_2051 : decode cL_law 2051 = .ok (.iconst 2, 1) := dqo_5 (kb_32 3 rfl)
theorem dL_law_2052 : decode cL_law 2052 = .ok (.iadd, 1) := dqo_96 (kb_32 4 rfl)
theorem dL_law_2053 : decode cL_law 2053 = .ok (.iaload, 1) := dqo_46 (kb_32 5 rfl)
theorem dL_law_2054 : decode cL_law 2054 = .ok (.invokevirtual 326, 3) := dqo_182 1 70 (kb_32 6 rfl) (kb_32 7 rfl) (kb_32 8 rfl)
theorem dL_law_2057 : decode cL_law 2057 = .ok (.istore 6, 2) := dqo_54 6 (kb_32 9 rfl) (kb_32 10 rfl)
theorem dL_law_2059 : decode cL_law 2059 = .ok (.goto 70, 3) := dqo_167 0 70 (by decide) (kb_32 11 rfl) (kb_32 12 rfl) (kb_32 13 rfl)
theorem dL_law_2062 : decode cL_law 2062 = .ok (.aload_n 1, 1) := dqo_43 (kb_32 14 rfl)
theorem dL_law_2063 : decode cL_law 2063 = .ok (.aload_n 0, 1) := dqo_42 (kb_32 15 rfl)
theorem dL_law_2064 : decode cL_law 2064 = .ok (.iload 4, 2) := dqo_21 4 (kb_32 16 rfl) (kb_32 17 rfl)
theorem dL_law_2066 : decode cL_law 2066 = .ok (.iconst 1, 1) := dqo_4 (kb_32 18 rfl)
theorem dL_law_2067 : decode cL_law 2067 = .ok (.iadd, 1) := dqo_96 (kb_32 19 rfl)
theorem dL_law_2068 : decode cL_law 2068 = .ok (.iaload, 1) := dqo_46 (kb_32 20 rfl)
theorem dL_law_2069 : decode cL_law 2069 = .ok (.aload_n 3, 1) := dqo_45 (kb_32 21 rfl)
theorem dL_law_2070 : decode cL_law 2070 = .ok (.invokestatic 327, 3) := dqo_184 1 71 (kb_32 22 rfl) (kb_32 23 rfl) (kb_32 24 rfl)
theorem dL_law_2073 : decode cL_law 2073 = .ok (.istore 5, 2) := dqo_54 5 (kb_32 25 rfl) (kb_32 26 rfl)
theorem dL_law_2075 : decode cL_law 2075 = .ok (.aload_n 2, 1) := dqo_44 (kb_32 27 rfl)
theorem dL_law_2076 : decode cL_law 2076 = .ok (.aload_n 0, 1) := dqo_42 (kb_32 28 rfl)
theorem dL_law_2077 : decode cL_law 2077 = .ok (.iload 4, 2) := dqo_21 4 (kb_32 29 rfl) (kb_32 30 rfl)
theorem dL_law_2079 : decode cL_law 2079 = .ok (.iconst 1, 1) := dqo_4 (kb_32 31 rfl)
theorem dL_law_2080 : decode cL_law 2080 = .ok (.iadd, 1) := dqo_96 (kb_32 32 rfl)
theorem dL_law_2081 : decode cL_law 2081 = .ok (.iaload, 1) := dqo_46 (kb_32 33 rfl)
theorem dL_law_2082 : decode cL_law 2082 = .ok (.invokevirtual 329, 3) := dqo_182 1 73 (kb_32 34 rfl) (kb_32 35 rfl) (kb_32 36 rfl)
theorem dL_law_2085 : decode cL_law 2085 = .ok (.istore 6, 2) := dqo_54 6 (kb_32 37 rfl) (kb_32 38 rfl)
theorem dL_law_2087 : decode cL_law 2087 = .ok (.goto 42, 3) := dqo_167 0 42 (by decide) (kb_32 39 rfl) (kb_32 40 rfl) (kb_32 41 rfl)
theorem dL_law_2090 : decode cL_law 2090 = .ok (.aload_n 1, 1) := dqo_43 (kb_32 42 rfl)
theorem dL_law_2091 : decode cL_law 2091 = .ok (.invokevirtual 330, 3) := dqo_182 1 74 (kb_32 43 rfl) (kb_32 44 rfl) (kb_32 45 rfl)
theorem dL_law_2094 : decode cL_law 2094 = .ok (.pop, 1) := dqo_87 (kb_32 46 rfl)
theorem dL_law_2095 : decode cL_law 2095 = .ok (.aload_n 2, 1) := dqo_44 (kb_32 47 rfl)
theorem dL_law_2096 : decode cL_law 2096 = .ok (.invokevirtual 333, 3) := dqo_182 1 77 (kb_32 48 rfl) (kb_32 49 rfl) (kb_32 50 rfl)
theorem dL_law_2099 : decode cL_law 2099 = .ok (.pop, 1) := dqo_87 (kb_32 51 rfl)
theorem dL_law_2100 : decode cL_law 2100 = .ok (.goto 29, 3) := dqo_167 0 29 (by decide) (kb_32 52 rfl) (kb_32 53 rfl) (kb_32 54 rfl)
theorem dL_law_2103 : decode cL_law 2103 = .ok (.aload_n 1, 1) := dqo_43 (kb_32 55 rfl)
theorem dL_law_2104 : decode cL_law 2104 = .ok (.invokevirtual 334, 3) := dqo_182 1 78 (kb_32 56 rfl) (kb_32 57 rfl) (kb_32 58 rfl)
theorem dL_law_2107 : decode cL_law 2107 = .ok (.pop, 1) := dqo_87 (kb_32 59 rfl)
theorem dL_law_2108 : decode cL_law 2108 = .ok (.aload_n 2, 1) := dqo_44 (kb_32 60 rfl)
theorem dL_law_2109 : decode cL_law 2109 = .ok (.invokevirtual 338, 3) := dqo_182 1 82 (kb_32 61 rfl) (kb_32 62 rfl) (kb_32 63 rfl)
theorem dL_law_2112 : decode cL_law 2112 = .ok (.pop, 1) := by decide +kernel
theorem dL_law_2113 : decode cL_law 2113 = .ok (.goto 16, 3) := by decide +kernel
theorem dL_law_2116 : decode cL_law 2116 = .ok (.aload_n 1, 1) := by decide +kernel
theorem dL_law_2117 : decode cL_law 2117 = .ok (.invokevirtual 339, 3) := by decide +kernel
theorem dL_law_2120 : decode cL_law 2120 = .ok (.pop2, 1) := by decide +kernel
theorem dL_law_2121 : decode cL_law 2121 = .ok (.aload_n 2, 1) := by decide +kernel
theorem dL_law_2122 : decode cL_law 2122 = .ok (.invokevirtual 343, 3) := by decide +kernel
theorem dL_law_2125 : decode cL_law 2125 = .ok (.pop2, 1) := by decide +kernel
theorem dL_law_2126 : decode cL_law 2126 = .ok (.goto 3, 3) := by decide +kernel
theorem S_ofWindow {p : Program} {l : Launch} {e : Env} {s : State} {m : MethodId} {args : Array Value} {below : List Frame} {meth : Method} {c : Code} {D : va_G} {cy : Nat → ClassId} {A : Nat → Prop} {Q : State → Prop} {X : (Nat → Prop) → State → Heap → Prop} {aK aV : Nat → Nat} {tO tT : Nat} {gO gT : Nat → Int32} {a : Nat → Nat → Nat} {ba : Nat → Nat} {o b L i cells slots : Nat} {xs : Nat → Int32} {w : va_W} (C : Fg p s m args meth c cL_law 7 RL D cy A) (hE : X A s s.heap) (hT : EnvT X cy aK aV tO tT gO gT) (hN : EnvN X) (hl : l.stackTraces = false) (hx : va_X b L xs s s.heap) (hbl : b < s.heap.size) (hbA : ¬ A b) (hi : i + 5 ≤ L) (hL : L ≤ 2560) (hc : cells + 500 ≤ room_1.cells) (hs : slots + 10000 ≤ room_1.slots) (hJ : JW cy a ba o w) (kk : ∀ w' : va_W, JW cy a ba o w' → vW p l e room_1 s m args below meth c D vwCl A Q 7 (cells + 500) (slots + 10000) w' [some (.ref b), some (.ref (a 0 0)), some (.ref (ba 9)), some (.ref o), some (.int (nI i)), none, none] 2129 []) : vW p l e room_1 s m args below meth c D vwCl A Q 7 cells slots w [some (.ref b), some (.ref (a 0 0)), some (.ref (ba 9)), some (.ref o), some (.int (nI i)), none, none] 1738 [] := by
  have hX := hT.1.1
  obtain ⟨f, r, hf, hq, kn, ra, th, sm, n, v, hC, hB, hM, rfl⟩ := hJ
  refine r_aload_n C dL_law_1738 rfl ?_
  refine r_aload_n C dL_law_1739 rfl ?_
  refine r_iload C dL_law_1740 rfl ?_
  refine r_iconst (v := nI 1) C dL_law_1742 (by decide) ?_
  refine r_iaddN C dL_law_1743 ?_
  refine r_sld C hx hbl hbA (show i + 1 < L by omega) (by omega) dL_law_1744 ?_
  refine r_aload_n C dL_law_1745 rfl ?_
  refine r_iload C dL_law_1746 rfl ?_
  refine r_iconst (v := nI 2) C dL_law_1748 (by decide) ?_
  refine r_iaddN C dL_law_1749 ?_
  refine r_sld C hx hbl hbA (show i + 2 < L by omega) (by omega) dL_law_1750 ?_
  refine r_aload_n C dL_law_1751 rfl ?_
  refine c_SH (st := []) hX.1.stb C hE (W_ofWindow hX.1 hN hC hB hM (P_ofWindow hX hl hC hB hM (xs (i + 1)) (xs (i + 2)))) pk_L_ofWindow qm_L_300 rfl rfl (Nat.le_of_ble_eq_true rfl) dL_law_1752 ⟨(Nat.le_of_ble_eq_true rfl), (Nat.le_of_ble_eq_true rfl)⟩ ⟨show cells + 1 ≤ room_1.cells by omega, show slots + 6 ≤ room_1.slots by omega⟩ (fun v9 w9 h9 => ?_) (fun _ h9 => h9.elim)
  obtain ⟨f', r', k, n1, rfl, rfl, hf', hq', n2, hC', hB', hM', hk0, hk4, h2⟩ := h9
  refine r_istore C dL_law_1755 (by decide) rfl ?_
  refine r_aload_n C dL_law_1757 rfl ?_
  refine r_aload_n C dL_law_1758 rfl ?_
  refine r_iload C dL_law_1759 rfl ?_
  refine r_iconst (v := nI 1) C dL_law_1761 (by decide) ?_
  refine r_iaddN C dL_law_1762 ?_
  refine r_sld C hx hbl hbA (show i + 1 < L by omega) (by omega) dL_law_1763 ?_
  refine r_aload_n C dL_law_1764 rfl ?_
  refine r_iload C dL_law_1765 rfl ?_
  refine r_iconst (v := nI 2) C dL_law_1767 (by decide) ?_
  refine r_iaddN C dL_law_1768 ?_
  refine r_sld C hx hbl hbA (show i + 2 < L by omega) (by omega) dL_law_1769 ?_
  refine t_swap3 ?_
  refine c_V (st := []) hX.1.stb C hE (h2 _) pk_X4_ofWindow qm_L_302 0 8 rfl rfl wm_0 rfl rfl (Nat.le_of_ble_eq_true rfl) dL_law_1770 ⟨(Nat.le_of_ble_eq_true rfl), (Nat.le_of_ble_eq_true rfl)⟩ ⟨show cells + 1 + 4 ≤ room_1.cells by omega, show slots + 6 + 48 ≤ room_1.slots by omega⟩ (fun v9 w9 h9 => ?_) (fun _ h9 => h9.elim)
  obtain ⟨ra9, rfl, rfl⟩ := h9
  refine r_istore C dL_law_1773 (by decide) rfl ?_
  refine t_swap3 ?_
  refine r_goto (tgt := 2129) C dL_law_1775 (by decide) ?_
  refine r_widen (k := cells + 500) (n := slots + 10000) (show cells + 1 + 4 ≤ cells + 500 by omega) (show slots + 6 + 48 ≤ slots + 10000 by omega) ?_
  refine r_drop 5 ?_
  refine r_drop 6 ?_
  exact kk _ ⟨f', r', hf', hq', kn, ra9, _, sm, _, _, hC', hB', hM', rfl⟩
theorem S_open {p : Program} {l : Launch} {e : Env} {s : State} {m : MethodId} {args : Array Value} {below : List Frame} {meth : Method} {c : Code} {D : va_G} {cy : Nat → ClassId} {A : Nat → Prop} {Q : State → Prop} {X : (Nat → Prop) → State → Heap → Prop} {aK aV : Nat → Nat} {tO tT : Nat} {gO gT : Nat → Int32} {a : Nat → Nat → Nat} {ba : Nat → Nat} {o b L i cells slots : Nat} {xs : Nat → Int32} {w : va_W} (C : Fg p s m args meth c cL_law 7 RL D cy A) (hE : X A s s.heap) (hT : EnvT X cy aK aV tO tT gO gT) (hN : EnvN X) (hl : l.stackTraces = false) (hx : va_X b L xs s s.heap) (hbl : b < s.heap.size) (hbA : ¬ A b) (hi : i + 5 ≤ L) (hL : L ≤ 2560) (hc : cells + 500 ≤ room_1.cells) (hs : slots + 10000 ≤ room_1.slots) (hJ : JW cy a ba o w) (kk : ∀ w' : va_W, JW cy a ba o w' → vW p l e room_1 s m args below meth c D vwCl A Q 7 (cells + 500) (slots + 10000) w' [some (.ref b), some (.ref (a 0 0)), some (.ref (ba 9)), some (.ref o), some (.int (nI i)), none, none] 2129 []) : vW p l e room_1 s m args below meth c D vwCl A Q 7 cells slots w [some (.ref b), some (.ref (a 0 0)), some (.ref (ba 9)), some (.ref o), some (.int (nI i)), none, none] 1778 [] := by
  have hX := hT.1.1
  obtain ⟨f, r, hf, hq, kn, ra, th, sm, n, v, hC, hB, hM, rfl⟩ := hJ
  refine r_aload_n C dL_law_1778 rfl ?_
  refine r_aload_n C dL_law_1779 rfl ?_
  refine r_iload C dL_law_1780 rfl ?_
  refine r_iconst (v := nI 1) C dL_law_1782 (by decide) ?_
  refine r_iaddN C dL_law_1783 ?_
  refine r_sld C hx hbl hbA (show i + 1 < L by omega) (by omega) dL_law_1784 ?_
  refine r_aload_n C dL_law_1785 rfl ?_
  refine r_iload C dL_law_1786 rfl ?_
  refine r_iconst (v := nI 2) C dL_law_1788 (by decide) ?_
  refine r_iaddN C dL_law_1789 ?_
  refine r_sld C hx hbl hbA (show i + 2 < L by omega) (by omega) dL_law_1790 ?_
  refine r_aload_n C dL_law_1791 rfl ?_
  refine r_iload C dL_law_1792 rfl ?_
  refine r_iconst (v := nI 3) C dL_law_1794 (by decide) ?_
  refine r_iaddN C dL_law_1795 ?_
  refine r_sld C hx hbl hbA (show i + 3 < L by omega) (by omega) dL_law_1796 ?_
  refine r_aload_n C dL_law_1797 rfl ?_
  refine c_SH (st := []) hX.1.stb C hE (W_open hX.1 hN hC hB hM (P_open hX hl hC hB hM (xs (i + 1)) (xs (i + 2)) (xs (i + 3)))) pk_L_open qm_L_303 rfl rfl (Nat.le_of_ble_eq_true rfl) dL_law_1798 ⟨(Nat.le_of_ble_eq_true rfl), (Nat.le_of_ble_eq_true rfl)⟩ ⟨show cells + 1 ≤ room_1.cells by omega, show slots + 6 ≤ room_1.slots by omega⟩ (fun v9 w9 h9 => ?_) (fun _ h9 => h9.elim)
  obtain ⟨f', r', k, n1, rfl, rfl, hf', hq', n2, hC', hB', hM', hk0, hk4, h2⟩ := h9
  refine r_istore C dL_law_1801 (by decide) rfl ?_
  refine r_aload_n C dL_law_1803 rfl ?_
  refine r_aload_n C dL_law_1804 rfl ?_
  refine r_iload C dL_law_1805 rfl ?_
  refine r_iconst (v := nI 1) C dL_law_1807 (by decide) ?_
  refine r_iaddN C dL_law_1808 ?_
  refine r_sld C hx hbl hbA (show i + 1 < L by omega) (by omega) dL_law_1809 ?_
  refine r_aload_n C dL_law_1810 rfl ?_
  refine r_iload C dL_law_1811 rfl ?_
  refine r_iconst (v := nI 2) C dL_law_1813 (by decide) ?_
  refine r_iaddN C dL_law_1814 ?_
  refine r_sld C hx hbl hbA (show i + 2 < L by omega) (by omega) dL_law_1815 ?_
  refine r_aload_n C dL_law_1816 rfl ?_
  refine r_iload C dL_law_1817 rfl ?_
  refine r_iconst (v := nI 3) C dL_law_1819 (by decide) ?_
  refine r_iaddN C dL_law_1820 ?_
  refine r_sld C hx hbl hbA (show i + 3 < L by omega) (by omega) dL_law_1821 ?_
  refine t_swap3 ?_
  refine c_V (st := []) hX.1.stb C hE (h2 _) pk_X4_open qm_L_305 0 8 rfl rfl wm_0 rfl rfl (Nat.le_of_ble_eq_true rfl) dL_law_1822 ⟨(Nat.le_of_ble_eq_true rfl), (Nat.le_of_ble_eq_true rfl)⟩ ⟨show cells + 1 + 4 ≤ room_1.cells by omega, show slots + 6 + 48 ≤ room_1.slots by omega⟩ (fun v9 w9 h9 => ?_) (fun _ h9 => h9.elim)
  obtain ⟨ra9, rfl, rfl⟩ := h9
  refine r_istore C dL_law_1825 (by decide) rfl ?_
  refine t_swap3 ?_
  refine r_goto (tgt := 2129) C dL_law_1827 (by decide) ?_
  refine r_widen (k := cells + 500) (n := slots + 10000) (show cells + 1 + 4 ≤ cells + 500 by omega) (show slots + 6 + 48 ≤ slots + 10000 by omega) ?_
  refine r_drop 5 ?_
  refine r_drop 6 ?_
  exact kk _ ⟨f', r', hf', hq', kn, ra9, _, sm, _, _, hC', hB', hM', rfl⟩
theorem S_shut {p : Program} {l : Launch} {e : Env} {s : State} {m : MethodId} {args : Array Value} {below : List Frame} {meth : Method} {c : Code} {D : va_G} {cy : Nat → ClassId} {A : Nat → Prop} {Q : State → Prop} {X : (Nat → Prop) → State → Heap → Prop} {aK aV : Nat → Nat} {tO tT : Nat} {gO gT : Nat → Int32} {a : Nat → Nat → Nat} {ba : Nat → Nat} {o b L i cells slots : Nat} {xs : Nat → Int32} {w : va_W} (C : Fg p s m args meth c cL_law 7 RL D cy A) (hE : X A s s.heap) (hT : EnvT X cy aK aV tO tT gO gT) (hN : EnvN X) (hl : l.stackTraces = false) (hx : va_X b L xs s s.heap) (hbl : b < s.heap.size) (hbA : ¬ A b) (hi : i + 5 ≤ L) (hL : L ≤ 2560) (hc : cells + 500 ≤ room_1.cells) (hs : slots + 10000 ≤ room_1.slots) (hJ : JW cy a ba o w) (kk : ∀ w' : va_W, JW cy a ba o w' → vW p l e room_1 s m args below meth c D vwCl A Q 7 (cells + 500) (slots + 10000) w' [some (.ref b), some (.ref (a 0 0)), some (.ref (ba 9)), some (.ref o), some (.int (nI i)), none, none] 2129 []) : vW p l e room_1 s m args below meth c D vwCl A Q 7 cells slots w [some (.ref b), some (.ref (a 0 0)), some (.ref (ba 9)), some (.ref o), some (.int (nI i)), none, none] 1830 [] := by
  have hX := hT.1.1
  obtain ⟨f, r, hf, hq, kn, ra, th, sm, n, v, hC, hB, hM, rfl⟩ := hJ
  refine r_aload_n C dL_law_1830 rfl ?_
  refine r_aload_n C dL_law_1831 rfl ?_
  refine r_iload C dL_law_1832 rfl ?_
  refine r_iconst (v := nI 1) C dL_law_1834 (by decide) ?_
  refine r_iaddN C dL_law_1835 ?_
  refine r_sld C hx hbl hbA (show i + 1 < L by omega) (by omega) dL_law_1836 ?_
  refine r_aload_n C dL_law_1837 rfl ?_
  refine c_SH (st := []) hX.1.stb C hE (W_shut hX.1 hN hC hB hM (P_shut hX hl hC hB hM (xs (i + 1)))) pk_L_shut qm_L_306 rfl rfl (Nat.le_of_ble_eq_true rfl) dL_law_1838 ⟨(Nat.le_of_ble_eq_true rfl), (Nat.le_of_ble_eq_true rfl)⟩ ⟨show cells + 1 ≤ room_1.cells by omega, show slots + 6 ≤ room_1.slots by omega⟩ (fun v9 w9 h9 => ?_) (fun _ h9 => h9.elim)
  obtain ⟨f', r', k, n1, rfl, rfl, hf', hq', n2, hC', hB', hM', hk0, hk4, h2⟩ := h9
  refine r_istore C dL_law_1841 (by decide) rfl ?_
  refine r_aload_n C dL_law_1843 rfl ?_
  refine r_aload_n C dL_law_1844 rfl ?_
  refine r_iload C dL_law_1845 rfl ?_
  refine r_iconst (v := nI 1) C dL_law_1847 (by decide) ?_
  refine r_iaddN C dL_law_1848 ?_
  refine r_sld C hx hbl hbA (show i + 1 < L by omega) (by omega) dL_law_1849 ?_
  refine t_swap3 ?_
  refine c_V (st := []) hX.1.stb C hE (h2 _) pk_X4_shut qm_L_308 0 8 rfl rfl wm_0 rfl rfl (Nat.le_of_ble_eq_true rfl) dL_law_1850 ⟨(Nat.le_of_ble_eq_true rfl), (Nat.le_of_ble_eq_true rfl)⟩ ⟨show cells + 1 + 4 ≤ room_1.cells by omega, show slots + 6 + 48 ≤ room_1.slots by omega⟩ (fun v9 w9 h9 => ?_) (fun _ h9 => h9.elim)
  obtain ⟨ra9, rfl, rfl⟩ := h9
  refine r_istore C dL_law_1853 (by decide) rfl ?_
  refine t_swap3 ?_
  refine r_goto (tgt := 2129) C dL_law_1855 (by decide) ?_
  refine r_widen (k := cells + 500) (n := slots + 10000) (show cells + 1 + 4 ≤ cells + 500 by omega) (show slots + 6 + 48 ≤ slots + 10000 by omega) ?_
  refine r_drop 5 ?_
  refine r_drop 6 ?_
  exact kk _ ⟨f', r', hf', hq', kn, ra9, _, sm, _, _, hC', hB', hM', rfl⟩
theorem S_next {p : Program} {l : Launch} {e : Env} {s : State} {m : MethodId} {args : Array Value} {below : List Frame} {meth : Method} {c : Code} {D : va_G} {cy : Nat → ClassId} {A : Nat → Prop} {Q : State → Prop} {X : (Nat → Prop) → State → Heap → Prop} {aK aV : Nat → Nat} {tO tT : Nat} {gO gT : Nat → Int32} {a : Nat → Nat → Nat} {ba : Nat → Nat} {o b L i cells slots : Nat} {xs : Nat → Int32} {w : va_W} (C : Fg p s m args meth c cL_law 7 RL D cy A) (hE : X A s s.heap) (hT : EnvT X cy aK aV tO tT gO gT) (hN : EnvN X) (hl : l.stackTraces = false) (hx : va_X b L xs s s.heap) (hbl : b < s.heap.size) (hbA : ¬ A b) (hi : i + 5 ≤ L) (hL : L ≤ 2560) (hc : cells + 500 ≤ room_1.cells) (hs : slots + 10000 ≤ room_1.slots) (hJ : JW cy a ba o w) (kk : ∀ w' : va_W, JW cy a ba o w' → vW p l e room_1 s m args below meth c D vwCl A Q 7 (cells + 500) (slots + 10000) w' [some (.ref b), some (.ref (a 0 0)), some (.ref (ba 9)), some (.ref o), some (.int (nI i)), none, none] 2129 []) : vW p l e room_1 s m args below meth c D vwCl A Q 7 cells slots w [some (.ref b), some (.ref (a 0 0)), some (.ref (ba 9)), some (.ref o), some (.int (nI i)), none, none] 1858 [] := by
  have hX := hT.1.1
  obtain ⟨f, r, hf, hq, kn, ra, th, sm, n, v, hC, hB, hM, rfl⟩ := hJ
  refine r_aload_n C dL_law_1858 rfl ?_
  refine r_aload_n C dL_law_1859 rfl ?_
  refine r_iload C dL_law_1860 rfl ?_
  refine r_iconst (v := nI 1) C dL_law_1862 (by decide) ?_
  refine r_iaddN C dL_law_1863 ?_
  refine r_sld C hx hbl hbA (show i + 1 < L by omega) (by omega) dL_law_1864 ?_
  refine r_aload_n C dL_law_1865 rfl ?_
  refine c_SH (st := []) hX.1.stb C hE (W_next hX.1 hN hC hB hM (P_next hX hl hC hB hM (xs (i + 1)))) pk_L_next qm_L_309 rfl rfl (Nat.le_of_ble_eq_true rfl) dL_law_1866 ⟨(Nat.le_of_ble_eq_true rfl), (Nat.le_of_ble_eq_true rfl)⟩ ⟨show cells + 1 ≤ room_1.cells by omega, show slots + 6 ≤ room_1.slots by omega⟩ (fun v9 w9 h9 => ?_) (fun _ h9 => h9.elim)
  obtain ⟨f', r', k, n1, rfl, rfl, hf', hq', n2, hC', hB', hM', hk0, hk4, h2⟩ := h9
  refine r_istore C dL_law_1869 (by decide) rfl ?_
  refine r_aload_n C dL_law_1871 rfl ?_
  refine r_aload_n C dL_law_1872 rfl ?_
  refine r_iload C dL_law_1873 rfl ?_
  refine r_iconst (v := nI 1) C dL_law_1875 (by decide) ?_
  refine r_iaddN C dL_law_1876 ?_
  refine r_sld C hx hbl hbA (show i + 1 < L by omega) (by omega) dL_law_1877 ?_
  refine t_swap3 ?_
  refine c_V (st := []) hX.1.stb C hE (h2 _) pk_X4_next qm_L_311 0 8 rfl rfl wm_0 rfl rfl (Nat.le_of_ble_eq_true rfl) dL_law_1878 ⟨(Nat.le_of_ble_eq_true rfl), (Nat.le_of_ble_eq_true rfl)⟩ ⟨show cells + 1 + 4 ≤ room_1.cells by omega, show slots + 6 + 48 ≤ room_1.slots by omega⟩ (fun v9 w9 h9 => ?_) (fun _ h9 => h9.elim)
  obtain ⟨ra9, rfl, rfl⟩ := h9
  refine r_istore C dL_law_1881 (by decide) rfl ?_
  refine t_swap3 ?_
  refine r_goto (tgt := 2129) C dL_law_1883 (by decide) ?_
  refine r_widen (k := cells + 500) (n := slots + 10000) (show cells + 1 + 4 ≤ cells + 500 by omega) (show slots + 6 + 48 ≤ slots + 10000 by omega) ?_
  refine r_drop 5 ?_
  refine r_drop 6 ?_
  exact kk _ ⟨f', r', hf', hq', kn, ra9, _, sm, _, _, hC', hB', hM', rfl⟩
theorem S_previous {p : Program} {l : Launch} {e : Env} {s : State} {m : MethodId} {args : Array Value} {below : List Frame} {meth : Method} {c : Code} {D : va_G} {cy : Nat → ClassId} {A : Nat → Prop} {Q : State → Prop} {X : (Nat → Prop) → State → Heap → Prop} {aK aV : Nat → Nat} {tO tT : Nat} {gO gT : Nat → Int32} {a : Nat → Nat → Nat} {ba : Nat → Nat} {o b L i cells slots : Nat} {xs : Nat → Int32} {w : va_W} (C : Fg p s m args meth c cL_law 7 RL D cy A) (hE : X A s s.heap) (hT : EnvT X cy aK aV tO tT gO gT) (hN : EnvN X) (hl : l.stackTraces = false) (hx : va_X b L xs s s.heap) (hbl : b < s.heap.size) (hbA : ¬ A b) (hi : i + 5 ≤ L) (hL : L ≤ 2560) (hc : cells + 500 ≤ room_1.cells) (hs : slots + 10000 ≤ room_1.slots) (hJ : JW cy a ba o w) (kk : ∀ w' : va_W, JW cy a ba o w' → vW p l e room_1 s m args below meth c D vwCl A Q 7 (cells + 500) (slots + 10000) w' [some (.ref b), some (.ref (a 0 0)), some (.ref (ba 9)), some (.ref o), some (.int (nI i)), none, none] 2129 []) : vW p l e room_1 s m args below meth c D vwCl A Q 7 cells slots w [some (.ref b), some (.ref (a 0 0)), some (.ref (ba 9)), some (.ref o), some (.int (nI i)), none, none] 1886 [] := by
  have hX := hT.1.1
  obtain ⟨f, r, hf, hq, kn, ra, th, sm, n, v, hC, hB, hM, rfl⟩ := hJ
  refine r_aload_n C dL_law_1886 rfl ?_
  refine r_aload_n C dL_law_1887 rfl ?_
  refine r_iload C dL_law_1888 rfl ?_
  refine r_iconst (v := nI 1) C dL_law_1890 (by decide) ?_
  refine r_iaddN C dL_law_1891 ?_
  refine r_sld C hx hbl hbA (show i + 1 < L by omega) (by omega) dL_law_1892 ?_
  refine r_aload_n C dL_law_1893 rfl ?_
  refine c_SH (st := []) hX.1.stb C hE (W_previous hX.1 hN hC hB hM (P_previous hX hl hC hB hM (xs (i + 1)))) pk_L_previous qm_L_312 rfl rfl (Nat.le_of_ble_eq_true rfl) dL_law_1894 ⟨(Nat.le_of_ble_eq_true rfl), (Nat.le_of_ble_eq_true rfl)⟩ ⟨show cells + 1 ≤ room_1.cells by omega, show slots + 6 ≤ room_1.slots by omega⟩ (fun v9 w9 h9 => ?_) (fun _ h9 => h9.elim)
  obtain ⟨f', r', k, n1, rfl, rfl, hf', hq', n2, hC', hB', hM', hk0, hk4, h2⟩ := h9
  refine r_istore C dL_law_1897 (by decide) rfl ?_
  refine r_aload_n C dL_law_1899 rfl ?_
  refine r_aload_n C dL_law_1900 rfl ?_
  refine r_iload C dL_law_1901 rfl ?_
  refine r_iconst (v := nI 1) C dL_law_1903 (by decide) ?_
  refine r_iaddN C dL_law_1904 ?_
  refine r_sld C hx hbl hbA (show i + 1 < L by omega) (by omega) dL_law_1905 ?_
  refine t_swap3 ?_
  refine c_V (st := []) hX.1.stb C hE (h2 _) pk_X4_previous qm_L_314 0 8 rfl rfl wm_0 rfl rfl (Nat.le_of_ble_eq_true rfl) dL_law_1906 ⟨(Nat.le_of_ble_eq_true rfl), (Nat.le_of_ble_eq_true rfl)⟩ ⟨show cells + 1 + 4 ≤ room_1.cells by omega, show slots + 6 + 48 ≤ room_1.slots by omega⟩ (fun v9 w9 h9 => ?_) (fun _ h9 => h9.elim)
  obtain ⟨ra9, rfl, rfl⟩ := h9
  refine r_istore C dL_law_1909 (by decide) rfl ?_
  refine t_swap3 ?_
  refine r_goto (tgt := 2129) C dL_law_1911 (by decide) ?_
  refine r_widen (k := cells + 500) (n := slots + 10000) (show cells + 1 + 4 ≤ cells + 500 by omega) (show slots + 6 + 48 ≤ slots + 10000 by omega) ?_
  refine r_drop 5 ?_
  refine r_drop 6 ?_
  exact kk _ ⟨f', r', hf', hq', kn, ra9, _, sm, _, _, hC', hB', hM', rfl⟩
theorem S_put {p : Program} {l : Launch} {e : Env} {s : State} {m : MethodId} {args : Array Value} {below : List Frame} {meth : Method} {c : Code} {D : va_G} {cy : Nat → ClassId} {A : Nat → Prop} {Q : State → Prop} {X : (Nat → Prop) → State → Heap → Prop} {aK aV : Nat → Nat} {tO tT : Nat} {gO gT : Nat → Int32} {a : Nat → Nat → Nat} {ba : Nat → Nat} {o b L i cells slots : Nat} {xs : Nat → Int32} {w : va_W} (C : Fg p s m args meth c cL_law 7 RL D cy A) (hE : X A s s.heap) (hT : EnvT X cy aK aV tO tT gO gT) (hN : EnvN X) (hl : l.stackTraces = false) (hx : va_X b L xs s s.heap) (hbl : b < s.heap.size) (hbA : ¬ A b) (hi : i + 5 ≤ L) (hL : L ≤ 2560) (hc : cells + 500 ≤ room_1.cells) (hs : slots + 10000 ≤ room_1.slots) (hJ : JW cy a ba o w) (kk : ∀ w' : va_W, JW cy a ba o w' → vW p l e room_1 s m args below meth c D vwCl A Q 7 (cells + 500) (slots + 10000) w' [some (.ref b), some (.ref (a 0 0)), some (.ref (ba 9)), some (.ref o), some (.int (nI i)), none, none] 2129 []) : vW p l e room_1 s m args below meth c D vwCl A Q 7 cells slots w [some (.ref b), some (.ref (a 0 0)), some (.ref (ba 9)), some (.ref o), some (.int (nI i)), none, none] 1914 [] := by
  have hX := hT.1.1
  obtain ⟨f, r, hf, hq, kn, ra, th, sm, n, v, hC, hB, hM, rfl⟩ := hJ
  refine r_aload_n C dL_law_1914 rfl ?_
  refine r_aload_n C dL_law_1915 rfl ?_
  refine r_iload C dL_law_1916 rfl ?_
  refine r_iconst (v := nI 1) C dL_law_1918 (by decide) ?_
  refine r_iaddN C dL_law_1919 ?_
  refine r_sld C hx hbl hbA (show i + 1 < L by omega) (by omega) dL_law_1920 ?_
  refine r_aload_n C dL_law_1921 rfl ?_
  refine r_iload C dL_law_1922 rfl ?_
  refine r_iconst (v := nI 2) C dL_law_1924 (by decide) ?_
  refine r_iaddN C dL_law_1925 ?_
  refine r_sld C hx hbl hbA (show i + 2 < L by omega) (by omega) dL_law_1926 ?_
  refine r_aload_n C dL_law_1927 rfl ?_
  refine c_SH (st := []) hX.1.stb C hE (W_put hX.1 hN hC hB hM (P_put hX hl hC hB hM (xs (i + 1)) (xs (i + 2)))) pk_L_put qm_L_315 rfl rfl (Nat.le_of_ble_eq_true rfl) dL_law_1928 ⟨(Nat.le_of_ble_eq_true rfl), (Nat.le_of_ble_eq_true rfl)⟩ ⟨show cells + 1 ≤ room_1.cells by omega, show slots + 6 ≤ room_1.slots by omega⟩ (fun v9 w9 h9 => ?_) (fun _ h9 => h9.elim)
  obtain ⟨f', r', k, n1, rfl, rfl, hf', hq', n2, hC', hB', hM', hk0, hk4, h2⟩ := h9
  refine r_istore C dL_law_1931 (by decide) rfl ?_
  refine r_aload_n C dL_law_1933 rfl ?_
  refine r_aload_n C dL_law_1934 rfl ?_
  refine r_iload C dL_law_1935 rfl ?_
  refine r_iconst (v := nI 1) C dL_law_1937 (by decide) ?_
  refine r_iaddN C dL_law_1938 ?_
  refine r_sld C hx hbl hbA (show i + 1 < L by omega) (by omega) dL_law_1939 ?_
  refine r_aload_n C dL_law_1940 rfl ?_
  refine r_iload C dL_law_1941 rfl ?_
  refine r_iconst (v := nI 2) C dL_law_1943 (by decide) ?_
  refine r_iaddN C dL_law_1944 ?_
  refine r_sld C hx hbl hbA (show i + 2 < L by omega) (by omega) dL_law_1945 ?_
  refine t_swap3 ?_
  refine c_V (st := []) hX.1.stb C hE (h2 _) pk_X4_put_ qm_L_317 0 8 rfl rfl wm_0 rfl rfl (Nat.le_of_ble_eq_true rfl) dL_law_1946 ⟨(Nat.le_of_ble_eq_true rfl), (Nat.le_of_ble_eq_true rfl)⟩ ⟨show cells + 1 + 4 ≤ room_1.cells by omega, show slots + 6 + 48 ≤ room_1.slots by omega⟩ (fun v9 w9 h9 => ?_) (fun _ h9 => h9.elim)
  obtain ⟨ra9, rfl, rfl⟩ := h9
  refine r_istore C dL_law_1949 (by decide) rfl ?_
  refine t_swap3 ?_
  refine r_goto (tgt := 2129) C dL_law_1951 (by decide) ?_
  refine r_widen (k := cells + 500) (n := slots + 10000) (show cells + 1 + 4 ≤ cells + 500 by omega) (show slots + 6 + 48 ≤ slots + 10000 by omega) ?_
  refine r_drop 5 ?_
  refine r_drop 6 ?_
  exact kk _ ⟨f', r', hf', hq', kn, ra9, _, sm, _, _, hC', hB', hM', rfl⟩
theorem S_take {p : Program} {l : Launch} {e : Env} {s : State} {m : MethodId} {args : Array Value} {below : List Frame} {meth : Method} {c : Code} {D : va_G} {cy : Nat → ClassId} {A : Nat → Prop} {Q : State → Prop} {X : (Nat → Prop) → State → Heap → Prop} {aK aV : Nat → Nat} {tO tT : Nat} {gO gT : Nat → Int32} {a : Nat → Nat → Nat} {ba : Nat → Nat} {o b L i cells slots : Nat} {xs : Nat → Int32} {w : va_W} (C : Fg p s m args meth c cL_law 7 RL D cy A) (hE : X A s s.heap) (hT : EnvT X cy aK aV tO tT gO gT) (hN : EnvN X) (hl : l.stackTraces = false) (hx : va_X b L xs s s.heap) (hbl : b < s.heap.size) (hbA : ¬ A b) (hi : i + 5 ≤ L) (hL : L ≤ 2560) (hc : cells + 500 ≤ room_1.cells) (hs : slots + 10000 ≤ room_1.slots) (hJ : JW cy a ba o w) (kk : ∀ w' : va_W, JW cy a ba o w' → vW p l e room_1 s m args below meth c D vwCl A Q 7 (cells + 500) (slots + 10000) w' [some (.ref b), some (.ref (a 0 0)), some (.ref (ba 9)), some (.ref o), some (.int (nI i)), none, none] 2129 []) : vW p l e room_1 s m args below meth c D vwCl A Q 7 cells slots w [some (.ref b), some (.ref (a 0 0)), some (.ref (ba 9)), some (.ref o), some (.int (nI i)), none, none] 1954 [] := by
  have hX := hT.1.1
  obtain ⟨f, r, hf, hq, kn, ra, th, sm, n, v, hC, hB, hM, rfl⟩ := hJ
  refine r_aload_n C dL_law_1954 rfl ?_
  refine r_aload_n C dL_law_1955 rfl ?_
  refine r_iload C dL_law_1956 rfl ?_
  refine r_iconst (v := nI 1) C dL_law_1958 (by decide) ?_
  refine r_iaddN C dL_law_1959 ?_
  refine r_sld C hx hbl hbA (show i + 1 < L by omega) (by omega) dL_law_1960 ?_
  refine r_aload_n C dL_law_1961 rfl ?_
  refine c_SH (st := []) hX.1.stb C hE (W_take hX.1 hN hC hB hM (P_take hX hl hC hB hM (xs (i + 1)))) pk_L_take qm_L_318 rfl rfl (Nat.le_of_ble_eq_true rfl) dL_law_1962 ⟨(Nat.le_of_ble_eq_true rfl), (Nat.le_of_ble_eq_true rfl)⟩ ⟨show cells + 1 ≤ room_1.cells by omega, show slots + 6 ≤ room_1.slots by omega⟩ (fun v9 w9 h9 => ?_) (fun _ h9 => h9.elim)
  obtain ⟨f', r', k, n1, rfl, rfl, hf', hq', n2, hC', hB', hM', hk0, hk4, h2⟩ := h9
  refine r_istore C dL_law_1965 (by decide) rfl ?_
  refine r_aload_n C dL_law_1967 rfl ?_
  refine r_aload_n C dL_law_1968 rfl ?_
  refine r_iload C dL_law_1969 rfl ?_
  refine r_iconst (v := nI 1) C dL_law_1971 (by decide) ?_
  refine r_iaddN C dL_law_1972 ?_
  refine r_sld C hx hbl hbA (show i + 1 < L by omega) (by omega) dL_law_1973 ?_
  refine t_swap3 ?_
  refine c_V (st := []) hX.1.stb C hE (h2 _) pk_X4_take qm_L_320 0 8 rfl rfl wm_0 rfl rfl (Nat.le_of_ble_eq_true rfl) dL_law_1974 ⟨(Nat.le_of_ble_eq_true rfl), (Nat.le_of_ble_eq_true rfl)⟩ ⟨show cells + 1 + 4 ≤ room_1.cells by omega, show slots + 6 + 48 ≤ room_1.slots by omega⟩ (fun v9 w9 h9 => ?_) (fun _ h9 => h9.elim)
  obtain ⟨ra9, rfl, rfl⟩ := h9
  refine r_istore C dL_law_1977 (by decide) rfl ?_
  refine t_swap3 ?_
  refine r_goto (tgt := 2129) C dL_law_1979 (by decide) ?_
  refine r_widen (k := cells + 500) (n := slots + 10000) (show cells + 1 + 4 ≤ cells + 500 by omega) (show slots + 6 + 48 ≤ slots + 10000 by omega) ?_
  refine r_drop 5 ?_
  refine r_drop 6 ?_
  exact kk _ ⟨f', r', hf', hq', kn, ra9, _, sm, _, _, hC', hB', hM', rfl⟩
theorem S_replace {p : Program} {l : Launch} {e : Env} {s : State} {m : MethodId} {args : Array Value} {below : List Frame} {meth : Method} {c : Code} {D : va_G} {cy : Nat → ClassId} {A : Nat → Prop} {Q : State → Prop} {X : (Nat → Prop) → State → Heap → Prop} {aK aV : Nat → Nat} {tO tT : Nat} {gO gT : Nat → Int32} {a : Nat → Nat → Nat} {ba : Nat → Nat} {o b L i cells slots : Nat} {xs : Nat → Int32} {w : va_W} (C : Fg p s m args meth c cL_law 7 RL D cy A) (hE : X A s s.heap) (hT : EnvT X cy aK aV tO tT gO gT) (hN : EnvN X) (hl : l.stackTraces = false) (hx : va_X b L xs s s.heap) (hbl : b < s.heap.size) (hbA : ¬ A b) (hi : i + 5 ≤ L) (hL : L ≤ 2560) (hc : cells + 500 ≤ room_1.cells) (hs : slots + 10000 ≤ room_1.slots) (hJ : JW cy a ba o w) (kk : ∀ w' : va_W, JW cy a ba o w' → vW p l e room_1 s m args below meth c D vwCl A Q 7 (cells + 500) (slots + 10000) w' [some (.ref b), some (.ref (a 0 0)), some (.ref (ba 9)), some (.ref o), some (.int (nI i)), none, none] 2129 []) : vW p l e room_1 s m args below meth c D vwCl A Q 7 cells slots w [some (.ref b), some (.ref (a 0 0)), some (.ref (ba 9)), some (.ref o), some (.int (nI i)), none, none] 1982 [] := by
  have hX := hT.1.1
  obtain ⟨f, r, hf, hq, kn, ra, th, sm, n, v, hC, hB, hM, rfl⟩ := hJ
  refine r_aload_n C dL_law_1982 rfl ?_
  refine r_aload_n C dL_law_1983 rfl ?_
  refine r_iload C dL_law_1984 rfl ?_
  refine r_iconst (v := nI 1) C dL_law_1986 (by decide) ?_
  refine r_iaddN C dL_law_1987 ?_
  refine r_sld C hx hbl hbA (show i + 1 < L by omega) (by omega) dL_law_1988 ?_
  refine r_aload_n C dL_law_1989 rfl ?_
  refine r_iload C dL_law_1990 rfl ?_
  refine r_iconst (v := nI 2) C dL_law_1992 (by decide) ?_
  refine r_iaddN C dL_law_1993 ?_
  refine r_sld C hx hbl hbA (show i + 2 < L by omega) (by omega) dL_law_1994 ?_
  refine r_aload_n C dL_law_1995 rfl ?_
  refine c_SH (st := []) hX.1.stb C hE (W_replace hX.1 hN hC hB hM (P_replace hX hl hC hB hM (xs (i + 1)) (xs (i + 2)))) pk_L_replace qm_L_321 rfl rfl (Nat.le_of_ble_eq_true rfl) dL_law_1996 ⟨(Nat.le_of_ble_eq_true rfl), (Nat.le_of_ble_eq_true rfl)⟩ ⟨show cells + 1 ≤ room_1.cells by omega, show slots + 6 ≤ room_1.slots by omega⟩ (fun v9 w9 h9 => ?_) (fun _ h9 => h9.elim)
  obtain ⟨f', r', k, n1, rfl, rfl, hf', hq', n2, hC', hB', hM', hk0, hk4, h2⟩ := h9
  refine r_istore C dL_law_1999 (by decide) rfl ?_
  refine r_aload_n C dL_law_2001 rfl ?_
  refine r_aload_n C dL_law_2002 rfl ?_
  refine r_iload C dL_law_2003 rfl ?_
  refine r_iconst (v := nI 1) C dL_law_2005 (by decide) ?_
  refine r_iaddN C dL_law_2006 ?_
  refine r_sld C hx hbl hbA (show i + 1 < L by omega) (by omega) dL_law_2007 ?_
  refine r_aload_n C dL_law_2008 rfl ?_
  refine r_iload C dL_law_2009 rfl ?_
  refine r_iconst (v := nI 2) C dL_law_2011 (by decide) ?_
  refine r_iaddN C dL_law_2012 ?_
  refine r_sld C hx hbl hbA (show i + 2 < L by omega) (by omega) dL_law_2013 ?_
  refine t_swap3 ?_
  refine c_V (st := []) hX.1.stb C hE (h2 _) pk_X4_replace qm_L_323 0 8 rfl rfl wm_0 rfl rfl (Nat.le_of_ble_eq_true rfl) dL_law_2014 ⟨(Nat.le_of_ble_eq_true rfl), (Nat.le_of_ble_eq_true rfl)⟩ ⟨show cells + 1 + 4 ≤ room_1.cells by omega, show slots + 6 + 48 ≤ room_1.slots by omega⟩ (fun v9 w9 h9 => ?_) (fun _ h9 => h9.elim)
  obtain ⟨ra9, rfl, rfl⟩ := h9
  refine r_istore C dL_law_2017 (by decide) rfl ?_
  refine t_swap3 ?_
  refine r_goto (tgt := 2129) C dL_law_2019 (by decide) ?_
  refine r_widen (k := cells + 500) (n := slots + 10000) (show cells + 1 + 4 ≤ cells + 500 by omega) (show slots + 6 + 48 ≤ slots + 10000 by omega) ?_
  refine r_drop 5 ?_
  refine r_drop 6 ?_
  exact kk _ ⟨f', r', hf', hq', kn, ra9, _, sm, _, _, hC', hB', hM', rfl⟩
theorem S_ofCursor {p : Program} {l : Launch} {e : Env} {s : State} {m : MethodId} {args : Array Value} {below : List Frame} {meth : Method} {c : Code} {D : va_G} {cy : Nat → ClassId} {A : Nat → Prop} {Q : State → Prop} {X : (Nat → Prop) → State → Heap → Prop} {aK aV : Nat → Nat} {tO tT : Nat} {gO gT : Nat → Int32} {a : Nat → Nat → Nat} {ba : Nat → Nat} {o b L i cells slots : Nat} {xs : Nat → Int32} {w : va_W} (C : Fg p s m args meth c cL_law 7 RL D cy A) (hE : X A s s.heap) (hT : EnvT X cy aK aV tO tT gO gT) (hN : EnvN X) (hl : l.stackTraces = false) (hx : va_X b L xs s s.heap) (hbl : b < s.heap.size) (hbA : ¬ A b) (hi : i + 5 ≤ L) (hL : L ≤ 2560) (hc : cells + 500 ≤ room_1.cells) (hs : slots + 10000 ≤ room_1.slots) (hJ : JW cy a ba o w) (kk : ∀ w' : va_W, JW cy a ba o w' → vW p l e room_1 s m args below meth c D vwCl A Q 7 (cells + 500) (slots + 10000) w' [some (.ref b), some (.ref (a 0 0)), some (.ref (ba 9)), some (.ref o), some (.int (nI i)), none, none] 2129 []) : vW p l e room_1 s m args below meth c D vwCl A Q 7 cells slots w [some (.ref b), some (.ref (a 0 0)), some (.ref (ba 9)), some (.ref o), some (.int (nI i)), none, none] 2022 [] := by
  have hX := hT.1.1
  obtain ⟨f, r, hf, hq, kn, ra, th, sm, n, v, hC, hB, hM, rfl⟩ := hJ
  refine r_aload_n C dL_law_2022 rfl ?_
  refine r_aload_n C dL_law_2023 rfl ?_
  refine r_iload C dL_law_2024 rfl ?_
  refine r_iconst (v := nI 1) C dL_law_2026 (by decide) ?_
  refine r_iaddN C dL_law_2027 ?_
  refine r_sld C hx hbl hbA (show i + 1 < L by omega) (by omega) dL_law_2028 ?_
  refine r_aload_n C dL_law_2029 rfl ?_
  refine r_iload C dL_law_2030 rfl ?_
  refine r_iconst (v := nI 2) C dL_law_2032 (by decide) ?_
  refine r_iaddN C dL_law_2033 ?_
  refine r_sld C hx hbl hbA (show i + 2 < L by omega) (by omega) dL_law_2034 ?_
  refine r_aload_n C dL_law_2035 rfl ?_
  refine c_SH (st := []) hX.1.stb C hE (W_ofCursor hX.1 hN hC hB hM (P_ofCursor hX hl hC hB hM (xs (i + 1)) (xs (i + 2)))) pk_L_ofCursor qm_L_324 rfl rfl (Nat.le_of_ble_eq_true rfl) dL_law_2036 ⟨(Nat.le_of_ble_eq_true rfl), (Nat.le_of_ble_eq_true rfl)⟩ ⟨show cells + 1 ≤ room_1.cells by omega, show slots + 6 ≤ room_1.slots by omega⟩ (fun v9 w9 h9 => ?_) (fun _ h9 => h9.elim)
  obtain ⟨f', r', k, n1, rfl, rfl, hf', hq', n2, hC', hB', hM', hk0, hk4, h2⟩ := h9
  refine r_istore C dL_law_2039 (by decide) rfl ?_
  refine r_aload_n C dL_law_2041 rfl ?_
  refine r_aload_n C dL_law_2042 rfl ?_
  refine r_iload C dL_law_2043 rfl ?_
  refine r_iconst (v := nI 1) C dL_law_2045 (by decide) ?_
  refine r_iaddN C dL_law_2046 ?_
  refine r_sld C hx hbl hbA (show i + 1 < L by omega) (by omega) dL_law_2047 ?_
  refine r_aload_n C dL_law_2048 rfl ?_
  refine r_iload C dL_law_2049 rfl ?_
  refine r_iconst (v := nI 2) C dL_law_2051 (by decide) ?_
  refine r_iaddN C dL_law_2052 ?_
  refine r_sld C hx hbl hbA (show i + 2 < L by omega) (by omega) dL_law_2053 ?_
  refine t_swap3 ?_
  refine c_V (st := []) hX.1.stb C hE (h2 _) pk_X4_ofCursor qm_L_326 0 8 rfl rfl wm_0 rfl rfl (Nat.le_of_ble_eq_true rfl) dL_law_2054 ⟨(Nat.le_of_ble_eq_true rfl), (Nat.le_of_ble_eq_true rfl)⟩ ⟨show cells + 1 + 4 ≤ room_1.cells by omega, show slots + 6 + 48 ≤ room_1.slots by omega⟩ (fun v9 w9 h9 => ?_) (fun _ h9 => h9.elim)
  obtain ⟨ra9, rfl, rfl⟩ := h9
  refine r_istore C dL_law_2057 (by decide) rfl ?_
  refine t_swap3 ?_
  refine r_goto (tgt := 2129) C dL_law_2059 (by decide) ?_
  refine r_widen (k := cells + 500) (n := slots + 10000) (show cells + 1 + 4 ≤ cells + 500 by omega) (show slots + 6 + 48 ≤ slots + 10000 by omega) ?_
  refine r_drop 5 ?_
  refine r_drop 6 ?_
  exact kk _ ⟨f', r', hf', hq', kn, ra9, _, sm, _, _, hC', hB', hM', rfl⟩
theorem S_house {p : Program} {l : Launch} {e : Env} {s : State} {m : MethodId} {args : Array Value} {below : List Frame} {meth : Method} {c : Code} {D : va_G} {cy : Nat → ClassId} {A : Nat → Prop} {Q : State → Prop} {X : (Nat → Prop) → State → Heap → Prop} {aK aV : Nat → Nat} {tO tT : Nat} {gO gT : Nat → Int32} {a : Nat → Nat → Nat} {ba : Nat → Nat} {o b L i cells slots : Nat} {xs : Nat → Int32} {w : va_W} (C : Fg p s m args meth c cL_law 7 RL D cy A) (hE : X A s s.heap) (hT : EnvT X cy aK aV tO tT gO gT) (hN : EnvN X) (hl : l.stackTraces = false) (hx : va_X b L xs s s.heap) (hbl : b < s.heap.size) (hbA : ¬ A b) (hi : i + 5 ≤ L) (hL : L ≤ 2560) (hc : cells + 500 ≤ room_1.cells) (hs : slots + 10000 ≤ room_1.slots) (hJ : JW cy a ba o w) (kk : ∀ w' : va_W, JW cy a ba o w' → vW p l e room_1 s m args below meth c D vwCl A Q 7 (cells + 500) (slots + 10000) w' [some (.ref b), some (.ref (a 0 0)), some (.ref (ba 9)), some (.ref o), some (.int (nI i)), none, none] 2129 []) : vW p l e room_1 s m args below meth c D vwCl A Q 7 cells slots w [some (.ref b), some (.ref (a 0 0)), some (.ref (ba 9)), some (.ref o), some (.int (nI i)), none, none] 2062 [] := by
  have hX := hT.1.1
  obtain ⟨f, r, hf, hq, kn, ra, th, sm, n, v, hC, hB, hM, rfl⟩ := hJ
  refine r_aload_n C dL_law_2062 rfl ?_
  refine r_aload_n C dL_law_2063 rfl ?_
  refine r_iload C dL_law_2064 rfl ?_
  refine r_iconst (v := nI 1) C dL_law_2066 (by decide) ?_
  refine r_iaddN C dL_law_2067 ?_
  refine r_sld C hx hbl hbA (show i + 1 < L by omega) (by omega) dL_law_2068 ?_
  refine r_aload_n C dL_law_2069 rfl ?_
  refine c_SH (st := []) hX.1.stb C hE (W_house hX.1 hN hC hB hM (P_house hX hl hC hB hM (xs (i + 1)))) pk_L_house qm_L_327 rfl rfl (Nat.le_of_ble_eq_true rfl) dL_law_2070 ⟨(Nat.le_of_ble_eq_true rfl), (Nat.le_of_ble_eq_true rfl)⟩ ⟨show cells + 1 ≤ room_1.cells by omega, show slots + 6 ≤ room_1.slots by omega⟩ (fun v9 w9 h9 => ?_) (fun _ h9 => h9.elim)
  obtain ⟨f', r', k, n1, rfl, rfl, hf', hq', n2, hC', hB', hM', hk0, hk4, h2⟩ := h9
  refine r_istore C dL_law_2073 (by decide) rfl ?_
  refine r_aload_n C dL_law_2075 rfl ?_
  refine r_aload_n C dL_law_2076 rfl ?_
  refine r_iload C dL_law_2077 rfl ?_
  refine r_iconst (v := nI 1) C dL_law_2079 (by decide) ?_
  refine r_iaddN C dL_law_2080 ?_
  refine r_sld C hx hbl hbA (show i + 1 < L by omega) (by omega) dL_law_2081 ?_
  refine t_swap3 ?_
  refine c_V (st := []) hX.1.stb C hE (h2 _) pk_X4_house qm_L_329 0 8 rfl rfl wm_0 rfl rfl (Nat.le_of_ble_eq_true rfl) dL_law_2082 ⟨(Nat.le_of_ble_eq_true rfl), (Nat.le_of_ble_eq_true rfl)⟩ ⟨show cells + 1 + 4 ≤ room_1.cells by omega, show slots + 6 + 48 ≤ room_1.slots by omega⟩ (fun v9 w9 h9 => ?_) (fun _ h9 => h9.elim)
  obtain ⟨ra9, rfl, rfl⟩ := h9
  refine r_istore C dL_law_2085 (by decide) rfl ?_
  refine t_swap3 ?_
  refine r_goto (tgt := 2129) C dL_law_2087 (by decide) ?_
  refine r_widen (k := cells + 500) (n := slots + 10000) (show cells + 1 + 4 ≤ cells + 500 by omega) (show slots + 6 + 48 ≤ slots + 10000 by omega) ?_
  refine r_drop 5 ?_
  refine r_drop 6 ?_
  exact kk _ ⟨f', r', hf', hq', kn, ra9, _, sm, _, _, hC', hB', hM', rfl⟩
theorem S_knock {p : Program} {l : Launch} {e : Env} {s : State} {m : MethodId} {args : Array Value} {below : List Frame} {meth : Method} {c : Code} {D : va_G} {cy : Nat → ClassId} {A : Nat → Prop} {Q : State → Prop} {X : (Nat → Prop) → State → Heap → Prop} {aK aV : Nat → Nat} {tO tT : Nat} {gO gT : Nat → Int32} {a : Nat → Nat → Nat} {ba : Nat → Nat} {o b L i cells slots : Nat} {xs : Nat → Int32} {w : va_W} (C : Fg p s m args meth c cL_law 7 RL D cy A) (hE : X A s s.heap) (hT : EnvT X cy aK aV tO tT gO gT) (hN : EnvN X) (hl : l.stackTraces = false) (hx : va_X b L xs s s.heap) (hbl : b < s.heap.size) (hbA : ¬ A b) (hi : i + 5 ≤ L) (hL : L ≤ 2560) (hc : cells + 500 ≤ room_1.cells) (hs : slots + 10000 ≤ room_1.slots) (hJ : JW cy a ba o w) (kk : ∀ w' : va_W, JW cy a ba o w' → vW p l e room_1 s m args below meth c D vwCl A Q 7 (cells + 500) (slots + 10000) w' [some (.ref b), some (.ref (a 0 0)), some (.ref (ba 9)), some (.ref o), some (.int (nI i)), none, none] 2129 []) : vW p l e room_1 s m args below meth c D vwCl A Q 7 cells slots w [some (.ref b), some (.ref (a 0 0)), some (.ref (ba 9)), some (.ref o), some (.int (nI i)), none, none] 2090 [] := by
  have hX := hT.1.1
  obtain ⟨f, r, hf, hq, kn, ra, th, sm, n, v, hC, hB, hM, rfl⟩ := hJ
  refine r_aload_n C dL_law_2090 rfl ?_
  refine c_V (st := []) hX.1.stb C hE (C_knock hX.1 hC) pk_X2_knock qm_L_330 0 6 rfl rfl wc_0 rfl rfl (Nat.le_of_ble_eq_true rfl) dL_law_2091 ⟨(Nat.le_of_ble_eq_true rfl), (Nat.le_of_ble_eq_true rfl)⟩ ⟨show cells + 0 ≤ room_1.cells by omega, show slots + 0 ≤ room_1.slots by omega⟩ (fun v9 w9 h9 => ?_) (fun _ h9 => h9.elim)
  obtain ⟨rfl, rfl⟩ := h9
  refine r_pop C dL_law_2094 rfl ?_
  refine r_aload_n C dL_law_2095 rfl ?_
  refine t_swap3 ?_
  refine c_V (st := []) hX.1.stb C hE (D_knock hX) pk_X4_knock qm_L_333 0 8 rfl rfl wm_0 rfl rfl (Nat.le_of_ble_eq_true rfl) dL_law_2096 ⟨(Nat.le_of_ble_eq_true rfl), (Nat.le_of_ble_eq_true rfl)⟩ ⟨show cells + 0 + 0 ≤ room_1.cells by omega, show slots + 0 + 0 ≤ room_1.slots by omega⟩ (fun v9 w9 h9 => ?_) (fun _ h9 => h9.elim)
  obtain ⟨rfl, rfl⟩ := h9
  refine r_pop C dL_law_2099 rfl ?_
  refine t_swap3 ?_
  refine r_goto (tgt := 2129) C dL_law_2100 (by decide) ?_
  refine r_widen (k := cells + 500) (n := slots + 10000) (show cells + 0 + 0 ≤ cells + 500 by omega) (show slots + 0 + 0 ≤ slots + 10000 by omega) ?_
  exact kk _ ⟨f, r, hf, hq, _, ra, _, _, n, v, hC, hB, hM, rfl⟩
theorem S_isSound {p : Program} {l : Launch} {e : Env} {s : State} {m : MethodId} {args : Array Value} {below : List Frame} {meth : Method} {c : Code} {D : va_G} {cy : Nat → ClassId} {A : Nat → Prop} {Q : State → Prop} {X : (Nat → Prop) → State → Heap → Prop} {aK aV : Nat → Nat} {tO tT : Nat} {gO gT : Nat → Int32} {a : Nat → Nat → Nat} {ba : Nat → Nat} {o b L i cells slots : Nat} {xs : Nat → Int32} {w : va_W} (C : Fg p s m args meth c cL_law 7 RL D cy A) (hE : X A s s.heap) (hT : EnvT X cy aK aV tO tT gO gT) (hN : EnvN X) (hl : l.stackTraces = false) (hx : va_X b L xs s s.heap) (hbl : b < s.heap.size) (hbA : ¬ A b) (hi : i + 5 ≤ L) (hL : L ≤ 2560) (hc : cells + 500 ≤ room_1.cells) (hs : slots + 10000 ≤ room_1.slots) (hJ : JW cy a ba o w) (kk : ∀ w' : va_W, JW cy a ba o w' → vW p l e room_1 s m args below meth c D vwCl A Q 7 (cells + 500) (slots + 10000) w' [some (.ref b), some (.ref (a 0 0)), some (.ref (ba 9)), some (.ref o), some (.int (nI i)), none, none] 2129 []) : vW p l e room_1 s m args below meth c D vwCl A Q 7 cells slots w [some (.ref b), some (.ref (a 0 0)), some (.ref (ba 9)), some (.ref o), some (.int (nI i)), none, none] 2103 [] := by
  have hX := hT.1.1
  obtain ⟨f, r, hf, hq, kn, ra, th, sm, n, v, hC, hB, hM, rfl⟩ := hJ
  refine r_aload_n C dL_law_2103 rfl ?_
  refine c_V (st := []) hX.1.stb C hE (K_isSound hX.1 hC (fun i q hi hq => hB _ _)) pk_X2_isSound qm_L_334 0 6 rfl rfl wc_0 rfl rfl (Nat.le_of_ble_eq_true rfl) dL_law_2104 ⟨(Nat.le_of_ble_eq_true rfl), (Nat.le_of_ble_eq_true rfl)⟩ ⟨show cells + 0 ≤ room_1.cells by omega, show slots + 0 ≤ room_1.slots by omega⟩ (fun v9 w9 h9 => ?_) (fun _ h9 => h9.elim)
  obtain ⟨rfl, f', r', rfl, sc⟩ := h9
  have hC' := sc.inv hC
  have hB' := sc.2.2.2 hB
  have hM' : MR f' r' hf hq := MR_itm hM sc.1 (fun i k hi hk => ((hM.2.1 i hi).2 k hk).trans (sc.2.2.1 i k hi).symm)
  refine r_pop C dL_law_2107 rfl ?_
  refine r_aload_n C dL_law_2108 rfl ?_
  refine t_swap3 ?_
  refine c_V (st := []) hX.1.stb C hE (D_isSound hX hC' hM') pk_X4_isSound qm_L_338 0 8 rfl rfl wm_0 rfl rfl (Nat.le_of_ble_eq_true rfl) dL_law_2109 ⟨(Nat.le_of_ble_eq_true rfl), (Nat.le_of_ble_eq_true rfl)⟩ ⟨show cells + 0 + 0 ≤ room_1.cells by omega, show slots + 0 + 0 ≤ room_1.slots by omega⟩ (fun v9 w9 h9 => ?_) (fun _ h9 => h9.elim)
  obtain ⟨rfl, rfl⟩ := h9
  refine r_pop C dL_law_2112 rfl ?_
  refine t_swap3 ?_
  refine r_goto (tgt := 2129) C dL_law_2113 (by decide) ?_
  refine r_widen (k := cells + 500) (n := slots + 10000) (show cells + 0 + 0 ≤ cells + 500 by omega) (show slots + 0 + 0 ≤ slots + 10000 by omega) ?_
  exact kk _ ⟨f', r', hf, hq, _, ra, _, _, n, v, hC', hB', hM', rfl⟩
theorem S_digest {p : Program} {l : Launch} {e : Env} {s : State} {m : MethodId} {args : Array Value} {below : List Frame} {meth : Method} {c : Code} {D : va_G} {cy : Nat → ClassId} {A : Nat → Prop} {Q : State → Prop} {X : (Nat → Prop) → State → Heap → Prop} {aK aV : Nat → Nat} {tO tT : Nat} {gO gT : Nat → Int32} {a : Nat → Nat → Nat} {ba : Nat → Nat} {o b L i cells slots : Nat} {xs : Nat → Int32} {w : va_W} (C : Fg p s m args meth c cL_law 7 RL D cy A) (hE : X A s s.heap) (hT : EnvT X cy aK aV tO tT gO gT) (hN : EnvN X) (hl : l.stackTraces = false) (hx : va_X b L xs s s.heap) (hbl : b < s.heap.size) (hbA : ¬ A b) (hi : i + 5 ≤ L) (hL : L ≤ 2560) (hc : cells + 500 ≤ room_1.cells) (hs : slots + 10000 ≤ room_1.slots) (hJ : JW cy a ba o w) (kk : ∀ w' : va_W, JW cy a ba o w' → vW p l e room_1 s m args below meth c D vwCl A Q 7 (cells + 500) (slots + 10000) w' [some (.ref b), some (.ref (a 0 0)), some (.ref (ba 9)), some (.ref o), some (.int (nI i)), none, none] 2129 []) : vW p l e room_1 s m args below meth c D vwCl A Q 7 cells slots w [some (.ref b), some (.ref (a 0 0)), some (.ref (ba 9)), some (.ref o), some (.int (nI i)), none, none] 2116 [] := by
  have hX := hT.1.1
  obtain ⟨f, r, hf, hq, kn, ra, th, sm, n, v, hC, hB, hM, rfl⟩ := hJ
  refine r_aload_n C dL_law_2116 rfl ?_
  refine c_V (st := []) hX.1.stb C hE (C_digest hT.1 hC (fun i q hi hq => hB _ _)) pk_X2_digest qm_L_339 0 6 rfl rfl wc_0 rfl rfl (Nat.le_of_ble_eq_true rfl) dL_law_2117 ⟨(Nat.le_of_ble_eq_true rfl), (Nat.le_of_ble_eq_true rfl)⟩ ⟨show cells + 10 ≤ room_1.cells by omega, show slots + 436 ≤ room_1.slots by omega⟩ (fun v9 w9 h9 => ?_) (fun _ h9 => h9.elim)
  obtain ⟨rfl, f', r', rfl, sc⟩ := h9
  have hC' := sc.inv hC
  have hB' := sc.2.2.2 hB
  have hM' : MR f' r' hf hq := MR_itm hM sc.1 (fun i k hi hk => ((hM.2.1 i hi).2 k hk).trans (sc.2.2.1 i k hi).symm)
  refine r_pop2 C dL_law_2120 rfl ?_
  refine r_aload_n C dL_law_2121 rfl ?_
  refine t_swap3 ?_
  refine c_V (st := []) hX.1.stb C hE (D_digest hT.1 hC' hM' (hM'.hb hC' hB')) pk_X4_digest qm_L_343 0 8 rfl rfl wm_0 rfl rfl (Nat.le_of_ble_eq_true rfl) dL_law_2122 ⟨(Nat.le_of_ble_eq_true rfl), (Nat.le_of_ble_eq_true rfl)⟩ ⟨show cells + 10 + 460 ≤ room_1.cells by omega, show slots + 436 + 9400 ≤ room_1.slots by omega⟩ (fun v9 w9 h9 => ?_) (fun _ h9 => h9.elim)
  obtain ⟨rfl, rfl⟩ := h9
  refine r_pop2 C dL_law_2125 rfl ?_
  refine t_swap3 ?_
  refine r_goto (tgt := 2129) C dL_law_2126 (by decide) ?_
  refine r_widen (k := cells + 500) (n := slots + 10000) (show cells + 10 + 460 ≤ cells + 500 by omega) (show slots + 436 + 9400 ≤ slots + 10000 by omega) ?_
  exact kk _ ⟨f', r', hf, hq, _, ra, _, _, n, v, hC', hB', hM', rfl⟩
