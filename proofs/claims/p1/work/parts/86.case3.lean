/-! THE LAW'S CASES, 3 -/
theorem dL_law_1920 : decode cL_law 1920 = .ok (.aload_n 1, 1) := dqo_43 (kb_30 0 rfl)
theorem dL_law_1921 : decode cL_law 1921 = .ok (.aload_n 0, 1) := dqo_42 (kb_30 1 rfl)
theorem dL_law_1922 : decode cL_law 1922 = .ok (.iload 4, 2) := dqo_21 4 (kb_30 2 rfl) (kb_30 3 rfl)
theorem dL_law_1924 : decode cL_law 1924 = .ok (.iconst 1, 1) := dqo_4 (kb_30 4 rfl)
theorem dL_law_1925 : decode cL_law 1925 = .ok (.iadd, 1) := dqo_96 (kb_30 5 rfl)
theorem dL_law_1926 : decode cL_law 1926 = .ok (.iaload, 1) := dqo_46 (kb_30 6 rfl)
theorem dL_law_1927 : decode cL_law 1927 = .ok (.aload_n 0, 1) := dqo_42 (kb_30 7 rfl)
theorem dL_law_1928 : decode cL_law 1928 = .ok (.iload 4, 2) := dqo_21 4 (kb_30 8 rfl) (kb_30 9 rfl)
theorem dL_law_1930 : decode cL_law 1930 = .ok (.iconst 2, 1) := dqo_5 (kb_30 10 rfl)
theorem dL_law_1931 : decode cL_law 1931 = .ok (.iadd, 1) := dqo_96 (kb_30 11 rfl)
theorem dL_law_1932 : decode cL_law 1932 = .ok (.iaload, 1) := dqo_46 (kb_30 12 rfl)
theorem dL_law_1933 : decode cL_law 1933 = .ok (.aload_n 3, 1) := dqo_45 (kb_30 13 rfl)
theorem dL_law_1934 : decode cL_law 1934 = .ok (.invokestatic 257, 3) := dqo_184 1 1 (kb_30 14 rfl) (kb_30 15 rfl) (kb_30 16 rfl)
theorem dL_law_1937 : decode cL_law 1937 = .ok (.istore 5, 2) := dqo_54 5 (kb_30 17 rfl) (kb_30 18 rfl)
theorem dL_law_1939 : decode cL_law 1939 = .ok (.aload_n 2, 1) := dqo_44 (kb_30 19 rfl)
theorem dL_law_1940 : decode cL_law 1940 = .ok (.aload_n 0, 1) := dqo_42 (kb_30 20 rfl)
theorem dL_law_1941 : decode cL_law 1941 = .ok (.iload 4, 2) := dqo_21 4 (kb_30 21 rfl) (kb_30 22 rfl)
theorem dL_law_1943 : decode cL_law 1943 = .ok (.iconst 1, 1) := dqo_4 (kb_30 23 rfl)
theorem dL_law_1944 : decode cL_law 1944 = .ok (.iadd, 1) := dqo_96 (kb_30 24 rfl)
theorem dL_law_1945 : decode cL_law 1945 = .ok (.iaload, 1) := dqo_46 (kb_30 25 rfl)
theorem dL_law_1946 : decode cL_law 1946 = .ok (.aload_n 0, 1) := dqo_42 (kb_30 26 rfl)
theorem dL_law_1947 : decode cL_law 1947 = .ok (.iload 4, 2) := dqo_21 4 (kb_30 27 rfl) (kb_30 28 rfl)
theorem dL_law_1949 : decode cL_law 1949 = .ok (.iconst 2, 1) := dqo_5 (kb_30 29 rfl)
theorem dL_law_1950 : decode cL_law 1950 = .ok (.iadd, 1) := dqo_96 (kb_30 30 rfl)
theorem dL_law_1951 : decode cL_law 1951 = .ok (.iaload, 1) := dqo_46 (kb_30 31 rfl)
theorem dL_law_1952 : decode cL_law 1952 = .ok (.invokevirtual 259, 3) := dqo_182 1 3 (kb_30 32 rfl) (kb_30 33 rfl) (kb_30 34 rfl)
theorem dL_law_1955 : decode cL_law 1955 = .ok (.istore 6, 2) := dqo_54 6 (kb_30 35 rfl) (kb_30 36 rfl)
theorem dL_law_1957 : decode cL_law 1957 = .ok (.aload_n 2, 1) := dqo_44 (kb_30 37 rfl)
theorem dL_law_1958 : decode cL_law 1958 = .ok (.invokevirtual 181, 3) := dqo_182 0 181 (kb_30 38 rfl) (kb_30 39 rfl) (kb_30 40 rfl)
theorem dL_law_1961 : decode cL_law 1961 = .ok (.iload 5, 2) := dqo_21 5 (kb_30 41 rfl) (kb_30 42 rfl)
theorem dL_law_1963 : decode cL_law 1963 = .ok (.if_icmp .eq 5, 3) := dqo_159 0 5 (by decide) (kb_30 43 rfl) (kb_30 44 rfl) (kb_30 45 rfl)
theorem dL_law_1968 : decode cL_law 1968 = .ok (.iload 5, 2) := dqo_21 5 (kb_30 48 rfl) (kb_30 49 rfl)
theorem dL_law_1970 : decode cL_law 1970 = .ok (.ifCond .ne 16, 3) := dqo_154 0 16 (by decide) (kb_30 50 rfl) (kb_30 51 rfl) (kb_30 52 rfl)
theorem dL_law_1973 : decode cL_law 1973 = .ok (.aload_n 3, 1) := dqo_45 (kb_30 53 rfl)
theorem dL_law_1974 : decode cL_law 1974 = .ok (.getfield 13, 3) := dqo_180 0 13 (kb_30 54 rfl) (kb_30 55 rfl) (kb_30 56 rfl)
theorem dL_law_1977 : decode cL_law 1977 = .ok (.iload 6, 2) := dqo_21 6 (kb_30 57 rfl) (kb_30 58 rfl)
theorem dL_law_1979 : decode cL_law 1979 = .ok (.i2l, 1) := dqo_133 (kb_30 59 rfl)
theorem dL_law_1980 : decode cL_law 1980 = .ok (.lcmp, 1) := dqo_148 (kb_30 60 rfl)
theorem dL_law_1981 : decode cL_law 1981 = .ok (.ifCond .eq 5, 3) := dqo_153 0 5 (by decide) (kb_30 61 rfl) (kb_30 62 rfl) (kb_30 63 rfl)
theorem dL_law_1986 : decode cL_law 1986 = .ok (.goto 1470, 3) := dqo_167 5 190 (by decide) (kb_31 2 rfl) (kb_31 3 rfl) (kb_31 4 rfl)
theorem dL_law_1989 : decode cL_law 1989 = .ok (.aload_n 1, 1) := dqo_43 (kb_31 5 rfl)
theorem dL_law_1990 : decode cL_law 1990 = .ok (.aload_n 0, 1) := dqo_42 (kb_31 6 rfl)
theorem dL_law_1991 : decode cL_law 1991 = .ok (.iload 4, 2) := dqo_21 4 (kb_31 7 rfl) (kb_31 8 rfl)
theorem dL_law_1993 : decode cL_law 1993 = .ok (.iconst 1, 1) := dqo_4 (kb_31 9 rfl)
theorem dL_law_1994 : decode cL_law 1994 = .ok (.iadd, 1) := dqo_96 (kb_31 10 rfl)
theorem dL_law_1995 : decode cL_law 1995 = .ok (.iaload, 1) := dqo_46 (kb_31 11 rfl)
theorem dL_law_1996 : decode cL_law 1996 = .ok (.aload_n 0, 1) := dqo_42 (kb_31 12 rfl)
theorem dL_law_1997 : decode cL_law 1997 = .ok (.iload 4, 2) := dqo_21 4 (kb_31 13 rfl) (kb_31 14 rfl)
theorem dL_law_1999 : decode cL_law 1999 = .ok (.iconst 2, 1) := dqo_5 (kb_31 15 rfl)
theorem dL_law_2000 : decode cL_law 2000 = .ok (.iadd, 1) := dqo_96 (kb_31 16 rfl)
theorem dL_law_2001 : decode cL_law 2001 = .ok (.iaload, 1) := dqo_46 (kb_31 17 rfl)
theorem dL_law_2002 : decode cL_law 2002 = .ok (.aload_n 3, 1) := dqo_45 (kb_31 18 rfl)
theorem dL_law_2003 : decode cL_law 2003 = .ok (.invokestatic 260, 3) := dqo_184 1 4 (kb_31 19 rfl) (kb_31 20 rfl) (kb_31 21 rfl)
theorem dL_law_2006 : decode cL_law 2006 = .ok (.istore 5, 2) := dqo_54 5 (kb_31 22 rfl) (kb_31 23 rfl)
theorem dL_law_2008 : decode cL_law 2008 = .ok (.aload_n 2, 1) := dqo_44 (kb_31 24 rfl)
theorem dL_law_2009 : decode cL_law 2009 = .ok (.aload_n 0, 1) := dqo_42 (kb_31 25 rfl)
theorem dL_law_2010 : decode cL_law 2010 = .ok (.iload 4, 2) := dqo_21 4 (kb_31 26 rfl) (kb_31 27 rfl)
theorem dL_law_2012 : decode cL_law 2012 = .ok (.iconst 1, 1) := dqo_4 (kb_31 28 rfl)
theorem dL_law_2013 : decode cL_law 2013 = .ok (.iadd, 1) := dqo_96 (kb_31 29 rfl)
theorem dL_law_2014 : decode cL_law 2014 = .ok (.iaload, 1) := dqo_46 (kb_31 30 rfl)
theorem dL_law_2015 : decode cL_law 2015 = .ok (.aload_n 0, 1) := dqo_42 (kb_31 31 rfl)
theorem dL_law_2016 : decode cL_law 2016 = .ok (.iload 4, 2) := dqo_21 4 (kb_31 32 rfl) (kb_31 33 rfl)
theorem dL_law_2018 : decode cL_law 2018 = .ok (.iconst 2, 1) := dqo_5 (kb_31 34 rfl)
theorem dL_law_2019 : decode cL_law 2019 = .ok (.iadd, 1) := dqo_96 (kb_31 35 rfl)
theorem dL_law_2020 : decode cL_law 2020 = .ok (.iaload, 1) := dqo_46 (kb_31 36 rfl)
theorem dL_law_2021 : decode cL_law 2021 = .ok (.invokevirtual 262, 3) := dqo_182 1 6 (kb_31 37 rfl) (kb_31 38 rfl) (kb_31 39 rfl)
theorem dL_law_2024 : decode cL_law 2024 = .ok (.istore 6, 2) := dqo_54 6 (kb_31 40 rfl) (kb_31 41 rfl)
theorem dL_law_2026 : decode cL_law 2026 = .ok (.aload_n 2, 1) := dqo_44 (kb_31 42 rfl)
theorem dL_law_2027 : decode cL_law 2027 = .ok (.invokevirtual 181, 3) := dqo_182 0 181 (kb_31 43 rfl) (kb_31 44 rfl) (kb_31 45 rfl)
theorem dL_law_2030 : decode cL_law 2030 = .ok (.iload 5, 2) := dqo_21 5 (kb_31 46 rfl) (kb_31 47 rfl)
theorem dL_law_2032 : decode cL_law 2032 = .ok (.if_icmp .eq 5, 3) := dqo_159 0 5 (by decide) (kb_31 48 rfl) (kb_31 49 rfl) (kb_31 50 rfl)
theorem dL_law_2037 : decode cL_law 2037 = .ok (.iload 5, 2) := dqo_21 5 (kb_31 53 rfl) (kb_31 54 rfl)
theorem dL_law_2039 : decode cL_law 2039 = .ok (.ifCond .ne 16, 3) := dqo_154 0 16 (by decide) (kb_31 55 rfl) (kb_31 56 rfl) (kb_31 57 rfl)
theorem dL_law_2042 : decode cL_law 2042 = .ok (.aload_n 3, 1) := dqo_45 (kb_31 58 rfl)
theorem dL_law_2043 : decode cL_law 2043 = .ok (.getfield 13, 3) := dqo_180 0 13 (kb_31 59 rfl) (kb_31 60 rfl) (kb_31 61 rfl)
theorem dL_law_2046 : decode cL_law 2046 = .ok (.iload 6, 2) := dqo_21 6 (kb_31 62 rfl) (kb_31 63 rfl)
theorem dL_law_2048 : decode cL_law 2048 = .ok (.i2l, 1) := dqo_133 (kb_32 0 rfl)
theorem dL_law_2049 : decode cL_law 2049 = .ok (.lcmp, 1) := dqo_148 (kb_32 1 rfl)
theorem dL_law_2050 : decode cL_law 2050 = .ok (.ifCond .eq 5, 3) := dqo_153 0 5 (by decide) (kb_32 2 rfl) (kb_32 3 rfl) (kb_32 4 rfl)
theorem dL_law_2055 : decode cL_law 2055 = .ok (.goto 1401, 3) := dqo_167 5 121 (by decide) (kb_32 7 rfl) (kb_32 8 rfl) (kb_32 9 rfl)
theorem dL_law_2058 : decode cL_law 2058 = .ok (.aload_n 1, 1) := dqo_43 (kb_32 10 rfl)
theorem dL_law_2059 : decode cL_law 2059 = .ok (.aload_n 0, 1) := dqo_42 (kb_32 11 rfl)
theorem dL_law_2060 : decode cL_law 2060 = .ok (.iload 4, 2) := dqo_21 4 (kb_32 12 rfl) (kb_32 13 rfl)
theorem dL_law_2062 : decode cL_law 2062 = .ok (.iconst 1, 1) := dqo_4 (kb_32 14 rfl)
theorem dL_law_2063 : decode cL_law 2063 = .ok (.iadd, 1) := dqo_96 (kb_32 15 rfl)
theorem dL_law_2064 : decode cL_law 2064 = .ok (.iaload, 1) := dqo_46 (kb_32 16 rfl)
theorem dL_law_2065 : decode cL_law 2065 = .ok (.aload_n 0, 1) := dqo_42 (kb_32 17 rfl)
theorem dL_law_2066 : decode cL_law 2066 = .ok (.iload 4, 2) := dqo_21 4 (kb_32 18 rfl) (kb_32 19 rfl)
theorem dL_law_2068 : decode cL_law 2068 = .ok (.iconst 2, 1) := dqo_5 (kb_32 20 rfl)
theorem dL_law_2069 : decode cL_law 2069 = .ok (.iadd, 1) := dqo_96 (kb_32 21 rfl)
theorem dL_law_2070 : decode cL_law 2070 = .ok (.iaload, 1) := dqo_46 (kb_32 22 rfl)
theorem dL_law_2071 : decode cL_law 2071 = .ok (.aload_n 3, 1) := dqo_45 (kb_32 23 rfl)
theorem dL_law_2072 : decode cL_law 2072 = .ok (.invokestatic 263, 3) := dqo_184 1 7 (kb_32 24 rfl) (kb_32 25 rfl) (kb_32 26 rfl)
theorem dL_law_2075 : decode cL_law 2075 = .ok (.istore 5, 2) := dqo_54 5 (kb_32 27 rfl) (kb_32 28 rfl)
theorem dL_law_2077 : decode cL_law 2077 = .ok (.aload_n 2, 1) := dqo_44 (kb_32 29 rfl)
theorem dL_law_2078 : decode cL_law 2078 = .ok (.aload_n 0, 1) := dqo_42 (kb_32 30 rfl)
theorem dL_law_2079 : decode cL_law 2079 = .ok (.iload 4, 2) := dqo_21 4 (kb_32 31 rfl) (kb_32 32 rfl)
theorem dL_law_2081 : decode cL_law 2081 = .ok (.iconst 1, 1) := dqo_4 (kb_32 33 rfl)
theorem dL_law_2082 : decode cL_law 2082 = .ok (.iadd, 1) := dqo_96 (kb_32 34 rfl)
theorem dL_law_2083 : decode cL_law 2083 = .ok (.iaload, 1) := dqo_46 (kb_32 35 rfl)
theorem dL_law_2084 : decode cL_law 2084 = .ok (.aload_n 0, 1) := dqo_42 (kb_32 36 rfl)
theorem dL_law_2085 : decode cL_law 2085 = .ok (.iload 4, 2) := dqo_21 4 (kb_32 37 rfl) (kb_32 38 rfl)
theorem dL_law_2087 : decode cL_law 2087 = .ok (.iconst 2, 1) := dqo_5 (kb_32 39 rfl)
theorem dL_law_2088 : decode cL_law 2088 = .ok (.iadd, 1) := dqo_96 (kb_32 40 rfl)
theorem dL_law_2089 : decode cL_law 2089 = .ok (.iaload, 1) := dqo_46 (kb_32 41 rfl)
theorem dL_law_2090 : decode cL_law 2090 = .ok (.invokevirtual 265, 3) := dqo_182 1 9 (kb_32 42 rfl) (kb_32 43 rfl) (kb_32 44 rfl)
theorem dL_law_2093 : decode cL_law 2093 = .ok (.istore 6, 2) := dqo_54 6 (kb_32 45 rfl) (kb_32 46 rfl)
theorem dL_law_2095 : decode cL_law 2095 = .ok (.aload_n 2, 1) := dqo_44 (kb_32 47 rfl)
theorem dL_law_2096 : decode cL_law 2096 = .ok (.invokevirtual 181, 3) := dqo_182 0 181 (kb_32 48 rfl) (kb_32 49 rfl) (kb_32 50 rfl)
theorem dL_law_2099 : decode cL_law 2099 = .ok (.iload 5, 2) := dqo_21 5 (kb_32 51 rfl) (kb_32 52 rfl)
theorem dL_law_2101 : decode cL_law 2101 = .ok (.if_icmp .eq 5, 3) := dqo_159 0 5 (by decide) (kb_32 53 rfl) (kb_32 54 rfl) (kb_32 55 rfl)
theorem dL_law_2106 : decode cL_law 2106 = .ok (.iload 5, 2) := dqo_21 5 (kb_32 58 rfl) (kb_32 59 rfl)
theorem dL_law_2108 : decode cL_law 2108 = .ok (.ifCond .ne 23, 3) := dqo_154 0 23 (by decide) (kb_32 60 rfl) (kb_32 61 rfl) (kb_32 62 rfl)
theorem dL_law_2111 : decode cL_law 2111 = .ok (.aload_n 3, 1) := dqo_45 (kb_32 63 rfl)
theorem dL_law_2112 : decode cL_law 2112 = .ok (.getfield 13, 3) := dqo_180 0 13 (kb_33 0 rfl) (kb_33 1 rfl) (kb_33 2 rfl)
theorem dL_law_2115 : decode cL_law 2115 = .ok (.iload 6, 2) := dqo_21 6 (kb_33 3 rfl) (kb_33 4 rfl)
theorem dL_law_2117 : decode cL_law 2117 = .ok (.ifCond .eq 7, 3) := dqo_153 0 7 (by decide) (kb_33 5 rfl) (kb_33 6 rfl) (kb_33 7 rfl)
theorem dL_law_2120 : decode cL_law 2120 = .ok (.lconst 1, 1) := dqo_10 (kb_33 8 rfl)
theorem dL_law_2121 : decode cL_law 2121 = .ok (.goto 4, 3) := dqo_167 0 4 (by decide) (kb_33 9 rfl) (kb_33 10 rfl) (kb_33 11 rfl)
theorem dL_law_2124 : decode cL_law 2124 = .ok (.lconst 0, 1) := dqo_9 (kb_33 12 rfl)
theorem dL_law_2125 : decode cL_law 2125 = .ok (.lcmp, 1) := dqo_148 (kb_33 13 rfl)
theorem dL_law_2126 : decode cL_law 2126 = .ok (.ifCond .eq 5, 3) := dqo_153 0 5 (by decide) (kb_33 14 rfl) (kb_33 15 rfl) (kb_33 16 rfl)
theorem dL_law_2131 : decode cL_law 2131 = .ok (.goto 1325, 3) := dqo_167 5 45 (by decide) (kb_33 19 rfl) (kb_33 20 rfl) (kb_33 21 rfl)
theorem dL_law_2134 : decode cL_law 2134 = .ok (.aload_n 1, 1) := dqo_43 (kb_33 22 rfl)
theorem dL_law_2135 : decode cL_law 2135 = .ok (.aload_n 0, 1) := dqo_42 (kb_33 23 rfl)
theorem dL_law_2136 : decode cL_law 2136 = .ok (.iload 4, 2) := dqo_21 4 (kb_33 24 rfl) (kb_33 25 rfl)
theorem dL_law_2138 : decode cL_law 2138 = .ok (.iconst 1, 1) := dqo_4 (kb_33 26 rfl)
theorem dL_law_2139 : decode cL_law 2139 = .ok (.iadd, 1) := dqo_96 (kb_33 27 rfl)
theorem dL_law_2140 : decode cL_law 2140 = .ok (.iaload, 1) := dqo_46 (kb_33 28 rfl)
theorem dL_law_2141 : decode cL_law 2141 = .ok (.aload_n 0, 1) := dqo_42 (kb_33 29 rfl)
theorem dL_law_2142 : decode cL_law 2142 = .ok (.iload 4, 2) := dqo_21 4 (kb_33 30 rfl) (kb_33 31 rfl)
theorem dL_law_2144 : decode cL_law 2144 = .ok (.iconst 2, 1) := dqo_5 (kb_33 32 rfl)
theorem dL_law_2145 : decode cL_law 2145 = .ok (.iadd, 1) := dqo_96 (kb_33 33 rfl)
theorem dL_law_2146 : decode cL_law 2146 = .ok (.iaload, 1) := dqo_46 (kb_33 34 rfl)
theorem dL_law_2147 : decode cL_law 2147 = .ok (.aload_n 3, 1) := dqo_45 (kb_33 35 rfl)
theorem dL_law_2148 : decode cL_law 2148 = .ok (.invokestatic 266, 3) := dqo_184 1 10 (kb_33 36 rfl) (kb_33 37 rfl) (kb_33 38 rfl)
theorem dL_law_2151 : decode cL_law 2151 = .ok (.istore 5, 2) := dqo_54 5 (kb_33 39 rfl) (kb_33 40 rfl)
theorem dL_law_2153 : decode cL_law 2153 = .ok (.aload_n 2, 1) := dqo_44 (kb_33 41 rfl)
theorem dL_law_2154 : decode cL_law 2154 = .ok (.aload_n 0, 1) := dqo_42 (kb_33 42 rfl)
theorem dL_law_2155 : decode cL_law 2155 = .ok (.iload 4, 2) := dqo_21 4 (kb_33 43 rfl) (kb_33 44 rfl)
theorem dL_law_2157 : decode cL_law 2157 = .ok (.iconst 1, 1) := dqo_4 (kb_33 45 rfl)
theorem dL_law_2158 : decode cL_law 2158 = .ok (.iadd, 1) := dqo_96 (kb_33 46 rfl)
theorem dL_law_2159 : decode cL_law 2159 = .ok (.iaload, 1) := dqo_46 (kb_33 47 rfl)
theorem dL_law_2160 : decode cL_law 2160 = .ok (.aload_n 0, 1) := dqo_42 (kb_33 48 rfl)
theorem dL_law_2161 : decode cL_law 2161 = .ok (.iload 4, 2) := dqo_21 4 (kb_33 49 rfl) (kb_33 50 rfl)
theorem dL_law_2163 : decode cL_law 2163 = .ok (.iconst 2, 1) := dqo_5 (kb_33 51 rfl)
theorem dL_law_2164 : decode cL_law 2164 = .ok (.iadd, 1) := dqo_96 (kb_33 52 rfl)
theorem dL_law_2165 : decode cL_law 2165 = .ok (.iaload, 1) := dqo_46 (kb_33 53 rfl)
theorem dL_law_2166 : decode cL_law 2166 = .ok (.invokevirtual 268, 3) := dqo_182 1 12 (kb_33 54 rfl) (kb_33 55 rfl) (kb_33 56 rfl)
theorem dL_law_2169 : decode cL_law 2169 = .ok (.istore 6, 2) := dqo_54 6 (kb_33 57 rfl) (kb_33 58 rfl)
theorem dL_law_2171 : decode cL_law 2171 = .ok (.aload_n 2, 1) := dqo_44 (kb_33 59 rfl)
theorem dL_law_2172 : decode cL_law 2172 = .ok (.invokevirtual 181, 3) := dqo_182 0 181 (kb_33 60 rfl) (kb_33 61 rfl) (kb_33 62 rfl)
theorem dL_law_2175 : decode cL_law 2175 = .ok (.iload 5, 2) := dqo_21 5 (kb_33 63 rfl) (kb_34 0 rfl)
theorem dL_law_2177 : decode cL_law 2177 = .ok (.if_icmp .eq 5, 3) := dqo_159 0 5 (by decide) (kb_34 1 rfl) (kb_34 2 rfl) (kb_34 3 rfl)
theorem dL_law_2182 : decode cL_law 2182 = .ok (.iload 5, 2) := dqo_21 5 (kb_34 6 rfl) (kb_34 7 rfl)
theorem dL_law_2184 : decode cL_law 2184 = .ok (.ifCond .ne 16, 3) := dqo_154 0 16 (by decide) (kb_34 8 rfl) (kb_34 9 rfl) (kb_34 10 rfl)
theorem dL_law_2187 : decode cL_law 2187 = .ok (.aload_n 3, 1) := dqo_45 (kb_34 11 rfl)
theorem dL_law_2188 : decode cL_law 2188 = .ok (.getfield 13, 3) := dqo_180 0 13 (kb_34 12 rfl) (kb_34 13 rfl) (kb_34 14 rfl)
theorem dL_law_2191 : decode cL_law 2191 = .ok (.iload 6, 2) := dqo_21 6 (kb_34 15 rfl) (kb_34 16 rfl)
theorem dL_law_2193 : decode cL_law 2193 = .ok (.i2l, 1) := dqo_133 (kb_34 17 rfl)
theorem dL_law_2194 : decode cL_law 2194 = .ok (.lcmp, 1) := dqo_148 (kb_34 18 rfl)
theorem dL_law_2195 : decode cL_law 2195 = .ok (.ifCond .eq 5, 3) := dqo_153 0 5 (by decide) (kb_34 19 rfl) (kb_34 20 rfl) (kb_34 21 rfl)
theorem dL_law_2200 : decode cL_law 2200 = .ok (.goto 1256, 3) := dqo_167 4 232 (by decide) (kb_34 24 rfl) (kb_34 25 rfl) (kb_34 26 rfl)
theorem dL_law_2203 : decode cL_law 2203 = .ok (.aload_n 1, 1) := dqo_43 (kb_34 27 rfl)
theorem dL_law_2204 : decode cL_law 2204 = .ok (.aload_n 0, 1) := dqo_42 (kb_34 28 rfl)
theorem dL_law_2205 : decode cL_law 2205 = .ok (.iload 4, 2) := dqo_21 4 (kb_34 29 rfl) (kb_34 30 rfl)
theorem dL_law_2207 : decode cL_law 2207 = .ok (.iconst 1, 1) := dqo_4 (kb_34 31 rfl)
theorem dL_law_2208 : decode cL_law 2208 = .ok (.iadd, 1) := dqo_96 (kb_34 32 rfl)
theorem dL_law_2209 : decode cL_law 2209 = .ok (.iaload, 1) := dqo_46 (kb_34 33 rfl)
theorem dL_law_2210 : decode cL_law 2210 = .ok (.aload_n 0, 1) := dqo_42 (kb_34 34 rfl)
theorem dL_law_2211 : decode cL_law 2211 = .ok (.iload 4, 2) := dqo_21 4 (kb_34 35 rfl) (kb_34 36 rfl)
theorem dL_law_2213 : decode cL_law 2213 = .ok (.iconst 2, 1) := dqo_5 (kb_34 37 rfl)
theorem dL_law_2214 : decode cL_law 2214 = .ok (.iadd, 1) := dqo_96 (kb_34 38 rfl)
theorem dL_law_2215 : decode cL_law 2215 = .ok (.iaload, 1) := dqo_46 (kb_34 39 rfl)
theorem dL_law_2216 : decode cL_law 2216 = .ok (.ifCond .eq 7, 3) := dqo_153 0 7 (by decide) (kb_34 40 rfl) (kb_34 41 rfl) (kb_34 42 rfl)
theorem dL_law_2219 : decode cL_law 2219 = .ok (.iconst 1, 1) := dqo_4 (kb_34 43 rfl)
theorem dL_law_2220 : decode cL_law 2220 = .ok (.goto 4, 3) := dqo_167 0 4 (by decide) (kb_34 44 rfl) (kb_34 45 rfl) (kb_34 46 rfl)
theorem dL_law_2223 : decode cL_law 2223 = .ok (.iconst 0, 1) := dqo_3 (kb_34 47 rfl)
theorem dL_law_2224 : decode cL_law 2224 = .ok (.aload_n 3, 1) := dqo_45 (kb_34 48 rfl)
theorem dL_law_2225 : decode cL_law 2225 = .ok (.invokestatic 269, 3) := dqo_184 1 13 (kb_34 49 rfl) (kb_34 50 rfl) (kb_34 51 rfl)
theorem dL_law_2228 : decode cL_law 2228 = .ok (.istore 5, 2) := dqo_54 5 (kb_34 52 rfl) (kb_34 53 rfl)
theorem dL_law_2230 : decode cL_law 2230 = .ok (.aload_n 2, 1) := dqo_44 (kb_34 54 rfl)
theorem dL_law_2231 : decode cL_law 2231 = .ok (.aload_n 0, 1) := dqo_42 (kb_34 55 rfl)
theorem dL_law_2232 : decode cL_law 2232 = .ok (.iload 4, 2) := dqo_21 4 (kb_34 56 rfl) (kb_34 57 rfl)
theorem dL_law_2234 : decode cL_law 2234 = .ok (.iconst 1, 1) := dqo_4 (kb_34 58 rfl)
theorem dL_law_2235 : decode cL_law 2235 = .ok (.iadd, 1) := dqo_96 (kb_34 59 rfl)
theorem dL_law_2236 : decode cL_law 2236 = .ok (.iaload, 1) := dqo_46 (kb_34 60 rfl)
theorem dL_law_2237 : decode cL_law 2237 = .ok (.aload_n 0, 1) := dqo_42 (kb_34 61 rfl)
theorem dL_law_2238 : decode cL_law 2238 = .ok (.iload 4, 2) := dqo_21 4 (kb_34 62 rfl) (kb_34 63 rfl)
theorem dL_law_2240 : decode cL_law 2240 = .ok (.iconst 2, 1) := dqo_5 (kb_35 0 rfl)
theorem dL_law_2241 : decode cL_law 2241 = .ok (.iadd, 1) := dqo_96 (kb_35 1 rfl)
theorem dL_law_2242 : decode cL_law 2242 = .ok (.iaload, 1) := dqo_46 (kb_35 2 rfl)
theorem dL_law_2243 : decode cL_law 2243 = .ok (.ifCond .eq 7, 3) := dqo_153 0 7 (by decide) (kb_35 3 rfl) (kb_35 4 rfl) (kb_35 5 rfl)
theorem dL_law_2246 : decode cL_law 2246 = .ok (.iconst 1, 1) := dqo_4 (kb_35 6 rfl)
theorem dL_law_2247 : decode cL_law 2247 = .ok (.goto 4, 3) := dqo_167 0 4 (by decide) (kb_35 7 rfl) (kb_35 8 rfl) (kb_35 9 rfl)
theorem dL_law_2250 : decode cL_law 2250 = .ok (.iconst 0, 1) := dqo_3 (kb_35 10 rfl)
theorem dL_law_2251 : decode cL_law 2251 = .ok (.invokevirtual 272, 3) := dqo_182 1 16 (kb_35 11 rfl) (kb_35 12 rfl) (kb_35 13 rfl)
theorem dL_law_2254 : decode cL_law 2254 = .ok (.istore 6, 2) := dqo_54 6 (kb_35 14 rfl) (kb_35 15 rfl)
theorem dL_law_2256 : decode cL_law 2256 = .ok (.aload_n 2, 1) := dqo_44 (kb_35 16 rfl)
theorem dL_law_2257 : decode cL_law 2257 = .ok (.invokevirtual 181, 3) := dqo_182 0 181 (kb_35 17 rfl) (kb_35 18 rfl) (kb_35 19 rfl)
theorem dL_law_2260 : decode cL_law 2260 = .ok (.iload 5, 2) := dqo_21 5 (kb_35 20 rfl) (kb_35 21 rfl)
theorem dL_law_2262 : decode cL_law 2262 = .ok (.if_icmp .eq 5, 3) := dqo_159 0 5 (by decide) (kb_35 22 rfl) (kb_35 23 rfl) (kb_35 24 rfl)
theorem dL_law_2267 : decode cL_law 2267 = .ok (.iload 5, 2) := dqo_21 5 (kb_35 27 rfl) (kb_35 28 rfl)
theorem dL_law_2269 : decode cL_law 2269 = .ok (.ifCond .ne 16, 3) := dqo_154 0 16 (by decide) (kb_35 29 rfl) (kb_35 30 rfl) (kb_35 31 rfl)
theorem dL_law_2272 : decode cL_law 2272 = .ok (.aload_n 3, 1) := dqo_45 (kb_35 32 rfl)
theorem dL_law_2273 : decode cL_law 2273 = .ok (.getfield 13, 3) := dqo_180 0 13 (kb_35 33 rfl) (kb_35 34 rfl) (kb_35 35 rfl)
theorem dL_law_2276 : decode cL_law 2276 = .ok (.iload 6, 2) := dqo_21 6 (kb_35 36 rfl) (kb_35 37 rfl)
theorem dL_law_2278 : decode cL_law 2278 = .ok (.i2l, 1) := dqo_133 (kb_35 38 rfl)
theorem dL_law_2279 : decode cL_law 2279 = .ok (.lcmp, 1) := dqo_148 (kb_35 39 rfl)
theorem dL_law_2280 : decode cL_law 2280 = .ok (.ifCond .eq 5, 3) := dqo_153 0 5 (by decide) (kb_35 40 rfl) (kb_35 41 rfl) (kb_35 42 rfl)
theorem dL_law_2285 : decode cL_law 2285 = .ok (.goto 1171, 3) := dqo_167 4 147 (by decide) (kb_35 45 rfl) (kb_35 46 rfl) (kb_35 47 rfl)
theorem dL_law_2288 : decode cL_law 2288 = .ok (.aload_n 1, 1) := dqo_43 (kb_35 48 rfl)
theorem dL_law_2289 : decode cL_law 2289 = .ok (.aload_n 0, 1) := dqo_42 (kb_35 49 rfl)
theorem dL_law_2290 : decode cL_law 2290 = .ok (.iload 4, 2) := dqo_21 4 (kb_35 50 rfl) (kb_35 51 rfl)
theorem dL_law_2292 : decode cL_law 2292 = .ok (.iconst 1, 1) := dqo_4 (kb_35 52 rfl)
theorem dL_law_2293 : decode cL_law 2293 = .ok (.iadd, 1) := dqo_96 (kb_35 53 rfl)
theorem dL_law_2294 : decode cL_law 2294 = .ok (.iaload, 1) := dqo_46 (kb_35 54 rfl)
theorem dL_law_2295 : decode cL_law 2295 = .ok (.aload_n 0, 1) := dqo_42 (kb_35 55 rfl)
theorem dL_law_2296 : decode cL_law 2296 = .ok (.iload 4, 2) := dqo_21 4 (kb_35 56 rfl) (kb_35 57 rfl)
theorem dL_law_2298 : decode cL_law 2298 = .ok (.iconst 2, 1) := dqo_5 (kb_35 58 rfl)
theorem dL_law_2299 : decode cL_law 2299 = .ok (.iadd, 1) := dqo_96 (kb_35 59 rfl)
theorem dL_law_2300 : decode cL_law 2300 = .ok (.iaload, 1) := dqo_46 (kb_35 60 rfl)
theorem dL_law_2301 : decode cL_law 2301 = .ok (.aload_n 3, 1) := dqo_45 (kb_35 61 rfl)
theorem dL_law_2302 : decode cL_law 2302 = .ok (.invokestatic 273, 3) := dqo_184 1 17 (kb_35 62 rfl) (kb_35 63 rfl) (kb_36 0 rfl)
theorem dL_law_2305 : decode cL_law 2305 = .ok (.istore 5, 2) := dqo_54 5 (kb_36 1 rfl) (kb_36 2 rfl)
theorem dL_law_2307 : decode cL_law 2307 = .ok (.aload_n 2, 1) := dqo_44 (kb_36 3 rfl)
theorem dL_law_2308 : decode cL_law 2308 = .ok (.aload_n 0, 1) := dqo_42 (kb_36 4 rfl)
theorem dL_law_2309 : decode cL_law 2309 = .ok (.iload 4, 2) := dqo_21 4 (kb_36 5 rfl) (kb_36 6 rfl)
theorem dL_law_2311 : decode cL_law 2311 = .ok (.iconst 1, 1) := dqo_4 (kb_36 7 rfl)
theorem dL_law_2312 : decode cL_law 2312 = .ok (.iadd, 1) := dqo_96 (kb_36 8 rfl)
theorem dL_law_2313 : decode cL_law 2313 = .ok (.iaload, 1) := dqo_46 (kb_36 9 rfl)
theorem dL_law_2314 : decode cL_law 2314 = .ok (.aload_n 0, 1) := dqo_42 (kb_36 10 rfl)
theorem dL_law_2315 : decode cL_law 2315 = .ok (.iload 4, 2) := dqo_21 4 (kb_36 11 rfl) (kb_36 12 rfl)
theorem dL_law_2317 : decode cL_law 2317 = .ok (.iconst 2, 1) := dqo_5 (kb_36 13 rfl)
theorem dL_law_2318 : decode cL_law 2318 = .ok (.iadd, 1) := dqo_96 (kb_36 14 rfl)
theorem dL_law_2319 : decode cL_law 2319 = .ok (.iaload, 1) := dqo_46 (kb_36 15 rfl)
theorem dL_law_2320 : decode cL_law 2320 = .ok (.invokevirtual 275, 3) := dqo_182 1 19 (kb_36 16 rfl) (kb_36 17 rfl) (kb_36 18 rfl)
theorem dL_law_2323 : decode cL_law 2323 = .ok (.istore 6, 2) := dqo_54 6 (kb_36 19 rfl) (kb_36 20 rfl)
theorem dL_law_2325 : decode cL_law 2325 = .ok (.aload_n 2, 1) := dqo_44 (kb_36 21 rfl)
theorem dL_law_2326 : decode cL_law 2326 = .ok (.invokevirtual 181, 3) := dqo_182 0 181 (kb_36 22 rfl) (kb_36 23 rfl) (kb_36 24 rfl)
theorem dL_law_2329 : decode cL_law 2329 = .ok (.iload 5, 2) := dqo_21 5 (kb_36 25 rfl) (kb_36 26 rfl)
theorem dL_law_2331 : decode cL_law 2331 = .ok (.if_icmp .eq 5, 3) := dqo_159 0 5 (by decide) (kb_36 27 rfl) (kb_36 28 rfl) (kb_36 29 rfl)
theorem dL_law_2336 : decode cL_law 2336 = .ok (.iload 5, 2) := dqo_21 5 (kb_36 32 rfl) (kb_36 33 rfl)
theorem dL_law_2338 : decode cL_law 2338 = .ok (.ifCond .ne 23, 3) := dqo_154 0 23 (by decide) (kb_36 34 rfl) (kb_36 35 rfl) (kb_36 36 rfl)
theorem dL_law_2341 : decode cL_law 2341 = .ok (.aload_n 3, 1) := dqo_45 (kb_36 37 rfl)
theorem dL_law_2342 : decode cL_law 2342 = .ok (.getfield 13, 3) := dqo_180 0 13 (kb_36 38 rfl) (kb_36 39 rfl) (kb_36 40 rfl)
theorem dL_law_2345 : decode cL_law 2345 = .ok (.iload 6, 2) := dqo_21 6 (kb_36 41 rfl) (kb_36 42 rfl)
theorem dL_law_2347 : decode cL_law 2347 = .ok (.ifCond .eq 7, 3) := dqo_153 0 7 (by decide) (kb_36 43 rfl) (kb_36 44 rfl) (kb_36 45 rfl)
theorem dL_law_2350 : decode cL_law 2350 = .ok (.lconst 1, 1) := dqo_10 (kb_36 46 rfl)
theorem dL_law_2351 : decode cL_law 2351 = .ok (.goto 4, 3) := dqo_167 0 4 (by decide) (kb_36 47 rfl) (kb_36 48 rfl) (kb_36 49 rfl)
theorem dL_law_2354 : decode cL_law 2354 = .ok (.lconst 0, 1) := dqo_9 (kb_36 50 rfl)
theorem dL_law_2355 : decode cL_law 2355 = .ok (.lcmp, 1) := dqo_148 (kb_36 51 rfl)
theorem dL_law_2356 : decode cL_law 2356 = .ok (.ifCond .eq 5, 3) := dqo_153 0 5 (by decide) (kb_36 52 rfl) (kb_36 53 rfl) (kb_36 54 rfl)
theorem dL_law_2361 : decode cL_law 2361 = .ok (.goto 1095, 3) := dqo_167 4 71 (by decide) (kb_36 57 rfl) (kb_36 58 rfl) (kb_36 59 rfl)
theorem dL_law_2364 : decode cL_law 2364 = .ok (.aload_n 1, 1) := dqo_43 (kb_36 60 rfl)
theorem dL_law_2365 : decode cL_law 2365 = .ok (.aload_n 0, 1) := dqo_42 (kb_36 61 rfl)
theorem dL_law_2366 : decode cL_law 2366 = .ok (.iload 4, 2) := dqo_21 4 (kb_36 62 rfl) (kb_36 63 rfl)
theorem dL_law_2368 : decode cL_law 2368 = .ok (.iconst 1, 1) := dqo_4 (kb_37 0 rfl)
theorem dL_law_2369 : decode cL_law 2369 = .ok (.iadd, 1) := dqo_96 (kb_37 1 rfl)
theorem dL_law_2370 : decode cL_law 2370 = .ok (.iaload, 1) := dqo_46 (kb_37 2 rfl)
theorem dL_law_2371 : decode cL_law 2371 = .ok (.aload_n 0, 1) := dqo_42 (kb_37 3 rfl)
theorem dL_law_2372 : decode cL_law 2372 = .ok (.iload 4, 2) := dqo_21 4 (kb_37 4 rfl) (kb_37 5 rfl)
theorem dL_law_2374 : decode cL_law 2374 = .ok (.iconst 2, 1) := dqo_5 (kb_37 6 rfl)
theorem dL_law_2375 : decode cL_law 2375 = .ok (.iadd, 1) := dqo_96 (kb_37 7 rfl)
theorem dL_law_2376 : decode cL_law 2376 = .ok (.iaload, 1) := dqo_46 (kb_37 8 rfl)
theorem dL_law_2377 : decode cL_law 2377 = .ok (.aload_n 3, 1) := dqo_45 (kb_37 9 rfl)
theorem dL_law_2378 : decode cL_law 2378 = .ok (.invokestatic 276, 3) := dqo_184 1 20 (kb_37 10 rfl) (kb_37 11 rfl) (kb_37 12 rfl)
theorem dL_law_2381 : decode cL_law 2381 = .ok (.istore 5, 2) := dqo_54 5 (kb_37 13 rfl) (kb_37 14 rfl)
theorem dL_law_2383 : decode cL_law 2383 = .ok (.aload_n 2, 1) := dqo_44 (kb_37 15 rfl)
theorem dL_law_2384 : decode cL_law 2384 = .ok (.aload_n 0, 1) := dqo_42 (kb_37 16 rfl)
theorem dL_law_2385 : decode cL_law 2385 = .ok (.iload 4, 2) := dqo_21 4 (kb_37 17 rfl) (kb_37 18 rfl)
theorem dL_law_2387 : decode cL_law 2387 = .ok (.iconst 1, 1) := dqo_4 (kb_37 19 rfl)
theorem dL_law_2388 : decode cL_law 2388 = .ok (.iadd, 1) := dqo_96 (kb_37 20 rfl)
theorem dL_law_2389 : decode cL_law 2389 = .ok (.iaload, 1) := dqo_46 (kb_37 21 rfl)
theorem dL_law_2390 : decode cL_law 2390 = .ok (.aload_n 0, 1) := dqo_42 (kb_37 22 rfl)
theorem dL_law_2391 : decode cL_law 2391 = .ok (.iload 4, 2) := dqo_21 4 (kb_37 23 rfl) (kb_37 24 rfl)
theorem dL_law_2393 : decode cL_law 2393 = .ok (.iconst 2, 1) := dqo_5 (kb_37 25 rfl)
theorem dL_law_2394 : decode cL_law 2394 = .ok (.iadd, 1) := dqo_96 (kb_37 26 rfl)
theorem dL_law_2395 : decode cL_law 2395 = .ok (.iaload, 1) := dqo_46 (kb_37 27 rfl)
theorem dL_law_2396 : decode cL_law 2396 = .ok (.invokevirtual 278, 3) := dqo_182 1 22 (kb_37 28 rfl) (kb_37 29 rfl) (kb_37 30 rfl)
theorem dL_law_2399 : decode cL_law 2399 = .ok (.istore 6, 2) := dqo_54 6 (kb_37 31 rfl) (kb_37 32 rfl)
theorem dL_law_2401 : decode cL_law 2401 = .ok (.aload_n 2, 1) := dqo_44 (kb_37 33 rfl)
theorem dL_law_2402 : decode cL_law 2402 = .ok (.invokevirtual 181, 3) := dqo_182 0 181 (kb_37 34 rfl) (kb_37 35 rfl) (kb_37 36 rfl)
theorem dL_law_2405 : decode cL_law 2405 = .ok (.iload 5, 2) := dqo_21 5 (kb_37 37 rfl) (kb_37 38 rfl)
theorem dL_law_2407 : decode cL_law 2407 = .ok (.if_icmp .eq 5, 3) := dqo_159 0 5 (by decide) (kb_37 39 rfl) (kb_37 40 rfl) (kb_37 41 rfl)
theorem dL_law_2412 : decode cL_law 2412 = .ok (.iload 5, 2) := dqo_21 5 (kb_37 44 rfl) (kb_37 45 rfl)
theorem dL_law_2414 : decode cL_law 2414 = .ok (.ifCond .ne 23, 3) := dqo_154 0 23 (by decide) (kb_37 46 rfl) (kb_37 47 rfl) (kb_37 48 rfl)
theorem dL_law_2417 : decode cL_law 2417 = .ok (.aload_n 3, 1) := dqo_45 (kb_37 49 rfl)
theorem dL_law_2418 : decode cL_law 2418 = .ok (.getfield 13, 3) := dqo_180 0 13 (kb_37 50 rfl) (kb_37 51 rfl) (kb_37 52 rfl)
theorem dL_law_2421 : decode cL_law 2421 = .ok (.iload 6, 2) := dqo_21 6 (kb_37 53 rfl) (kb_37 54 rfl)
theorem dL_law_2423 : decode cL_law 2423 = .ok (.ifCond .eq 7, 3) := dqo_153 0 7 (by decide) (kb_37 55 rfl) (kb_37 56 rfl) (kb_37 57 rfl)
theorem dL_law_2426 : decode cL_law 2426 = .ok (.lconst 1, 1) := dqo_10 (kb_37 58 rfl)
theorem dL_law_2427 : decode cL_law 2427 = .ok (.goto 4, 3) := dqo_167 0 4 (by decide) (kb_37 59 rfl) (kb_37 60 rfl) (kb_37 61 rfl)
theorem dL_law_2430 : decode cL_law 2430 = .ok (.lconst 0, 1) := dqo_9 (kb_37 62 rfl)
theorem dL_law_2431 : decode cL_law 2431 = .ok (.lcmp, 1) := dqo_148 (kb_37 63 rfl)
theorem dL_law_2432 : decode cL_law 2432 = .ok (.ifCond .eq 5, 3) := dqo_153 0 5 (by decide) (kb_38 0 rfl) (kb_38 1 rfl) (kb_38 2 rfl)
theorem dL_law_2437 : decode cL_law 2437 = .ok (.goto 1019, 3) := dqo_167 3 251 (by decide) (kb_38 5 rfl) (kb_38 6 rfl) (kb_38 7 rfl)
theorem dL_law_2440 : decode cL_law 2440 = .ok (.aload_n 1, 1) := dqo_43 (kb_38 8 rfl)
theorem dL_law_2441 : decode cL_law 2441 = .ok (.aload_n 0, 1) := dqo_42 (kb_38 9 rfl)
theorem dL_law_2442 : decode cL_law 2442 = .ok (.iload 4, 2) := dqo_21 4 (kb_38 10 rfl) (kb_38 11 rfl)
theorem dL_law_2444 : decode cL_law 2444 = .ok (.iconst 1, 1) := dqo_4 (kb_38 12 rfl)
theorem dL_law_2445 : decode cL_law 2445 = .ok (.iadd, 1) := dqo_96 (kb_38 13 rfl)
theorem dL_law_2446 : decode cL_law 2446 = .ok (.iaload, 1) := dqo_46 (kb_38 14 rfl)
theorem dL_law_2447 : decode cL_law 2447 = .ok (.aload_n 3, 1) := dqo_45 (kb_38 15 rfl)
theorem dL_law_2448 : decode cL_law 2448 = .ok (.invokestatic 279, 3) := dqo_184 1 23 (kb_38 16 rfl) (kb_38 17 rfl) (kb_38 18 rfl)
theorem dL_law_2451 : decode cL_law 2451 = .ok (.istore 5, 2) := dqo_54 5 (kb_38 19 rfl) (kb_38 20 rfl)
theorem dL_law_2453 : decode cL_law 2453 = .ok (.aload_n 2, 1) := dqo_44 (kb_38 21 rfl)
theorem dL_law_2454 : decode cL_law 2454 = .ok (.aload_n 0, 1) := dqo_42 (kb_38 22 rfl)
theorem dL_law_2455 : decode cL_law 2455 = .ok (.iload 4, 2) := dqo_21 4 (kb_38 23 rfl) (kb_38 24 rfl)
theorem dL_law_2457 : decode cL_law 2457 = .ok (.iconst 1, 1) := dqo_4 (kb_38 25 rfl)
theorem dL_law_2458 : decode cL_law 2458 = .ok (.iadd, 1) := dqo_96 (kb_38 26 rfl)
theorem dL_law_2459 : decode cL_law 2459 = .ok (.iaload, 1) := dqo_46 (kb_38 27 rfl)
theorem dL_law_2460 : decode cL_law 2460 = .ok (.invokevirtual 281, 3) := dqo_182 1 25 (kb_38 28 rfl) (kb_38 29 rfl) (kb_38 30 rfl)
theorem dL_law_2463 : decode cL_law 2463 = .ok (.istore 6, 2) := dqo_54 6 (kb_38 31 rfl) (kb_38 32 rfl)
theorem dL_law_2465 : decode cL_law 2465 = .ok (.aload_n 2, 1) := dqo_44 (kb_38 33 rfl)
theorem dL_law_2466 : decode cL_law 2466 = .ok (.invokevirtual 181, 3) := dqo_182 0 181 (kb_38 34 rfl) (kb_38 35 rfl) (kb_38 36 rfl)
theorem dL_law_2469 : decode cL_law 2469 = .ok (.iload 5, 2) := dqo_21 5 (kb_38 37 rfl) (kb_38 38 rfl)
theorem dL_law_2471 : decode cL_law 2471 = .ok (.if_icmp .eq 5, 3) := dqo_159 0 5 (by decide) (kb_38 39 rfl) (kb_38 40 rfl) (kb_38 41 rfl)
theorem dL_law_2476 : decode cL_law 2476 = .ok (.iload 5, 2) := dqo_21 5 (kb_38 44 rfl) (kb_38 45 rfl)
theorem dL_law_2478 : decode cL_law 2478 = .ok (.ifCond .ne 16, 3) := dqo_154 0 16 (by decide) (kb_38 46 rfl) (kb_38 47 rfl) (kb_38 48 rfl)
theorem dL_law_2481 : decode cL_law 2481 = .ok (.aload_n 3, 1) := dqo_45 (kb_38 49 rfl)
theorem dL_law_2482 : decode cL_law 2482 = .ok (.getfield 13, 3) := dqo_180 0 13 (kb_38 50 rfl) (kb_38 51 rfl) (kb_38 52 rfl)
theorem dL_law_2485 : decode cL_law 2485 = .ok (.iload 6, 2) := dqo_21 6 (kb_38 53 rfl) (kb_38 54 rfl)
theorem dL_law_2487 : decode cL_law 2487 = .ok (.i2l, 1) := dqo_133 (kb_38 55 rfl)
theorem dL_law_2488 : decode cL_law 2488 = .ok (.lcmp, 1) := dqo_148 (kb_38 56 rfl)
theorem dL_law_2489 : decode cL_law 2489 = .ok (.ifCond .eq 5, 3) := dqo_153 0 5 (by decide) (kb_38 57 rfl) (kb_38 58 rfl) (kb_38 59 rfl)
theorem dL_law_2494 : decode cL_law 2494 = .ok (.goto 962, 3) := dqo_167 3 194 (by decide) (kb_38 62 rfl) (kb_38 63 rfl) (kb_39 0 rfl)
theorem dL_law_2497 : decode cL_law 2497 = .ok (.aload_n 1, 1) := dqo_43 (kb_39 1 rfl)
theorem dL_law_2498 : decode cL_law 2498 = .ok (.aload_n 0, 1) := dqo_42 (kb_39 2 rfl)
theorem dL_law_2499 : decode cL_law 2499 = .ok (.iload 4, 2) := dqo_21 4 (kb_39 3 rfl) (kb_39 4 rfl)
theorem dL_law_2501 : decode cL_law 2501 = .ok (.iconst 1, 1) := dqo_4 (kb_39 5 rfl)
theorem dL_law_2502 : decode cL_law 2502 = .ok (.iadd, 1) := dqo_96 (kb_39 6 rfl)
theorem dL_law_2503 : decode cL_law 2503 = .ok (.iaload, 1) := dqo_46 (kb_39 7 rfl)
theorem dL_law_2504 : decode cL_law 2504 = .ok (.aload_n 3, 1) := dqo_45 (kb_39 8 rfl)
theorem dL_law_2505 : decode cL_law 2505 = .ok (.invokestatic 282, 3) := dqo_184 1 26 (kb_39 9 rfl) (kb_39 10 rfl) (kb_39 11 rfl)
theorem dL_law_2508 : decode cL_law 2508 = .ok (.istore 5, 2) := dqo_54 5 (kb_39 12 rfl) (kb_39 13 rfl)
theorem dL_law_2510 : decode cL_law 2510 = .ok (.aload_n 2, 1) := dqo_44 (kb_39 14 rfl)
theorem dL_law_2511 : decode cL_law 2511 = .ok (.aload_n 0, 1) := dqo_42 (kb_39 15 rfl)
theorem dL_law_2512 : decode cL_law 2512 = .ok (.iload 4, 2) := dqo_21 4 (kb_39 16 rfl) (kb_39 17 rfl)
theorem dL_law_2514 : decode cL_law 2514 = .ok (.iconst 1, 1) := dqo_4 (kb_39 18 rfl)
theorem dL_law_2515 : decode cL_law 2515 = .ok (.iadd, 1) := dqo_96 (kb_39 19 rfl)
theorem dL_law_2516 : decode cL_law 2516 = .ok (.iaload, 1) := dqo_46 (kb_39 20 rfl)
theorem dL_law_2517 : decode cL_law 2517 = .ok (.invokevirtual 284, 3) := dqo_182 1 28 (kb_39 21 rfl) (kb_39 22 rfl) (kb_39 23 rfl)
theorem dL_law_2520 : decode cL_law 2520 = .ok (.astore 6, 2) := dqo_58 6 (kb_39 24 rfl) (kb_39 25 rfl)
theorem dL_law_2522 : decode cL_law 2522 = .ok (.aload_n 2, 1) := dqo_44 (kb_39 26 rfl)
theorem dL_law_2523 : decode cL_law 2523 = .ok (.invokevirtual 181, 3) := dqo_182 0 181 (kb_39 27 rfl) (kb_39 28 rfl) (kb_39 29 rfl)
theorem dL_law_2526 : decode cL_law 2526 = .ok (.iload 5, 2) := dqo_21 5 (kb_39 30 rfl) (kb_39 31 rfl)
theorem dL_law_2528 : decode cL_law 2528 = .ok (.if_icmp .eq 5, 3) := dqo_159 0 5 (by decide) (kb_39 32 rfl) (kb_39 33 rfl) (kb_39 34 rfl)
theorem dL_law_2533 : decode cL_law 2533 = .ok (.iload 5, 2) := dqo_21 5 (kb_39 37 rfl) (kb_39 38 rfl)
theorem dL_law_2535 : decode cL_law 2535 = .ok (.ifCond .ne 17, 3) := dqo_154 0 17 (by decide) (kb_39 39 rfl) (kb_39 40 rfl) (kb_39 41 rfl)
theorem dL_law_2538 : decode cL_law 2538 = .ok (.aload_n 3, 1) := dqo_45 (kb_39 42 rfl)
theorem dL_law_2539 : decode cL_law 2539 = .ok (.getfield 127, 3) := dqo_180 0 127 (kb_39 43 rfl) (kb_39 44 rfl) (kb_39 45 rfl)
theorem dL_law_2542 : decode cL_law 2542 = .ok (.aload 6, 2) := dqo_25 6 (kb_39 46 rfl) (kb_39 47 rfl)
theorem dL_law_2544 : decode cL_law 2544 = .ok (.invokevirtual 285, 3) := dqo_182 1 29 (kb_39 48 rfl) (kb_39 49 rfl) (kb_39 50 rfl)
theorem dL_law_2547 : decode cL_law 2547 = .ok (.ifCond .ne 5, 3) := dqo_154 0 5 (by decide) (kb_39 51 rfl) (kb_39 52 rfl) (kb_39 53 rfl)
theorem dL_law_2552 : decode cL_law 2552 = .ok (.goto 904, 3) := dqo_167 3 136 (by decide) (kb_39 56 rfl) (kb_39 57 rfl) (kb_39 58 rfl)
theorem dL_law_2555 : decode cL_law 2555 = .ok (.aload_n 1, 1) := dqo_43 (kb_39 59 rfl)
theorem dL_law_2556 : decode cL_law 2556 = .ok (.aload_n 0, 1) := dqo_42 (kb_39 60 rfl)
theorem dL_law_2557 : decode cL_law 2557 = .ok (.iload 4, 2) := dqo_21 4 (kb_39 61 rfl) (kb_39 62 rfl)
theorem dL_law_2559 : decode cL_law 2559 = .ok (.iconst 1, 1) := dqo_4 (kb_39 63 rfl)
theorem dL_law_2560 : decode cL_law 2560 = .ok (.iadd, 1) := dqo_96 (kb_40 0 rfl)
theorem dL_law_2561 : decode cL_law 2561 = .ok (.iaload, 1) := dqo_46 (kb_40 1 rfl)
theorem dL_law_2562 : decode cL_law 2562 = .ok (.aload_n 0, 1) := dqo_42 (kb_40 2 rfl)
theorem dL_law_2563 : decode cL_law 2563 = .ok (.iload 4, 2) := dqo_21 4 (kb_40 3 rfl) (kb_40 4 rfl)
theorem dL_law_2565 : decode cL_law 2565 = .ok (.iconst 2, 1) := dqo_5 (kb_40 5 rfl)
theorem dL_law_2566 : decode cL_law 2566 = .ok (.iadd, 1) := dqo_96 (kb_40 6 rfl)
theorem dL_law_2567 : decode cL_law 2567 = .ok (.iaload, 1) := dqo_46 (kb_40 7 rfl)
theorem dL_law_2568 : decode cL_law 2568 = .ok (.aload_n 3, 1) := dqo_45 (kb_40 8 rfl)
theorem dL_law_2569 : decode cL_law 2569 = .ok (.invokestatic 291, 3) := dqo_184 1 35 (kb_40 9 rfl) (kb_40 10 rfl) (kb_40 11 rfl)
theorem dL_law_2572 : decode cL_law 2572 = .ok (.istore 5, 2) := dqo_54 5 (kb_40 12 rfl) (kb_40 13 rfl)
theorem dL_law_2574 : decode cL_law 2574 = .ok (.aload_n 2, 1) := dqo_44 (kb_40 14 rfl)
theorem dL_law_2575 : decode cL_law 2575 = .ok (.aload_n 0, 1) := dqo_42 (kb_40 15 rfl)
theorem dL_law_2576 : decode cL_law 2576 = .ok (.iload 4, 2) := dqo_21 4 (kb_40 16 rfl) (kb_40 17 rfl)
theorem dL_law_2578 : decode cL_law 2578 = .ok (.iconst 1, 1) := dqo_4 (kb_40 18 rfl)
theorem dL_law_2579 : decode cL_law 2579 = .ok (.iadd, 1) := dqo_96 (kb_40 19 rfl)
theorem dL_law_2580 : decode cL_law 2580 = .ok (.iaload, 1) := dqo_46 (kb_40 20 rfl)
theorem dL_law_2581 : decode cL_law 2581 = .ok (.aload_n 0, 1) := dqo_42 (kb_40 21 rfl)
theorem dL_law_2582 : decode cL_law 2582 = .ok (.iload 4, 2) := dqo_21 4 (kb_40 22 rfl) (kb_40 23 rfl)
theorem dL_law_2584 : decode cL_law 2584 = .ok (.iconst 2, 1) := dqo_5 (kb_40 24 rfl)
theorem dL_law_2585 : decode cL_law 2585 = .ok (.iadd, 1) := dqo_96 (kb_40 25 rfl)
theorem dL_law_2586 : decode cL_law 2586 = .ok (.iaload, 1) := dqo_46 (kb_40 26 rfl)
theorem dL_law_2587 : decode cL_law 2587 = .ok (.invokevirtual 293, 3) := dqo_182 1 37 (kb_40 27 rfl) (kb_40 28 rfl) (kb_40 29 rfl)
theorem dL_law_2590 : decode cL_law 2590 = .ok (.istore 6, 2) := dqo_54 6 (kb_40 30 rfl) (kb_40 31 rfl)
theorem dL_law_2592 : decode cL_law 2592 = .ok (.aload_n 2, 1) := dqo_44 (kb_40 32 rfl)
theorem dL_law_2593 : decode cL_law 2593 = .ok (.invokevirtual 181, 3) := dqo_182 0 181 (kb_40 33 rfl) (kb_40 34 rfl) (kb_40 35 rfl)
theorem dL_law_2596 : decode cL_law 2596 = .ok (.iload 5, 2) := dqo_21 5 (kb_40 36 rfl) (kb_40 37 rfl)
theorem dL_law_2598 : decode cL_law 2598 = .ok (.if_icmp .eq 5, 3) := dqo_159 0 5 (by decide) (kb_40 38 rfl) (kb_40 39 rfl) (kb_40 40 rfl)
theorem dL_law_2603 : decode cL_law 2603 = .ok (.iload 5, 2) := dqo_21 5 (kb_40 43 rfl) (kb_40 44 rfl)
theorem dL_law_2605 : decode cL_law 2605 = .ok (.ifCond .ne 16, 3) := dqo_154 0 16 (by decide) (kb_40 45 rfl) (kb_40 46 rfl) (kb_40 47 rfl)
theorem dL_law_2608 : decode cL_law 2608 = .ok (.aload_n 3, 1) := dqo_45 (kb_40 48 rfl)
theorem dL_law_2609 : decode cL_law 2609 = .ok (.getfield 13, 3) := dqo_180 0 13 (kb_40 49 rfl) (kb_40 50 rfl) (kb_40 51 rfl)
theorem dL_law_2612 : decode cL_law 2612 = .ok (.iload 6, 2) := dqo_21 6 (kb_40 52 rfl) (kb_40 53 rfl)
theorem dL_law_2614 : decode cL_law 2614 = .ok (.i2l, 1) := dqo_133 (kb_40 54 rfl)
theorem dL_law_2615 : decode cL_law 2615 = .ok (.lcmp, 1) := dqo_148 (kb_40 55 rfl)
theorem dL_law_2616 : decode cL_law 2616 = .ok (.ifCond .eq 5, 3) := dqo_153 0 5 (by decide) (kb_40 56 rfl) (kb_40 57 rfl) (kb_40 58 rfl)
theorem dL_law_2621 : decode cL_law 2621 = .ok (.goto 835, 3) := dqo_167 3 67 (by decide) (kb_40 61 rfl) (kb_40 62 rfl) (kb_40 63 rfl)
theorem dL_law_2624 : decode cL_law 2624 = .ok (.aload_n 1, 1) := dqo_43 (kb_41 0 rfl)
theorem dL_law_2625 : decode cL_law 2625 = .ok (.aload_n 0, 1) := dqo_42 (kb_41 1 rfl)
theorem dL_law_2626 : decode cL_law 2626 = .ok (.iload 4, 2) := dqo_21 4 (kb_41 2 rfl) (kb_41 3 rfl)
theorem dL_law_2628 : decode cL_law 2628 = .ok (.iconst 1, 1) := dqo_4 (kb_41 4 rfl)
theorem dL_law_2629 : decode cL_law 2629 = .ok (.iadd, 1) := dqo_96 (kb_41 5 rfl)
theorem dL_law_2630 : decode cL_law 2630 = .ok (.iaload, 1) := dqo_46 (kb_41 6 rfl)
theorem dL_law_2631 : decode cL_law 2631 = .ok (.aload_n 0, 1) := dqo_42 (kb_41 7 rfl)
theorem dL_law_2632 : decode cL_law 2632 = .ok (.iload 4, 2) := dqo_21 4 (kb_41 8 rfl) (kb_41 9 rfl)
theorem dL_law_2634 : decode cL_law 2634 = .ok (.iconst 2, 1) := dqo_5 (kb_41 10 rfl)
theorem dL_law_2635 : decode cL_law 2635 = .ok (.iadd, 1) := dqo_96 (kb_41 11 rfl)
theorem dL_law_2636 : decode cL_law 2636 = .ok (.iaload, 1) := dqo_46 (kb_41 12 rfl)
theorem dL_law_2637 : decode cL_law 2637 = .ok (.aload_n 0, 1) := dqo_42 (kb_41 13 rfl)
theorem dL_law_2638 : decode cL_law 2638 = .ok (.iload 4, 2) := dqo_21 4 (kb_41 14 rfl) (kb_41 15 rfl)
theorem dL_law_2640 : decode cL_law 2640 = .ok (.iconst 3, 1) := dqo_6 (kb_41 16 rfl)
theorem dL_law_2641 : decode cL_law 2641 = .ok (.iadd, 1) := dqo_96 (kb_41 17 rfl)
theorem dL_law_2642 : decode cL_law 2642 = .ok (.iaload, 1) := dqo_46 (kb_41 18 rfl)
theorem dL_law_2643 : decode cL_law 2643 = .ok (.aload_n 0, 1) := dqo_42 (kb_41 19 rfl)
theorem dL_law_2644 : decode cL_law 2644 = .ok (.iload 4, 2) := dqo_21 4 (kb_41 20 rfl) (kb_41 21 rfl)
theorem dL_law_2646 : decode cL_law 2646 = .ok (.iconst 4, 1) := dqo_7 (kb_41 22 rfl)
theorem dL_law_2647 : decode cL_law 2647 = .ok (.iadd, 1) := dqo_96 (kb_41 23 rfl)
theorem dL_law_2648 : decode cL_law 2648 = .ok (.iaload, 1) := dqo_46 (kb_41 24 rfl)
theorem dL_law_2649 : decode cL_law 2649 = .ok (.aload_n 3, 1) := dqo_45 (kb_41 25 rfl)
theorem dL_law_2650 : decode cL_law 2650 = .ok (.invokestatic 294, 3) := dqo_184 1 38 (kb_41 26 rfl) (kb_41 27 rfl) (kb_41 28 rfl)
theorem dL_law_2653 : decode cL_law 2653 = .ok (.istore 5, 2) := dqo_54 5 (kb_41 29 rfl) (kb_41 30 rfl)
theorem dL_law_2655 : decode cL_law 2655 = .ok (.aload_n 2, 1) := dqo_44 (kb_41 31 rfl)
theorem dL_law_2656 : decode cL_law 2656 = .ok (.aload_n 0, 1) := dqo_42 (kb_41 32 rfl)
theorem dL_law_2657 : decode cL_law 2657 = .ok (.iload 4, 2) := dqo_21 4 (kb_41 33 rfl) (kb_41 34 rfl)
theorem dL_law_2659 : decode cL_law 2659 = .ok (.iconst 1, 1) := dqo_4 (kb_41 35 rfl)
theorem dL_law_2660 : decode cL_law 2660 = .ok (.iadd, 1) := dqo_96 (kb_41 36 rfl)
theorem dL_law_2661 : decode cL_law 2661 = .ok (.iaload, 1) := dqo_46 (kb_41 37 rfl)
theorem dL_law_2662 : decode cL_law 2662 = .ok (.aload_n 0, 1) := dqo_42 (kb_41 38 rfl)
theorem dL_law_2663 : decode cL_law 2663 = .ok (.iload 4, 2) := dqo_21 4 (kb_41 39 rfl) (kb_41 40 rfl)
theorem dL_law_2665 : decode cL_law 2665 = .ok (.iconst 2, 1) := dqo_5 (kb_41 41 rfl)
theorem dL_law_2666 : decode cL_law 2666 = .ok (.iadd, 1) := dqo_96 (kb_41 42 rfl)
theorem dL_law_2667 : decode cL_law 2667 = .ok (.iaload, 1) := dqo_46 (kb_41 43 rfl)
theorem dL_law_2668 : decode cL_law 2668 = .ok (.aload_n 0, 1) := dqo_42 (kb_41 44 rfl)
theorem dL_law_2669 : decode cL_law 2669 = .ok (.iload 4, 2) := dqo_21 4 (kb_41 45 rfl) (kb_41 46 rfl)
theorem dL_law_2671 : decode cL_law 2671 = .ok (.iconst 3, 1) := dqo_6 (kb_41 47 rfl)
theorem dL_law_2672 : decode cL_law 2672 = .ok (.iadd, 1) := dqo_96 (kb_41 48 rfl)
theorem dL_law_2673 : decode cL_law 2673 = .ok (.iaload, 1) := dqo_46 (kb_41 49 rfl)
theorem dL_law_2674 : decode cL_law 2674 = .ok (.aload_n 0, 1) := dqo_42 (kb_41 50 rfl)
theorem dL_law_2675 : decode cL_law 2675 = .ok (.iload 4, 2) := dqo_21 4 (kb_41 51 rfl) (kb_41 52 rfl)
theorem dL_law_2677 : decode cL_law 2677 = .ok (.iconst 4, 1) := dqo_7 (kb_41 53 rfl)
theorem dL_law_2678 : decode cL_law 2678 = .ok (.iadd, 1) := dqo_96 (kb_41 54 rfl)
theorem dL_law_2679 : decode cL_law 2679 = .ok (.iaload, 1) := dqo_46 (kb_41 55 rfl)
theorem dL_law_2680 : decode cL_law 2680 = .ok (.invokevirtual 296, 3) := dqo_182 1 40 (kb_41 56 rfl) (kb_41 57 rfl) (kb_41 58 rfl)
theorem dL_law_2683 : decode cL_law 2683 = .ok (.istore 6, 2) := dqo_54 6 (kb_41 59 rfl) (kb_41 60 rfl)
theorem dL_law_2685 : decode cL_law 2685 = .ok (.aload_n 2, 1) := dqo_44 (kb_41 61 rfl)
theorem dL_law_2686 : decode cL_law 2686 = .ok (.invokevirtual 181, 3) := dqo_182 0 181 (kb_41 62 rfl) (kb_41 63 rfl) (kb_42 0 rfl)
theorem dL_law_2689 : decode cL_law 2689 = .ok (.iload 5, 2) := dqo_21 5 (kb_42 1 rfl) (kb_42 2 rfl)
theorem dL_law_2691 : decode cL_law 2691 = .ok (.if_icmp .eq 5, 3) := dqo_159 0 5 (by decide) (kb_42 3 rfl) (kb_42 4 rfl) (kb_42 5 rfl)
theorem dL_law_2696 : decode cL_law 2696 = .ok (.iload 5, 2) := dqo_21 5 (kb_42 8 rfl) (kb_42 9 rfl)
theorem dL_law_2698 : decode cL_law 2698 = .ok (.ifCond .ne 16, 3) := dqo_154 0 16 (by decide) (kb_42 10 rfl) (kb_42 11 rfl) (kb_42 12 rfl)
theorem dL_law_2701 : decode cL_law 2701 = .ok (.aload_n 3, 1) := dqo_45 (kb_42 13 rfl)
theorem dL_law_2702 : decode cL_law 2702 = .ok (.getfield 13, 3) := dqo_180 0 13 (kb_42 14 rfl) (kb_42 15 rfl) (kb_42 16 rfl)
theorem dL_law_2705 : decode cL_law 2705 = .ok (.iload 6, 2) := dqo_21 6 (kb_42 17 rfl) (kb_42 18 rfl)
theorem dL_law_2707 : decode cL_law 2707 = .ok (.i2l, 1) := dqo_133 (kb_42 19 rfl)
theorem dL_law_2708 : decode cL_law 2708 = .ok (.lcmp, 1) := dqo_148 (kb_42 20 rfl)
theorem dL_law_2709 : decode cL_law 2709 = .ok (.ifCond .eq 5, 3) := dqo_153 0 5 (by decide) (kb_42 21 rfl) (kb_42 22 rfl) (kb_42 23 rfl)
theorem dL_law_2714 : decode cL_law 2714 = .ok (.goto 742, 3) := dqo_167 2 230 (by decide) (kb_42 26 rfl) (kb_42 27 rfl) (kb_42 28 rfl)
theorem dL_law_2717 : decode cL_law 2717 = .ok (.aload_n 1, 1) := dqo_43 (kb_42 29 rfl)
theorem dL_law_2718 : decode cL_law 2718 = .ok (.aload_n 0, 1) := dqo_42 (kb_42 30 rfl)
theorem dL_law_2719 : decode cL_law 2719 = .ok (.iload 4, 2) := dqo_21 4 (kb_42 31 rfl) (kb_42 32 rfl)
theorem dL_law_2721 : decode cL_law 2721 = .ok (.iconst 1, 1) := dqo_4 (kb_42 33 rfl)
theorem dL_law_2722 : decode cL_law 2722 = .ok (.iadd, 1) := dqo_96 (kb_42 34 rfl)
theorem dL_law_2723 : decode cL_law 2723 = .ok (.iaload, 1) := dqo_46 (kb_42 35 rfl)
theorem dL_law_2724 : decode cL_law 2724 = .ok (.aload_n 3, 1) := dqo_45 (kb_42 36 rfl)
theorem dL_law_2725 : decode cL_law 2725 = .ok (.invokestatic 297, 3) := dqo_184 1 41 (kb_42 37 rfl) (kb_42 38 rfl) (kb_42 39 rfl)
theorem dL_law_2728 : decode cL_law 2728 = .ok (.istore 5, 2) := dqo_54 5 (kb_42 40 rfl) (kb_42 41 rfl)
theorem dL_law_2730 : decode cL_law 2730 = .ok (.aload_n 2, 1) := dqo_44 (kb_42 42 rfl)
theorem dL_law_2731 : decode cL_law 2731 = .ok (.aload_n 0, 1) := dqo_42 (kb_42 43 rfl)
theorem dL_law_2732 : decode cL_law 2732 = .ok (.iload 4, 2) := dqo_21 4 (kb_42 44 rfl) (kb_42 45 rfl)
theorem dL_law_2734 : decode cL_law 2734 = .ok (.iconst 1, 1) := dqo_4 (kb_42 46 rfl)
theorem dL_law_2735 : decode cL_law 2735 = .ok (.iadd, 1) := dqo_96 (kb_42 47 rfl)
theorem dL_law_2736 : decode cL_law 2736 = .ok (.iaload, 1) := dqo_46 (kb_42 48 rfl)
theorem dL_law_2737 : decode cL_law 2737 = .ok (.invokevirtual 299, 3) := dqo_182 1 43 (kb_42 49 rfl) (kb_42 50 rfl) (kb_42 51 rfl)
theorem dL_law_2740 : decode cL_law 2740 = .ok (.istore 6, 2) := dqo_54 6 (kb_42 52 rfl) (kb_42 53 rfl)
theorem dL_law_2742 : decode cL_law 2742 = .ok (.aload_n 2, 1) := dqo_44 (kb_42 54 rfl)
theorem dL_law_2743 : decode cL_law 2743 = .ok (.invokevirtual 181, 3) := dqo_182 0 181 (kb_42 55 rfl) (kb_42 56 rfl) (kb_42 57 rfl)
theorem dL_law_2746 : decode cL_law 2746 = .ok (.iload 5, 2) := dqo_21 5 (kb_42 58 rfl) (kb_42 59 rfl)
theorem dL_law_2748 : decode cL_law 2748 = .ok (.if_icmp .eq 5, 3) := dqo_159 0 5 (by decide) (kb_42 60 rfl) (kb_42 61 rfl) (kb_42 62 rfl)
theorem dL_law_2753 : decode cL_law 2753 = .ok (.iload 5, 2) := dqo_21 5 (kb_43 1 rfl) (kb_43 2 rfl)
theorem dL_law_2755 : decode cL_law 2755 = .ok (.ifCond .ne 16, 3) := dqo_154 0 16 (by decide) (kb_43 3 rfl) (kb_43 4 rfl) (kb_43 5 rfl)
theorem dL_law_2758 : decode cL_law 2758 = .ok (.aload_n 3, 1) := dqo_45 (kb_43 6 rfl)
theorem dL_law_2759 : decode cL_law 2759 = .ok (.getfield 13, 3) := dqo_180 0 13 (kb_43 7 rfl) (kb_43 8 rfl) (kb_43 9 rfl)
theorem dL_law_2762 : decode cL_law 2762 = .ok (.iload 6, 2) := dqo_21 6 (kb_43 10 rfl) (kb_43 11 rfl)
theorem dL_law_2764 : decode cL_law 2764 = .ok (.i2l, 1) := dqo_133 (kb_43 12 rfl)
theorem dL_law_2765 : decode cL_law 2765 = .ok (.lcmp, 1) := dqo_148 (kb_43 13 rfl)
theorem dL_law_2766 : decode cL_law 2766 = .ok (.ifCond .eq 5, 3) := dqo_153 0 5 (by decide) (kb_43 14 rfl) (kb_43 15 rfl) (kb_43 16 rfl)
theorem dL_law_2771 : decode cL_law 2771 = .ok (.goto 685, 3) := dqo_167 2 173 (by decide) (kb_43 19 rfl) (kb_43 20 rfl) (kb_43 21 rfl)
theorem S_indexOf {p : Program} {l : Launch} {e : Env} {s : State} {m : MethodId} {args : Array Value} {below : List Frame} {meth : Method} {c : Code} {D : va_G} {cy : Nat → ClassId} {A : Nat → Prop} {Q : State → Prop} {X : (Nat → Prop) → State → Heap → Prop} {aK aV : Nat → Nat} {tO tT : Nat} {gO gT : Nat → Int32} {a : Nat → Nat → Nat} {ba : Nat → Nat} {o b L i cells slots : Nat} {xs : Nat → Int32} {w : va_W} (C : Fg p s m args meth c cL_law 7 RL D cy A) (hE : X A s s.heap) (hT : EnvT X cy aK aV tO tT gO gT) (hN : EnvN X) (hl : l.stackTraces = false) (hx : va_X b L xs s s.heap) (hbl : b < s.heap.size) (hbA : ¬ A b) (hi : i + 5 ≤ L) (hL : L ≤ 2560) (hc : cells + 500 ≤ room_1.cells) (hs : slots + 10000 ≤ room_1.slots) (hJ : JW cy a ba o w) (kk : ∀ w' : va_W, JW cy a ba o w' → vW p l e room_1 s m args below meth c D vwCl A Q 7 (cells + 500) (slots + 10000) w' [some (.ref b), some (.ref (a 0 0)), some (.ref (ba 9)), some (.ref o), some (.int (nI i)), none, none] 3456 []) : vW p l e room_1 s m args below meth c D vwCl A Q 7 cells slots w [some (.ref b), some (.ref (a 0 0)), some (.ref (ba 9)), some (.ref o), some (.int (nI i)), none, none] 1920 [] := by
  have hX := hT.1.1
  obtain ⟨f, r, hf, hq, kn, ra, th, sm, n, v, hC, hB, hM, rfl⟩ := hJ
  refine r_aload_n C dL_law_1920 rfl ?_
  refine r_aload_n C dL_law_1921 rfl ?_
  refine r_iload C dL_law_1922 rfl ?_
  refine r_iconst (v := nI 1) C dL_law_1924 (by decide) ?_
  refine r_iaddN C dL_law_1925 ?_
  refine r_sld C hx hbl hbA (show i + 1 < L by omega) (by omega) dL_law_1926 ?_
  refine r_aload_n C dL_law_1927 rfl ?_
  refine r_iload C dL_law_1928 rfl ?_
  refine r_iconst (v := nI 2) C dL_law_1930 (by decide) ?_
  refine r_iaddN C dL_law_1931 ?_
  refine r_sld C hx hbl hbA (show i + 2 < L by omega) (by omega) dL_law_1932 ?_
  refine r_aload_n C dL_law_1933 rfl ?_
  refine c_SH (st := []) hX.1.stb C hE (W_indexOf hX.1 hN hC hB hM (P_indexOf hX hl hC hB hM (xs (i + 1)) (xs (i + 2)))) pk_L_indexOf qm_L_257 rfl rfl (Nat.le_of_ble_eq_true rfl) dL_law_1934 ⟨(Nat.le_of_ble_eq_true rfl), (Nat.le_of_ble_eq_true rfl)⟩ ⟨show cells + 1 ≤ room_1.cells by omega, show slots + 6 ≤ room_1.slots by omega⟩ (fun v9 w9 h9 => ?_) (fun _ h9 => h9.elim)
  obtain ⟨f', r', k, n1, rfl, rfl, hf', hq', n2, hC', hB', hM', hk0, hk4, h2⟩ := h9
  refine r_istore C dL_law_1937 (by decide) rfl ?_
  refine r_aload_n C dL_law_1939 rfl ?_
  refine r_aload_n C dL_law_1940 rfl ?_
  refine r_iload C dL_law_1941 rfl ?_
  refine r_iconst (v := nI 1) C dL_law_1943 (by decide) ?_
  refine r_iaddN C dL_law_1944 ?_
  refine r_sld C hx hbl hbA (show i + 1 < L by omega) (by omega) dL_law_1945 ?_
  refine r_aload_n C dL_law_1946 rfl ?_
  refine r_iload C dL_law_1947 rfl ?_
  refine r_iconst (v := nI 2) C dL_law_1949 (by decide) ?_
  refine r_iaddN C dL_law_1950 ?_
  refine r_sld C hx hbl hbA (show i + 2 < L by omega) (by omega) dL_law_1951 ?_
  refine t_swap3 ?_
  refine c_V (st := []) hX.1.stb C hE (h2 _) pk_X4_indexOf qm_L_259 0 8 rfl rfl wm_0 rfl rfl (Nat.le_of_ble_eq_true rfl) dL_law_1952 ⟨(Nat.le_of_ble_eq_true rfl), (Nat.le_of_ble_eq_true rfl)⟩ ⟨show cells + 1 + 4 ≤ room_1.cells by omega, show slots + 6 + 48 ≤ room_1.slots by omega⟩ (fun v9 w9 h9 => ?_) (fun _ h9 => h9.elim)
  obtain ⟨ra9, rfl, rfl⟩ := h9
  refine r_istore C dL_law_1955 (by decide) rfl ?_
  refine r_aload_n C dL_law_1957 rfl ?_
  refine d_V (st := []) hX.1.stb C hE (D_thrown hX) pk_X4_thrown qm_L_181 0 8 rfl rfl wm_0 rfl rfl (Nat.le_of_ble_eq_true rfl) dL_law_1958 ⟨(Nat.le_of_ble_eq_true rfl), (Nat.le_of_ble_eq_true rfl)⟩ ⟨show cells + 1 + 4 + 0 ≤ room_1.cells by omega, show slots + 6 + 48 + 0 ≤ room_1.slots by omega⟩ ?_
  refine r_iload C dL_law_1961 rfl ?_
  refine r_ic_eq (tgt := 1968) C dL_law_1963 (by decide) (fun _ => ?_) (fun hne => absurd rfl hne)
  refine t_swap3 ?_
  refine r_iload C dL_law_1968 rfl ?_
  refine r_ifN_ne (a := k) (tgt := 1986) C (by omega) dL_law_1970 (by decide) (fun hk => ?_) (fun hk => ?_)
  · skip
    refine r_goto (tgt := 3456) C dL_law_1986 (by decide) ?_
    refine r_widen (k := cells + 500) (n := slots + 10000) (show cells + 1 + 4 + 0 ≤ cells + 500 by omega) (show slots + 6 + 48 + 0 ≤ slots + 10000 by omega) ?_
    refine r_drop 5 ?_
    refine r_drop 6 ?_
    exact kk _ ⟨f', r', hf', hq', kn, ra9, _, sm, _, _, hC', hB', hM', rfl⟩
  · subst hk
    have e1 := hk0 rfl
    subst e1
    refine r_aload_n C dL_law_1973 rfl ?_
    refine g_getN hX.1 C hE qu_X3 (ci := 7) rfl 38 outo_at 0 (by decide) qn_L_13 rfl rfl dL_law_1974 ?_
    refine r_iload C dL_law_1977 rfl ?_
    refine r_i2l C dL_law_1979 ?_
    refine r_lcmpE C dL_law_1980 ?_
    refine r_if_eq (tgt := 1986) C dL_law_1981 (by decide) (fun _ => ?_) (fun hne => absurd rfl hne)
    refine r_goto (tgt := 3456) C dL_law_1986 (by decide) ?_
    refine r_widen (k := cells + 500) (n := slots + 10000) (show cells + 1 + 4 + 0 ≤ cells + 500 by omega) (show slots + 6 + 48 + 0 ≤ slots + 10000 by omega) ?_
    refine r_drop 5 ?_
    refine r_drop 6 ?_
    exact kk _ ⟨f', r', hf', hq', kn, ra9, _, sm, _, _, hC', hB', hM', rfl⟩
theorem S_lastIndexOf {p : Program} {l : Launch} {e : Env} {s : State} {m : MethodId} {args : Array Value} {below : List Frame} {meth : Method} {c : Code} {D : va_G} {cy : Nat → ClassId} {A : Nat → Prop} {Q : State → Prop} {X : (Nat → Prop) → State → Heap → Prop} {aK aV : Nat → Nat} {tO tT : Nat} {gO gT : Nat → Int32} {a : Nat → Nat → Nat} {ba : Nat → Nat} {o b L i cells slots : Nat} {xs : Nat → Int32} {w : va_W} (C : Fg p s m args meth c cL_law 7 RL D cy A) (hE : X A s s.heap) (hT : EnvT X cy aK aV tO tT gO gT) (hN : EnvN X) (hl : l.stackTraces = false) (hx : va_X b L xs s s.heap) (hbl : b < s.heap.size) (hbA : ¬ A b) (hi : i + 5 ≤ L) (hL : L ≤ 2560) (hc : cells + 500 ≤ room_1.cells) (hs : slots + 10000 ≤ room_1.slots) (hJ : JW cy a ba o w) (kk : ∀ w' : va_W, JW cy a ba o w' → vW p l e room_1 s m args below meth c D vwCl A Q 7 (cells + 500) (slots + 10000) w' [some (.ref b), some (.ref (a 0 0)), some (.ref (ba 9)), some (.ref o), some (.int (nI i)), none, none] 3456 []) : vW p l e room_1 s m args below meth c D vwCl A Q 7 cells slots w [some (.ref b), some (.ref (a 0 0)), some (.ref (ba 9)), some (.ref o), some (.int (nI i)), none, none] 1989 [] := by
  have hX := hT.1.1
  obtain ⟨f, r, hf, hq, kn, ra, th, sm, n, v, hC, hB, hM, rfl⟩ := hJ
  refine r_aload_n C dL_law_1989 rfl ?_
  refine r_aload_n C dL_law_1990 rfl ?_
  refine r_iload C dL_law_1991 rfl ?_
  refine r_iconst (v := nI 1) C dL_law_1993 (by decide) ?_
  refine r_iaddN C dL_law_1994 ?_
  refine r_sld C hx hbl hbA (show i + 1 < L by omega) (by omega) dL_law_1995 ?_
  refine r_aload_n C dL_law_1996 rfl ?_
  refine r_iload C dL_law_1997 rfl ?_
  refine r_iconst (v := nI 2) C dL_law_1999 (by decide) ?_
  refine r_iaddN C dL_law_2000 ?_
  refine r_sld C hx hbl hbA (show i + 2 < L by omega) (by omega) dL_law_2001 ?_
  refine r_aload_n C dL_law_2002 rfl ?_
  refine c_SH (st := []) hX.1.stb C hE (W_lastIndexOf hX.1 hN hC hB hM (P_lastIndexOf hX hl hC hB hM (xs (i + 1)) (xs (i + 2)))) pk_L_lastIndexOf qm_L_260 rfl rfl (Nat.le_of_ble_eq_true rfl) dL_law_2003 ⟨(Nat.le_of_ble_eq_true rfl), (Nat.le_of_ble_eq_true rfl)⟩ ⟨show cells + 1 ≤ room_1.cells by omega, show slots + 6 ≤ room_1.slots by omega⟩ (fun v9 w9 h9 => ?_) (fun _ h9 => h9.elim)
  obtain ⟨f', r', k, n1, rfl, rfl, hf', hq', n2, hC', hB', hM', hk0, hk4, h2⟩ := h9
  refine r_istore C dL_law_2006 (by decide) rfl ?_
  refine r_aload_n C dL_law_2008 rfl ?_
  refine r_aload_n C dL_law_2009 rfl ?_
  refine r_iload C dL_law_2010 rfl ?_
  refine r_iconst (v := nI 1) C dL_law_2012 (by decide) ?_
  refine r_iaddN C dL_law_2013 ?_
  refine r_sld C hx hbl hbA (show i + 1 < L by omega) (by omega) dL_law_2014 ?_
  refine r_aload_n C dL_law_2015 rfl ?_
  refine r_iload C dL_law_2016 rfl ?_
  refine r_iconst (v := nI 2) C dL_law_2018 (by decide) ?_
  refine r_iaddN C dL_law_2019 ?_
  refine r_sld C hx hbl hbA (show i + 2 < L by omega) (by omega) dL_law_2020 ?_
  refine t_swap3 ?_
  refine c_V (st := []) hX.1.stb C hE (h2 _) pk_X4_lastIndexOf qm_L_262 0 8 rfl rfl wm_0 rfl rfl (Nat.le_of_ble_eq_true rfl) dL_law_2021 ⟨(Nat.le_of_ble_eq_true rfl), (Nat.le_of_ble_eq_true rfl)⟩ ⟨show cells + 1 + 4 ≤ room_1.cells by omega, show slots + 6 + 48 ≤ room_1.slots by omega⟩ (fun v9 w9 h9 => ?_) (fun _ h9 => h9.elim)
  obtain ⟨ra9, rfl, rfl⟩ := h9
  refine r_istore C dL_law_2024 (by decide) rfl ?_
  refine r_aload_n C dL_law_2026 rfl ?_
  refine d_V (st := []) hX.1.stb C hE (D_thrown hX) pk_X4_thrown qm_L_181 0 8 rfl rfl wm_0 rfl rfl (Nat.le_of_ble_eq_true rfl) dL_law_2027 ⟨(Nat.le_of_ble_eq_true rfl), (Nat.le_of_ble_eq_true rfl)⟩ ⟨show cells + 1 + 4 + 0 ≤ room_1.cells by omega, show slots + 6 + 48 + 0 ≤ room_1.slots by omega⟩ ?_
  refine r_iload C dL_law_2030 rfl ?_
  refine r_ic_eq (tgt := 2037) C dL_law_2032 (by decide) (fun _ => ?_) (fun hne => absurd rfl hne)
  refine t_swap3 ?_
  refine r_iload C dL_law_2037 rfl ?_
  refine r_ifN_ne (a := k) (tgt := 2055) C (by omega) dL_law_2039 (by decide) (fun hk => ?_) (fun hk => ?_)
  · skip
    refine r_goto (tgt := 3456) C dL_law_2055 (by decide) ?_
    refine r_widen (k := cells + 500) (n := slots + 10000) (show cells + 1 + 4 + 0 ≤ cells + 500 by omega) (show slots + 6 + 48 + 0 ≤ slots + 10000 by omega) ?_
    refine r_drop 5 ?_
    refine r_drop 6 ?_
    exact kk _ ⟨f', r', hf', hq', kn, ra9, _, sm, _, _, hC', hB', hM', rfl⟩
  · subst hk
    have e1 := hk0 rfl
    subst e1
    refine r_aload_n C dL_law_2042 rfl ?_
    refine g_getN hX.1 C hE qu_X3 (ci := 7) rfl 38 outo_at 0 (by decide) qn_L_13 rfl rfl dL_law_2043 ?_
    refine r_iload C dL_law_2046 rfl ?_
    refine r_i2l C dL_law_2048 ?_
    refine r_lcmpE C dL_law_2049 ?_
    refine r_if_eq (tgt := 2055) C dL_law_2050 (by decide) (fun _ => ?_) (fun hne => absurd rfl hne)
    refine r_goto (tgt := 3456) C dL_law_2055 (by decide) ?_
    refine r_widen (k := cells + 500) (n := slots + 10000) (show cells + 1 + 4 + 0 ≤ cells + 500 by omega) (show slots + 6 + 48 + 0 ≤ slots + 10000 by omega) ?_
    refine r_drop 5 ?_
    refine r_drop 6 ?_
    exact kk _ ⟨f', r', hf', hq', kn, ra9, _, sm, _, _, hC', hB', hM', rfl⟩
theorem S_contains {p : Program} {l : Launch} {e : Env} {s : State} {m : MethodId} {args : Array Value} {below : List Frame} {meth : Method} {c : Code} {D : va_G} {cy : Nat → ClassId} {A : Nat → Prop} {Q : State → Prop} {X : (Nat → Prop) → State → Heap → Prop} {aK aV : Nat → Nat} {tO tT : Nat} {gO gT : Nat → Int32} {a : Nat → Nat → Nat} {ba : Nat → Nat} {o b L i cells slots : Nat} {xs : Nat → Int32} {w : va_W} (C : Fg p s m args meth c cL_law 7 RL D cy A) (hE : X A s s.heap) (hT : EnvT X cy aK aV tO tT gO gT) (hN : EnvN X) (hl : l.stackTraces = false) (hx : va_X b L xs s s.heap) (hbl : b < s.heap.size) (hbA : ¬ A b) (hi : i + 5 ≤ L) (hL : L ≤ 2560) (hc : cells + 500 ≤ room_1.cells) (hs : slots + 10000 ≤ room_1.slots) (hJ : JW cy a ba o w) (kk : ∀ w' : va_W, JW cy a ba o w' → vW p l e room_1 s m args below meth c D vwCl A Q 7 (cells + 500) (slots + 10000) w' [some (.ref b), some (.ref (a 0 0)), some (.ref (ba 9)), some (.ref o), some (.int (nI i)), none, none] 3456 []) : vW p l e room_1 s m args below meth c D vwCl A Q 7 cells slots w [some (.ref b), some (.ref (a 0 0)), some (.ref (ba 9)), some (.ref o), some (.int (nI i)), none, none] 2058 [] := by
  have hX := hT.1.1
  obtain ⟨f, r, hf, hq, kn, ra, th, sm, n, v, hC, hB, hM, rfl⟩ := hJ
  refine r_aload_n C dL_law_2058 rfl ?_
  refine r_aload_n C dL_law_2059 rfl ?_
  refine r_iload C dL_law_2060 rfl ?_
  refine r_iconst (v := nI 1) C dL_law_2062 (by decide) ?_
  refine r_iaddN C dL_law_2063 ?_
  refine r_sld C hx hbl hbA (show i + 1 < L by omega) (by omega) dL_law_2064 ?_
  refine r_aload_n C dL_law_2065 rfl ?_
  refine r_iload C dL_law_2066 rfl ?_
  refine r_iconst (v := nI 2) C dL_law_2068 (by decide) ?_
  refine r_iaddN C dL_law_2069 ?_
  refine r_sld C hx hbl hbA (show i + 2 < L by omega) (by omega) dL_law_2070 ?_
  refine r_aload_n C dL_law_2071 rfl ?_
  refine c_SH (st := []) hX.1.stb C hE (W_contains hX.1 hN hC hB hM (P_contains hX hl hC hB hM (xs (i + 1)) (xs (i + 2)))) pk_L_contains qm_L_263 rfl rfl (Nat.le_of_ble_eq_true rfl) dL_law_2072 ⟨(Nat.le_of_ble_eq_true rfl), (Nat.le_of_ble_eq_true rfl)⟩ ⟨show cells + 1 ≤ room_1.cells by omega, show slots + 6 ≤ room_1.slots by omega⟩ (fun v9 w9 h9 => ?_) (fun _ h9 => h9.elim)
  obtain ⟨f', r', k, n1, rfl, rfl, hf', hq', n2, hC', hB', hM', hk0, hk4, h2⟩ := h9
  refine r_istore C dL_law_2075 (by decide) rfl ?_
  refine r_aload_n C dL_law_2077 rfl ?_
  refine r_aload_n C dL_law_2078 rfl ?_
  refine r_iload C dL_law_2079 rfl ?_
  refine r_iconst (v := nI 1) C dL_law_2081 (by decide) ?_
  refine r_iaddN C dL_law_2082 ?_
  refine r_sld C hx hbl hbA (show i + 1 < L by omega) (by omega) dL_law_2083 ?_
  refine r_aload_n C dL_law_2084 rfl ?_
  refine r_iload C dL_law_2085 rfl ?_
  refine r_iconst (v := nI 2) C dL_law_2087 (by decide) ?_
  refine r_iaddN C dL_law_2088 ?_
  refine r_sld C hx hbl hbA (show i + 2 < L by omega) (by omega) dL_law_2089 ?_
  refine t_swap3 ?_
  refine c_V (st := []) hX.1.stb C hE (h2 _) pk_X4_contains qm_L_265 0 8 rfl rfl wm_0 rfl rfl (Nat.le_of_ble_eq_true rfl) dL_law_2090 ⟨(Nat.le_of_ble_eq_true rfl), (Nat.le_of_ble_eq_true rfl)⟩ ⟨show cells + 1 + 4 ≤ room_1.cells by omega, show slots + 6 + 48 ≤ room_1.slots by omega⟩ (fun v9 w9 h9 => ?_) (fun _ h9 => h9.elim)
  obtain ⟨ra9, rfl, rfl⟩ := h9
  refine r_istore C dL_law_2093 (by decide) rfl ?_
  refine r_aload_n C dL_law_2095 rfl ?_
  refine d_V (st := []) hX.1.stb C hE (D_thrown hX) pk_X4_thrown qm_L_181 0 8 rfl rfl wm_0 rfl rfl (Nat.le_of_ble_eq_true rfl) dL_law_2096 ⟨(Nat.le_of_ble_eq_true rfl), (Nat.le_of_ble_eq_true rfl)⟩ ⟨show cells + 1 + 4 + 0 ≤ room_1.cells by omega, show slots + 6 + 48 + 0 ≤ room_1.slots by omega⟩ ?_
  refine r_iload C dL_law_2099 rfl ?_
  refine r_ic_eq (tgt := 2106) C dL_law_2101 (by decide) (fun _ => ?_) (fun hne => absurd rfl hne)
  refine t_swap3 ?_
  refine r_iload C dL_law_2106 rfl ?_
  refine r_ifN_ne (a := k) (tgt := 2131) C (by omega) dL_law_2108 (by decide) (fun hk => ?_) (fun hk => ?_)
  · skip
    refine r_goto (tgt := 3456) C dL_law_2131 (by decide) ?_
    refine r_widen (k := cells + 500) (n := slots + 10000) (show cells + 1 + 4 + 0 ≤ cells + 500 by omega) (show slots + 6 + 48 + 0 ≤ slots + 10000 by omega) ?_
    refine r_drop 5 ?_
    refine r_drop 6 ?_
    exact kk _ ⟨f', r', hf', hq', kn, ra9, _, sm, _, _, hC', hB', hM', rfl⟩
  · subst hk
    have e1 := hk0 rfl
    subst e1
    refine r_aload_n C dL_law_2111 rfl ?_
    refine g_getN hX.1 C hE qu_X3 (ci := 7) rfl 38 outo_at 0 (by decide) qn_L_13 rfl rfl dL_law_2112 ?_
    refine r_iload C dL_law_2115 rfl ?_
    refine r_if_eq (tgt := 2124) C dL_law_2117 (by decide) (fun h0 => ?_) (fun h0 => ?_)
    · rw [show cvZ n2 = 0 from if_pos h0]
      refine r_lconst (v := 0) C dL_law_2124 (by decide) ?_
      refine r_lcmpE C dL_law_2125 ?_
      refine r_if_eq (tgt := 2131) C dL_law_2126 (by decide) (fun _ => ?_) (fun hne => absurd rfl hne)
      refine r_goto (tgt := 3456) C dL_law_2131 (by decide) ?_
      refine r_widen (k := cells + 500) (n := slots + 10000) (show cells + 1 + 4 + 0 ≤ cells + 500 by omega) (show slots + 6 + 48 + 0 ≤ slots + 10000 by omega) ?_
      refine r_drop 5 ?_
      refine r_drop 6 ?_
      exact kk _ ⟨f', r', hf', hq', kn, ra9, _, sm, _, _, hC', hB', hM', rfl⟩
    · rw [show cvZ n2 = 1 from if_neg h0]
      refine r_lconst (v := 1) C dL_law_2120 (by decide) ?_
      refine r_goto (tgt := 2125) C dL_law_2121 (by decide) ?_
      refine r_lcmpE C dL_law_2125 ?_
      refine r_if_eq (tgt := 2131) C dL_law_2126 (by decide) (fun _ => ?_) (fun hne => absurd rfl hne)
      refine r_goto (tgt := 3456) C dL_law_2131 (by decide) ?_
      refine r_widen (k := cells + 500) (n := slots + 10000) (show cells + 1 + 4 + 0 ≤ cells + 500 by omega) (show slots + 6 + 48 + 0 ≤ slots + 10000 by omega) ?_
      refine r_drop 5 ?_
      refine r_drop 6 ?_
      exact kk _ ⟨f', r', hf', hq', kn, ra9, _, sm, _, _, hC', hB', hM', rfl⟩
theorem S_howOften {p : Program} {l : Launch} {e : Env} {s : State} {m : MethodId} {args : Array Value} {below : List Frame} {meth : Method} {c : Code} {D : va_G} {cy : Nat → ClassId} {A : Nat → Prop} {Q : State → Prop} {X : (Nat → Prop) → State → Heap → Prop} {aK aV : Nat → Nat} {tO tT : Nat} {gO gT : Nat → Int32} {a : Nat → Nat → Nat} {ba : Nat → Nat} {o b L i cells slots : Nat} {xs : Nat → Int32} {w : va_W} (C : Fg p s m args meth c cL_law 7 RL D cy A) (hE : X A s s.heap) (hT : EnvT X cy aK aV tO tT gO gT) (hN : EnvN X) (hl : l.stackTraces = false) (hx : va_X b L xs s s.heap) (hbl : b < s.heap.size) (hbA : ¬ A b) (hi : i + 5 ≤ L) (hL : L ≤ 2560) (hc : cells + 500 ≤ room_1.cells) (hs : slots + 10000 ≤ room_1.slots) (hJ : JW cy a ba o w) (kk : ∀ w' : va_W, JW cy a ba o w' → vW p l e room_1 s m args below meth c D vwCl A Q 7 (cells + 500) (slots + 10000) w' [some (.ref b), some (.ref (a 0 0)), some (.ref (ba 9)), some (.ref o), some (.int (nI i)), none, none] 3456 []) : vW p l e room_1 s m args below meth c D vwCl A Q 7 cells slots w [some (.ref b), some (.ref (a 0 0)), some (.ref (ba 9)), some (.ref o), some (.int (nI i)), none, none] 2134 [] := by
  have hX := hT.1.1
  obtain ⟨f, r, hf, hq, kn, ra, th, sm, n, v, hC, hB, hM, rfl⟩ := hJ
  refine r_aload_n C dL_law_2134 rfl ?_
  refine r_aload_n C dL_law_2135 rfl ?_
  refine r_iload C dL_law_2136 rfl ?_
  refine r_iconst (v := nI 1) C dL_law_2138 (by decide) ?_
  refine r_iaddN C dL_law_2139 ?_
  refine r_sld C hx hbl hbA (show i + 1 < L by omega) (by omega) dL_law_2140 ?_
  refine r_aload_n C dL_law_2141 rfl ?_
  refine r_iload C dL_law_2142 rfl ?_
  refine r_iconst (v := nI 2) C dL_law_2144 (by decide) ?_
  refine r_iaddN C dL_law_2145 ?_
  refine r_sld C hx hbl hbA (show i + 2 < L by omega) (by omega) dL_law_2146 ?_
  refine r_aload_n C dL_law_2147 rfl ?_
  refine c_SH (st := []) hX.1.stb C hE (W_howOften hX.1 hN hC hB hM (P_howOften hX hl hC hB hM (xs (i + 1)) (xs (i + 2)))) pk_L_howOften qm_L_266 rfl rfl (Nat.le_of_ble_eq_true rfl) dL_law_2148 ⟨(Nat.le_of_ble_eq_true rfl), (Nat.le_of_ble_eq_true rfl)⟩ ⟨show cells + 1 ≤ room_1.cells by omega, show slots + 6 ≤ room_1.slots by omega⟩ (fun v9 w9 h9 => ?_) (fun _ h9 => h9.elim)
  obtain ⟨f', r', k, n1, rfl, rfl, hf', hq', n2, hC', hB', hM', hk0, hk4, h2⟩ := h9
  refine r_istore C dL_law_2151 (by decide) rfl ?_
  refine r_aload_n C dL_law_2153 rfl ?_
  refine r_aload_n C dL_law_2154 rfl ?_
  refine r_iload C dL_law_2155 rfl ?_
  refine r_iconst (v := nI 1) C dL_law_2157 (by decide) ?_
  refine r_iaddN C dL_law_2158 ?_
  refine r_sld C hx hbl hbA (show i + 1 < L by omega) (by omega) dL_law_2159 ?_
  refine r_aload_n C dL_law_2160 rfl ?_
  refine r_iload C dL_law_2161 rfl ?_
  refine r_iconst (v := nI 2) C dL_law_2163 (by decide) ?_
  refine r_iaddN C dL_law_2164 ?_
  refine r_sld C hx hbl hbA (show i + 2 < L by omega) (by omega) dL_law_2165 ?_
  refine t_swap3 ?_
  refine c_V (st := []) hX.1.stb C hE (h2 _) pk_X4_howOften qm_L_268 0 8 rfl rfl wm_0 rfl rfl (Nat.le_of_ble_eq_true rfl) dL_law_2166 ⟨(Nat.le_of_ble_eq_true rfl), (Nat.le_of_ble_eq_true rfl)⟩ ⟨show cells + 1 + 4 ≤ room_1.cells by omega, show slots + 6 + 48 ≤ room_1.slots by omega⟩ (fun v9 w9 h9 => ?_) (fun _ h9 => h9.elim)
  obtain ⟨ra9, rfl, rfl⟩ := h9
  refine r_istore C dL_law_2169 (by decide) rfl ?_
  refine r_aload_n C dL_law_2171 rfl ?_
  refine d_V (st := []) hX.1.stb C hE (D_thrown hX) pk_X4_thrown qm_L_181 0 8 rfl rfl wm_0 rfl rfl (Nat.le_of_ble_eq_true rfl) dL_law_2172 ⟨(Nat.le_of_ble_eq_true rfl), (Nat.le_of_ble_eq_true rfl)⟩ ⟨show cells + 1 + 4 + 0 ≤ room_1.cells by omega, show slots + 6 + 48 + 0 ≤ room_1.slots by omega⟩ ?_
  refine r_iload C dL_law_2175 rfl ?_
  refine r_ic_eq (tgt := 2182) C dL_law_2177 (by decide) (fun _ => ?_) (fun hne => absurd rfl hne)
  refine t_swap3 ?_
  refine r_iload C dL_law_2182 rfl ?_
  refine r_ifN_ne (a := k) (tgt := 2200) C (by omega) dL_law_2184 (by decide) (fun hk => ?_) (fun hk => ?_)
  · skip
    refine r_goto (tgt := 3456) C dL_law_2200 (by decide) ?_
    refine r_widen (k := cells + 500) (n := slots + 10000) (show cells + 1 + 4 + 0 ≤ cells + 500 by omega) (show slots + 6 + 48 + 0 ≤ slots + 10000 by omega) ?_
    refine r_drop 5 ?_
    refine r_drop 6 ?_
    exact kk _ ⟨f', r', hf', hq', kn, ra9, _, sm, _, _, hC', hB', hM', rfl⟩
  · subst hk
    have e1 := hk0 rfl
    subst e1
    refine r_aload_n C dL_law_2187 rfl ?_
    refine g_getN hX.1 C hE qu_X3 (ci := 7) rfl 38 outo_at 0 (by decide) qn_L_13 rfl rfl dL_law_2188 ?_
    refine r_iload C dL_law_2191 rfl ?_
    refine r_i2l C dL_law_2193 ?_
    refine r_lcmpE C dL_law_2194 ?_
    refine r_if_eq (tgt := 2200) C dL_law_2195 (by decide) (fun _ => ?_) (fun hne => absurd rfl hne)
    refine r_goto (tgt := 3456) C dL_law_2200 (by decide) ?_
    refine r_widen (k := cells + 500) (n := slots + 10000) (show cells + 1 + 4 + 0 ≤ cells + 500 by omega) (show slots + 6 + 48 + 0 ≤ slots + 10000 by omega) ?_
    refine r_drop 5 ?_
    refine r_drop 6 ?_
    exact kk _ ⟨f', r', hf', hq', kn, ra9, _, sm, _, _, hC', hB', hM', rfl⟩
theorem S_least {p : Program} {l : Launch} {e : Env} {s : State} {m : MethodId} {args : Array Value} {below : List Frame} {meth : Method} {c : Code} {D : va_G} {cy : Nat → ClassId} {A : Nat → Prop} {Q : State → Prop} {X : (Nat → Prop) → State → Heap → Prop} {aK aV : Nat → Nat} {tO tT : Nat} {gO gT : Nat → Int32} {a : Nat → Nat → Nat} {ba : Nat → Nat} {o b L i cells slots : Nat} {xs : Nat → Int32} {w : va_W} (C : Fg p s m args meth c cL_law 7 RL D cy A) (hE : X A s s.heap) (hT : EnvT X cy aK aV tO tT gO gT) (hN : EnvN X) (hl : l.stackTraces = false) (hx : va_X b L xs s s.heap) (hbl : b < s.heap.size) (hbA : ¬ A b) (hi : i + 5 ≤ L) (hL : L ≤ 2560) (hc : cells + 500 ≤ room_1.cells) (hs : slots + 10000 ≤ room_1.slots) (hJ : JW cy a ba o w) (kk : ∀ w' : va_W, JW cy a ba o w' → vW p l e room_1 s m args below meth c D vwCl A Q 7 (cells + 500) (slots + 10000) w' [some (.ref b), some (.ref (a 0 0)), some (.ref (ba 9)), some (.ref o), some (.int (nI i)), none, none] 3456 []) : vW p l e room_1 s m args below meth c D vwCl A Q 7 cells slots w [some (.ref b), some (.ref (a 0 0)), some (.ref (ba 9)), some (.ref o), some (.int (nI i)), none, none] 2203 [] := by
  by_cases h0 : xs (i + 2) = 0
  · skip
    have hX := hT.1.1
    obtain ⟨f, r, hf, hq, kn, ra, th, sm, n, v, hC, hB, hM, rfl⟩ := hJ
    refine r_aload_n C dL_law_2203 rfl ?_
    refine r_aload_n C dL_law_2204 rfl ?_
    refine r_iload C dL_law_2205 rfl ?_
    refine r_iconst (v := nI 1) C dL_law_2207 (by decide) ?_
    refine r_iaddN C dL_law_2208 ?_
    refine r_sld C hx hbl hbA (show i + 1 < L by omega) (by omega) dL_law_2209 ?_
    refine r_aload_n C dL_law_2210 rfl ?_
    refine r_iload C dL_law_2211 rfl ?_
    refine r_iconst (v := nI 2) C dL_law_2213 (by decide) ?_
    refine r_iaddN C dL_law_2214 ?_
    refine r_sld C hx hbl hbA (show i + 2 < L by omega) (by omega) dL_law_2215 ?_
    refine r_if_eq (tgt := 2223) C dL_law_2216 (by decide) (fun _ => ?_) (fun hne => absurd h0 hne)
    refine r_iconst (v := nI 0) C dL_law_2223 (by decide) ?_
    refine r_aload_n C dL_law_2224 rfl ?_
    refine c_SH (st := []) hX.1.stb C hE (W_least hX.1 hN hC hB hM (P_least hX hl hC hB hM (xs (i + 1)) (b0 := 0) (by decide))) pk_L_least qm_L_269 rfl rfl (Nat.le_of_ble_eq_true rfl) dL_law_2225 ⟨(Nat.le_of_ble_eq_true rfl), (Nat.le_of_ble_eq_true rfl)⟩ ⟨show cells + 1 ≤ room_1.cells by omega, show slots + 6 ≤ room_1.slots by omega⟩ (fun v9 w9 h9 => ?_) (fun _ h9 => h9.elim)
    obtain ⟨f', r', k, n1, rfl, rfl, hf', hq', n2, hC', hB', hM', hk0, hk4, h2⟩ := h9
    refine r_istore C dL_law_2228 (by decide) rfl ?_
    refine r_aload_n C dL_law_2230 rfl ?_
    refine r_aload_n C dL_law_2231 rfl ?_
    refine r_iload C dL_law_2232 rfl ?_
    refine r_iconst (v := nI 1) C dL_law_2234 (by decide) ?_
    refine r_iaddN C dL_law_2235 ?_
    refine r_sld C hx hbl hbA (show i + 1 < L by omega) (by omega) dL_law_2236 ?_
    refine r_aload_n C dL_law_2237 rfl ?_
    refine r_iload C dL_law_2238 rfl ?_
    refine r_iconst (v := nI 2) C dL_law_2240 (by decide) ?_
    refine r_iaddN C dL_law_2241 ?_
    refine r_sld C hx hbl hbA (show i + 2 < L by omega) (by omega) dL_law_2242 ?_
    refine r_if_eq (tgt := 2250) C dL_law_2243 (by decide) (fun _ => ?_) (fun hne => absurd h0 hne)
    refine r_iconst (v := nI 0) C dL_law_2250 (by decide) ?_
    refine t_swap3 ?_
    refine c_V (st := []) hX.1.stb C hE (h2 _) pk_X4_least qm_L_272 0 8 rfl rfl wm_0 rfl rfl (Nat.le_of_ble_eq_true rfl) dL_law_2251 ⟨(Nat.le_of_ble_eq_true rfl), (Nat.le_of_ble_eq_true rfl)⟩ ⟨show cells + 1 + 4 ≤ room_1.cells by omega, show slots + 6 + 48 ≤ room_1.slots by omega⟩ (fun v9 w9 h9 => ?_) (fun _ h9 => h9.elim)
    obtain ⟨ra9, rfl, rfl⟩ := h9
    refine r_istore C dL_law_2254 (by decide) rfl ?_
    refine r_aload_n C dL_law_2256 rfl ?_
    refine d_V (st := []) hX.1.stb C hE (D_thrown hX) pk_X4_thrown qm_L_181 0 8 rfl rfl wm_0 rfl rfl (Nat.le_of_ble_eq_true rfl) dL_law_2257 ⟨(Nat.le_of_ble_eq_true rfl), (Nat.le_of_ble_eq_true rfl)⟩ ⟨show cells + 1 + 4 + 0 ≤ room_1.cells by omega, show slots + 6 + 48 + 0 ≤ room_1.slots by omega⟩ ?_
    refine r_iload C dL_law_2260 rfl ?_
    refine r_ic_eq (tgt := 2267) C dL_law_2262 (by decide) (fun _ => ?_) (fun hne => absurd rfl hne)
    refine t_swap3 ?_
    refine r_iload C dL_law_2267 rfl ?_
    refine r_ifN_ne (a := k) (tgt := 2285) C (by omega) dL_law_2269 (by decide) (fun hk => ?_) (fun hk => ?_)
    · skip
      refine r_goto (tgt := 3456) C dL_law_2285 (by decide) ?_
      refine r_widen (k := cells + 500) (n := slots + 10000) (show cells + 1 + 4 + 0 ≤ cells + 500 by omega) (show slots + 6 + 48 + 0 ≤ slots + 10000 by omega) ?_
      refine r_drop 5 ?_
      refine r_drop 6 ?_
      exact kk _ ⟨f', r', hf', hq', kn, ra9, _, sm, _, _, hC', hB', hM', rfl⟩
    · subst hk
      have e1 := hk0 rfl
      subst e1
      refine r_aload_n C dL_law_2272 rfl ?_
      refine g_getN hX.1 C hE qu_X3 (ci := 7) rfl 38 outo_at 0 (by decide) qn_L_13 rfl rfl dL_law_2273 ?_
      refine r_iload C dL_law_2276 rfl ?_
      refine r_i2l C dL_law_2278 ?_
      refine r_lcmpE C dL_law_2279 ?_
      refine r_if_eq (tgt := 2285) C dL_law_2280 (by decide) (fun _ => ?_) (fun hne => absurd rfl hne)
      refine r_goto (tgt := 3456) C dL_law_2285 (by decide) ?_
      refine r_widen (k := cells + 500) (n := slots + 10000) (show cells + 1 + 4 + 0 ≤ cells + 500 by omega) (show slots + 6 + 48 + 0 ≤ slots + 10000 by omega) ?_
      refine r_drop 5 ?_
      refine r_drop 6 ?_
      exact kk _ ⟨f', r', hf', hq', kn, ra9, _, sm, _, _, hC', hB', hM', rfl⟩
  · skip
    have hX := hT.1.1
    obtain ⟨f, r, hf, hq, kn, ra, th, sm, n, v, hC, hB, hM, rfl⟩ := hJ
    refine r_aload_n C dL_law_2203 rfl ?_
    refine r_aload_n C dL_law_2204 rfl ?_
    refine r_iload C dL_law_2205 rfl ?_
    refine r_iconst (v := nI 1) C dL_law_2207 (by decide) ?_
    refine r_iaddN C dL_law_2208 ?_
    refine r_sld C hx hbl hbA (show i + 1 < L by omega) (by omega) dL_law_2209 ?_
    refine r_aload_n C dL_law_2210 rfl ?_
    refine r_iload C dL_law_2211 rfl ?_
    refine r_iconst (v := nI 2) C dL_law_2213 (by decide) ?_
    refine r_iaddN C dL_law_2214 ?_
    refine r_sld C hx hbl hbA (show i + 2 < L by omega) (by omega) dL_law_2215 ?_
    refine r_if_eq (tgt := 2223) C dL_law_2216 (by decide) (fun he => absurd he h0) (fun _ => ?_)
    refine r_iconst (v := nI 1) C dL_law_2219 (by decide) ?_
    refine r_goto (tgt := 2224) C dL_law_2220 (by decide) ?_
    refine r_aload_n C dL_law_2224 rfl ?_
    refine c_SH (st := []) hX.1.stb C hE (W_least hX.1 hN hC hB hM (P_least hX hl hC hB hM (xs (i + 1)) (b0 := 1) (by decide))) pk_L_least qm_L_269 rfl rfl (Nat.le_of_ble_eq_true rfl) dL_law_2225 ⟨(Nat.le_of_ble_eq_true rfl), (Nat.le_of_ble_eq_true rfl)⟩ ⟨show cells + 1 ≤ room_1.cells by omega, show slots + 6 ≤ room_1.slots by omega⟩ (fun v9 w9 h9 => ?_) (fun _ h9 => h9.elim)
    obtain ⟨f', r', k, n1, rfl, rfl, hf', hq', n2, hC', hB', hM', hk0, hk4, h2⟩ := h9
    refine r_istore C dL_law_2228 (by decide) rfl ?_
    refine r_aload_n C dL_law_2230 rfl ?_
    refine r_aload_n C dL_law_2231 rfl ?_
    refine r_iload C dL_law_2232 rfl ?_
    refine r_iconst (v := nI 1) C dL_law_2234 (by decide) ?_
    refine r_iaddN C dL_law_2235 ?_
    refine r_sld C hx hbl hbA (show i + 1 < L by omega) (by omega) dL_law_2236 ?_
    refine r_aload_n C dL_law_2237 rfl ?_
    refine r_iload C dL_law_2238 rfl ?_
    refine r_iconst (v := nI 2) C dL_law_2240 (by decide) ?_
    refine r_iaddN C dL_law_2241 ?_
    refine r_sld C hx hbl hbA (show i + 2 < L by omega) (by omega) dL_law_2242 ?_
    refine r_if_eq (tgt := 2250) C dL_law_2243 (by decide) (fun he => absurd he h0) (fun _ => ?_)
    refine r_iconst (v := nI 1) C dL_law_2246 (by decide) ?_
    refine r_goto (tgt := 2251) C dL_law_2247 (by decide) ?_
    refine t_swap3 ?_
    refine c_V (st := []) hX.1.stb C hE (h2 _) pk_X4_least qm_L_272 0 8 rfl rfl wm_0 rfl rfl (Nat.le_of_ble_eq_true rfl) dL_law_2251 ⟨(Nat.le_of_ble_eq_true rfl), (Nat.le_of_ble_eq_true rfl)⟩ ⟨show cells + 1 + 4 ≤ room_1.cells by omega, show slots + 6 + 48 ≤ room_1.slots by omega⟩ (fun v9 w9 h9 => ?_) (fun _ h9 => h9.elim)
    obtain ⟨ra9, rfl, rfl⟩ := h9
    refine r_istore C dL_law_2254 (by decide) rfl ?_
    refine r_aload_n C dL_law_2256 rfl ?_
    refine d_V (st := []) hX.1.stb C hE (D_thrown hX) pk_X4_thrown qm_L_181 0 8 rfl rfl wm_0 rfl rfl (Nat.le_of_ble_eq_true rfl) dL_law_2257 ⟨(Nat.le_of_ble_eq_true rfl), (Nat.le_of_ble_eq_true rfl)⟩ ⟨show cells + 1 + 4 + 0 ≤ room_1.cells by omega, show slots + 6 + 48 + 0 ≤ room_1.slots by omega⟩ ?_
    refine r_iload C dL_law_2260 rfl ?_
    refine r_ic_eq (tgt := 2267) C dL_law_2262 (by decide) (fun _ => ?_) (fun hne => absurd rfl hne)
    refine t_swap3 ?_
    refine r_iload C dL_law_2267 rfl ?_
    refine r_ifN_ne (a := k) (tgt := 2285) C (by omega) dL_law_2269 (by decide) (fun hk => ?_) (fun hk => ?_)
    · skip
      refine r_goto (tgt := 3456) C dL_law_2285 (by decide) ?_
      refine r_widen (k := cells + 500) (n := slots + 10000) (show cells + 1 + 4 + 0 ≤ cells + 500 by omega) (show slots + 6 + 48 + 0 ≤ slots + 10000 by omega) ?_
      refine r_drop 5 ?_
      refine r_drop 6 ?_
      exact kk _ ⟨f', r', hf', hq', kn, ra9, _, sm, _, _, hC', hB', hM', rfl⟩
    · subst hk
      have e1 := hk0 rfl
      subst e1
      refine r_aload_n C dL_law_2272 rfl ?_
      refine g_getN hX.1 C hE qu_X3 (ci := 7) rfl 38 outo_at 0 (by decide) qn_L_13 rfl rfl dL_law_2273 ?_
      refine r_iload C dL_law_2276 rfl ?_
      refine r_i2l C dL_law_2278 ?_
      refine r_lcmpE C dL_law_2279 ?_
      refine r_if_eq (tgt := 2285) C dL_law_2280 (by decide) (fun _ => ?_) (fun hne => absurd rfl hne)
      refine r_goto (tgt := 3456) C dL_law_2285 (by decide) ?_
      refine r_widen (k := cells + 500) (n := slots + 10000) (show cells + 1 + 4 + 0 ≤ cells + 500 by omega) (show slots + 6 + 48 + 0 ≤ slots + 10000 by omega) ?_
      refine r_drop 5 ?_
      refine r_drop 6 ?_
      exact kk _ ⟨f', r', hf', hq', kn, ra9, _, sm, _, _, hC', hB', hM', rfl⟩
theorem S_areApart {p : Program} {l : Launch} {e : Env} {s : State} {m : MethodId} {args : Array Value} {below : List Frame} {meth : Method} {c : Code} {D : va_G} {cy : Nat → ClassId} {A : Nat → Prop} {Q : State → Prop} {X : (Nat → Prop) → State → Heap → Prop} {aK aV : Nat → Nat} {tO tT : Nat} {gO gT : Nat → Int32} {a : Nat → Nat → Nat} {ba : Nat → Nat} {o b L i cells slots : Nat} {xs : Nat → Int32} {w : va_W} (C : Fg p s m args meth c cL_law 7 RL D cy A) (hE : X A s s.heap) (hT : EnvT X cy aK aV tO tT gO gT) (hN : EnvN X) (hl : l.stackTraces = false) (hx : va_X b L xs s s.heap) (hbl : b < s.heap.size) (hbA : ¬ A b) (hi : i + 5 ≤ L) (hL : L ≤ 2560) (hc : cells + 500 ≤ room_1.cells) (hs : slots + 10000 ≤ room_1.slots) (hJ : JW cy a ba o w) (kk : ∀ w' : va_W, JW cy a ba o w' → vW p l e room_1 s m args below meth c D vwCl A Q 7 (cells + 500) (slots + 10000) w' [some (.ref b), some (.ref (a 0 0)), some (.ref (ba 9)), some (.ref o), some (.int (nI i)), none, none] 3456 []) : vW p l e room_1 s m args below meth c D vwCl A Q 7 cells slots w [some (.ref b), some (.ref (a 0 0)), some (.ref (ba 9)), some (.ref o), some (.int (nI i)), none, none] 2288 [] := by
  have hX := hT.1.1
  obtain ⟨f, r, hf, hq, kn, ra, th, sm, n, v, hC, hB, hM, rfl⟩ := hJ
  refine r_aload_n C dL_law_2288 rfl ?_
  refine r_aload_n C dL_law_2289 rfl ?_
  refine r_iload C dL_law_2290 rfl ?_
  refine r_iconst (v := nI 1) C dL_law_2292 (by decide) ?_
  refine r_iaddN C dL_law_2293 ?_
  refine r_sld C hx hbl hbA (show i + 1 < L by omega) (by omega) dL_law_2294 ?_
  refine r_aload_n C dL_law_2295 rfl ?_
  refine r_iload C dL_law_2296 rfl ?_
  refine r_iconst (v := nI 2) C dL_law_2298 (by decide) ?_
  refine r_iaddN C dL_law_2299 ?_
  refine r_sld C hx hbl hbA (show i + 2 < L by omega) (by omega) dL_law_2300 ?_
  refine r_aload_n C dL_law_2301 rfl ?_
  refine c_SH (st := []) hX.1.stb C hE (W_areApart hX.1 hN hC hB hM (P_areApart hX hl hC hB hM (xs (i + 1)) (xs (i + 2)))) pk_L_areApart qm_L_273 rfl rfl (Nat.le_of_ble_eq_true rfl) dL_law_2302 ⟨(Nat.le_of_ble_eq_true rfl), (Nat.le_of_ble_eq_true rfl)⟩ ⟨show cells + 1 ≤ room_1.cells by omega, show slots + 6 ≤ room_1.slots by omega⟩ (fun v9 w9 h9 => ?_) (fun _ h9 => h9.elim)
  obtain ⟨f', r', k, n1, rfl, rfl, hf', hq', n2, hC', hB', hM', hk0, hk4, h2⟩ := h9
  refine r_istore C dL_law_2305 (by decide) rfl ?_
  refine r_aload_n C dL_law_2307 rfl ?_
  refine r_aload_n C dL_law_2308 rfl ?_
  refine r_iload C dL_law_2309 rfl ?_
  refine r_iconst (v := nI 1) C dL_law_2311 (by decide) ?_
  refine r_iaddN C dL_law_2312 ?_
  refine r_sld C hx hbl hbA (show i + 1 < L by omega) (by omega) dL_law_2313 ?_
  refine r_aload_n C dL_law_2314 rfl ?_
  refine r_iload C dL_law_2315 rfl ?_
  refine r_iconst (v := nI 2) C dL_law_2317 (by decide) ?_
  refine r_iaddN C dL_law_2318 ?_
  refine r_sld C hx hbl hbA (show i + 2 < L by omega) (by omega) dL_law_2319 ?_
  refine t_swap3 ?_
  refine c_V (st := []) hX.1.stb C hE (h2 _) pk_X4_areApart qm_L_275 0 8 rfl rfl wm_0 rfl rfl (Nat.le_of_ble_eq_true rfl) dL_law_2320 ⟨(Nat.le_of_ble_eq_true rfl), (Nat.le_of_ble_eq_true rfl)⟩ ⟨show cells + 1 + 4 ≤ room_1.cells by omega, show slots + 6 + 48 ≤ room_1.slots by omega⟩ (fun v9 w9 h9 => ?_) (fun _ h9 => h9.elim)
  obtain ⟨ra9, rfl, rfl⟩ := h9
  refine r_istore C dL_law_2323 (by decide) rfl ?_
  refine r_aload_n C dL_law_2325 rfl ?_
  refine d_V (st := []) hX.1.stb C hE (D_thrown hX) pk_X4_thrown qm_L_181 0 8 rfl rfl wm_0 rfl rfl (Nat.le_of_ble_eq_true rfl) dL_law_2326 ⟨(Nat.le_of_ble_eq_true rfl), (Nat.le_of_ble_eq_true rfl)⟩ ⟨show cells + 1 + 4 + 0 ≤ room_1.cells by omega, show slots + 6 + 48 + 0 ≤ room_1.slots by omega⟩ ?_
  refine r_iload C dL_law_2329 rfl ?_
  refine r_ic_eq (tgt := 2336) C dL_law_2331 (by decide) (fun _ => ?_) (fun hne => absurd rfl hne)
  refine t_swap3 ?_
  refine r_iload C dL_law_2336 rfl ?_
  refine r_ifN_ne (a := k) (tgt := 2361) C (by omega) dL_law_2338 (by decide) (fun hk => ?_) (fun hk => ?_)
  · skip
    refine r_goto (tgt := 3456) C dL_law_2361 (by decide) ?_
    refine r_widen (k := cells + 500) (n := slots + 10000) (show cells + 1 + 4 + 0 ≤ cells + 500 by omega) (show slots + 6 + 48 + 0 ≤ slots + 10000 by omega) ?_
    refine r_drop 5 ?_
    refine r_drop 6 ?_
    exact kk _ ⟨f', r', hf', hq', kn, ra9, _, sm, _, _, hC', hB', hM', rfl⟩
  · subst hk
    have e1 := hk0 rfl
    subst e1
    refine r_aload_n C dL_law_2341 rfl ?_
    refine g_getN hX.1 C hE qu_X3 (ci := 7) rfl 38 outo_at 0 (by decide) qn_L_13 rfl rfl dL_law_2342 ?_
    refine r_iload C dL_law_2345 rfl ?_
    refine r_if_eq (tgt := 2354) C dL_law_2347 (by decide) (fun h0 => ?_) (fun h0 => ?_)
    · rw [show cvZ n2 = 0 from if_pos h0]
      refine r_lconst (v := 0) C dL_law_2354 (by decide) ?_
      refine r_lcmpE C dL_law_2355 ?_
      refine r_if_eq (tgt := 2361) C dL_law_2356 (by decide) (fun _ => ?_) (fun hne => absurd rfl hne)
      refine r_goto (tgt := 3456) C dL_law_2361 (by decide) ?_
      refine r_widen (k := cells + 500) (n := slots + 10000) (show cells + 1 + 4 + 0 ≤ cells + 500 by omega) (show slots + 6 + 48 + 0 ≤ slots + 10000 by omega) ?_
      refine r_drop 5 ?_
      refine r_drop 6 ?_
      exact kk _ ⟨f', r', hf', hq', kn, ra9, _, sm, _, _, hC', hB', hM', rfl⟩
    · rw [show cvZ n2 = 1 from if_neg h0]
      refine r_lconst (v := 1) C dL_law_2350 (by decide) ?_
      refine r_goto (tgt := 2355) C dL_law_2351 (by decide) ?_
      refine r_lcmpE C dL_law_2355 ?_
      refine r_if_eq (tgt := 2361) C dL_law_2356 (by decide) (fun _ => ?_) (fun hne => absurd rfl hne)
      refine r_goto (tgt := 3456) C dL_law_2361 (by decide) ?_
      refine r_widen (k := cells + 500) (n := slots + 10000) (show cells + 1 + 4 + 0 ≤ cells + 500 by omega) (show slots + 6 + 48 + 0 ≤ slots + 10000 by omega) ?_
      refine r_drop 5 ?_
      refine r_drop 6 ?_
      exact kk _ ⟨f', r', hf', hq', kn, ra9, _, sm, _, _, hC', hB', hM', rfl⟩
theorem S_areSame {p : Program} {l : Launch} {e : Env} {s : State} {m : MethodId} {args : Array Value} {below : List Frame} {meth : Method} {c : Code} {D : va_G} {cy : Nat → ClassId} {A : Nat → Prop} {Q : State → Prop} {X : (Nat → Prop) → State → Heap → Prop} {aK aV : Nat → Nat} {tO tT : Nat} {gO gT : Nat → Int32} {a : Nat → Nat → Nat} {ba : Nat → Nat} {o b L i cells slots : Nat} {xs : Nat → Int32} {w : va_W} (C : Fg p s m args meth c cL_law 7 RL D cy A) (hE : X A s s.heap) (hT : EnvT X cy aK aV tO tT gO gT) (hN : EnvN X) (hl : l.stackTraces = false) (hx : va_X b L xs s s.heap) (hbl : b < s.heap.size) (hbA : ¬ A b) (hi : i + 5 ≤ L) (hL : L ≤ 2560) (hc : cells + 500 ≤ room_1.cells) (hs : slots + 10000 ≤ room_1.slots) (hJ : JW cy a ba o w) (kk : ∀ w' : va_W, JW cy a ba o w' → vW p l e room_1 s m args below meth c D vwCl A Q 7 (cells + 500) (slots + 10000) w' [some (.ref b), some (.ref (a 0 0)), some (.ref (ba 9)), some (.ref o), some (.int (nI i)), none, none] 3456 []) : vW p l e room_1 s m args below meth c D vwCl A Q 7 cells slots w [some (.ref b), some (.ref (a 0 0)), some (.ref (ba 9)), some (.ref o), some (.int (nI i)), none, none] 2364 [] := by
  have hX := hT.1.1
  obtain ⟨f, r, hf, hq, kn, ra, th, sm, n, v, hC, hB, hM, rfl⟩ := hJ
  refine r_aload_n C dL_law_2364 rfl ?_
  refine r_aload_n C dL_law_2365 rfl ?_
  refine r_iload C dL_law_2366 rfl ?_
  refine r_iconst (v := nI 1) C dL_law_2368 (by decide) ?_
  refine r_iaddN C dL_law_2369 ?_
  refine r_sld C hx hbl hbA (show i + 1 < L by omega) (by omega) dL_law_2370 ?_
  refine r_aload_n C dL_law_2371 rfl ?_
  refine r_iload C dL_law_2372 rfl ?_
  refine r_iconst (v := nI 2) C dL_law_2374 (by decide) ?_
  refine r_iaddN C dL_law_2375 ?_
  refine r_sld C hx hbl hbA (show i + 2 < L by omega) (by omega) dL_law_2376 ?_
  refine r_aload_n C dL_law_2377 rfl ?_
  refine c_SH (st := []) hX.1.stb C hE (W_areSame hX.1 hN hC hB hM (P_areSame hX hl hC hB hM (xs (i + 1)) (xs (i + 2)))) pk_L_areSame qm_L_276 rfl rfl (Nat.le_of_ble_eq_true rfl) dL_law_2378 ⟨(Nat.le_of_ble_eq_true rfl), (Nat.le_of_ble_eq_true rfl)⟩ ⟨show cells + 1 ≤ room_1.cells by omega, show slots + 6 ≤ room_1.slots by omega⟩ (fun v9 w9 h9 => ?_) (fun _ h9 => h9.elim)
  obtain ⟨f', r', k, n1, rfl, rfl, hf', hq', n2, hC', hB', hM', hk0, hk4, h2⟩ := h9
  refine r_istore C dL_law_2381 (by decide) rfl ?_
  refine r_aload_n C dL_law_2383 rfl ?_
  refine r_aload_n C dL_law_2384 rfl ?_
  refine r_iload C dL_law_2385 rfl ?_
  refine r_iconst (v := nI 1) C dL_law_2387 (by decide) ?_
  refine r_iaddN C dL_law_2388 ?_
  refine r_sld C hx hbl hbA (show i + 1 < L by omega) (by omega) dL_law_2389 ?_
  refine r_aload_n C dL_law_2390 rfl ?_
  refine r_iload C dL_law_2391 rfl ?_
  refine r_iconst (v := nI 2) C dL_law_2393 (by decide) ?_
  refine r_iaddN C dL_law_2394 ?_
  refine r_sld C hx hbl hbA (show i + 2 < L by omega) (by omega) dL_law_2395 ?_
  refine t_swap3 ?_
  refine c_V (st := []) hX.1.stb C hE (h2 _) pk_X4_areSame qm_L_278 0 8 rfl rfl wm_0 rfl rfl (Nat.le_of_ble_eq_true rfl) dL_law_2396 ⟨(Nat.le_of_ble_eq_true rfl), (Nat.le_of_ble_eq_true rfl)⟩ ⟨show cells + 1 + 4 ≤ room_1.cells by omega, show slots + 6 + 48 ≤ room_1.slots by omega⟩ (fun v9 w9 h9 => ?_) (fun _ h9 => h9.elim)
  obtain ⟨ra9, rfl, rfl⟩ := h9
  refine r_istore C dL_law_2399 (by decide) rfl ?_
  refine r_aload_n C dL_law_2401 rfl ?_
  refine d_V (st := []) hX.1.stb C hE (D_thrown hX) pk_X4_thrown qm_L_181 0 8 rfl rfl wm_0 rfl rfl (Nat.le_of_ble_eq_true rfl) dL_law_2402 ⟨(Nat.le_of_ble_eq_true rfl), (Nat.le_of_ble_eq_true rfl)⟩ ⟨show cells + 1 + 4 + 0 ≤ room_1.cells by omega, show slots + 6 + 48 + 0 ≤ room_1.slots by omega⟩ ?_
  refine r_iload C dL_law_2405 rfl ?_
  refine r_ic_eq (tgt := 2412) C dL_law_2407 (by decide) (fun _ => ?_) (fun hne => absurd rfl hne)
  refine t_swap3 ?_
  refine r_iload C dL_law_2412 rfl ?_
  refine r_ifN_ne (a := k) (tgt := 2437) C (by omega) dL_law_2414 (by decide) (fun hk => ?_) (fun hk => ?_)
  · skip
    refine r_goto (tgt := 3456) C dL_law_2437 (by decide) ?_
    refine r_widen (k := cells + 500) (n := slots + 10000) (show cells + 1 + 4 + 0 ≤ cells + 500 by omega) (show slots + 6 + 48 + 0 ≤ slots + 10000 by omega) ?_
    refine r_drop 5 ?_
    refine r_drop 6 ?_
    exact kk _ ⟨f', r', hf', hq', kn, ra9, _, sm, _, _, hC', hB', hM', rfl⟩
  · subst hk
    have e1 := hk0 rfl
    subst e1
    refine r_aload_n C dL_law_2417 rfl ?_
    refine g_getN hX.1 C hE qu_X3 (ci := 7) rfl 38 outo_at 0 (by decide) qn_L_13 rfl rfl dL_law_2418 ?_
    refine r_iload C dL_law_2421 rfl ?_
    refine r_if_eq (tgt := 2430) C dL_law_2423 (by decide) (fun h0 => ?_) (fun h0 => ?_)
    · rw [show cvZ n2 = 0 from if_pos h0]
      refine r_lconst (v := 0) C dL_law_2430 (by decide) ?_
      refine r_lcmpE C dL_law_2431 ?_
      refine r_if_eq (tgt := 2437) C dL_law_2432 (by decide) (fun _ => ?_) (fun hne => absurd rfl hne)
      refine r_goto (tgt := 3456) C dL_law_2437 (by decide) ?_
      refine r_widen (k := cells + 500) (n := slots + 10000) (show cells + 1 + 4 + 0 ≤ cells + 500 by omega) (show slots + 6 + 48 + 0 ≤ slots + 10000 by omega) ?_
      refine r_drop 5 ?_
      refine r_drop 6 ?_
      exact kk _ ⟨f', r', hf', hq', kn, ra9, _, sm, _, _, hC', hB', hM', rfl⟩
    · rw [show cvZ n2 = 1 from if_neg h0]
      refine r_lconst (v := 1) C dL_law_2426 (by decide) ?_
      refine r_goto (tgt := 2431) C dL_law_2427 (by decide) ?_
      refine r_lcmpE C dL_law_2431 ?_
      refine r_if_eq (tgt := 2437) C dL_law_2432 (by decide) (fun _ => ?_) (fun hne => absurd rfl hne)
      refine r_goto (tgt := 3456) C dL_law_2437 (by decide) ?_
      refine r_widen (k := cells + 500) (n := slots + 10000) (show cells + 1 + 4 + 0 ≤ cells + 500 by omega) (show slots + 6 + 48 + 0 ≤ slots + 10000 by omega) ?_
      refine r_drop 5 ?_
      refine r_drop 6 ?_
      exact kk _ ⟨f', r', hf', hq', kn, ra9, _, sm, _, _, hC', hB', hM', rfl⟩
theorem S_hash {p : Program} {l : Launch} {e : Env} {s : State} {m : MethodId} {args : Array Value} {below : List Frame} {meth : Method} {c : Code} {D : va_G} {cy : Nat → ClassId} {A : Nat → Prop} {Q : State → Prop} {X : (Nat → Prop) → State → Heap → Prop} {aK aV : Nat → Nat} {tO tT : Nat} {gO gT : Nat → Int32} {a : Nat → Nat → Nat} {ba : Nat → Nat} {o b L i cells slots : Nat} {xs : Nat → Int32} {w : va_W} (C : Fg p s m args meth c cL_law 7 RL D cy A) (hE : X A s s.heap) (hT : EnvT X cy aK aV tO tT gO gT) (hN : EnvN X) (hl : l.stackTraces = false) (hx : va_X b L xs s s.heap) (hbl : b < s.heap.size) (hbA : ¬ A b) (hi : i + 5 ≤ L) (hL : L ≤ 2560) (hc : cells + 500 ≤ room_1.cells) (hs : slots + 10000 ≤ room_1.slots) (hJ : JW cy a ba o w) (kk : ∀ w' : va_W, JW cy a ba o w' → vW p l e room_1 s m args below meth c D vwCl A Q 7 (cells + 500) (slots + 10000) w' [some (.ref b), some (.ref (a 0 0)), some (.ref (ba 9)), some (.ref o), some (.int (nI i)), none, none] 3456 []) : vW p l e room_1 s m args below meth c D vwCl A Q 7 cells slots w [some (.ref b), some (.ref (a 0 0)), some (.ref (ba 9)), some (.ref o), some (.int (nI i)), none, none] 2440 [] := by
  have hX := hT.1.1
  obtain ⟨f, r, hf, hq, kn, ra, th, sm, n, v, hC, hB, hM, rfl⟩ := hJ
  refine r_aload_n C dL_law_2440 rfl ?_
  refine r_aload_n C dL_law_2441 rfl ?_
  refine r_iload C dL_law_2442 rfl ?_
  refine r_iconst (v := nI 1) C dL_law_2444 (by decide) ?_
  refine r_iaddN C dL_law_2445 ?_
  refine r_sld C hx hbl hbA (show i + 1 < L by omega) (by omega) dL_law_2446 ?_
  refine r_aload_n C dL_law_2447 rfl ?_
  refine c_SH (st := []) hX.1.stb C hE (W_hash hX.1 hN hC hB hM (P_hash hX hl hC hB hM (xs (i + 1)))) pk_L_hash qm_L_279 rfl rfl (Nat.le_of_ble_eq_true rfl) dL_law_2448 ⟨(Nat.le_of_ble_eq_true rfl), (Nat.le_of_ble_eq_true rfl)⟩ ⟨show cells + 1 ≤ room_1.cells by omega, show slots + 6 ≤ room_1.slots by omega⟩ (fun v9 w9 h9 => ?_) (fun _ h9 => h9.elim)
  obtain ⟨f', r', k, n1, rfl, rfl, hf', hq', n2, hC', hB', hM', hk0, hk4, h2⟩ := h9
  refine r_istore C dL_law_2451 (by decide) rfl ?_
  refine r_aload_n C dL_law_2453 rfl ?_
  refine r_aload_n C dL_law_2454 rfl ?_
  refine r_iload C dL_law_2455 rfl ?_
  refine r_iconst (v := nI 1) C dL_law_2457 (by decide) ?_
  refine r_iaddN C dL_law_2458 ?_
  refine r_sld C hx hbl hbA (show i + 1 < L by omega) (by omega) dL_law_2459 ?_
  refine t_swap3 ?_
  refine c_V (st := []) hX.1.stb C hE (h2 _) pk_X4_hash qm_L_281 0 8 rfl rfl wm_0 rfl rfl (Nat.le_of_ble_eq_true rfl) dL_law_2460 ⟨(Nat.le_of_ble_eq_true rfl), (Nat.le_of_ble_eq_true rfl)⟩ ⟨show cells + 1 + 4 ≤ room_1.cells by omega, show slots + 6 + 48 ≤ room_1.slots by omega⟩ (fun v9 w9 h9 => ?_) (fun _ h9 => h9.elim)
  obtain ⟨ra9, rfl, rfl⟩ := h9
  refine r_istore C dL_law_2463 (by decide) rfl ?_
  refine r_aload_n C dL_law_2465 rfl ?_
  refine d_V (st := []) hX.1.stb C hE (D_thrown hX) pk_X4_thrown qm_L_181 0 8 rfl rfl wm_0 rfl rfl (Nat.le_of_ble_eq_true rfl) dL_law_2466 ⟨(Nat.le_of_ble_eq_true rfl), (Nat.le_of_ble_eq_true rfl)⟩ ⟨show cells + 1 + 4 + 0 ≤ room_1.cells by omega, show slots + 6 + 48 + 0 ≤ room_1.slots by omega⟩ ?_
  refine r_iload C dL_law_2469 rfl ?_
  refine r_ic_eq (tgt := 2476) C dL_law_2471 (by decide) (fun _ => ?_) (fun hne => absurd rfl hne)
  refine t_swap3 ?_
  refine r_iload C dL_law_2476 rfl ?_
  refine r_ifN_ne (a := k) (tgt := 2494) C (by omega) dL_law_2478 (by decide) (fun hk => ?_) (fun hk => ?_)
  · skip
    refine r_goto (tgt := 3456) C dL_law_2494 (by decide) ?_
    refine r_widen (k := cells + 500) (n := slots + 10000) (show cells + 1 + 4 + 0 ≤ cells + 500 by omega) (show slots + 6 + 48 + 0 ≤ slots + 10000 by omega) ?_
    refine r_drop 5 ?_
    refine r_drop 6 ?_
    exact kk _ ⟨f', r', hf', hq', kn, ra9, _, sm, _, _, hC', hB', hM', rfl⟩
  · subst hk
    have e1 := hk0 rfl
    subst e1
    refine r_aload_n C dL_law_2481 rfl ?_
    refine g_getN hX.1 C hE qu_X3 (ci := 7) rfl 38 outo_at 0 (by decide) qn_L_13 rfl rfl dL_law_2482 ?_
    refine r_iload C dL_law_2485 rfl ?_
    refine r_i2l C dL_law_2487 ?_
    refine r_lcmpE C dL_law_2488 ?_
    refine r_if_eq (tgt := 2494) C dL_law_2489 (by decide) (fun _ => ?_) (fun hne => absurd rfl hne)
    refine r_goto (tgt := 3456) C dL_law_2494 (by decide) ?_
    refine r_widen (k := cells + 500) (n := slots + 10000) (show cells + 1 + 4 + 0 ≤ cells + 500 by omega) (show slots + 6 + 48 + 0 ≤ slots + 10000 by omega) ?_
    refine r_drop 5 ?_
    refine r_drop 6 ?_
    exact kk _ ⟨f', r', hf', hq', kn, ra9, _, sm, _, _, hC', hB', hM', rfl⟩
theorem S_text {p : Program} {l : Launch} {e : Env} {s : State} {m : MethodId} {args : Array Value} {below : List Frame} {meth : Method} {c : Code} {D : va_G} {cy : Nat → ClassId} {A : Nat → Prop} {Q : State → Prop} {X : (Nat → Prop) → State → Heap → Prop} {aK aV : Nat → Nat} {tO tT : Nat} {gO gT : Nat → Int32} {a : Nat → Nat → Nat} {ba : Nat → Nat} {o b L i cells slots : Nat} {xs : Nat → Int32} {w : va_W} (C : Fg p s m args meth c cL_law 7 RL D cy A) (hE : X A s s.heap) (hT : EnvT X cy aK aV tO tT gO gT) (hN : EnvN X) (hl : l.stackTraces = false) (hx : va_X b L xs s s.heap) (hbl : b < s.heap.size) (hbA : ¬ A b) (hi : i + 5 ≤ L) (hL : L ≤ 2560) (hc : cells + 500 ≤ room_1.cells) (hs : slots + 10000 ≤ room_1.slots) (hJ : JW cy a ba o w) (kk : ∀ w' : va_W, JW cy a ba o w' → vW p l e room_1 s m args below meth c D vwCl A Q 7 (cells + 500) (slots + 10000) w' [some (.ref b), some (.ref (a 0 0)), some (.ref (ba 9)), some (.ref o), some (.int (nI i)), none, none] 3456 []) : vW p l e room_1 s m args below meth c D vwCl A Q 7 cells slots w [some (.ref b), some (.ref (a 0 0)), some (.ref (ba 9)), some (.ref o), some (.int (nI i)), none, none] 2497 [] := by
  have hX := hT.1.1
  obtain ⟨f, r, hf, hq, kn, ra, th, sm, n, v, hC, hB, hM, rfl⟩ := hJ
  rcases n_dec (n := 4) (by omega) (xs (i + 1)) with hno | ⟨j, hj4, hj⟩
  · skip
    refine r_aload_n C dL_law_2497 rfl ?_
    refine r_aload_n C dL_law_2498 rfl ?_
    refine r_iload C dL_law_2499 rfl ?_
    refine r_iconst (v := nI 1) C dL_law_2501 (by decide) ?_
    refine r_iaddN C dL_law_2502 ?_
    refine r_sld C hx hbl hbA (show i + 1 < L by omega) (by omega) dL_law_2503 ?_
    refine r_aload_n C dL_law_2504 rfl ?_
    refine c_SH (st := []) hX.1.stb C hE (W_text_no hT.1 hl hC hno) pk_L_text qm_L_282 rfl rfl (Nat.le_of_ble_eq_true rfl) dL_law_2505 ⟨(Nat.le_of_ble_eq_true rfl), (Nat.le_of_ble_eq_true rfl)⟩ ⟨show cells + 6 ≤ room_1.cells by omega, show slots + 204 ≤ room_1.slots by omega⟩ (fun v9 w9 h9 => ?_) (fun _ h9 => h9.elim)
    obtain ⟨rfl, rfl⟩ := h9
    refine r_istore C dL_law_2508 (by decide) rfl ?_
    refine r_aload_n C dL_law_2510 rfl ?_
    refine r_aload_n C dL_law_2511 rfl ?_
    refine r_iload C dL_law_2512 rfl ?_
    refine r_iconst (v := nI 1) C dL_law_2514 (by decide) ?_
    refine r_iaddN C dL_law_2515 ?_
    refine r_sld C hx hbl hbA (show i + 1 < L by omega) (by omega) dL_law_2516 ?_
    refine t_swap3 ?_
    refine c_V (st := []) hX.1.stb C hE (D_text_noR hT.1 hno) pk_X4_text qm_L_284 0 8 rfl rfl wm_0 rfl rfl (Nat.le_of_ble_eq_true rfl) dL_law_2517 ⟨(Nat.le_of_ble_eq_true rfl), (Nat.le_of_ble_eq_true rfl)⟩ ⟨show cells + 6 + 100 ≤ room_1.cells by omega, show slots + 204 + 2200 ≤ room_1.slots by omega⟩ (fun v9 w9 h9 => ?_) (fun _ h9 => h9.elim)
    obtain ⟨rfl, rfl⟩ := h9
    refine r_astore C dL_law_2520 (by decide) rfl ?_
    refine r_aload_n C dL_law_2522 rfl ?_
    refine d_V (st := []) hX.1.stb C hE (D_thrown hX) pk_X4_thrown qm_L_181 0 8 rfl rfl wm_0 rfl rfl (Nat.le_of_ble_eq_true rfl) dL_law_2523 ⟨(Nat.le_of_ble_eq_true rfl), (Nat.le_of_ble_eq_true rfl)⟩ ⟨show cells + 6 + 100 + 0 ≤ room_1.cells by omega, show slots + 204 + 2200 + 0 ≤ room_1.slots by omega⟩ ?_
    refine r_iload C dL_law_2526 rfl ?_
    refine r_ic_eq (tgt := 2533) C dL_law_2528 (by decide) (fun _ => ?_) (fun hne => absurd rfl hne)
    refine r_iload C dL_law_2533 rfl ?_
    refine r_ifN_ne (a := 1) (tgt := 2552) C (by omega) dL_law_2535 (by decide) (fun _ => ?_) (fun h => absurd h (by omega))
    refine t_swap3 ?_
    refine r_goto (tgt := 3456) C dL_law_2552 (by decide) ?_
    refine r_widen (k := cells + 500) (n := slots + 10000) (show cells + 6 + 100 + 0 ≤ cells + 500 by omega) (show slots + 204 + 2200 + 0 ≤ slots + 10000 by omega) ?_
    refine r_drop 5 ?_
    refine r_drop 6 ?_
    exact kk _ ⟨f, r, hf, hq, kn, ra, _, sm, _, _, hC, hB, hM, rfl⟩
  · skip
    have q := hC.rw hj4
    refine r_aload_n C dL_law_2497 rfl ?_
    refine r_aload_n C dL_law_2498 rfl ?_
    refine r_iload C dL_law_2499 rfl ?_
    refine r_iconst (v := nI 1) C dL_law_2501 (by decide) ?_
    refine r_iaddN C dL_law_2502 ?_
    refine r_sld C hx hbl hbA (show i + 1 < L by omega) (by omega) dL_law_2503 ?_
    refine r_aload_n C dL_law_2504 rfl ?_
    refine c_SH (st := []) hX.1.stb C hE (W_text_ok hT.1 hl hC hB hj4 hj) pk_L_text qm_L_282 rfl rfl (Nat.le_of_ble_eq_true rfl) dL_law_2505 ⟨(Nat.le_of_ble_eq_true rfl), (Nat.le_of_ble_eq_true rfl)⟩ ⟨show cells + 6 ≤ room_1.cells by omega, show slots + 204 ≤ room_1.slots by omega⟩ (fun v9 w9 h9 => ?_) (fun _ h9 => h9.elim)
    obtain ⟨a9, v9, g9, hT9, rfl, rfl⟩ := h9
    refine r_istore C dL_law_2508 (by decide) rfl ?_
    refine r_aload_n C dL_law_2510 rfl ?_
    refine r_aload_n C dL_law_2511 rfl ?_
    refine r_iload C dL_law_2512 rfl ?_
    refine r_iconst (v := nI 1) C dL_law_2514 (by decide) ?_
    refine r_iaddN C dL_law_2515 ?_
    refine r_sld C hx hbl hbA (show i + 1 < L by omega) (by omega) dL_law_2516 ?_
    refine t_swap3 ?_
    refine c_V (st := []) hX.1.stb C hE (D_text_okx hT.1 hC hB hM hj4 hj) pk_X4_text qm_L_284 0 8 rfl rfl wm_0 rfl rfl (Nat.le_of_ble_eq_true rfl) dL_law_2517 ⟨(Nat.le_of_ble_eq_true rfl), (Nat.le_of_ble_eq_true rfl)⟩ ⟨show cells + 6 + 100 ≤ room_1.cells by omega, show slots + 204 + 2200 ≤ room_1.slots by omega⟩ (fun v9 w9 h9 => ?_) (fun _ h9 => h9.elim)
    obtain ⟨a2, v2, z1, z2, g2, hT2, rfl, rfl⟩ := h9
    refine r_astore C dL_law_2520 (by decide) rfl ?_
    refine r_aload_n C dL_law_2522 rfl ?_
    refine d_V (st := []) hX.1.stb C hE (D_thrown hX) pk_X4_thrown qm_L_181 0 8 rfl rfl wm_0 rfl rfl (Nat.le_of_ble_eq_true rfl) dL_law_2523 ⟨(Nat.le_of_ble_eq_true rfl), (Nat.le_of_ble_eq_true rfl)⟩ ⟨show cells + 6 + 100 + 0 ≤ room_1.cells by omega, show slots + 204 + 2200 + 0 ≤ room_1.slots by omega⟩ ?_
    refine r_iload C dL_law_2526 rfl ?_
    refine r_ic_eq (tgt := 2533) C dL_law_2528 (by decide) (fun _ => ?_) (fun hne => absurd rfl hne)
    refine r_iload C dL_law_2533 rfl ?_
    refine r_ifN_ne (a := 0) (tgt := 2552) C (by omega) dL_law_2535 (by decide) (fun h => absurd rfl h) (fun _ => ?_)
    refine r_aload_n C dL_law_2538 rfl ?_
    refine g_getN hX.1 C hE qu_X3 (ci := 7) rfl 40 txo_40 1 (by decide) qn_L_127 rfl rfl dL_law_2539 ?_
    refine r_aload C dL_law_2542 rfl ?_
    have htl := tlx_le (fun k => r (f 0 j) (f 3 j + k)) (f 4 j)
    refine c_V (st := []) hX.1.stb C hE (C_seq hT.1 41 42 14 15 txo_41 txo_42 txo_14 txo_15 (fun q hq => (hT9.2.2 q hq).trans (hT2.2.2 q hq).symm) (by omega)) pk_J0_equals_9ea2d qm_L_285 41 0 rfl rfl txo_41 rfl rfl (Nat.le_of_ble_eq_true rfl) dL_law_2544 ⟨(Nat.le_of_ble_eq_true rfl), (Nat.le_of_ble_eq_true rfl)⟩ ⟨show cells + 6 + 100 + 0 + 0 ≤ room_1.cells by omega, show slots + 204 + 2200 + 0 + 0 ≤ room_1.slots by omega⟩ (fun v9 w9 h9 => ?_) (fun _ h9 => h9.elim)
    obtain ⟨rfl, rfl⟩ := h9
    refine r_ifN_ne (a := 1) (tgt := 2552) C (by omega) dL_law_2547 (by decide) (fun _ => ?_) (fun h => absurd h (by omega))
    refine txo_back ?_
    refine r_goto (tgt := 3456) C dL_law_2552 (by decide) ?_
    refine r_widen (k := cells + 500) (n := slots + 10000) (show cells + 6 + 100 + 0 + 0 ≤ cells + 500 by omega) (show slots + 204 + 2200 + 0 + 0 ≤ slots + 10000 by omega) ?_
    refine r_drop 5 ?_
    refine r_drop 6 ?_
    exact kk _ ⟨f, r, hf, hq, kn, ra, _, sm, _, _, hC, hB, hM, rfl⟩
theorem S_inArray {p : Program} {l : Launch} {e : Env} {s : State} {m : MethodId} {args : Array Value} {below : List Frame} {meth : Method} {c : Code} {D : va_G} {cy : Nat → ClassId} {A : Nat → Prop} {Q : State → Prop} {X : (Nat → Prop) → State → Heap → Prop} {aK aV : Nat → Nat} {tO tT : Nat} {gO gT : Nat → Int32} {a : Nat → Nat → Nat} {ba : Nat → Nat} {o b L i cells slots : Nat} {xs : Nat → Int32} {w : va_W} (C : Fg p s m args meth c cL_law 7 RL D cy A) (hE : X A s s.heap) (hT : EnvT X cy aK aV tO tT gO gT) (hN : EnvN X) (hl : l.stackTraces = false) (hx : va_X b L xs s s.heap) (hbl : b < s.heap.size) (hbA : ¬ A b) (hi : i + 5 ≤ L) (hL : L ≤ 2560) (hc : cells + 500 ≤ room_1.cells) (hs : slots + 10000 ≤ room_1.slots) (hJ : JW cy a ba o w) (kk : ∀ w' : va_W, JW cy a ba o w' → vW p l e room_1 s m args below meth c D vwCl A Q 7 (cells + 500) (slots + 10000) w' [some (.ref b), some (.ref (a 0 0)), some (.ref (ba 9)), some (.ref o), some (.int (nI i)), none, none] 3456 []) : vW p l e room_1 s m args below meth c D vwCl A Q 7 cells slots w [some (.ref b), some (.ref (a 0 0)), some (.ref (ba 9)), some (.ref o), some (.int (nI i)), none, none] 2555 [] := by
  have hX := hT.1.1
  obtain ⟨f, r, hf, hq, kn, ra, th, sm, n, v, hC, hB, hM, rfl⟩ := hJ
  refine r_aload_n C dL_law_2555 rfl ?_
  refine r_aload_n C dL_law_2556 rfl ?_
  refine r_iload C dL_law_2557 rfl ?_
  refine r_iconst (v := nI 1) C dL_law_2559 (by decide) ?_
  refine r_iaddN C dL_law_2560 ?_
  refine r_sld C hx hbl hbA (show i + 1 < L by omega) (by omega) dL_law_2561 ?_
  refine r_aload_n C dL_law_2562 rfl ?_
  refine r_iload C dL_law_2563 rfl ?_
  refine r_iconst (v := nI 2) C dL_law_2565 (by decide) ?_
  refine r_iaddN C dL_law_2566 ?_
  refine r_sld C hx hbl hbA (show i + 2 < L by omega) (by omega) dL_law_2567 ?_
  refine r_aload_n C dL_law_2568 rfl ?_
  refine c_SH (st := []) hX.1.stb C hE (W_inArray hX.1 hN hC hB hM (P_inArray hX hl hC hB hM (xs (i + 1)) (xs (i + 2)))) pk_L_inArray qm_L_291 rfl rfl (Nat.le_of_ble_eq_true rfl) dL_law_2569 ⟨(Nat.le_of_ble_eq_true rfl), (Nat.le_of_ble_eq_true rfl)⟩ ⟨show cells + 1 ≤ room_1.cells by omega, show slots + 6 ≤ room_1.slots by omega⟩ (fun v9 w9 h9 => ?_) (fun _ h9 => h9.elim)
  obtain ⟨f', r', k, n1, rfl, rfl, hf', hq', n2, hC', hB', hM', hk0, hk4, h2⟩ := h9
  refine r_istore C dL_law_2572 (by decide) rfl ?_
  refine r_aload_n C dL_law_2574 rfl ?_
  refine r_aload_n C dL_law_2575 rfl ?_
  refine r_iload C dL_law_2576 rfl ?_
  refine r_iconst (v := nI 1) C dL_law_2578 (by decide) ?_
  refine r_iaddN C dL_law_2579 ?_
  refine r_sld C hx hbl hbA (show i + 1 < L by omega) (by omega) dL_law_2580 ?_
  refine r_aload_n C dL_law_2581 rfl ?_
  refine r_iload C dL_law_2582 rfl ?_
  refine r_iconst (v := nI 2) C dL_law_2584 (by decide) ?_
  refine r_iaddN C dL_law_2585 ?_
  refine r_sld C hx hbl hbA (show i + 2 < L by omega) (by omega) dL_law_2586 ?_
  refine t_swap3 ?_
  refine c_V (st := []) hX.1.stb C hE (h2 _) pk_X4_inArray qm_L_293 0 8 rfl rfl wm_0 rfl rfl (Nat.le_of_ble_eq_true rfl) dL_law_2587 ⟨(Nat.le_of_ble_eq_true rfl), (Nat.le_of_ble_eq_true rfl)⟩ ⟨show cells + 1 + 4 ≤ room_1.cells by omega, show slots + 6 + 48 ≤ room_1.slots by omega⟩ (fun v9 w9 h9 => ?_) (fun _ h9 => h9.elim)
  obtain ⟨ra9, rfl, rfl⟩ := h9
  refine r_istore C dL_law_2590 (by decide) rfl ?_
  refine r_aload_n C dL_law_2592 rfl ?_
  refine d_V (st := []) hX.1.stb C hE (D_thrown hX) pk_X4_thrown qm_L_181 0 8 rfl rfl wm_0 rfl rfl (Nat.le_of_ble_eq_true rfl) dL_law_2593 ⟨(Nat.le_of_ble_eq_true rfl), (Nat.le_of_ble_eq_true rfl)⟩ ⟨show cells + 1 + 4 + 0 ≤ room_1.cells by omega, show slots + 6 + 48 + 0 ≤ room_1.slots by omega⟩ ?_
  refine r_iload C dL_law_2596 rfl ?_
  refine r_ic_eq (tgt := 2603) C dL_law_2598 (by decide) (fun _ => ?_) (fun hne => absurd rfl hne)
  refine t_swap3 ?_
  refine r_iload C dL_law_2603 rfl ?_
  refine r_ifN_ne (a := k) (tgt := 2621) C (by omega) dL_law_2605 (by decide) (fun hk => ?_) (fun hk => ?_)
  · skip
    refine r_goto (tgt := 3456) C dL_law_2621 (by decide) ?_
    refine r_widen (k := cells + 500) (n := slots + 10000) (show cells + 1 + 4 + 0 ≤ cells + 500 by omega) (show slots + 6 + 48 + 0 ≤ slots + 10000 by omega) ?_
    refine r_drop 5 ?_
    refine r_drop 6 ?_
    exact kk _ ⟨f', r', hf', hq', kn, ra9, _, sm, _, _, hC', hB', hM', rfl⟩
  · subst hk
    have e1 := hk0 rfl
    subst e1
    refine r_aload_n C dL_law_2608 rfl ?_
    refine g_getN hX.1 C hE qu_X3 (ci := 7) rfl 38 outo_at 0 (by decide) qn_L_13 rfl rfl dL_law_2609 ?_
    refine r_iload C dL_law_2612 rfl ?_
    refine r_i2l C dL_law_2614 ?_
    refine r_lcmpE C dL_law_2615 ?_
    refine r_if_eq (tgt := 2621) C dL_law_2616 (by decide) (fun _ => ?_) (fun hne => absurd rfl hne)
    refine r_goto (tgt := 3456) C dL_law_2621 (by decide) ?_
    refine r_widen (k := cells + 500) (n := slots + 10000) (show cells + 1 + 4 + 0 ≤ cells + 500 by omega) (show slots + 6 + 48 + 0 ≤ slots + 10000 by omega) ?_
    refine r_drop 5 ?_
    refine r_drop 6 ?_
    exact kk _ ⟨f', r', hf', hq', kn, ra9, _, sm, _, _, hC', hB', hM', rfl⟩
theorem S_window {p : Program} {l : Launch} {e : Env} {s : State} {m : MethodId} {args : Array Value} {below : List Frame} {meth : Method} {c : Code} {D : va_G} {cy : Nat → ClassId} {A : Nat → Prop} {Q : State → Prop} {X : (Nat → Prop) → State → Heap → Prop} {aK aV : Nat → Nat} {tO tT : Nat} {gO gT : Nat → Int32} {a : Nat → Nat → Nat} {ba : Nat → Nat} {o b L i cells slots : Nat} {xs : Nat → Int32} {w : va_W} (C : Fg p s m args meth c cL_law 7 RL D cy A) (hE : X A s s.heap) (hT : EnvT X cy aK aV tO tT gO gT) (hN : EnvN X) (hl : l.stackTraces = false) (hx : va_X b L xs s s.heap) (hbl : b < s.heap.size) (hbA : ¬ A b) (hi : i + 5 ≤ L) (hL : L ≤ 2560) (hc : cells + 500 ≤ room_1.cells) (hs : slots + 10000 ≤ room_1.slots) (hJ : JW cy a ba o w) (kk : ∀ w' : va_W, JW cy a ba o w' → vW p l e room_1 s m args below meth c D vwCl A Q 7 (cells + 500) (slots + 10000) w' [some (.ref b), some (.ref (a 0 0)), some (.ref (ba 9)), some (.ref o), some (.int (nI i)), none, none] 3456 []) : vW p l e room_1 s m args below meth c D vwCl A Q 7 cells slots w [some (.ref b), some (.ref (a 0 0)), some (.ref (ba 9)), some (.ref o), some (.int (nI i)), none, none] 2624 [] := by
  have hX := hT.1.1
  obtain ⟨f, r, hf, hq, kn, ra, th, sm, n, v, hC, hB, hM, rfl⟩ := hJ
  refine r_aload_n C dL_law_2624 rfl ?_
  refine r_aload_n C dL_law_2625 rfl ?_
  refine r_iload C dL_law_2626 rfl ?_
  refine r_iconst (v := nI 1) C dL_law_2628 (by decide) ?_
  refine r_iaddN C dL_law_2629 ?_
  refine r_sld C hx hbl hbA (show i + 1 < L by omega) (by omega) dL_law_2630 ?_
  refine r_aload_n C dL_law_2631 rfl ?_
  refine r_iload C dL_law_2632 rfl ?_
  refine r_iconst (v := nI 2) C dL_law_2634 (by decide) ?_
  refine r_iaddN C dL_law_2635 ?_
  refine r_sld C hx hbl hbA (show i + 2 < L by omega) (by omega) dL_law_2636 ?_
  refine r_aload_n C dL_law_2637 rfl ?_
  refine r_iload C dL_law_2638 rfl ?_
  refine r_iconst (v := nI 3) C dL_law_2640 (by decide) ?_
  refine r_iaddN C dL_law_2641 ?_
  refine r_sld C hx hbl hbA (show i + 3 < L by omega) (by omega) dL_law_2642 ?_
  refine r_aload_n C dL_law_2643 rfl ?_
  refine r_iload C dL_law_2644 rfl ?_
  refine r_iconst (v := nI 4) C dL_law_2646 (by decide) ?_
  refine r_iaddN C dL_law_2647 ?_
  refine r_sld C hx hbl hbA (show i + 4 < L by omega) (by omega) dL_law_2648 ?_
  refine r_aload_n C dL_law_2649 rfl ?_
  refine c_SH (st := []) hX.1.stb C hE (W_window hX.1 hN hC hB hM (P_window hX hl hC hB hM (xs (i + 1)) (xs (i + 2)) (xs (i + 3)) (xs (i + 4)))) pk_L_window qm_L_294 rfl rfl (Nat.le_of_ble_eq_true rfl) dL_law_2650 ⟨(Nat.le_of_ble_eq_true rfl), (Nat.le_of_ble_eq_true rfl)⟩ ⟨show cells + 1 ≤ room_1.cells by omega, show slots + 6 ≤ room_1.slots by omega⟩ (fun v9 w9 h9 => ?_) (fun _ h9 => h9.elim)
  obtain ⟨f', r', k, n1, rfl, rfl, hf', hq', n2, hC', hB', hM', hk0, hk4, h2⟩ := h9
  refine r_istore C dL_law_2653 (by decide) rfl ?_
  refine r_aload_n C dL_law_2655 rfl ?_
  refine r_aload_n C dL_law_2656 rfl ?_
  refine r_iload C dL_law_2657 rfl ?_
  refine r_iconst (v := nI 1) C dL_law_2659 (by decide) ?_
  refine r_iaddN C dL_law_2660 ?_
  refine r_sld C hx hbl hbA (show i + 1 < L by omega) (by omega) dL_law_2661 ?_
  refine r_aload_n C dL_law_2662 rfl ?_
  refine r_iload C dL_law_2663 rfl ?_
  refine r_iconst (v := nI 2) C dL_law_2665 (by decide) ?_
  refine r_iaddN C dL_law_2666 ?_
  refine r_sld C hx hbl hbA (show i + 2 < L by omega) (by omega) dL_law_2667 ?_
  refine r_aload_n C dL_law_2668 rfl ?_
  refine r_iload C dL_law_2669 rfl ?_
  refine r_iconst (v := nI 3) C dL_law_2671 (by decide) ?_
  refine r_iaddN C dL_law_2672 ?_
  refine r_sld C hx hbl hbA (show i + 3 < L by omega) (by omega) dL_law_2673 ?_
  refine r_aload_n C dL_law_2674 rfl ?_
  refine r_iload C dL_law_2675 rfl ?_
  refine r_iconst (v := nI 4) C dL_law_2677 (by decide) ?_
  refine r_iaddN C dL_law_2678 ?_
  refine r_sld C hx hbl hbA (show i + 4 < L by omega) (by omega) dL_law_2679 ?_
  refine t_swap3 ?_
  refine c_V (st := []) hX.1.stb C hE (h2 _) pk_X4_window qm_L_296 0 8 rfl rfl wm_0 rfl rfl (Nat.le_of_ble_eq_true rfl) dL_law_2680 ⟨(Nat.le_of_ble_eq_true rfl), (Nat.le_of_ble_eq_true rfl)⟩ ⟨show cells + 1 + 4 ≤ room_1.cells by omega, show slots + 6 + 48 ≤ room_1.slots by omega⟩ (fun v9 w9 h9 => ?_) (fun _ h9 => h9.elim)
  obtain ⟨ra9, rfl, rfl⟩ := h9
  refine r_istore C dL_law_2683 (by decide) rfl ?_
  refine r_aload_n C dL_law_2685 rfl ?_
  refine d_V (st := []) hX.1.stb C hE (D_thrown hX) pk_X4_thrown qm_L_181 0 8 rfl rfl wm_0 rfl rfl (Nat.le_of_ble_eq_true rfl) dL_law_2686 ⟨(Nat.le_of_ble_eq_true rfl), (Nat.le_of_ble_eq_true rfl)⟩ ⟨show cells + 1 + 4 + 0 ≤ room_1.cells by omega, show slots + 6 + 48 + 0 ≤ room_1.slots by omega⟩ ?_
  refine r_iload C dL_law_2689 rfl ?_
  refine r_ic_eq (tgt := 2696) C dL_law_2691 (by decide) (fun _ => ?_) (fun hne => absurd rfl hne)
  refine t_swap3 ?_
  refine r_iload C dL_law_2696 rfl ?_
  refine r_ifN_ne (a := k) (tgt := 2714) C (by omega) dL_law_2698 (by decide) (fun hk => ?_) (fun hk => ?_)
  · skip
    refine r_goto (tgt := 3456) C dL_law_2714 (by decide) ?_
    refine r_widen (k := cells + 500) (n := slots + 10000) (show cells + 1 + 4 + 0 ≤ cells + 500 by omega) (show slots + 6 + 48 + 0 ≤ slots + 10000 by omega) ?_
    refine r_drop 5 ?_
    refine r_drop 6 ?_
    exact kk _ ⟨f', r', hf', hq', kn, ra9, _, sm, _, _, hC', hB', hM', rfl⟩
  · subst hk
    have e1 := hk0 rfl
    subst e1
    refine r_aload_n C dL_law_2701 rfl ?_
    refine g_getN hX.1 C hE qu_X3 (ci := 7) rfl 38 outo_at 0 (by decide) qn_L_13 rfl rfl dL_law_2702 ?_
    refine r_iload C dL_law_2705 rfl ?_
    refine r_i2l C dL_law_2707 ?_
    refine r_lcmpE C dL_law_2708 ?_
    refine r_if_eq (tgt := 2714) C dL_law_2709 (by decide) (fun _ => ?_) (fun hne => absurd rfl hne)
    refine r_goto (tgt := 3456) C dL_law_2714 (by decide) ?_
    refine r_widen (k := cells + 500) (n := slots + 10000) (show cells + 1 + 4 + 0 ≤ cells + 500 by omega) (show slots + 6 + 48 + 0 ≤ slots + 10000 by omega) ?_
    refine r_drop 5 ?_
    refine r_drop 6 ?_
    exact kk _ ⟨f', r', hf', hq', kn, ra9, _, sm, _, _, hC', hB', hM', rfl⟩
theorem S_close {p : Program} {l : Launch} {e : Env} {s : State} {m : MethodId} {args : Array Value} {below : List Frame} {meth : Method} {c : Code} {D : va_G} {cy : Nat → ClassId} {A : Nat → Prop} {Q : State → Prop} {X : (Nat → Prop) → State → Heap → Prop} {aK aV : Nat → Nat} {tO tT : Nat} {gO gT : Nat → Int32} {a : Nat → Nat → Nat} {ba : Nat → Nat} {o b L i cells slots : Nat} {xs : Nat → Int32} {w : va_W} (C : Fg p s m args meth c cL_law 7 RL D cy A) (hE : X A s s.heap) (hT : EnvT X cy aK aV tO tT gO gT) (hN : EnvN X) (hl : l.stackTraces = false) (hx : va_X b L xs s s.heap) (hbl : b < s.heap.size) (hbA : ¬ A b) (hi : i + 5 ≤ L) (hL : L ≤ 2560) (hc : cells + 500 ≤ room_1.cells) (hs : slots + 10000 ≤ room_1.slots) (hJ : JW cy a ba o w) (kk : ∀ w' : va_W, JW cy a ba o w' → vW p l e room_1 s m args below meth c D vwCl A Q 7 (cells + 500) (slots + 10000) w' [some (.ref b), some (.ref (a 0 0)), some (.ref (ba 9)), some (.ref o), some (.int (nI i)), none, none] 3456 []) : vW p l e room_1 s m args below meth c D vwCl A Q 7 cells slots w [some (.ref b), some (.ref (a 0 0)), some (.ref (ba 9)), some (.ref o), some (.int (nI i)), none, none] 2717 [] := by
  have hX := hT.1.1
  obtain ⟨f, r, hf, hq, kn, ra, th, sm, n, v, hC, hB, hM, rfl⟩ := hJ
  refine r_aload_n C dL_law_2717 rfl ?_
  refine r_aload_n C dL_law_2718 rfl ?_
  refine r_iload C dL_law_2719 rfl ?_
  refine r_iconst (v := nI 1) C dL_law_2721 (by decide) ?_
  refine r_iaddN C dL_law_2722 ?_
  refine r_sld C hx hbl hbA (show i + 1 < L by omega) (by omega) dL_law_2723 ?_
  refine r_aload_n C dL_law_2724 rfl ?_
  refine c_SH (st := []) hX.1.stb C hE (W_close hX.1 hN hC hB hM (P_close hX hl hC hB hM (xs (i + 1)))) pk_L_close qm_L_297 rfl rfl (Nat.le_of_ble_eq_true rfl) dL_law_2725 ⟨(Nat.le_of_ble_eq_true rfl), (Nat.le_of_ble_eq_true rfl)⟩ ⟨show cells + 1 ≤ room_1.cells by omega, show slots + 6 ≤ room_1.slots by omega⟩ (fun v9 w9 h9 => ?_) (fun _ h9 => h9.elim)
  obtain ⟨f', r', k, n1, rfl, rfl, hf', hq', n2, hC', hB', hM', hk0, hk4, h2⟩ := h9
  refine r_istore C dL_law_2728 (by decide) rfl ?_
  refine r_aload_n C dL_law_2730 rfl ?_
  refine r_aload_n C dL_law_2731 rfl ?_
  refine r_iload C dL_law_2732 rfl ?_
  refine r_iconst (v := nI 1) C dL_law_2734 (by decide) ?_
  refine r_iaddN C dL_law_2735 ?_
  refine r_sld C hx hbl hbA (show i + 1 < L by omega) (by omega) dL_law_2736 ?_
  refine t_swap3 ?_
  refine c_V (st := []) hX.1.stb C hE (h2 _) pk_X4_close qm_L_299 0 8 rfl rfl wm_0 rfl rfl (Nat.le_of_ble_eq_true rfl) dL_law_2737 ⟨(Nat.le_of_ble_eq_true rfl), (Nat.le_of_ble_eq_true rfl)⟩ ⟨show cells + 1 + 4 ≤ room_1.cells by omega, show slots + 6 + 48 ≤ room_1.slots by omega⟩ (fun v9 w9 h9 => ?_) (fun _ h9 => h9.elim)
  obtain ⟨ra9, rfl, rfl⟩ := h9
  refine r_istore C dL_law_2740 (by decide) rfl ?_
  refine r_aload_n C dL_law_2742 rfl ?_
  refine d_V (st := []) hX.1.stb C hE (D_thrown hX) pk_X4_thrown qm_L_181 0 8 rfl rfl wm_0 rfl rfl (Nat.le_of_ble_eq_true rfl) dL_law_2743 ⟨(Nat.le_of_ble_eq_true rfl), (Nat.le_of_ble_eq_true rfl)⟩ ⟨show cells + 1 + 4 + 0 ≤ room_1.cells by omega, show slots + 6 + 48 + 0 ≤ room_1.slots by omega⟩ ?_
  refine r_iload C dL_law_2746 rfl ?_
  refine r_ic_eq (tgt := 2753) C dL_law_2748 (by decide) (fun _ => ?_) (fun hne => absurd rfl hne)
  refine t_swap3 ?_
  refine r_iload C dL_law_2753 rfl ?_
  refine r_ifN_ne (a := k) (tgt := 2771) C (by omega) dL_law_2755 (by decide) (fun hk => ?_) (fun hk => ?_)
  · skip
    refine r_goto (tgt := 3456) C dL_law_2771 (by decide) ?_
    refine r_widen (k := cells + 500) (n := slots + 10000) (show cells + 1 + 4 + 0 ≤ cells + 500 by omega) (show slots + 6 + 48 + 0 ≤ slots + 10000 by omega) ?_
    refine r_drop 5 ?_
    refine r_drop 6 ?_
    exact kk _ ⟨f', r', hf', hq', kn, ra9, _, sm, _, _, hC', hB', hM', rfl⟩
  · subst hk
    have e1 := hk0 rfl
    subst e1
    refine r_aload_n C dL_law_2758 rfl ?_
    refine g_getN hX.1 C hE qu_X3 (ci := 7) rfl 38 outo_at 0 (by decide) qn_L_13 rfl rfl dL_law_2759 ?_
    refine r_iload C dL_law_2762 rfl ?_
    refine r_i2l C dL_law_2764 ?_
    refine r_lcmpE C dL_law_2765 ?_
    refine r_if_eq (tgt := 2771) C dL_law_2766 (by decide) (fun _ => ?_) (fun hne => absurd rfl hne)
    refine r_goto (tgt := 3456) C dL_law_2771 (by decide) ?_
    refine r_widen (k := cells + 500) (n := slots + 10000) (show cells + 1 + 4 + 0 ≤ cells + 500 by omega) (show slots + 6 + 48 + 0 ≤ slots + 10000 by omega) ?_
    refine r_drop 5 ?_
    refine r_drop 6 ?_
    exact kk _ ⟨f', r', hf', hq', kn, ra9, _, sm, _, _, hC', hB', hM', rfl⟩
