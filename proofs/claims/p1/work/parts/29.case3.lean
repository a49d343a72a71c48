theorem dL_law__1891 : decode cL_law_ 1891 = .ok (.aload_n 1, 1) := by decide +kernel
theorem dL_law__1892 : decode cL_law_ 1892 = .ok (.aload_n 0, 1) := by decide +kernel
theorem dL_law__1893 : decode cL_law_ 1893 = .ok (.iload 4, 2) := by decide +kernel
theorem dL_law__1895 : decode cL_law_ 1895 = .ok (.iconst 1, 1) := by decide +kernel
theorem dL_law__1896 : decode cL_law_ 1896 = .ok (.iadd, 1) := by decide +kernel
theorem dL_law__1897 : decode cL_law_ 1897 = .ok (.iaload, 1) := by decide +kernel
theorem dL_law__1898 : decode cL_law_ 1898 = .ok (.aload_n 0, 1) := by decide +kernel
theorem dL_law__1899 : decode cL_law_ 1899 = .ok (.iload 4, 2) := by decide +kernel
theorem dL_law__1901 : decode cL_law_ 1901 = .ok (.iconst 2, 1) := by decide +kernel
theorem dL_law__1902 : decode cL_law_ 1902 = .ok (.iadd, 1) := by decide +kernel
theorem dL_law__1903 : decode cL_law_ 1903 = .ok (.iaload, 1) := by decide +kernel
theorem dL_law__1904 : decode cL_law_ 1904 = .ok (.aload_n 0, 1) := by decide +kernel
theorem dL_law__1905 : decode cL_law_ 1905 = .ok (.iload 4, 2) := by decide +kernel
theorem dL_law__1907 : decode cL_law_ 1907 = .ok (.iconst 3, 1) := by decide +kernel
theorem dL_law__1908 : decode cL_law_ 1908 = .ok (.iadd, 1) := by decide +kernel
theorem dL_law__1909 : decode cL_law_ 1909 = .ok (.iaload, 1) := by decide +kernel
theorem dL_law__1910 : decode cL_law_ 1910 = .ok (.aload_n 0, 1) := by decide +kernel
theorem dL_law__1911 : decode cL_law_ 1911 = .ok (.iload 4, 2) := by decide +kernel
theorem dL_law__1913 : decode cL_law_ 1913 = .ok (.iconst 4, 1) := by decide +kernel
theorem dL_law__1914 : decode cL_law_ 1914 = .ok (.iadd, 1) := by decide +kernel
theorem dL_law__1915 : decode cL_law_ 1915 = .ok (.iaload, 1) := by decide +kernel
theorem dL_law__1916 : decode cL_law_ 1916 = .ok (.aload_n 0, 1) := by decide +kernel
theorem dL_law__1917 : decode cL_law_ 1917 = .ok (.iload 4, 2) := by decide +kernel
theorem dL_law__1919 : decode cL_law_ 1919 = .ok (.iconst 5, 1) := by decide +kernel
theorem dL_law__1920 : decode cL_law_ 1920 = .ok (.iadd, 1) := by decide +kernel
theorem dL_law__1921 : decode cL_law_ 1921 = .ok (.iaload, 1) := by decide +kernel
theorem dL_law__1922 : decode cL_law_ 1922 = .ok (.aload_n 3, 1) := by decide +kernel
theorem zw_916 : Cond.methodLink RL 230 yL_find ∈ zT := zT_of 1240 (by decide +kernel) (by decide +kernel)
theorem zw_917 : Cond.static yL_find ∈ zT := zT_of 1241 (by decide +kernel) (by decide +kernel)
theorem zw_918 : Cond.codeWith yL_find cL_find 8 (some .int) [(0, 16, 19, 21), (0, 16, 23, 13), (0, 16, 27, 15), (0, 16, 31, 41)] ∈ zT := zT_of 1242 (by decide +kernel) (by decide +kernel)
theorem dL_law__1923 : decode cL_law_ 1923 = .ok (.invokestatic 230, 3) := by decide +kernel
theorem dL_law__1926 : decode cL_law_ 1926 = .ok (.istore 5, 2) := by decide +kernel
theorem dL_law__1928 : decode cL_law_ 1928 = .ok (.aload_n 2, 1) := by decide +kernel
theorem dL_law__1929 : decode cL_law_ 1929 = .ok (.aload_n 0, 1) := by decide +kernel
theorem dL_law__1930 : decode cL_law_ 1930 = .ok (.iload 4, 2) := by decide +kernel
theorem dL_law__1932 : decode cL_law_ 1932 = .ok (.iconst 1, 1) := by decide +kernel
theorem dL_law__1933 : decode cL_law_ 1933 = .ok (.iadd, 1) := by decide +kernel
theorem dL_law__1934 : decode cL_law_ 1934 = .ok (.iaload, 1) := by decide +kernel
theorem dL_law__1935 : decode cL_law_ 1935 = .ok (.aload_n 0, 1) := by decide +kernel
theorem dL_law__1936 : decode cL_law_ 1936 = .ok (.iload 4, 2) := by decide +kernel
theorem dL_law__1938 : decode cL_law_ 1938 = .ok (.iconst 2, 1) := by decide +kernel
theorem dL_law__1939 : decode cL_law_ 1939 = .ok (.iadd, 1) := by decide +kernel
theorem dL_law__1940 : decode cL_law_ 1940 = .ok (.iaload, 1) := by decide +kernel
theorem dL_law__1941 : decode cL_law_ 1941 = .ok (.aload_n 0, 1) := by decide +kernel
theorem dL_law__1942 : decode cL_law_ 1942 = .ok (.iload 4, 2) := by decide +kernel
theorem dL_law__1944 : decode cL_law_ 1944 = .ok (.iconst 3, 1) := by decide +kernel
theorem dL_law__1945 : decode cL_law_ 1945 = .ok (.iadd, 1) := by decide +kernel
theorem dL_law__1946 : decode cL_law_ 1946 = .ok (.iaload, 1) := by decide +kernel
theorem dL_law__1947 : decode cL_law_ 1947 = .ok (.aload_n 0, 1) := by decide +kernel
theorem dL_law__1948 : decode cL_law_ 1948 = .ok (.iload 4, 2) := by decide +kernel
theorem dL_law__1950 : decode cL_law_ 1950 = .ok (.iconst 4, 1) := by decide +kernel
theorem dL_law__1951 : decode cL_law_ 1951 = .ok (.iadd, 1) := by decide +kernel
theorem dL_law__1952 : decode cL_law_ 1952 = .ok (.iaload, 1) := by decide +kernel
theorem dL_law__1953 : decode cL_law_ 1953 = .ok (.aload_n 0, 1) := by decide +kernel
theorem dL_law__1954 : decode cL_law_ 1954 = .ok (.iload 4, 2) := by decide +kernel
theorem dL_law__1956 : decode cL_law_ 1956 = .ok (.iconst 5, 1) := by decide +kernel
theorem dL_law__1957 : decode cL_law_ 1957 = .ok (.iadd, 1) := by decide +kernel
theorem dL_law__1958 : decode cL_law_ 1958 = .ok (.iaload, 1) := by decide +kernel
theorem zw_919 : Cond.methodLink RL 232 yX12_find ∈ zT := zT_of 1891 (by decide +kernel) (by decide +kernel)
theorem zw_920 : Cond.instanceMethod yX12_find ∈ zT := zT_of 1892 (by decide +kernel) (by decide +kernel)
theorem zw_921 : Cond.selects RX12 yX12_find yX12_find ∈ zT := zT_of 1893 (by decide +kernel) (by decide +kernel)
theorem zw_922 : Cond.code yX12_find cX12_find 10 (some .int) ∈ zT := zT_of 1894 (by decide +kernel) (by decide +kernel)
theorem dL_law__1959 : decode cL_law_ 1959 = .ok (.invokevirtual 232, 3) := by decide +kernel
theorem dL_law__1962 : decode cL_law_ 1962 = .ok (.istore 6, 2) := by decide +kernel
theorem dL_law__1964 : decode cL_law_ 1964 = .ok (.aload_n 2, 1) := by decide +kernel
theorem dL_law__1965 : decode cL_law_ 1965 = .ok (.invokevirtual 161, 3) := by decide +kernel
theorem dL_law__1968 : decode cL_law_ 1968 = .ok (.iload 5, 2) := by decide +kernel
theorem dL_law__1970 : decode cL_law_ 1970 = .ok (.if_icmp .eq 5, 3) := by decide +kernel
theorem dL_law__1975 : decode cL_law_ 1975 = .ok (.iload 5, 2) := by decide +kernel
theorem dL_law__1977 : decode cL_law_ 1977 = .ok (.ifCond .ne 15, 3) := by decide +kernel
theorem dL_law__1992 : decode cL_law_ 1992 = .ok (.goto 1441, 3) := by decide +kernel
theorem dL_law__1980 : decode cL_law_ 1980 = .ok (.aload_n 3, 1) := by decide +kernel
theorem dL_law__1981 : decode cL_law_ 1981 = .ok (.iconst 0, 1) := by decide +kernel
theorem dL_law__1982 : decode cL_law_ 1982 = .ok (.laload, 1) := by decide +kernel
theorem dL_law__1983 : decode cL_law_ 1983 = .ok (.iload 6, 2) := by decide +kernel
theorem dL_law__1985 : decode cL_law_ 1985 = .ok (.i2l, 1) := by decide +kernel
theorem dL_law__1986 : decode cL_law_ 1986 = .ok (.lcmp, 1) := by decide +kernel
theorem dL_law__1987 : decode cL_law_ 1987 = .ok (.ifCond .eq 5, 3) := by decide +kernel
theorem dL_law__1995 : decode cL_law_ 1995 = .ok (.aload_n 1, 1) := by decide +kernel
theorem dL_law__1996 : decode cL_law_ 1996 = .ok (.aload_n 0, 1) := by decide +kernel
theorem dL_law__1997 : decode cL_law_ 1997 = .ok (.iload 4, 2) := by decide +kernel
theorem dL_law__1999 : decode cL_law_ 1999 = .ok (.iconst 1, 1) := by decide +kernel
theorem dL_law__2000 : decode cL_law_ 2000 = .ok (.iadd, 1) := by decide +kernel
theorem dL_law__2001 : decode cL_law_ 2001 = .ok (.iaload, 1) := by decide +kernel
theorem dL_law__2002 : decode cL_law_ 2002 = .ok (.aload_n 3, 1) := by decide +kernel
theorem zw_923 : Cond.methodLink RL 233 yL_restore ∈ zT := zT_of 1298 (by decide +kernel) (by decide +kernel)
theorem zw_924 : Cond.static yL_restore ∈ zT := zT_of 1299 (by decide +kernel) (by decide +kernel)
theorem zw_925 : Cond.codeWith yL_restore cL_restore 4 (some .int) [(0, 9, 12, 21), (0, 9, 15, 15)] ∈ zT := zT_of 1300 (by decide +kernel) (by decide +kernel)
theorem dL_law__2003 : decode cL_law_ 2003 = .ok (.invokestatic 233, 3) := by decide +kernel
theorem dL_law__2006 : decode cL_law_ 2006 = .ok (.istore 5, 2) := by decide +kernel
theorem dL_law__2008 : decode cL_law_ 2008 = .ok (.aload_n 2, 1) := by decide +kernel
theorem dL_law__2009 : decode cL_law_ 2009 = .ok (.aload_n 0, 1) := by decide +kernel
theorem dL_law__2010 : decode cL_law_ 2010 = .ok (.iload 4, 2) := by decide +kernel
theorem dL_law__2012 : decode cL_law_ 2012 = .ok (.iconst 1, 1) := by decide +kernel
theorem dL_law__2013 : decode cL_law_ 2013 = .ok (.iadd, 1) := by decide +kernel
theorem dL_law__2014 : decode cL_law_ 2014 = .ok (.iaload, 1) := by decide +kernel
theorem zw_926 : Cond.methodLink RL 235 yX12_restore ∈ zT := zT_of 1926 (by decide +kernel) (by decide +kernel)
theorem zw_927 : Cond.instanceMethod yX12_restore ∈ zT := zT_of 1927 (by decide +kernel) (by decide +kernel)
theorem zw_928 : Cond.selects RX12 yX12_restore yX12_restore ∈ zT := zT_of 1928 (by decide +kernel) (by decide +kernel)
theorem zw_929 : Cond.code yX12_restore cX12_restore 2 (some .int) ∈ zT := zT_of 1929 (by decide +kernel) (by decide +kernel)
theorem dL_law__2015 : decode cL_law_ 2015 = .ok (.invokevirtual 235, 3) := by decide +kernel
theorem dL_law__2018 : decode cL_law_ 2018 = .ok (.istore 6, 2) := by decide +kernel
theorem dL_law__2020 : decode cL_law_ 2020 = .ok (.aload_n 2, 1) := by decide +kernel
theorem dL_law__2021 : decode cL_law_ 2021 = .ok (.invokevirtual 161, 3) := by decide +kernel
theorem dL_law__2024 : decode cL_law_ 2024 = .ok (.iload 5, 2) := by decide +kernel
theorem dL_law__2026 : decode cL_law_ 2026 = .ok (.if_icmp .eq 5, 3) := by decide +kernel
theorem dL_law__2031 : decode cL_law_ 2031 = .ok (.iload 5, 2) := by decide +kernel
theorem dL_law__2033 : decode cL_law_ 2033 = .ok (.ifCond .ne 15, 3) := by decide +kernel
theorem dL_law__2048 : decode cL_law_ 2048 = .ok (.goto 1385, 3) := by decide +kernel
theorem dL_law__2036 : decode cL_law_ 2036 = .ok (.aload_n 3, 1) := by decide +kernel
theorem dL_law__2037 : decode cL_law_ 2037 = .ok (.iconst 0, 1) := by decide +kernel
theorem dL_law__2038 : decode cL_law_ 2038 = .ok (.laload, 1) := by decide +kernel
theorem dL_law__2039 : decode cL_law_ 2039 = .ok (.iload 6, 2) := by decide +kernel
theorem dL_law__2041 : decode cL_law_ 2041 = .ok (.i2l, 1) := by decide +kernel
theorem dL_law__2042 : decode cL_law_ 2042 = .ok (.lcmp, 1) := by decide +kernel
theorem dL_law__2043 : decode cL_law_ 2043 = .ok (.ifCond .eq 5, 3) := by decide +kernel
theorem dL_law__2051 : decode cL_law_ 2051 = .ok (.aload_n 1, 1) := by decide +kernel
theorem dL_law__2052 : decode cL_law_ 2052 = .ok (.aload_n 3, 1) := by decide +kernel
theorem zw_930 : Cond.methodLink RL 236 yL_undo ∈ zT := zT_of 1306 (by decide +kernel) (by decide +kernel)
theorem zw_931 : Cond.static yL_undo ∈ zT := zT_of 1307 (by decide +kernel) (by decide +kernel)
theorem zw_932 : Cond.codeWith yL_undo cL_undo 3 (some .int) [(0, 8, 11, 15)] ∈ zT := zT_of 1308 (by decide +kernel) (by decide +kernel)
theorem dL_law__2053 : decode cL_law_ 2053 = .ok (.invokestatic 236, 3) := by decide +kernel
theorem dL_law__2056 : decode cL_law_ 2056 = .ok (.istore 5, 2) := by decide +kernel
theorem dL_law__2058 : decode cL_law_ 2058 = .ok (.aload_n 2, 1) := by decide +kernel
theorem zw_933 : Cond.methodLink RL 238 yX12_undo ∈ zT := zT_of 1934 (by decide +kernel) (by decide +kernel)
theorem zw_934 : Cond.instanceMethod yX12_undo ∈ zT := zT_of 1935 (by decide +kernel) (by decide +kernel)
theorem zw_935 : Cond.selects RX12 yX12_undo yX12_undo ∈ zT := zT_of 1936 (by decide +kernel) (by decide +kernel)
theorem zw_936 : Cond.code yX12_undo cX12_undo 1 (some .int) ∈ zT := zT_of 1937 (by decide +kernel) (by decide +kernel)
theorem dL_law__2059 : decode cL_law_ 2059 = .ok (.invokevirtual 238, 3) := by decide +kernel
theorem dL_law__2062 : decode cL_law_ 2062 = .ok (.istore 6, 2) := by decide +kernel
theorem dL_law__2064 : decode cL_law_ 2064 = .ok (.aload_n 2, 1) := by decide +kernel
theorem dL_law__2065 : decode cL_law_ 2065 = .ok (.invokevirtual 161, 3) := by decide +kernel
theorem dL_law__2068 : decode cL_law_ 2068 = .ok (.iload 5, 2) := by decide +kernel
theorem dL_law__2070 : decode cL_law_ 2070 = .ok (.if_icmp .eq 5, 3) := by decide +kernel
theorem dL_law__2075 : decode cL_law_ 2075 = .ok (.iload 5, 2) := by decide +kernel
theorem dL_law__2077 : decode cL_law_ 2077 = .ok (.ifCond .ne 15, 3) := by decide +kernel
theorem dL_law__2092 : decode cL_law_ 2092 = .ok (.goto 1341, 3) := by decide +kernel
theorem dL_law__2080 : decode cL_law_ 2080 = .ok (.aload_n 3, 1) := by decide +kernel
theorem dL_law__2081 : decode cL_law_ 2081 = .ok (.iconst 0, 1) := by decide +kernel
theorem dL_law__2082 : decode cL_law_ 2082 = .ok (.laload, 1) := by decide +kernel
theorem dL_law__2083 : decode cL_law_ 2083 = .ok (.iload 6, 2) := by decide +kernel
theorem dL_law__2085 : decode cL_law_ 2085 = .ok (.i2l, 1) := by decide +kernel
theorem dL_law__2086 : decode cL_law_ 2086 = .ok (.lcmp, 1) := by decide +kernel
theorem dL_law__2087 : decode cL_law_ 2087 = .ok (.ifCond .eq 5, 3) := by decide +kernel
theorem dL_law__2095 : decode cL_law_ 2095 = .ok (.aload_n 1, 1) := by decide +kernel
theorem dL_law__2096 : decode cL_law_ 2096 = .ok (.aload_n 0, 1) := by decide +kernel
theorem dL_law__2097 : decode cL_law_ 2097 = .ok (.iload 4, 2) := by decide +kernel
theorem dL_law__2099 : decode cL_law_ 2099 = .ok (.iconst 1, 1) := by decide +kernel
theorem dL_law__2100 : decode cL_law_ 2100 = .ok (.iadd, 1) := by decide +kernel
theorem dL_law__2101 : decode cL_law_ 2101 = .ok (.iaload, 1) := by decide +kernel
theorem dL_law__2102 : decode cL_law_ 2102 = .ok (.aload_n 3, 1) := by decide +kernel
theorem zw_937 : Cond.methodLink RL 239 yL_image ∈ zT := zT_of 1314 (by decide +kernel) (by decide +kernel)
theorem zw_938 : Cond.static yL_image ∈ zT := zT_of 1315 (by decide +kernel) (by decide +kernel)
theorem zw_939 : Cond.codeWith yL_image cL_image 4 (some .int) [(0, 16, 19, 21)] ∈ zT := zT_of 1316 (by decide +kernel) (by decide +kernel)
theorem dL_law__2103 : decode cL_law_ 2103 = .ok (.invokestatic 239, 3) := by decide +kernel
theorem dL_law__2106 : decode cL_law_ 2106 = .ok (.istore 5, 2) := by decide +kernel
theorem dL_law__2108 : decode cL_law_ 2108 = .ok (.aload_n 2, 1) := by decide +kernel
theorem dL_law__2109 : decode cL_law_ 2109 = .ok (.aload_n 0, 1) := by decide +kernel
theorem dL_law__2110 : decode cL_law_ 2110 = .ok (.iload 4, 2) := by decide +kernel
theorem dL_law__2112 : decode cL_law_ 2112 = .ok (.iconst 1, 1) := by decide +kernel
theorem dL_law__2113 : decode cL_law_ 2113 = .ok (.iadd, 1) := by decide +kernel
theorem dL_law__2114 : decode cL_law_ 2114 = .ok (.iaload, 1) := by decide +kernel
theorem zw_940 : Cond.methodLink RL 241 yX12_image ∈ zT := zT_of 1930 (by decide +kernel) (by decide +kernel)
theorem zw_941 : Cond.instanceMethod yX12_image ∈ zT := zT_of 1931 (by decide +kernel) (by decide +kernel)
theorem zw_942 : Cond.selects RX12 yX12_image yX12_image ∈ zT := zT_of 1932 (by decide +kernel) (by decide +kernel)
theorem zw_943 : Cond.code yX12_image cX12_image 3 (some .boolean) ∈ zT := zT_of 1933 (by decide +kernel) (by decide +kernel)
theorem dL_law__2115 : decode cL_law_ 2115 = .ok (.invokevirtual 241, 3) := by decide +kernel
theorem dL_law__2118 : decode cL_law_ 2118 = .ok (.istore 6, 2) := by decide +kernel
theorem dL_law__2120 : decode cL_law_ 2120 = .ok (.aload_n 2, 1) := by decide +kernel
theorem dL_law__2121 : decode cL_law_ 2121 = .ok (.invokevirtual 161, 3) := by decide +kernel
theorem dL_law__2124 : decode cL_law_ 2124 = .ok (.iload 5, 2) := by decide +kernel
theorem dL_law__2126 : decode cL_law_ 2126 = .ok (.if_icmp .eq 5, 3) := by decide +kernel
theorem dL_law__2131 : decode cL_law_ 2131 = .ok (.iload 5, 2) := by decide +kernel
theorem dL_law__2133 : decode cL_law_ 2133 = .ok (.ifCond .ne 22, 3) := by decide +kernel
theorem dL_law__2155 : decode cL_law_ 2155 = .ok (.goto 1278, 3) := by decide +kernel
theorem dL_law__2136 : decode cL_law_ 2136 = .ok (.aload_n 3, 1) := by decide +kernel
theorem dL_law__2137 : decode cL_law_ 2137 = .ok (.iconst 0, 1) := by decide +kernel
theorem dL_law__2138 : decode cL_law_ 2138 = .ok (.laload, 1) := by decide +kernel
theorem dL_law__2139 : decode cL_law_ 2139 = .ok (.iload 6, 2) := by decide +kernel
theorem dL_law__2141 : decode cL_law_ 2141 = .ok (.ifCond .eq 7, 3) := by decide +kernel
theorem dL_law__2148 : decode cL_law_ 2148 = .ok (.lconst 0, 1) := by decide +kernel
theorem dL_law__2149 : decode cL_law_ 2149 = .ok (.lcmp, 1) := by decide +kernel
theorem dL_law__2150 : decode cL_law_ 2150 = .ok (.ifCond .eq 5, 3) := by decide +kernel
theorem dL_law__2144 : decode cL_law_ 2144 = .ok (.lconst 1, 1) := by decide +kernel
theorem dL_law__2145 : decode cL_law_ 2145 = .ok (.goto 4, 3) := by decide +kernel
theorem dL_law__2158 : decode cL_law_ 2158 = .ok (.aload_n 1, 1) := by decide +kernel
theorem dL_law__2159 : decode cL_law_ 2159 = .ok (.aload_n 0, 1) := by decide +kernel
theorem dL_law__2160 : decode cL_law_ 2160 = .ok (.iload 4, 2) := by decide +kernel
theorem dL_law__2162 : decode cL_law_ 2162 = .ok (.iconst 1, 1) := by decide +kernel
theorem dL_law__2163 : decode cL_law_ 2163 = .ok (.iadd, 1) := by decide +kernel
theorem dL_law__2164 : decode cL_law_ 2164 = .ok (.iaload, 1) := by decide +kernel
theorem dL_law__2165 : decode cL_law_ 2165 = .ok (.i2l, 1) := by decide +kernel
theorem dL_law__2166 : decode cL_law_ 2166 = .ok (.bipush 32, 2) := by decide +kernel
theorem dL_law__2168 : decode cL_law_ 2168 = .ok (.lshl, 1) := by decide +kernel
theorem dL_law__2169 : decode cL_law_ 2169 = .ok (.aload_n 0, 1) := by decide +kernel
theorem dL_law__2170 : decode cL_law_ 2170 = .ok (.iload 4, 2) := by decide +kernel
theorem dL_law__2172 : decode cL_law_ 2172 = .ok (.iconst 2, 1) := by decide +kernel
theorem dL_law__2173 : decode cL_law_ 2173 = .ok (.iadd, 1) := by decide +kernel
theorem dL_law__2174 : decode cL_law_ 2174 = .ok (.iaload, 1) := by decide +kernel
theorem dL_law__2175 : decode cL_law_ 2175 = .ok (.i2l, 1) := by decide +kernel
theorem zw_944 : Cond.constantLong RL 242 4294967295 ∈ zT := zT_of 2106 (by decide +kernel) (by decide +kernel)
theorem dL_law__2176 : decode cL_law_ 2176 = .ok (.ldc2_w 242, 3) := by decide +kernel
theorem dL_law__2179 : decode cL_law_ 2179 = .ok (.land, 1) := by decide +kernel
theorem dL_law__2180 : decode cL_law_ 2180 = .ok (.lor, 1) := by decide +kernel
theorem dL_law__2181 : decode cL_law_ 2181 = .ok (.aload_n 3, 1) := by decide +kernel
theorem zw_945 : Cond.methodLink RL 244 yL_type ∈ zT := zT_of 1321 (by decide +kernel) (by decide +kernel)
theorem zw_946 : Cond.static yL_type ∈ zT := zT_of 1322 (by decide +kernel) (by decide +kernel)
theorem zw_947 : Cond.codeWith yL_type cL_type 5 (some .int) [(0, 9, 12, 15)] ∈ zT := zT_of 1323 (by decide +kernel) (by decide +kernel)
theorem dL_law__2182 : decode cL_law_ 2182 = .ok (.invokestatic 244, 3) := by decide +kernel
theorem dL_law__2185 : decode cL_law_ 2185 = .ok (.istore 5, 2) := by decide +kernel
theorem dL_law__2187 : decode cL_law_ 2187 = .ok (.aload_n 2, 1) := by decide +kernel
theorem dL_law__2188 : decode cL_law_ 2188 = .ok (.aload_n 0, 1) := by decide +kernel
theorem dL_law__2189 : decode cL_law_ 2189 = .ok (.iload 4, 2) := by decide +kernel
theorem dL_law__2191 : decode cL_law_ 2191 = .ok (.iconst 1, 1) := by decide +kernel
theorem dL_law__2192 : decode cL_law_ 2192 = .ok (.iadd, 1) := by decide +kernel
theorem dL_law__2193 : decode cL_law_ 2193 = .ok (.iaload, 1) := by decide +kernel
theorem dL_law__2194 : decode cL_law_ 2194 = .ok (.i2l, 1) := by decide +kernel
theorem dL_law__2195 : decode cL_law_ 2195 = .ok (.bipush 32, 2) := by decide +kernel
theorem dL_law__2197 : decode cL_law_ 2197 = .ok (.lshl, 1) := by decide +kernel
theorem dL_law__2198 : decode cL_law_ 2198 = .ok (.aload_n 0, 1) := by decide +kernel
theorem dL_law__2199 : decode cL_law_ 2199 = .ok (.iload 4, 2) := by decide +kernel
theorem dL_law__2201 : decode cL_law_ 2201 = .ok (.iconst 2, 1) := by decide +kernel
theorem dL_law__2202 : decode cL_law_ 2202 = .ok (.iadd, 1) := by decide +kernel
theorem dL_law__2203 : decode cL_law_ 2203 = .ok (.iaload, 1) := by decide +kernel
theorem dL_law__2204 : decode cL_law_ 2204 = .ok (.i2l, 1) := by decide +kernel
theorem dL_law__2205 : decode cL_law_ 2205 = .ok (.ldc2_w 242, 3) := by decide +kernel
theorem dL_law__2208 : decode cL_law_ 2208 = .ok (.land, 1) := by decide +kernel
theorem dL_law__2209 : decode cL_law_ 2209 = .ok (.lor, 1) := by decide +kernel
theorem zw_948 : Cond.methodLink RL 247 yX12_type ∈ zT := zT_of 1938 (by decide +kernel) (by decide +kernel)
theorem zw_949 : Cond.instanceMethod yX12_type ∈ zT := zT_of 1939 (by decide +kernel) (by decide +kernel)
theorem zw_950 : Cond.selects RX12 yX12_type yX12_type ∈ zT := zT_of 1940 (by decide +kernel) (by decide +kernel)
theorem zw_951 : Cond.code yX12_type cX12_type 6 (some .int) ∈ zT := zT_of 1941 (by decide +kernel) (by decide +kernel)
theorem dL_law__2210 : decode cL_law_ 2210 = .ok (.invokevirtual 247, 3) := by decide +kernel
theorem dL_law__2213 : decode cL_law_ 2213 = .ok (.istore 6, 2) := by decide +kernel
theorem dL_law__2215 : decode cL_law_ 2215 = .ok (.aload_n 2, 1) := by decide +kernel
theorem dL_law__2216 : decode cL_law_ 2216 = .ok (.invokevirtual 161, 3) := by decide +kernel
theorem dL_law__2219 : decode cL_law_ 2219 = .ok (.iload 5, 2) := by decide +kernel
theorem dL_law__2221 : decode cL_law_ 2221 = .ok (.if_icmp .eq 5, 3) := by decide +kernel
theorem dL_law__2226 : decode cL_law_ 2226 = .ok (.iload 5, 2) := by decide +kernel
theorem dL_law__2228 : decode cL_law_ 2228 = .ok (.ifCond .ne 15, 3) := by decide +kernel
theorem dL_law__2243 : decode cL_law_ 2243 = .ok (.goto 1190, 3) := by decide +kernel
theorem dL_law__2231 : decode cL_law_ 2231 = .ok (.aload_n 3, 1) := by decide +kernel
theorem dL_law__2232 : decode cL_law_ 2232 = .ok (.iconst 0, 1) := by decide +kernel
theorem dL_law__2233 : decode cL_law_ 2233 = .ok (.laload, 1) := by decide +kernel
theorem dL_law__2234 : decode cL_law_ 2234 = .ok (.iload 6, 2) := by decide +kernel
theorem dL_law__2236 : decode cL_law_ 2236 = .ok (.i2l, 1) := by decide +kernel
theorem dL_law__2237 : decode cL_law_ 2237 = .ok (.lcmp, 1) := by decide +kernel
theorem dL_law__2238 : decode cL_law_ 2238 = .ok (.ifCond .eq 5, 3) := by decide +kernel
theorem dL_law__2246 : decode cL_law_ 2246 = .ok (.aload_n 1, 1) := by decide +kernel
theorem zw_952 : Cond.methodLink RL 248 yX11_clearText ∈ zT := zT_of 424 (by decide +kernel) (by decide +kernel)
theorem zw_953 : Cond.instanceMethod yX11_clearText ∈ zT := zT_of 425 (by decide +kernel) (by decide +kernel)
theorem zw_954 : Cond.selects RX11 yX11_clearText yX11_clearText ∈ zT := zT_of 426 (by decide +kernel) (by decide +kernel)
theorem zw_955 : Cond.code yX11_clearText cX11_clearText 2 (some .int) ∈ zT := zT_of 427 (by decide +kernel) (by decide +kernel)
theorem dL_law__2247 : decode cL_law_ 2247 = .ok (.invokevirtual 248, 3) := by decide +kernel
theorem dL_law__2250 : decode cL_law_ 2250 = .ok (.aload_n 2, 1) := by decide +kernel
theorem zw_956 : Cond.methodLink RL 251 yX12_clearText ∈ zT := zT_of 1943 (by decide +kernel) (by decide +kernel)
theorem zw_957 : Cond.instanceMethod yX12_clearText ∈ zT := zT_of 1944 (by decide +kernel) (by decide +kernel)
theorem zw_958 : Cond.selects RX12 yX12_clearText yX12_clearText ∈ zT := zT_of 1945 (by decide +kernel) (by decide +kernel)
theorem zw_959 : Cond.code yX12_clearText cX12_clearText 2 (some .int) ∈ zT := zT_of 1946 (by decide +kernel) (by decide +kernel)
theorem dL_law__2251 : decode cL_law_ 2251 = .ok (.invokevirtual 251, 3) := by decide +kernel
theorem dL_law__2254 : decode cL_law_ 2254 = .ok (.if_icmp .eq 1179, 3) := by decide +kernel
theorem dL_law__2259 : decode cL_law_ 2259 = .ok (.aload_n 1, 1) := by decide +kernel
theorem zw_960 : Cond.methodLink RL 252 yX11_errorPlace ∈ zT := zT_of 428 (by decide +kernel) (by decide +kernel)
theorem zw_961 : Cond.instanceMethod yX11_errorPlace ∈ zT := zT_of 429 (by decide +kernel) (by decide +kernel)
theorem zw_962 : Cond.selects RX11 yX11_errorPlace yX11_errorPlace ∈ zT := zT_of 430 (by decide +kernel) (by decide +kernel)
theorem zw_963 : Cond.code yX11_errorPlace cX11_errorPlace 1 (some .int) ∈ zT := zT_of 431 (by decide +kernel) (by decide +kernel)
theorem dL_law__2260 : decode cL_law_ 2260 = .ok (.invokevirtual 252, 3) := by decide +kernel
theorem dL_law__2263 : decode cL_law_ 2263 = .ok (.aload_n 2, 1) := by decide +kernel
theorem zw_964 : Cond.methodLink RL 255 yX12_errorPlace ∈ zT := zT_of 1947 (by decide +kernel) (by decide +kernel)
theorem zw_965 : Cond.instanceMethod yX12_errorPlace ∈ zT := zT_of 1948 (by decide +kernel) (by decide +kernel)
theorem zw_966 : Cond.selects RX12 yX12_errorPlace yX12_errorPlace ∈ zT := zT_of 1949 (by decide +kernel) (by decide +kernel)
theorem zw_967 : Cond.code yX12_errorPlace cX12_errorPlace 1 (some .int) ∈ zT := zT_of 1950 (by decide +kernel) (by decide +kernel)
theorem dL_law__2264 : decode cL_law_ 2264 = .ok (.invokevirtual 255, 3) := by decide +kernel
theorem dL_law__2267 : decode cL_law_ 2267 = .ok (.if_icmp .eq 1166, 3) := by decide +kernel
set_option maxHeartbeats 4000000 in
set_option maxRecDepth 100000 in
theorem zcase_find {p : Program} {l : Launch} {e : Env} {s : State} {m : MethodId} {below : List Frame} {meth : Method} {c : Code} {b L : Nat} {xs : Nat → Int32} {A : Nat → Prop} (D : va_G) (h cs : Nat → Nat) (o : Nat) (cL : ClassId) (a : Nat → Nat) (cI : ClassId) (hx : p.tables.exec = Jvm.exec) (hb : c.code = code) (hml : c.maxLocals = 9) (hr : meth.sig.returnType = ret) (hown : s.vm.findClass RL = some m.cls) (ht : ∀ w ∈ zT, w.before #[Value.ref b] s = true) (hlocks : meth.locks = false) (hX : va_X b L xs s s.heap) (hbl : b < s.heap.size) (hL : L = 6) (hAe : ∀ q : Nat, A q ↔ s.heap.size ≤ q) (hl0 : l.stackTraces = false) (hEx : zEx A s) (hNc : zNc s) {H : Heap} {locs : List Loc} {ls : Array Slot} (hK : va_K D vwCl [((cs 9), .object RX9), (cL, .long), (cI, .int)] s) (hP : va_P D vwCl [((h 0), .inr (11, [.ref (h 1), .ref (h 9), .int 0, .int 0, .ref (h 20), .ref (h 37), .int 0, .ref (h 38), .ref (h 42), .ref (h 43), .ref (h 44), .ref (h 45), .ref (h 46), .ref (h 47), .ref (h 48)])), ((h 1), .inr (8, [.ref (h 2), .int 0, .ref (h 3), .ref (h 4), .int 0, .ref (h 5), .int 0, .ref (h 6), .int 0, .ref (h 7), .int 0])), ((h 3), .inl ((cs 9), 10, .inr (.inr (.inr (.inr (fun _ => none)))))), (o, .inl (cL, 1, .inr (.inl (fun _ => 0)))), ((a 0), .inr (12, zMo a zI0)), ((a 1), .inl (cI, 6792, .inl zI0))] H) (hD : va_D A [((h 0), .inr (11, [.ref (h 1), .ref (h 9), .int 0, .int 0, .ref (h 20), .ref (h 37), .int 0, .ref (h 38), .ref (h 42), .ref (h 43), .ref (h 44), .ref (h 45), .ref (h 46), .ref (h 47), .ref (h 48)])), ((h 1), .inr (8, [.ref (h 2), .int 0, .ref (h 3), .ref (h 4), .int 0, .ref (h 5), .int 0, .ref (h 6), .int 0, .ref (h 7), .int 0])), ((h 3), .inl ((cs 9), 10, .inr (.inr (.inr (.inr (fun _ => none)))))), (o, .inl (cL, 1, .inr (.inl (fun _ => 0)))), ((a 0), .inr (12, zMo a zI0)), ((a 1), .inl (cI, 6792, .inl zI0))]) (hS : va_S A s.heap H locs) (hl : lv_has ls 9 [(0, .ref b), (1, .ref (h 0)), (2, .ref (a 0)), (3, .ref o), (4, .int 0)]) : W p l e room_1 s m #[Value.ref b] below meth c H locs 1192 188302 (lw_Z below #[Value.ref b] s) (F0 m 1891 ls []) := by
  have hbA : ¬ A b := fun h => Nat.not_le.mpr hbl ((hAe b).mp h)
  have hA : ∀ q : Nat, s.heap.size ≤ q → A q := fun q h => (hAe q).mpr h
  refine lv_aload_n hx hb dL_law__1891 rfl (lv_at hl 1 rfl) ?_
  refine lv_aload_n hx hb dL_law__1892 rfl (lv_at hl 0 rfl) ?_
  refine lv_iload hx hb dL_law__1893 (lv_at hl 4 rfl) ?_
  refine lv_iconst (v := 1) hx hb dL_law__1895 (by decide) ?_
  refine lv_iadd hx hb dL_law__1896 ?_
  refine lv_topi (fun x_1 e_1 => ?_)
  obtain rfl : x_1 = 1 := e_1.trans (by decide)
  refine va_sld hx hb hX hbl hbA hS (by rw [hL]; exact vp_in_iff.mpr (by decide)) dL_law__1897 ?_
  refine W.eq (g2 := F0 m 1898 ls (.int (xs 1) :: .ref (h 0) :: [])) rfl ?_
  refine lv_aload_n hx hb dL_law__1898 rfl (lv_at hl 0 rfl) ?_
  refine lv_iload hx hb dL_law__1899 (lv_at hl 4 rfl) ?_
  refine lv_iconst (v := 2) hx hb dL_law__1901 (by decide) ?_
  refine lv_iadd hx hb dL_law__1902 ?_
  refine lv_topi (fun x_2 e_2 => ?_)
  obtain rfl : x_2 = 2 := e_2.trans (by decide)
  refine va_sld hx hb hX hbl hbA hS (by rw [hL]; exact vp_in_iff.mpr (by decide)) dL_law__1903 ?_
  refine W.eq (g2 := F0 m 1904 ls (.int (xs 2) :: .int (xs 1) :: .ref (h 0) :: [])) rfl ?_
  refine lv_aload_n hx hb dL_law__1904 rfl (lv_at hl 0 rfl) ?_
  refine lv_iload hx hb dL_law__1905 (lv_at hl 4 rfl) ?_
  refine lv_iconst (v := 3) hx hb dL_law__1907 (by decide) ?_
  refine lv_iadd hx hb dL_law__1908 ?_
  refine lv_topi (fun x_3 e_3 => ?_)
  obtain rfl : x_3 = 3 := e_3.trans (by decide)
  refine va_sld hx hb hX hbl hbA hS (by rw [hL]; exact vp_in_iff.mpr (by decide)) dL_law__1909 ?_
  refine W.eq (g2 := F0 m 1910 ls (.int (xs 3) :: .int (xs 2) :: .int (xs 1) :: .ref (h 0) :: [])) rfl ?_
  refine lv_aload_n hx hb dL_law__1910 rfl (lv_at hl 0 rfl) ?_
  refine lv_iload hx hb dL_law__1911 (lv_at hl 4 rfl) ?_
  refine lv_iconst (v := 4) hx hb dL_law__1913 (by decide) ?_
  refine lv_iadd hx hb dL_law__1914 ?_
  refine lv_topi (fun x_4 e_4 => ?_)
  obtain rfl : x_4 = 4 := e_4.trans (by decide)
  refine va_sld hx hb hX hbl hbA hS (by rw [hL]; exact vp_in_iff.mpr (by decide)) dL_law__1915 ?_
  refine W.eq (g2 := F0 m 1916 ls (.int (xs 4) :: .int (xs 3) :: .int (xs 2) :: .int (xs 1) :: .ref (h 0) :: [])) rfl ?_
  refine lv_aload_n hx hb dL_law__1916 rfl (lv_at hl 0 rfl) ?_
  refine lv_iload hx hb dL_law__1917 (lv_at hl 4 rfl) ?_
  refine lv_iconst (v := 5) hx hb dL_law__1919 (by decide) ?_
  refine lv_iadd hx hb dL_law__1920 ?_
  refine lv_topi (fun x_5 e_5 => ?_)
  obtain rfl : x_5 = 5 := e_5.trans (by decide)
  refine va_sld hx hb hX hbl hbA hS (by rw [hL]; exact vp_in_iff.mpr (by decide)) dL_law__1921 ?_
  refine W.eq (g2 := F0 m 1922 ls (.int (xs 5) :: .int (xs 4) :: .int (xs 3) :: .int (xs 2) :: .int (xs 1) :: .ref (h 0) :: [])) rfl ?_
  refine lv_aload_n hx hb dL_law__1922 rfl (lv_at hl 3 rfl) ?_
  have hPc := hP.sub (ws' := [((h 0), .inr (11, [.ref (h 1), .ref (h 9), .int 0, .int 0, .ref (h 20), .ref (h 37), .int 0, .ref (h 38), .ref (h 42), .ref (h 43), .ref (h 44), .ref (h 45), .ref (h 46), .ref (h 47), .ref (h 48)])), ((h 1), .inr (8, [.ref (h 2), .int 0, .ref (h 3), .ref (h 4), .int 0, .ref (h 5), .int 0, .ref (h 6), .int 0, .ref (h 7), .int 0])), ((h 3), .inl ((cs 9), 10, .inr (.inr (.inr (.inr (fun _ => none)))))), (o, .inl (cL, 1, .inr (.inl (fun _ => 0))))]) [0, 1, 2, 3] rfl
  have hDc := hD.sub (ws' := [((h 0), .inr (11, [.ref (h 1), .ref (h 9), .int 0, .int 0, .ref (h 20), .ref (h 37), .int 0, .ref (h 38), .ref (h 42), .ref (h 43), .ref (h 44), .ref (h 45), .ref (h 46), .ref (h 47), .ref (h 48)])), ((h 1), .inr (8, [.ref (h 2), .int 0, .ref (h 3), .ref (h 4), .int 0, .ref (h 5), .int 0, .ref (h 6), .int 0, .ref (h 7), .int 0])), ((h 3), .inl ((cs 9), 10, .inr (.inr (.inr (.inr (fun _ => none)))))), (o, .inl (cL, 1, .inr (.inl (fun _ => 0))))]) [0, 1, 2, 3] (by decide) rfl
  have hKc := hK.sub (tys' := [((cs 9), .object RX9), (cL, .long)]) [0, 1] rfl
  have hFc := va_free (wc := [((h 0), .inr (11, [.ref (h 1), .ref (h 9), .int 0, .int 0, .ref (h 20), .ref (h 37), .int 0, .ref (h 38), .ref (h 42), .ref (h 43), .ref (h 44), .ref (h 45), .ref (h 46), .ref (h 47), .ref (h 48)])), ((h 1), .inr (8, [.ref (h 2), .int 0, .ref (h 3), .ref (h 4), .int 0, .ref (h 5), .int 0, .ref (h 6), .int 0, .ref (h 7), .int 0])), ((h 3), .inl ((cs 9), 10, .inr (.inr (.inr (.inr (fun _ => none)))))), (o, .inl (cL, 1, .inr (.inl (fun _ => 0))))]) hD hS hA [0, 1, 2, 3] rfl
  refine va_calli (vx_runSW (As := [.ref (h 0), .int (xs 1), .int (xs 2), .int (xs 3), .int (xs 4), .int (xs 5), .ref o]) (rest := []) ⟨hx, hb, hml, hown, ht⟩ (k_L_find l hl0 _ D h cs (xs 1) (xs 2) (xs 3) (xs 4) (xs 5) o cL) (vx_cwSW 7 ht (zG_S zw_916 zw_917 zw_773 zw_918) rfl rfl rfl (by decide +kernel) ⟨Nat.le_of_ble_eq_true rfl, Nat.le_of_ble_eq_true rfl⟩) (zY_S hNc hEx hS hFc hPc hKc hDc) rfl rfl hl.1 rfl (lv_room (Nat.le_of_ble_eq_true rfl)) dL_law__1923 ⟨Nat.le_of_ble_eq_true rfl, Nat.le_of_ble_eq_true rfl⟩) hS (fun q _ h => hFc q h) hFc (fun r_6 u_6 t H1 locs ht0 hvm hw_6 hB hz1 hk1 hS => ?_)
  obtain ⟨g_6, hg_6, hB⟩ := hB
  obtain ⟨hP1, hK1, hD1⟩ := hB
  rw [ht0] at hP1
  have hK1 := va_K.moved hvm.symm hK1
  obtain ⟨hP, hD⟩ := va_join (wr := [((a 0), .inr (12, zMo a zI0)), ((a 1), .inl (cI, 6792, .inl zI0))]) (w1 := [(o, .inl (cL, 1, .inr (.inl g_6)))]) hP hD [0, 1, 2, 3] [4, 5] rfl rfl (by decide) (by decide) hk1 hFc hP1 hD1
  generalize H1 = H at hP hS ⊢
  have hP : va_P D vwCl [((a 0), .inr (12, zMo a zI0)), ((a 1), .inl (cI, 6792, .inl zI0)), (o, .inl (cL, 1, .inr (.inl g_6)))] H := hP
  have hD : va_D A [((a 0), .inr (12, zMo a zI0)), ((a 1), .inl (cI, 6792, .inl zI0)), (o, .inl (cL, 1, .inr (.inl g_6)))] := hD
  refine W.widen (k := 1198) (n := 188338) (Nat.le_of_ble_eq_true rfl) (Nat.le_of_ble_eq_true rfl) ?_
  refine lv_istore (lv' := [(5, .int r_6), (0, .ref b), (1, .ref (h 0)), (2, .ref (a 0)), (3, .ref o), (4, .int 0)]) hx hb dL_law__1926 hl (by decide) rfl (fun ls hl => ?_)
  refine lv_aload_n hx hb dL_law__1928 rfl (lv_at hl 3 rfl) ?_
  refine lv_aload_n hx hb dL_law__1929 rfl (lv_at hl 1 rfl) ?_
  refine lv_iload hx hb dL_law__1930 (lv_at hl 5 rfl) ?_
  refine lv_iconst (v := 1) hx hb dL_law__1932 (by decide) ?_
  refine lv_iadd hx hb dL_law__1933 ?_
  refine lv_topi (fun x_7 e_7 => ?_)
  obtain rfl : x_7 = 1 := e_7.trans (by decide)
  refine va_sld hx hb hX hbl hbA hS (by rw [hL]; exact vp_in_iff.mpr (by decide)) dL_law__1934 ?_
  refine W.eq (g2 := F0 m 1935 ls (.int (xs 1) :: .ref (a 0) :: [])) rfl ?_
  refine lv_aload_n hx hb dL_law__1935 rfl (lv_at hl 1 rfl) ?_
  refine lv_iload hx hb dL_law__1936 (lv_at hl 5 rfl) ?_
  refine lv_iconst (v := 2) hx hb dL_law__1938 (by decide) ?_
  refine lv_iadd hx hb dL_law__1939 ?_
  refine lv_topi (fun x_8 e_8 => ?_)
  obtain rfl : x_8 = 2 := e_8.trans (by decide)
  refine va_sld hx hb hX hbl hbA hS (by rw [hL]; exact vp_in_iff.mpr (by decide)) dL_law__1940 ?_
  refine W.eq (g2 := F0 m 1941 ls (.int (xs 2) :: .int (xs 1) :: .ref (a 0) :: [])) rfl ?_
  refine lv_aload_n hx hb dL_law__1941 rfl (lv_at hl 1 rfl) ?_
  refine lv_iload hx hb dL_law__1942 (lv_at hl 5 rfl) ?_
  refine lv_iconst (v := 3) hx hb dL_law__1944 (by decide) ?_
  refine lv_iadd hx hb dL_law__1945 ?_
  refine lv_topi (fun x_9 e_9 => ?_)
  obtain rfl : x_9 = 3 := e_9.trans (by decide)
  refine va_sld hx hb hX hbl hbA hS (by rw [hL]; exact vp_in_iff.mpr (by decide)) dL_law__1946 ?_
  refine W.eq (g2 := F0 m 1947 ls (.int (xs 3) :: .int (xs 2) :: .int (xs 1) :: .ref (a 0) :: [])) rfl ?_
  refine lv_aload_n hx hb dL_law__1947 rfl (lv_at hl 1 rfl) ?_
  refine lv_iload hx hb dL_law__1948 (lv_at hl 5 rfl) ?_
  refine lv_iconst (v := 4) hx hb dL_law__1950 (by decide) ?_
  refine lv_iadd hx hb dL_law__1951 ?_
  refine lv_topi (fun x_10 e_10 => ?_)
  obtain rfl : x_10 = 4 := e_10.trans (by decide)
  refine va_sld hx hb hX hbl hbA hS (by rw [hL]; exact vp_in_iff.mpr (by decide)) dL_law__1952 ?_
  refine W.eq (g2 := F0 m 1953 ls (.int (xs 4) :: .int (xs 3) :: .int (xs 2) :: .int (xs 1) :: .ref (a 0) :: [])) rfl ?_
  refine lv_aload_n hx hb dL_law__1953 rfl (lv_at hl 1 rfl) ?_
  refine lv_iload hx hb dL_law__1954 (lv_at hl 5 rfl) ?_
  refine lv_iconst (v := 5) hx hb dL_law__1956 (by decide) ?_
  refine lv_iadd hx hb dL_law__1957 ?_
  refine lv_topi (fun x_11 e_11 => ?_)
  obtain rfl : x_11 = 5 := e_11.trans (by decide)
  refine va_sld hx hb hX hbl hbA hS (by rw [hL]; exact vp_in_iff.mpr (by decide)) dL_law__1958 ?_
  refine W.eq (g2 := F0 m 1959 ls (.int (xs 5) :: .int (xs 4) :: .int (xs 3) :: .int (xs 2) :: .int (xs 1) :: .ref (a 0) :: [])) rfl ?_
  have hPc := hP.sub (ws' := [((a 0), .inr (12, zMo a zI0)), ((a 1), .inl (cI, 6792, .inl zI0))]) [0, 1] rfl
  have hDc := hD.sub (ws' := [((a 0), .inr (12, zMo a zI0)), ((a 1), .inl (cI, 6792, .inl zI0))]) [0, 1] (by decide) rfl
  have hKc := hK.sub (tys' := [(cI, .int)]) [2] rfl
  have hFc := va_free (wc := [((a 0), .inr (12, zMo a zI0)), ((a 1), .inl (cI, 6792, .inl zI0))]) hD hS hA [0, 1] rfl
  refine va_calli (va_runV (As := [.int (xs 1), .int (xs 2), .int (xs 3), .int (xs 4), .int (xs 5)]) (rest := []) ⟨hx, hb, hml, hown, ht⟩ (k_X12_find l _ D a cI (xs 1) (xs 2) (xs 3) (xs 4) (xs 5)) (cwV 5 ht (zG_V zw_919 zw_920 zw_921 zw_2 zw_922) rfl rfl rfl (by decide +kernel) ⟨Nat.le_of_ble_eq_true rfl, Nat.le_of_ble_eq_true rfl⟩) (zM_V (va_recv hK hP (ci := 12) (q0 := 0) rfl rfl) hPc hKc hDc) rfl rfl hl.1 rfl (lv_room (Nat.le_of_ble_eq_true rfl)) dL_law__1959 ⟨Nat.le_of_ble_eq_true rfl, Nat.le_of_ble_eq_true rfl⟩) hS (fun q _ h => hFc q h) hFc (fun r_12 u_12 t H1 locs ht0 hvm hw_12 hB hz1 hk1 hS => ?_)
  obtain ⟨hP1, hK1, hD1⟩ := hB
  rw [ht0] at hP1
  have hK1 := va_K.moved hvm.symm hK1
  obtain ⟨hP, hD⟩ := va_join (wr := [(o, .inl (cL, 1, .inr (.inl g_6)))]) (w1 := [((a 0), .inr (12, zMo a u_12))]) hP hD [0, 1] [2] rfl rfl (by decide) (by decide) hk1 hFc hP1 hD1
  generalize H1 = H at hP hS ⊢
  have hP : va_P D vwCl [(o, .inl (cL, 1, .inr (.inl g_6))), ((a 0), .inr (12, zMo a u_12))] H := hP
  have hD : va_D A [(o, .inl (cL, 1, .inr (.inl g_6))), ((a 0), .inr (12, zMo a u_12))] := hD
  refine lv_istore (lv' := [(6, .int r_12), (5, .int r_6), (0, .ref b), (1, .ref (h 0)), (2, .ref (a 0)), (3, .ref o), (4, .int 0)]) hx hb dL_law__1962 hl (by decide) rfl (fun ls hl => ?_)
  refine lv_aload_n hx hb dL_law__1964 rfl (lv_at hl 4 rfl) ?_
  refine vp_callSi (va_runV (As := []) (rest := []) ⟨hx, hb, hml, hown, ht⟩ (k_X12_thrown l D a u_12) (cwV 0 ht (zG_V zw_779 zw_780 zw_781 zw_2 zw_782) rfl rfl rfl (by decide +kernel) ⟨Nat.le_of_ble_eq_true rfl, Nat.le_of_ble_eq_true rfl⟩) (zR_V (va_recv hK hP (ci := 12) (q0 := 1) rfl rfl) (hP.sub (ws' := [((a 0), .inr (12, zMo a u_12))]) [1] rfl) (hK.sub (tys' := []) [] rfl)) rfl rfl hl.1 rfl (lv_room (Nat.le_of_ble_eq_true rfl)) dL_law__1965 ⟨Nat.le_of_ble_eq_true rfl, Nat.le_of_ble_eq_true rfl⟩).run (fun r_13 hw_13 => ?_)
  refine lv_iload hx hb dL_law__1968 (lv_at hl 1 rfl) ?_
  refine lv_icmp_eq (tgt := 1975) hx hb dL_law__1970 (by decide) (fun c_14 => ?_) (fun c_14 => ?_)
  · skip
    simp only [fa_lt, fa_le, fa_eq, Int32.reduceToInt] at c_14
    refine lv_iload hx hb dL_law__1975 (lv_at hl 1 rfl) ?_
    refine lv_if_ne (tgt := 1992) hx hb dL_law__1977 (by decide) (fun c_15 => ?_) (fun c_15 => ?_)
    · skip
      simp only [fa_lt, fa_le, fa_eq, Int32.reduceToInt] at c_15
      refine lv_goto (tgt := 3433) hx hb dL_law__1992 (by decide) ?_
      refine W.widen (k := 2000) (n := 400000) (Nat.le_of_ble_eq_true rfl) (Nat.le_of_ble_eq_true rfl) ?_
      exact zlaw_end hx hb hml hr hown ht hlocks hX hbl hL hAe hS (lv_sub hl [2, 6] rfl)
    · skip
      simp only [fa_lt, fa_le, fa_eq, Int32.reduceToInt] at c_15
      refine lv_aload_n hx hb dL_law__1980 rfl (lv_at hl 5 rfl) ?_
      refine lv_iconst (v := 0) hx hb dL_law__1981 (by decide) ?_
      refine va_lald hx hb hK hP 0 1 rfl rfl (vp_in_iff.mpr (by decide)) dL_law__1982 ?_
      refine W.eq (g2 := F0 m 1983 ls (.long (g_6 0) :: [])) rfl ?_
      refine lv_iload hx hb dL_law__1983 (lv_at hl 0 rfl) ?_
      refine lv_i2l (v := (r_12).toInt64) hx hb dL_law__1985 rfl ?_
      refine W.lcmp hx hb dL_law__1986 ?_
      refine lv_if_eq (tgt := 1992) hx hb dL_law__1987 (by decide) (fun c_16 => ?_) (fun c_16 => ?_)
      · skip
        refine lv_goto (tgt := 3433) hx hb dL_law__1992 (by decide) ?_
        refine W.widen (k := 2000) (n := 400000) (Nat.le_of_ble_eq_true rfl) (Nat.le_of_ble_eq_true rfl) ?_
        exact zlaw_end hx hb hml hr hown ht hlocks hX hbl hL hAe hS (lv_sub hl [2, 6] rfl)
      · skip
        simp only [fa_lt, fa_le, fa_eq, Int32.reduceToInt] at c_16
        exfalso; exact c_16 (by rw [hg_6, ← (zF_find hw_12 hw_6).2 ((zF_find hw_12 hw_6).1.trans (Int32.toInt_inj.mp (show r_6.toInt = (0 : Int32).toInt by rw [c_15]; rfl)))]; rw [zcmp_self]; rfl)
  · skip
    simp only [fa_lt, fa_le, fa_eq, Int32.reduceToInt] at c_14
    exfalso; exact c_14 (by rw [hw_13, (zF_find hw_12 hw_6).1])
set_option maxHeartbeats 4000000 in
set_option maxRecDepth 100000 in
theorem zcase_restore {p : Program} {l : Launch} {e : Env} {s : State} {m : MethodId} {below : List Frame} {meth : Method} {c : Code} {b L : Nat} {xs : Nat → Int32} {A : Nat → Prop} (D : va_G) (h cs : Nat → Nat) (o : Nat) (cL : ClassId) (a : Nat → Nat) (cI : ClassId) (cZ : ClassId) (hx : p.tables.exec = Jvm.exec) (hb : c.code = code) (hml : c.maxLocals = 9) (hr : meth.sig.returnType = ret) (hown : s.vm.findClass RL = some m.cls) (ht : ∀ w ∈ zT, w.before #[Value.ref b] s = true) (hlocks : meth.locks = false) (hX : va_X b L xs s s.heap) (hbl : b < s.heap.size) (hL : L = 6) (hAe : ∀ q : Nat, A q ↔ s.heap.size ≤ q) (hl0 : l.stackTraces = false) (hEx : zEx A s) (hNc : zNc s) {H : Heap} {locs : List Loc} {ls : Array Slot} (hK : va_K D vwCl [((cs 14), .boolean), (cL, .long), (cI, .int), (cZ, .boolean)] s) (hP : va_P D vwCl [((h 0), .inr (11, [.ref (h 1), .ref (h 9), .int 0, .int 0, .ref (h 20), .ref (h 37), .int 0, .ref (h 38), .ref (h 42), .ref (h 43), .ref (h 44), .ref (h 45), .ref (h 46), .ref (h 47), .ref (h 48)])), ((h 37), .inl ((cs 14), 2, .inl zI0)), (o, .inl (cL, 1, .inr (.inl (fun _ => 0)))), ((a 0), .inr (12, zMo a zI0)), ((a 1), .inl (cI, 6792, .inl zI0)), ((a 4), .inl (cZ, 2, .inl zI0))] H) (hD : va_D A [((h 0), .inr (11, [.ref (h 1), .ref (h 9), .int 0, .int 0, .ref (h 20), .ref (h 37), .int 0, .ref (h 38), .ref (h 42), .ref (h 43), .ref (h 44), .ref (h 45), .ref (h 46), .ref (h 47), .ref (h 48)])), ((h 37), .inl ((cs 14), 2, .inl zI0)), (o, .inl (cL, 1, .inr (.inl (fun _ => 0)))), ((a 0), .inr (12, zMo a zI0)), ((a 1), .inl (cI, 6792, .inl zI0)), ((a 4), .inl (cZ, 2, .inl zI0))]) (hS : va_S A s.heap H locs) (hl : lv_has ls 9 [(0, .ref b), (1, .ref (h 0)), (2, .ref (a 0)), (3, .ref o), (4, .int 0)]) : W p l e room_1 s m #[Value.ref b] below meth c H locs 1192 188302 (lw_Z below #[Value.ref b] s) (F0 m 1995 ls []) := by
  have hbA : ¬ A b := fun h => Nat.not_le.mpr hbl ((hAe b).mp h)
  have hA : ∀ q : Nat, s.heap.size ≤ q → A q := fun q h => (hAe q).mpr h
  refine lv_aload_n hx hb dL_law__1995 rfl (lv_at hl 1 rfl) ?_
  refine lv_aload_n hx hb dL_law__1996 rfl (lv_at hl 0 rfl) ?_
  refine lv_iload hx hb dL_law__1997 (lv_at hl 4 rfl) ?_
  refine lv_iconst (v := 1) hx hb dL_law__1999 (by decide) ?_
  refine lv_iadd hx hb dL_law__2000 ?_
  refine lv_topi (fun x_1 e_1 => ?_)
  obtain rfl : x_1 = 1 := e_1.trans (by decide)
  refine va_sld hx hb hX hbl hbA hS (by rw [hL]; exact vp_in_iff.mpr (by decide)) dL_law__2001 ?_
  refine W.eq (g2 := F0 m 2002 ls (.int (xs 1) :: .ref (h 0) :: [])) rfl ?_
  refine lv_aload_n hx hb dL_law__2002 rfl (lv_at hl 3 rfl) ?_
  have hPc := hP.sub (ws' := [((h 0), .inr (11, [.ref (h 1), .ref (h 9), .int 0, .int 0, .ref (h 20), .ref (h 37), .int 0, .ref (h 38), .ref (h 42), .ref (h 43), .ref (h 44), .ref (h 45), .ref (h 46), .ref (h 47), .ref (h 48)])), ((h 37), .inl ((cs 14), 2, .inl zI0)), (o, .inl (cL, 1, .inr (.inl (fun _ => 0))))]) [0, 1, 2] rfl
  have hDc := hD.sub (ws' := [((h 0), .inr (11, [.ref (h 1), .ref (h 9), .int 0, .int 0, .ref (h 20), .ref (h 37), .int 0, .ref (h 38), .ref (h 42), .ref (h 43), .ref (h 44), .ref (h 45), .ref (h 46), .ref (h 47), .ref (h 48)])), ((h 37), .inl ((cs 14), 2, .inl zI0)), (o, .inl (cL, 1, .inr (.inl (fun _ => 0))))]) [0, 1, 2] (by decide) rfl
  have hKc := hK.sub (tys' := [((cs 14), .boolean), (cL, .long)]) [0, 1] rfl
  have hFc := va_free (wc := [((h 0), .inr (11, [.ref (h 1), .ref (h 9), .int 0, .int 0, .ref (h 20), .ref (h 37), .int 0, .ref (h 38), .ref (h 42), .ref (h 43), .ref (h 44), .ref (h 45), .ref (h 46), .ref (h 47), .ref (h 48)])), ((h 37), .inl ((cs 14), 2, .inl zI0)), (o, .inl (cL, 1, .inr (.inl (fun _ => 0))))]) hD hS hA [0, 1, 2] rfl
  refine va_calli (vx_runSW (As := [.ref (h 0), .int (xs 1), .ref o]) (rest := []) ⟨hx, hb, hml, hown, ht⟩ (k_L_restore l hl0 _ D h cs (xs 1) o cL) (vx_cwSW 3 ht (zG_S zw_923 zw_924 zw_773 zw_925) rfl rfl rfl (by decide +kernel) ⟨Nat.le_of_ble_eq_true rfl, Nat.le_of_ble_eq_true rfl⟩) (zY_S hNc hEx hS hFc hPc hKc hDc) rfl rfl hl.1 rfl (lv_room (Nat.le_of_ble_eq_true rfl)) dL_law__2003 ⟨Nat.le_of_ble_eq_true rfl, Nat.le_of_ble_eq_true rfl⟩) hS (fun q _ h => hFc q h) hFc (fun r_2 u_2 t H1 locs ht0 hvm hw_2 hB hz1 hk1 hS => ?_)
  obtain ⟨g_2, hg_2, hB⟩ := hB
  obtain ⟨hP1, hK1, hD1⟩ := hB
  rw [ht0] at hP1
  have hK1 := va_K.moved hvm.symm hK1
  obtain ⟨hP, hD⟩ := va_join (wr := [((a 0), .inr (12, zMo a zI0)), ((a 1), .inl (cI, 6792, .inl zI0)), ((a 4), .inl (cZ, 2, .inl zI0))]) (w1 := [(o, .inl (cL, 1, .inr (.inl g_2)))]) hP hD [0, 1, 2] [3, 4, 5] rfl rfl (by decide) (by decide) hk1 hFc hP1 hD1
  generalize H1 = H at hP hS ⊢
  have hP : va_P D vwCl [((a 0), .inr (12, zMo a zI0)), ((a 1), .inl (cI, 6792, .inl zI0)), ((a 4), .inl (cZ, 2, .inl zI0)), (o, .inl (cL, 1, .inr (.inl g_2)))] H := hP
  have hD : va_D A [((a 0), .inr (12, zMo a zI0)), ((a 1), .inl (cI, 6792, .inl zI0)), ((a 4), .inl (cZ, 2, .inl zI0)), (o, .inl (cL, 1, .inr (.inl g_2)))] := hD
  refine W.widen (k := 1194) (n := 188314) (Nat.le_of_ble_eq_true rfl) (Nat.le_of_ble_eq_true rfl) ?_
  refine lv_istore (lv' := [(5, .int r_2), (0, .ref b), (1, .ref (h 0)), (2, .ref (a 0)), (3, .ref o), (4, .int 0)]) hx hb dL_law__2006 hl (by decide) rfl (fun ls hl => ?_)
  refine lv_aload_n hx hb dL_law__2008 rfl (lv_at hl 3 rfl) ?_
  refine lv_aload_n hx hb dL_law__2009 rfl (lv_at hl 1 rfl) ?_
  refine lv_iload hx hb dL_law__2010 (lv_at hl 5 rfl) ?_
  refine lv_iconst (v := 1) hx hb dL_law__2012 (by decide) ?_
  refine lv_iadd hx hb dL_law__2013 ?_
  refine lv_topi (fun x_3 e_3 => ?_)
  obtain rfl : x_3 = 1 := e_3.trans (by decide)
  refine va_sld hx hb hX hbl hbA hS (by rw [hL]; exact vp_in_iff.mpr (by decide)) dL_law__2014 ?_
  refine W.eq (g2 := F0 m 2015 ls (.int (xs 1) :: .ref (a 0) :: [])) rfl ?_
  have hPc := hP.sub (ws' := [((a 0), .inr (12, zMo a zI0)), ((a 1), .inl (cI, 6792, .inl zI0)), ((a 4), .inl (cZ, 2, .inl zI0))]) [0, 1, 2] rfl
  have hDc := hD.sub (ws' := [((a 0), .inr (12, zMo a zI0)), ((a 1), .inl (cI, 6792, .inl zI0)), ((a 4), .inl (cZ, 2, .inl zI0))]) [0, 1, 2] (by decide) rfl
  have hKc := hK.sub (tys' := [(cI, .int), (cZ, .boolean)]) [2, 3] rfl
  have hFc := va_free (wc := [((a 0), .inr (12, zMo a zI0)), ((a 1), .inl (cI, 6792, .inl zI0)), ((a 4), .inl (cZ, 2, .inl zI0))]) hD hS hA [0, 1, 2] rfl
  refine va_calli (va_runV (As := [.int (xs 1)]) (rest := []) ⟨hx, hb, hml, hown, ht⟩ (k_X12_restore l _ D a cI (xs 1) cZ) (cwV 1 ht (zG_V zw_926 zw_927 zw_928 zw_2 zw_929) rfl rfl rfl (by decide +kernel) ⟨Nat.le_of_ble_eq_true rfl, Nat.le_of_ble_eq_true rfl⟩) (zM_V (va_recv hK hP (ci := 12) (q0 := 0) rfl rfl) hPc hKc hDc) rfl rfl hl.1 rfl (lv_room (Nat.le_of_ble_eq_true rfl)) dL_law__2015 ⟨Nat.le_of_ble_eq_true rfl, Nat.le_of_ble_eq_true rfl⟩) hS (fun q _ h => hFc q h) hFc (fun r_4 u_4 t H1 locs ht0 hvm hw_4 hB hz1 hk1 hS => ?_)
  obtain ⟨hP1, hK1, hD1⟩ := hB
  rw [ht0] at hP1
  have hK1 := va_K.moved hvm.symm hK1
  obtain ⟨hP, hD⟩ := va_join (wr := [(o, .inl (cL, 1, .inr (.inl g_2)))]) (w1 := [((a 0), .inr (12, zMo a u_4))]) hP hD [0, 1, 2] [3] rfl rfl (by decide) (by decide) hk1 hFc hP1 hD1
  generalize H1 = H at hP hS ⊢
  have hP : va_P D vwCl [(o, .inl (cL, 1, .inr (.inl g_2))), ((a 0), .inr (12, zMo a u_4))] H := hP
  have hD : va_D A [(o, .inl (cL, 1, .inr (.inl g_2))), ((a 0), .inr (12, zMo a u_4))] := hD
  refine lv_istore (lv' := [(6, .int r_4), (5, .int r_2), (0, .ref b), (1, .ref (h 0)), (2, .ref (a 0)), (3, .ref o), (4, .int 0)]) hx hb dL_law__2018 hl (by decide) rfl (fun ls hl => ?_)
  refine lv_aload_n hx hb dL_law__2020 rfl (lv_at hl 4 rfl) ?_
  refine vp_callSi (va_runV (As := []) (rest := []) ⟨hx, hb, hml, hown, ht⟩ (k_X12_thrown l D a u_4) (cwV 0 ht (zG_V zw_779 zw_780 zw_781 zw_2 zw_782) rfl rfl rfl (by decide +kernel) ⟨Nat.le_of_ble_eq_true rfl, Nat.le_of_ble_eq_true rfl⟩) (zR_V (va_recv hK hP (ci := 12) (q0 := 1) rfl rfl) (hP.sub (ws' := [((a 0), .inr (12, zMo a u_4))]) [1] rfl) (hK.sub (tys' := []) [] rfl)) rfl rfl hl.1 rfl (lv_room (Nat.le_of_ble_eq_true rfl)) dL_law__2021 ⟨Nat.le_of_ble_eq_true rfl, Nat.le_of_ble_eq_true rfl⟩).run (fun r_5 hw_5 => ?_)
  refine lv_iload hx hb dL_law__2024 (lv_at hl 1 rfl) ?_
  refine lv_icmp_eq (tgt := 2031) hx hb dL_law__2026 (by decide) (fun c_6 => ?_) (fun c_6 => ?_)
  · skip
    simp only [fa_lt, fa_le, fa_eq, Int32.reduceToInt] at c_6
    refine lv_iload hx hb dL_law__2031 (lv_at hl 1 rfl) ?_
    refine lv_if_ne (tgt := 2048) hx hb dL_law__2033 (by decide) (fun c_7 => ?_) (fun c_7 => ?_)
    · skip
      simp only [fa_lt, fa_le, fa_eq, Int32.reduceToInt] at c_7
      refine lv_goto (tgt := 3433) hx hb dL_law__2048 (by decide) ?_
      refine W.widen (k := 2000) (n := 400000) (Nat.le_of_ble_eq_true rfl) (Nat.le_of_ble_eq_true rfl) ?_
      exact zlaw_end hx hb hml hr hown ht hlocks hX hbl hL hAe hS (lv_sub hl [2, 6] rfl)
    · skip
      simp only [fa_lt, fa_le, fa_eq, Int32.reduceToInt] at c_7
      refine lv_aload_n hx hb dL_law__2036 rfl (lv_at hl 5 rfl) ?_
      refine lv_iconst (v := 0) hx hb dL_law__2037 (by decide) ?_
      refine va_lald hx hb hK hP 0 1 rfl rfl (vp_in_iff.mpr (by decide)) dL_law__2038 ?_
      refine W.eq (g2 := F0 m 2039 ls (.long (g_2 0) :: [])) rfl ?_
      refine lv_iload hx hb dL_law__2039 (lv_at hl 0 rfl) ?_
      refine lv_i2l (v := (r_4).toInt64) hx hb dL_law__2041 rfl ?_
      refine W.lcmp hx hb dL_law__2042 ?_
      refine lv_if_eq (tgt := 2048) hx hb dL_law__2043 (by decide) (fun c_8 => ?_) (fun c_8 => ?_)
      · skip
        refine lv_goto (tgt := 3433) hx hb dL_law__2048 (by decide) ?_
        refine W.widen (k := 2000) (n := 400000) (Nat.le_of_ble_eq_true rfl) (Nat.le_of_ble_eq_true rfl) ?_
        exact zlaw_end hx hb hml hr hown ht hlocks hX hbl hL hAe hS (lv_sub hl [2, 6] rfl)
      · skip
        simp only [fa_lt, fa_le, fa_eq, Int32.reduceToInt] at c_8
        exfalso; exact c_8 (by rw [hg_2, ← (zF_restore hw_4 hw_2).2 ((zF_restore hw_4 hw_2).1.trans (Int32.toInt_inj.mp (show r_2.toInt = (0 : Int32).toInt by rw [c_7]; rfl)))]; rw [zcmp_self]; rfl)
  · skip
    simp only [fa_lt, fa_le, fa_eq, Int32.reduceToInt] at c_6
    exfalso; exact c_6 (by rw [hw_5, (zF_restore hw_4 hw_2).1])
set_option maxHeartbeats 4000000 in
set_option maxRecDepth 100000 in
theorem zcase_undo {p : Program} {l : Launch} {e : Env} {s : State} {m : MethodId} {below : List Frame} {meth : Method} {c : Code} {b L : Nat} {xs : Nat → Int32} {A : Nat → Prop} (D : va_G) (h cs : Nat → Nat) (o : Nat) (cL : ClassId) (a : Nat → Nat) (cI : ClassId) (hx : p.tables.exec = Jvm.exec) (hb : c.code = code) (hml : c.maxLocals = 9) (hr : meth.sig.returnType = ret) (hown : s.vm.findClass RL = some m.cls) (ht : ∀ w ∈ zT, w.before #[Value.ref b] s = true) (hlocks : meth.locks = false) (hX : va_X b L xs s s.heap) (hbl : b < s.heap.size) (hL : L = 6) (hAe : ∀ q : Nat, A q ↔ s.heap.size ≤ q) (hl0 : l.stackTraces = false) (hEx : zEx A s) (hNc : zNc s) {H : Heap} {locs : List Loc} {ls : Array Slot} (hK : va_K D vwCl [(cL, .long), (cI, .int)] s) (hP : va_P D vwCl [((h 0), .inr (11, [.ref (h 1), .ref (h 9), .int 0, .int 0, .ref (h 20), .ref (h 37), .int 0, .ref (h 38), .ref (h 42), .ref (h 43), .ref (h 44), .ref (h 45), .ref (h 46), .ref (h 47), .ref (h 48)])), (o, .inl (cL, 1, .inr (.inl (fun _ => 0)))), ((a 0), .inr (12, zMo a zI0)), ((a 1), .inl (cI, 6792, .inl zI0))] H) (hD : va_D A [((h 0), .inr (11, [.ref (h 1), .ref (h 9), .int 0, .int 0, .ref (h 20), .ref (h 37), .int 0, .ref (h 38), .ref (h 42), .ref (h 43), .ref (h 44), .ref (h 45), .ref (h 46), .ref (h 47), .ref (h 48)])), (o, .inl (cL, 1, .inr (.inl (fun _ => 0)))), ((a 0), .inr (12, zMo a zI0)), ((a 1), .inl (cI, 6792, .inl zI0))]) (hS : va_S A s.heap H locs) (hl : lv_has ls 9 [(0, .ref b), (1, .ref (h 0)), (2, .ref (a 0)), (3, .ref o), (4, .int 0)]) : W p l e room_1 s m #[Value.ref b] below meth c H locs 1192 188302 (lw_Z below #[Value.ref b] s) (F0 m 2051 ls []) := by
  have hbA : ¬ A b := fun h => Nat.not_le.mpr hbl ((hAe b).mp h)
  have hA : ∀ q : Nat, s.heap.size ≤ q → A q := fun q h => (hAe q).mpr h
  refine lv_aload_n hx hb dL_law__2051 rfl (lv_at hl 1 rfl) ?_
  refine lv_aload_n hx hb dL_law__2052 rfl (lv_at hl 3 rfl) ?_
  have hPc := hP.sub (ws' := [((h 0), .inr (11, [.ref (h 1), .ref (h 9), .int 0, .int 0, .ref (h 20), .ref (h 37), .int 0, .ref (h 38), .ref (h 42), .ref (h 43), .ref (h 44), .ref (h 45), .ref (h 46), .ref (h 47), .ref (h 48)])), (o, .inl (cL, 1, .inr (.inl (fun _ => 0))))]) [0, 1] rfl
  have hDc := hD.sub (ws' := [((h 0), .inr (11, [.ref (h 1), .ref (h 9), .int 0, .int 0, .ref (h 20), .ref (h 37), .int 0, .ref (h 38), .ref (h 42), .ref (h 43), .ref (h 44), .ref (h 45), .ref (h 46), .ref (h 47), .ref (h 48)])), (o, .inl (cL, 1, .inr (.inl (fun _ => 0))))]) [0, 1] (by decide) rfl
  have hKc := hK.sub (tys' := [(cL, .long)]) [0] rfl
  have hFc := va_free (wc := [((h 0), .inr (11, [.ref (h 1), .ref (h 9), .int 0, .int 0, .ref (h 20), .ref (h 37), .int 0, .ref (h 38), .ref (h 42), .ref (h 43), .ref (h 44), .ref (h 45), .ref (h 46), .ref (h 47), .ref (h 48)])), (o, .inl (cL, 1, .inr (.inl (fun _ => 0))))]) hD hS hA [0, 1] rfl
  refine va_calli (vx_runSW (As := [.ref (h 0), .ref o]) (rest := []) ⟨hx, hb, hml, hown, ht⟩ (k_L_undo l hl0 _ D h cs o cL) (vx_cwSW 2 ht (zG_S zw_930 zw_931 zw_773 zw_932) rfl rfl rfl (by decide +kernel) ⟨Nat.le_of_ble_eq_true rfl, Nat.le_of_ble_eq_true rfl⟩) (zY_S hNc hEx hS hFc hPc hKc hDc) rfl rfl hl.1 rfl (lv_room (Nat.le_of_ble_eq_true rfl)) dL_law__2053 ⟨Nat.le_of_ble_eq_true rfl, Nat.le_of_ble_eq_true rfl⟩) hS (fun q _ h => hFc q h) hFc (fun r_1 u_1 t H1 locs ht0 hvm hw_1 hB hz1 hk1 hS => ?_)
  obtain ⟨g_1, hg_1, hB⟩ := hB
  obtain ⟨hP1, hK1, hD1⟩ := hB
  rw [ht0] at hP1
  have hK1 := va_K.moved hvm.symm hK1
  obtain ⟨hP, hD⟩ := va_join (wr := [((a 0), .inr (12, zMo a zI0)), ((a 1), .inl (cI, 6792, .inl zI0))]) (w1 := [(o, .inl (cL, 1, .inr (.inl g_1)))]) hP hD [0, 1] [2, 3] rfl rfl (by decide) (by decide) hk1 hFc hP1 hD1
  generalize H1 = H at hP hS ⊢
  have hP : va_P D vwCl [((a 0), .inr (12, zMo a zI0)), ((a 1), .inl (cI, 6792, .inl zI0)), (o, .inl (cL, 1, .inr (.inl g_1)))] H := hP
  have hD : va_D A [((a 0), .inr (12, zMo a zI0)), ((a 1), .inl (cI, 6792, .inl zI0)), (o, .inl (cL, 1, .inr (.inl g_1)))] := hD
  refine W.widen (k := 1193) (n := 188308) (Nat.le_of_ble_eq_true rfl) (Nat.le_of_ble_eq_true rfl) ?_
  refine lv_istore (lv' := [(5, .int r_1), (0, .ref b), (1, .ref (h 0)), (2, .ref (a 0)), (3, .ref o), (4, .int 0)]) hx hb dL_law__2056 hl (by decide) rfl (fun ls hl => ?_)
  refine lv_aload_n hx hb dL_law__2058 rfl (lv_at hl 3 rfl) ?_
  have hPc := hP.sub (ws' := [((a 0), .inr (12, zMo a zI0)), ((a 1), .inl (cI, 6792, .inl zI0))]) [0, 1] rfl
  have hDc := hD.sub (ws' := [((a 0), .inr (12, zMo a zI0)), ((a 1), .inl (cI, 6792, .inl zI0))]) [0, 1] (by decide) rfl
  have hKc := hK.sub (tys' := [(cI, .int)]) [1] rfl
  have hFc := va_free (wc := [((a 0), .inr (12, zMo a zI0)), ((a 1), .inl (cI, 6792, .inl zI0))]) hD hS hA [0, 1] rfl
  refine va_calli (va_runV (As := []) (rest := []) ⟨hx, hb, hml, hown, ht⟩ (k_X12_undo l _ D a cI) (cwV 0 ht (zG_V zw_933 zw_934 zw_935 zw_2 zw_936) rfl rfl rfl (by decide +kernel) ⟨Nat.le_of_ble_eq_true rfl, Nat.le_of_ble_eq_true rfl⟩) (zM_V (va_recv hK hP (ci := 12) (q0 := 0) rfl rfl) hPc hKc hDc) rfl rfl hl.1 rfl (lv_room (Nat.le_of_ble_eq_true rfl)) dL_law__2059 ⟨Nat.le_of_ble_eq_true rfl, Nat.le_of_ble_eq_true rfl⟩) hS (fun q _ h => hFc q h) hFc (fun r_2 u_2 t H1 locs ht0 hvm hw_2 hB hz1 hk1 hS => ?_)
  obtain ⟨hP1, hK1, hD1⟩ := hB
  rw [ht0] at hP1
  have hK1 := va_K.moved hvm.symm hK1
  obtain ⟨hP, hD⟩ := va_join (wr := [(o, .inl (cL, 1, .inr (.inl g_1)))]) (w1 := [((a 0), .inr (12, zMo a u_2))]) hP hD [0, 1] [2] rfl rfl (by decide) (by decide) hk1 hFc hP1 hD1
  generalize H1 = H at hP hS ⊢
  have hP : va_P D vwCl [(o, .inl (cL, 1, .inr (.inl g_1))), ((a 0), .inr (12, zMo a u_2))] H := hP
  have hD : va_D A [(o, .inl (cL, 1, .inr (.inl g_1))), ((a 0), .inr (12, zMo a u_2))] := hD
  refine lv_istore (lv' := [(6, .int r_2), (5, .int r_1), (0, .ref b), (1, .ref (h 0)), (2, .ref (a 0)), (3, .ref o), (4, .int 0)]) hx hb dL_law__2062 hl (by decide) rfl (fun ls hl => ?_)
  refine lv_aload_n hx hb dL_law__2064 rfl (lv_at hl 4 rfl) ?_
  refine vp_callSi (va_runV (As := []) (rest := []) ⟨hx, hb, hml, hown, ht⟩ (k_X12_thrown l D a u_2) (cwV 0 ht (zG_V zw_779 zw_780 zw_781 zw_2 zw_782) rfl rfl rfl (by decide +kernel) ⟨Nat.le_of_ble_eq_true rfl, Nat.le_of_ble_eq_true rfl⟩) (zR_V (va_recv hK hP (ci := 12) (q0 := 1) rfl rfl) (hP.sub (ws' := [((a 0), .inr (12, zMo a u_2))]) [1] rfl) (hK.sub (tys' := []) [] rfl)) rfl rfl hl.1 rfl (lv_room (Nat.le_of_ble_eq_true rfl)) dL_law__2065 ⟨Nat.le_of_ble_eq_true rfl, Nat.le_of_ble_eq_true rfl⟩).run (fun r_3 hw_3 => ?_)
  refine lv_iload hx hb dL_law__2068 (lv_at hl 1 rfl) ?_
  refine lv_icmp_eq (tgt := 2075) hx hb dL_law__2070 (by decide) (fun c_4 => ?_) (fun c_4 => ?_)
  · skip
    simp only [fa_lt, fa_le, fa_eq, Int32.reduceToInt] at c_4
    refine lv_iload hx hb dL_law__2075 (lv_at hl 1 rfl) ?_
    refine lv_if_ne (tgt := 2092) hx hb dL_law__2077 (by decide) (fun c_5 => ?_) (fun c_5 => ?_)
    · skip
      simp only [fa_lt, fa_le, fa_eq, Int32.reduceToInt] at c_5
      refine lv_goto (tgt := 3433) hx hb dL_law__2092 (by decide) ?_
      refine W.widen (k := 2000) (n := 400000) (Nat.le_of_ble_eq_true rfl) (Nat.le_of_ble_eq_true rfl) ?_
      exact zlaw_end hx hb hml hr hown ht hlocks hX hbl hL hAe hS (lv_sub hl [2, 6] rfl)
    · skip
      simp only [fa_lt, fa_le, fa_eq, Int32.reduceToInt] at c_5
      refine lv_aload_n hx hb dL_law__2080 rfl (lv_at hl 5 rfl) ?_
      refine lv_iconst (v := 0) hx hb dL_law__2081 (by decide) ?_
      refine va_lald hx hb hK hP 0 0 rfl rfl (vp_in_iff.mpr (by decide)) dL_law__2082 ?_
      refine W.eq (g2 := F0 m 2083 ls (.long (g_1 0) :: [])) rfl ?_
      refine lv_iload hx hb dL_law__2083 (lv_at hl 0 rfl) ?_
      refine lv_i2l (v := (r_2).toInt64) hx hb dL_law__2085 rfl ?_
      refine W.lcmp hx hb dL_law__2086 ?_
      refine lv_if_eq (tgt := 2092) hx hb dL_law__2087 (by decide) (fun c_6 => ?_) (fun c_6 => ?_)
      · skip
        refine lv_goto (tgt := 3433) hx hb dL_law__2092 (by decide) ?_
        refine W.widen (k := 2000) (n := 400000) (Nat.le_of_ble_eq_true rfl) (Nat.le_of_ble_eq_true rfl) ?_
        exact zlaw_end hx hb hml hr hown ht hlocks hX hbl hL hAe hS (lv_sub hl [2, 6] rfl)
      · skip
        simp only [fa_lt, fa_le, fa_eq, Int32.reduceToInt] at c_6
        exfalso; exact c_6 (by rw [hg_1, ← (zF_undo hw_2 hw_1).2 ((zF_undo hw_2 hw_1).1.trans (Int32.toInt_inj.mp (show r_1.toInt = (0 : Int32).toInt by rw [c_5]; rfl)))]; rw [zcmp_self]; rfl)
  · skip
    simp only [fa_lt, fa_le, fa_eq, Int32.reduceToInt] at c_4
    exfalso; exact c_4 (by rw [hw_3, (zF_undo hw_2 hw_1).1])
set_option maxHeartbeats 4000000 in
set_option maxRecDepth 100000 in
theorem zcase_image {p : Program} {l : Launch} {e : Env} {s : State} {m : MethodId} {below : List Frame} {meth : Method} {c : Code} {b L : Nat} {xs : Nat → Int32} {A : Nat → Prop} (D : va_G) (h cs : Nat → Nat) (fn : Nat → Option Nat) (hn : ∀ k : Nat, k < 4 → fn k = some (h 8)) (fi f1 f2 : Nat → Option Nat) (hi0 : fi 0 = some (h 21)) (hi1 : fi 1 = some (h 29)) (o : Nat) (cL : ClassId) (a : Nat → Nat) (cI : ClassId) (cJ cZ : ClassId) (fb : Nat → Option Nat) (hb0 : fb 0 = some (a 31)) (hb1 : fb 1 = some (a 32)) (hx : p.tables.exec = Jvm.exec) (hb : c.code = code) (hml : c.maxLocals = 9) (hr : meth.sig.returnType = ret) (hown : s.vm.findClass RL = some m.cls) (ht : ∀ w ∈ zT, w.before #[Value.ref b] s = true) (hlocks : meth.locks = false) (hX : va_X b L xs s s.heap) (hbl : b < s.heap.size) (hL : L = 6) (hAe : ∀ q : Nat, A q ↔ s.heap.size ≤ q) (hl0 : l.stackTraces = false) (hEx : zEx A s) (hNc : zNc s) {H : Heap} {locs : List Loc} {ls : Array Slot} (hK : va_K D vwCl [((cs 7), .object RX7), ((cs 9), .object RX9), ((cs 4), .object RX4), ((cs 2), .object RX2), ((cs 0), .object RX0), ((cs 8), .object RX8), ((cs 14), .boolean), (cL, .long), (cI, .int), (cJ, .array .int), (cZ, .boolean)] s) (hP : va_P D vwCl [((h 0), .inr (11, [.ref (h 1), .ref (h 9), .int 0, .int 0, .ref (h 20), .ref (h 37), .int 0, .ref (h 38), .ref (h 42), .ref (h 43), .ref (h 44), .ref (h 45), .ref (h 46), .ref (h 47), .ref (h 48)])), ((h 1), .inr (8, [.ref (h 2), .int 0, .ref (h 3), .ref (h 4), .int 0, .ref (h 5), .int 0, .ref (h 6), .int 0, .ref (h 7), .int 0])), ((h 2), .inl ((cs 7), 4, .inr (.inr (.inr (.inr (fun _ => none)))))), ((h 3), .inl ((cs 9), 10, .inr (.inr (.inr (.inr (fun _ => none)))))), ((h 4), .inl ((cs 4), 100, .inr (.inr (.inr (.inr (fun _ => none)))))), ((h 5), .inl ((cs 2), 4, .inr (.inr (.inr (.inr (fun _ => none)))))), ((h 6), .inl ((cs 4), 3, .inr (.inr (.inr (.inr (fun _ => none)))))), ((h 7), .inl ((cs 0), 4, .inr (.inr (.inr (.inr fn))))), ((h 8), .inr (0, [.ref (h 102), .ref (h 103), .int 0])), ((h 20), .inl ((cs 8), 2, .inr (.inr (.inr (.inr fi))))), ((h 21), .inr (8, [.ref (h 22), .int 0, .ref (h 23), .ref (h 24), .int 0, .ref (h 25), .int 0, .ref (h 26), .int 0, .ref (h 27), .int 0])), ((h 22), .inl ((cs 7), 4, .inr (.inr (.inr (.inr (fun _ => none)))))), ((h 23), .inl ((cs 9), 10, .inr (.inr (.inr (.inr (fun _ => none)))))), ((h 24), .inl ((cs 4), 100, .inr (.inr (.inr (.inr (fun _ => none)))))), ((h 25), .inl ((cs 2), 4, .inr (.inr (.inr (.inr (fun _ => none)))))), ((h 26), .inl ((cs 4), 3, .inr (.inr (.inr (.inr (fun _ => none)))))), ((h 27), .inl ((cs 0), 4, .inr (.inr (.inr (.inr f1))))), ((h 29), .inr (8, [.ref (h 30), .int 0, .ref (h 31), .ref (h 32), .int 0, .ref (h 33), .int 0, .ref (h 34), .int 0, .ref (h 35), .int 0])), ((h 30), .inl ((cs 7), 4, .inr (.inr (.inr (.inr (fun _ => none)))))), ((h 31), .inl ((cs 9), 10, .inr (.inr (.inr (.inr (fun _ => none)))))), ((h 32), .inl ((cs 4), 100, .inr (.inr (.inr (.inr (fun _ => none)))))), ((h 33), .inl ((cs 2), 4, .inr (.inr (.inr (.inr (fun _ => none)))))), ((h 34), .inl ((cs 4), 3, .inr (.inr (.inr (.inr (fun _ => none)))))), ((h 35), .inl ((cs 0), 4, .inr (.inr (.inr (.inr f2))))), ((h 37), .inl ((cs 14), 2, .inl zI0)), (o, .inl (cL, 1, .inr (.inl (fun _ => 0)))), ((a 0), .inr (12, zMo a zI0)), ((a 1), .inl (cI, 6792, .inl zI0)), ((a 4), .inl (cZ, 2, .inl zI0)), ((a 3), .inl (cJ, 2, .inr (.inr (.inr (.inr fb))))), ((a 31), .inl (cI, 6792, .inl zI0)), ((a 32), .inl (cI, 6792, .inl zI0))] H) (hD : va_D A [((h 0), .inr (11, [.ref (h 1), .ref (h 9), .int 0, .int 0, .ref (h 20), .ref (h 37), .int 0, .ref (h 38), .ref (h 42), .ref (h 43), .ref (h 44), .ref (h 45), .ref (h 46), .ref (h 47), .ref (h 48)])), ((h 1), .inr (8, [.ref (h 2), .int 0, .ref (h 3), .ref (h 4), .int 0, .ref (h 5), .int 0, .ref (h 6), .int 0, .ref (h 7), .int 0])), ((h 2), .inl ((cs 7), 4, .inr (.inr (.inr (.inr (fun _ => none)))))), ((h 3), .inl ((cs 9), 10, .inr (.inr (.inr (.inr (fun _ => none)))))), ((h 4), .inl ((cs 4), 100, .inr (.inr (.inr (.inr (fun _ => none)))))), ((h 5), .inl ((cs 2), 4, .inr (.inr (.inr (.inr (fun _ => none)))))), ((h 6), .inl ((cs 4), 3, .inr (.inr (.inr (.inr (fun _ => none)))))), ((h 7), .inl ((cs 0), 4, .inr (.inr (.inr (.inr fn))))), ((h 8), .inr (0, [.ref (h 102), .ref (h 103), .int 0])), ((h 20), .inl ((cs 8), 2, .inr (.inr (.inr (.inr fi))))), ((h 21), .inr (8, [.ref (h 22), .int 0, .ref (h 23), .ref (h 24), .int 0, .ref (h 25), .int 0, .ref (h 26), .int 0, .ref (h 27), .int 0])), ((h 22), .inl ((cs 7), 4, .inr (.inr (.inr (.inr (fun _ => none)))))), ((h 23), .inl ((cs 9), 10, .inr (.inr (.inr (.inr (fun _ => none)))))), ((h 24), .inl ((cs 4), 100, .inr (.inr (.inr (.inr (fun _ => none)))))), ((h 25), .inl ((cs 2), 4, .inr (.inr (.inr (.inr (fun _ => none)))))), ((h 26), .inl ((cs 4), 3, .inr (.inr (.inr (.inr (fun _ => none)))))), ((h 27), .inl ((cs 0), 4, .inr (.inr (.inr (.inr f1))))), ((h 29), .inr (8, [.ref (h 30), .int 0, .ref (h 31), .ref (h 32), .int 0, .ref (h 33), .int 0, .ref (h 34), .int 0, .ref (h 35), .int 0])), ((h 30), .inl ((cs 7), 4, .inr (.inr (.inr (.inr (fun _ => none)))))), ((h 31), .inl ((cs 9), 10, .inr (.inr (.inr (.inr (fun _ => none)))))), ((h 32), .inl ((cs 4), 100, .inr (.inr (.inr (.inr (fun _ => none)))))), ((h 33), .inl ((cs 2), 4, .inr (.inr (.inr (.inr (fun _ => none)))))), ((h 34), .inl ((cs 4), 3, .inr (.inr (.inr (.inr (fun _ => none)))))), ((h 35), .inl ((cs 0), 4, .inr (.inr (.inr (.inr f2))))), ((h 37), .inl ((cs 14), 2, .inl zI0)), (o, .inl (cL, 1, .inr (.inl (fun _ => 0)))), ((a 0), .inr (12, zMo a zI0)), ((a 1), .inl (cI, 6792, .inl zI0)), ((a 4), .inl (cZ, 2, .inl zI0)), ((a 3), .inl (cJ, 2, .inr (.inr (.inr (.inr fb))))), ((a 31), .inl (cI, 6792, .inl zI0)), ((a 32), .inl (cI, 6792, .inl zI0))]) (hS : va_S A s.heap H locs) (hl : lv_has ls 9 [(0, .ref b), (1, .ref (h 0)), (2, .ref (a 0)), (3, .ref o), (4, .int 0)]) : W p l e room_1 s m #[Value.ref b] below meth c H locs 1192 188302 (lw_Z below #[Value.ref b] s) (F0 m 2095 ls []) := by
  have hbA : ¬ A b := fun h => Nat.not_le.mpr hbl ((hAe b).mp h)
  have hA : ∀ q : Nat, s.heap.size ≤ q → A q := fun q h => (hAe q).mpr h
  refine lv_aload_n hx hb dL_law__2095 rfl (lv_at hl 1 rfl) ?_
  refine lv_aload_n hx hb dL_law__2096 rfl (lv_at hl 0 rfl) ?_
  refine lv_iload hx hb dL_law__2097 (lv_at hl 4 rfl) ?_
  refine lv_iconst (v := 1) hx hb dL_law__2099 (by decide) ?_
  refine lv_iadd hx hb dL_law__2100 ?_
  refine lv_topi (fun x_1 e_1 => ?_)
  obtain rfl : x_1 = 1 := e_1.trans (by decide)
  refine va_sld hx hb hX hbl hbA hS (by rw [hL]; exact vp_in_iff.mpr (by decide)) dL_law__2101 ?_
  refine W.eq (g2 := F0 m 2102 ls (.int (xs 1) :: .ref (h 0) :: [])) rfl ?_
  refine lv_aload_n hx hb dL_law__2102 rfl (lv_at hl 3 rfl) ?_
  have hPc := hP.sub (ws' := [((h 0), .inr (11, [.ref (h 1), .ref (h 9), .int 0, .int 0, .ref (h 20), .ref (h 37), .int 0, .ref (h 38), .ref (h 42), .ref (h 43), .ref (h 44), .ref (h 45), .ref (h 46), .ref (h 47), .ref (h 48)])), ((h 1), .inr (8, [.ref (h 2), .int 0, .ref (h 3), .ref (h 4), .int 0, .ref (h 5), .int 0, .ref (h 6), .int 0, .ref (h 7), .int 0])), ((h 2), .inl ((cs 7), 4, .inr (.inr (.inr (.inr (fun _ => none)))))), ((h 3), .inl ((cs 9), 10, .inr (.inr (.inr (.inr (fun _ => none)))))), ((h 4), .inl ((cs 4), 100, .inr (.inr (.inr (.inr (fun _ => none)))))), ((h 5), .inl ((cs 2), 4, .inr (.inr (.inr (.inr (fun _ => none)))))), ((h 6), .inl ((cs 4), 3, .inr (.inr (.inr (.inr (fun _ => none)))))), ((h 7), .inl ((cs 0), 4, .inr (.inr (.inr (.inr fn))))), ((h 8), .inr (0, [.ref (h 102), .ref (h 103), .int 0])), ((h 20), .inl ((cs 8), 2, .inr (.inr (.inr (.inr fi))))), ((h 21), .inr (8, [.ref (h 22), .int 0, .ref (h 23), .ref (h 24), .int 0, .ref (h 25), .int 0, .ref (h 26), .int 0, .ref (h 27), .int 0])), ((h 22), .inl ((cs 7), 4, .inr (.inr (.inr (.inr (fun _ => none)))))), ((h 23), .inl ((cs 9), 10, .inr (.inr (.inr (.inr (fun _ => none)))))), ((h 24), .inl ((cs 4), 100, .inr (.inr (.inr (.inr (fun _ => none)))))), ((h 25), .inl ((cs 2), 4, .inr (.inr (.inr (.inr (fun _ => none)))))), ((h 26), .inl ((cs 4), 3, .inr (.inr (.inr (.inr (fun _ => none)))))), ((h 27), .inl ((cs 0), 4, .inr (.inr (.inr (.inr f1))))), ((h 29), .inr (8, [.ref (h 30), .int 0, .ref (h 31), .ref (h 32), .int 0, .ref (h 33), .int 0, .ref (h 34), .int 0, .ref (h 35), .int 0])), ((h 30), .inl ((cs 7), 4, .inr (.inr (.inr (.inr (fun _ => none)))))), ((h 31), .inl ((cs 9), 10, .inr (.inr (.inr (.inr (fun _ => none)))))), ((h 32), .inl ((cs 4), 100, .inr (.inr (.inr (.inr (fun _ => none)))))), ((h 33), .inl ((cs 2), 4, .inr (.inr (.inr (.inr (fun _ => none)))))), ((h 34), .inl ((cs 4), 3, .inr (.inr (.inr (.inr (fun _ => none)))))), ((h 35), .inl ((cs 0), 4, .inr (.inr (.inr (.inr f2))))), ((h 37), .inl ((cs 14), 2, .inl zI0)), (o, .inl (cL, 1, .inr (.inl (fun _ => 0))))]) [0, 1, 2, 3, 4, 5, 6, 7, 8, 9, 10, 11, 12, 13, 14, 15, 16, 17, 18, 19, 20, 21, 22, 23, 24, 25] rfl
  have hDc := hD.sub (ws' := [((h 0), .inr (11, [.ref (h 1), .ref (h 9), .int 0, .int 0, .ref (h 20), .ref (h 37), .int 0, .ref (h 38), .ref (h 42), .ref (h 43), .ref (h 44), .ref (h 45), .ref (h 46), .ref (h 47), .ref (h 48)])), ((h 1), .inr (8, [.ref (h 2), .int 0, .ref (h 3), .ref (h 4), .int 0, .ref (h 5), .int 0, .ref (h 6), .int 0, .ref (h 7), .int 0])), ((h 2), .inl ((cs 7), 4, .inr (.inr (.inr (.inr (fun _ => none)))))), ((h 3), .inl ((cs 9), 10, .inr (.inr (.inr (.inr (fun _ => none)))))), ((h 4), .inl ((cs 4), 100, .inr (.inr (.inr (.inr (fun _ => none)))))), ((h 5), .inl ((cs 2), 4, .inr (.inr (.inr (.inr (fun _ => none)))))), ((h 6), .inl ((cs 4), 3, .inr (.inr (.inr (.inr (fun _ => none)))))), ((h 7), .inl ((cs 0), 4, .inr (.inr (.inr (.inr fn))))), ((h 8), .inr (0, [.ref (h 102), .ref (h 103), .int 0])), ((h 20), .inl ((cs 8), 2, .inr (.inr (.inr (.inr fi))))), ((h 21), .inr (8, [.ref (h 22), .int 0, .ref (h 23), .ref (h 24), .int 0, .ref (h 25), .int 0, .ref (h 26), .int 0, .ref (h 27), .int 0])), ((h 22), .inl ((cs 7), 4, .inr (.inr (.inr (.inr (fun _ => none)))))), ((h 23), .inl ((cs 9), 10, .inr (.inr (.inr (.inr (fun _ => none)))))), ((h 24), .inl ((cs 4), 100, .inr (.inr (.inr (.inr (fun _ => none)))))), ((h 25), .inl ((cs 2), 4, .inr (.inr (.inr (.inr (fun _ => none)))))), ((h 26), .inl ((cs 4), 3, .inr (.inr (.inr (.inr (fun _ => none)))))), ((h 27), .inl ((cs 0), 4, .inr (.inr (.inr (.inr f1))))), ((h 29), .inr (8, [.ref (h 30), .int 0, .ref (h 31), .ref (h 32), .int 0, .ref (h 33), .int 0, .ref (h 34), .int 0, .ref (h 35), .int 0])), ((h 30), .inl ((cs 7), 4, .inr (.inr (.inr (.inr (fun _ => none)))))), ((h 31), .inl ((cs 9), 10, .inr (.inr (.inr (.inr (fun _ => none)))))), ((h 32), .inl ((cs 4), 100, .inr (.inr (.inr (.inr (fun _ => none)))))), ((h 33), .inl ((cs 2), 4, .inr (.inr (.inr (.inr (fun _ => none)))))), ((h 34), .inl ((cs 4), 3, .inr (.inr (.inr (.inr (fun _ => none)))))), ((h 35), .inl ((cs 0), 4, .inr (.inr (.inr (.inr f2))))), ((h 37), .inl ((cs 14), 2, .inl zI0)), (o, .inl (cL, 1, .inr (.inl (fun _ => 0))))]) [0, 1, 2, 3, 4, 5, 6, 7, 8, 9, 10, 11, 12, 13, 14, 15, 16, 17, 18, 19, 20, 21, 22, 23, 24, 25] (by decide) rfl
  have hKc := hK.sub (tys' := [((cs 7), .object RX7), ((cs 9), .object RX9), ((cs 4), .object RX4), ((cs 2), .object RX2), ((cs 0), .object RX0), ((cs 8), .object RX8), ((cs 14), .boolean), (cL, .long)]) [0, 1, 2, 3, 4, 5, 6, 7] rfl
  have hFc := va_free (wc := [((h 0), .inr (11, [.ref (h 1), .ref (h 9), .int 0, .int 0, .ref (h 20), .ref (h 37), .int 0, .ref (h 38), .ref (h 42), .ref (h 43), .ref (h 44), .ref (h 45), .ref (h 46), .ref (h 47), .ref (h 48)])), ((h 1), .inr (8, [.ref (h 2), .int 0, .ref (h 3), .ref (h 4), .int 0, .ref (h 5), .int 0, .ref (h 6), .int 0, .ref (h 7), .int 0])), ((h 2), .inl ((cs 7), 4, .inr (.inr (.inr (.inr (fun _ => none)))))), ((h 3), .inl ((cs 9), 10, .inr (.inr (.inr (.inr (fun _ => none)))))), ((h 4), .inl ((cs 4), 100, .inr (.inr (.inr (.inr (fun _ => none)))))), ((h 5), .inl ((cs 2), 4, .inr (.inr (.inr (.inr (fun _ => none)))))), ((h 6), .inl ((cs 4), 3, .inr (.inr (.inr (.inr (fun _ => none)))))), ((h 7), .inl ((cs 0), 4, .inr (.inr (.inr (.inr fn))))), ((h 8), .inr (0, [.ref (h 102), .ref (h 103), .int 0])), ((h 20), .inl ((cs 8), 2, .inr (.inr (.inr (.inr fi))))), ((h 21), .inr (8, [.ref (h 22), .int 0, .ref (h 23), .ref (h 24), .int 0, .ref (h 25), .int 0, .ref (h 26), .int 0, .ref (h 27), .int 0])), ((h 22), .inl ((cs 7), 4, .inr (.inr (.inr (.inr (fun _ => none)))))), ((h 23), .inl ((cs 9), 10, .inr (.inr (.inr (.inr (fun _ => none)))))), ((h 24), .inl ((cs 4), 100, .inr (.inr (.inr (.inr (fun _ => none)))))), ((h 25), .inl ((cs 2), 4, .inr (.inr (.inr (.inr (fun _ => none)))))), ((h 26), .inl ((cs 4), 3, .inr (.inr (.inr (.inr (fun _ => none)))))), ((h 27), .inl ((cs 0), 4, .inr (.inr (.inr (.inr f1))))), ((h 29), .inr (8, [.ref (h 30), .int 0, .ref (h 31), .ref (h 32), .int 0, .ref (h 33), .int 0, .ref (h 34), .int 0, .ref (h 35), .int 0])), ((h 30), .inl ((cs 7), 4, .inr (.inr (.inr (.inr (fun _ => none)))))), ((h 31), .inl ((cs 9), 10, .inr (.inr (.inr (.inr (fun _ => none)))))), ((h 32), .inl ((cs 4), 100, .inr (.inr (.inr (.inr (fun _ => none)))))), ((h 33), .inl ((cs 2), 4, .inr (.inr (.inr (.inr (fun _ => none)))))), ((h 34), .inl ((cs 4), 3, .inr (.inr (.inr (.inr (fun _ => none)))))), ((h 35), .inl ((cs 0), 4, .inr (.inr (.inr (.inr f2))))), ((h 37), .inl ((cs 14), 2, .inl zI0)), (o, .inl (cL, 1, .inr (.inl (fun _ => 0))))]) hD hS hA [0, 1, 2, 3, 4, 5, 6, 7, 8, 9, 10, 11, 12, 13, 14, 15, 16, 17, 18, 19, 20, 21, 22, 23, 24, 25] rfl
  refine va_calli (vx_runSW (As := [.ref (h 0), .int (xs 1), .ref o]) (rest := []) ⟨hx, hb, hml, hown, ht⟩ (k_L_image l hl0 _ D h cs (xs 1) fn hn fi f1 f2 hi0 hi1 o cL) (vx_cwSW 3 ht (zG_S zw_937 zw_938 zw_773 zw_939) rfl rfl rfl (by decide +kernel) ⟨Nat.le_of_ble_eq_true rfl, Nat.le_of_ble_eq_true rfl⟩) (zY_S hNc hEx hS hFc hPc hKc hDc) rfl rfl hl.1 rfl (lv_room (Nat.le_of_ble_eq_true rfl)) dL_law__2103 ⟨Nat.le_of_ble_eq_true rfl, Nat.le_of_ble_eq_true rfl⟩) hS (fun q _ h => hFc q h) hFc (fun r_2 u_2 t H1 locs ht0 hvm hw_2 hB hz1 hk1 hS => ?_)
  obtain ⟨g_2, hg_2, hB⟩ := hB
  obtain ⟨hP1, hK1, hD1⟩ := hB
  rw [ht0] at hP1
  have hK1 := va_K.moved hvm.symm hK1
  obtain ⟨hP, hD⟩ := va_join (wr := [((a 0), .inr (12, zMo a zI0)), ((a 1), .inl (cI, 6792, .inl zI0)), ((a 4), .inl (cZ, 2, .inl zI0)), ((a 3), .inl (cJ, 2, .inr (.inr (.inr (.inr fb))))), ((a 31), .inl (cI, 6792, .inl zI0)), ((a 32), .inl (cI, 6792, .inl zI0))]) (w1 := [(o, .inl (cL, 1, .inr (.inl g_2)))]) hP hD [0, 1, 2, 3, 4, 5, 6, 7, 8, 9, 10, 11, 12, 13, 14, 15, 16, 17, 18, 19, 20, 21, 22, 23, 24, 25] [26, 27, 28, 29, 30, 31] rfl rfl (by decide) (by decide) hk1 hFc hP1 hD1
  generalize H1 = H at hP hS ⊢
  have hP : va_P D vwCl [((a 0), .inr (12, zMo a zI0)), ((a 1), .inl (cI, 6792, .inl zI0)), ((a 4), .inl (cZ, 2, .inl zI0)), ((a 3), .inl (cJ, 2, .inr (.inr (.inr (.inr fb))))), ((a 31), .inl (cI, 6792, .inl zI0)), ((a 32), .inl (cI, 6792, .inl zI0)), (o, .inl (cL, 1, .inr (.inl g_2)))] H := hP
  have hD : va_D A [((a 0), .inr (12, zMo a zI0)), ((a 1), .inl (cI, 6792, .inl zI0)), ((a 4), .inl (cZ, 2, .inl zI0)), ((a 3), .inl (cJ, 2, .inr (.inr (.inr (.inr fb))))), ((a 31), .inl (cI, 6792, .inl zI0)), ((a 32), .inl (cI, 6792, .inl zI0)), (o, .inl (cL, 1, .inr (.inl g_2)))] := hD
  refine W.widen (k := 1193) (n := 188308) (Nat.le_of_ble_eq_true rfl) (Nat.le_of_ble_eq_true rfl) ?_
  refine lv_istore (lv' := [(5, .int r_2), (0, .ref b), (1, .ref (h 0)), (2, .ref (a 0)), (3, .ref o), (4, .int 0)]) hx hb dL_law__2106 hl (by decide) rfl (fun ls hl => ?_)
  refine lv_aload_n hx hb dL_law__2108 rfl (lv_at hl 3 rfl) ?_
  refine lv_aload_n hx hb dL_law__2109 rfl (lv_at hl 1 rfl) ?_
  refine lv_iload hx hb dL_law__2110 (lv_at hl 5 rfl) ?_
  refine lv_iconst (v := 1) hx hb dL_law__2112 (by decide) ?_
  refine lv_iadd hx hb dL_law__2113 ?_
  refine lv_topi (fun x_3 e_3 => ?_)
  obtain rfl : x_3 = 1 := e_3.trans (by decide)
  refine va_sld hx hb hX hbl hbA hS (by rw [hL]; exact vp_in_iff.mpr (by decide)) dL_law__2114 ?_
  refine W.eq (g2 := F0 m 2115 ls (.int (xs 1) :: .ref (a 0) :: [])) rfl ?_
  have hPc := hP.sub (ws' := [((a 0), .inr (12, zMo a zI0)), ((a 1), .inl (cI, 6792, .inl zI0)), ((a 4), .inl (cZ, 2, .inl zI0)), ((a 3), .inl (cJ, 2, .inr (.inr (.inr (.inr fb))))), ((a 31), .inl (cI, 6792, .inl zI0)), ((a 32), .inl (cI, 6792, .inl zI0))]) [0, 1, 2, 3, 4, 5] rfl
  have hDc := hD.sub (ws' := [((a 0), .inr (12, zMo a zI0)), ((a 1), .inl (cI, 6792, .inl zI0)), ((a 4), .inl (cZ, 2, .inl zI0)), ((a 3), .inl (cJ, 2, .inr (.inr (.inr (.inr fb))))), ((a 31), .inl (cI, 6792, .inl zI0)), ((a 32), .inl (cI, 6792, .inl zI0))]) [0, 1, 2, 3, 4, 5] (by decide) rfl
  have hKc := hK.sub (tys' := [(cI, .int), (cJ, .array .int), (cZ, .boolean)]) [8, 9, 10] rfl
  have hFc := va_free (wc := [((a 0), .inr (12, zMo a zI0)), ((a 1), .inl (cI, 6792, .inl zI0)), ((a 4), .inl (cZ, 2, .inl zI0)), ((a 3), .inl (cJ, 2, .inr (.inr (.inr (.inr fb))))), ((a 31), .inl (cI, 6792, .inl zI0)), ((a 32), .inl (cI, 6792, .inl zI0))]) hD hS hA [0, 1, 2, 3, 4, 5] rfl
  refine va_calli (va_runV (As := [.int (xs 1)]) (rest := []) ⟨hx, hb, hml, hown, ht⟩ (k_X12_image l _ D a cI (xs 1) cJ cZ fb hb0 hb1) (cwV 1 ht (zG_V zw_940 zw_941 zw_942 zw_2 zw_943) rfl rfl rfl (by decide +kernel) ⟨Nat.le_of_ble_eq_true rfl, Nat.le_of_ble_eq_true rfl⟩) (zM_V (va_recv hK hP (ci := 12) (q0 := 0) rfl rfl) hPc hKc hDc) rfl rfl hl.1 rfl (lv_room (Nat.le_of_ble_eq_true rfl)) dL_law__2115 ⟨Nat.le_of_ble_eq_true rfl, Nat.le_of_ble_eq_true rfl⟩) hS (fun q _ h => hFc q h) hFc (fun r_4 u_4 t H1 locs ht0 hvm hw_4 hB hz1 hk1 hS => ?_)
  obtain ⟨hP1, hK1, hD1⟩ := hB
  rw [ht0] at hP1
  have hK1 := va_K.moved hvm.symm hK1
  obtain ⟨hP, hD⟩ := va_join (wr := [(o, .inl (cL, 1, .inr (.inl g_2)))]) (w1 := [((a 0), .inr (12, zMo a u_4))]) hP hD [0, 1, 2, 3, 4, 5] [6] rfl rfl (by decide) (by decide) hk1 hFc hP1 hD1
  generalize H1 = H at hP hS ⊢
  have hP : va_P D vwCl [(o, .inl (cL, 1, .inr (.inl g_2))), ((a 0), .inr (12, zMo a u_4))] H := hP
  have hD : va_D A [(o, .inl (cL, 1, .inr (.inl g_2))), ((a 0), .inr (12, zMo a u_4))] := hD
  refine lv_istore (lv' := [(6, .int r_4), (5, .int r_2), (0, .ref b), (1, .ref (h 0)), (2, .ref (a 0)), (3, .ref o), (4, .int 0)]) hx hb dL_law__2118 hl (by decide) rfl (fun ls hl => ?_)
  refine lv_aload_n hx hb dL_law__2120 rfl (lv_at hl 4 rfl) ?_
  refine vp_callSi (va_runV (As := []) (rest := []) ⟨hx, hb, hml, hown, ht⟩ (k_X12_thrown l D a u_4) (cwV 0 ht (zG_V zw_779 zw_780 zw_781 zw_2 zw_782) rfl rfl rfl (by decide +kernel) ⟨Nat.le_of_ble_eq_true rfl, Nat.le_of_ble_eq_true rfl⟩) (zR_V (va_recv hK hP (ci := 12) (q0 := 1) rfl rfl) (hP.sub (ws' := [((a 0), .inr (12, zMo a u_4))]) [1] rfl) (hK.sub (tys' := []) [] rfl)) rfl rfl hl.1 rfl (lv_room (Nat.le_of_ble_eq_true rfl)) dL_law__2121 ⟨Nat.le_of_ble_eq_true rfl, Nat.le_of_ble_eq_true rfl⟩).run (fun r_5 hw_5 => ?_)
  refine lv_iload hx hb dL_law__2124 (lv_at hl 1 rfl) ?_
  refine lv_icmp_eq (tgt := 2131) hx hb dL_law__2126 (by decide) (fun c_6 => ?_) (fun c_6 => ?_)
  · skip
    simp only [fa_lt, fa_le, fa_eq, Int32.reduceToInt] at c_6
    refine lv_iload hx hb dL_law__2131 (lv_at hl 1 rfl) ?_
    refine lv_if_ne (tgt := 2155) hx hb dL_law__2133 (by decide) (fun c_7 => ?_) (fun c_7 => ?_)
    · skip
      simp only [fa_lt, fa_le, fa_eq, Int32.reduceToInt] at c_7
      refine lv_goto (tgt := 3433) hx hb dL_law__2155 (by decide) ?_
      refine W.widen (k := 2000) (n := 400000) (Nat.le_of_ble_eq_true rfl) (Nat.le_of_ble_eq_true rfl) ?_
      exact zlaw_end hx hb hml hr hown ht hlocks hX hbl hL hAe hS (lv_sub hl [2, 6] rfl)
    · skip
      simp only [fa_lt, fa_le, fa_eq, Int32.reduceToInt] at c_7
      refine lv_aload_n hx hb dL_law__2136 rfl (lv_at hl 5 rfl) ?_
      refine lv_iconst (v := 0) hx hb dL_law__2137 (by decide) ?_
      refine va_lald hx hb hK hP 0 7 rfl rfl (vp_in_iff.mpr (by decide)) dL_law__2138 ?_
      refine W.eq (g2 := F0 m 2139 ls (.long (g_2 0) :: [])) rfl ?_
      refine lv_iload hx hb dL_law__2139 (lv_at hl 0 rfl) ?_
      refine lv_if_eq (tgt := 2148) hx hb dL_law__2141 (by decide) (fun c_8 => ?_) (fun c_8 => ?_)
      · skip
        simp only [fa_lt, fa_le, fa_eq, Int32.reduceToInt] at c_8
        refine lv_lconst (v := 0) hx hb dL_law__2148 (by decide) ?_
        refine W.lcmp hx hb dL_law__2149 ?_
        refine lv_if_eq (tgt := 2155) hx hb dL_law__2150 (by decide) (fun c_9 => ?_) (fun c_9 => ?_)
        · skip
          refine lv_goto (tgt := 3433) hx hb dL_law__2155 (by decide) ?_
          refine W.widen (k := 2000) (n := 400000) (Nat.le_of_ble_eq_true rfl) (Nat.le_of_ble_eq_true rfl) ?_
          exact zlaw_end hx hb hml hr hown ht hlocks hX hbl hL hAe hS (lv_sub hl [2, 6] rfl)
        · skip
          simp only [fa_lt, fa_le, fa_eq, Int32.reduceToInt] at c_9
          exfalso
          have k0 : r_2 = 0 := Int32.toInt_inj.mp (show r_2.toInt = (0 : Int32).toInt by rw [c_7]; rfl)
          have e1 := zF_image hw_4 hw_2
          have h0 := hw_2
          rw [k0] at h0
          unfold zS_image at h0
          rcases h0 with ⟨h9, -⟩ | ⟨-, -, h9⟩
          · exact absurd h9 (by decide)
          · exact c_9 (by rw [hg_2, h9]; rfl)
      · skip
        simp only [fa_lt, fa_le, fa_eq, Int32.reduceToInt] at c_8
        refine lv_lconst (v := 1) hx hb dL_law__2144 (by decide) ?_
        refine lv_goto (tgt := 2149) hx hb dL_law__2145 (by decide) ?_
        refine W.lcmp hx hb dL_law__2149 ?_
        refine lv_if_eq (tgt := 2155) hx hb dL_law__2150 (by decide) (fun c_10 => ?_) (fun c_10 => ?_)
        · skip
          refine lv_goto (tgt := 3433) hx hb dL_law__2155 (by decide) ?_
          refine W.widen (k := 2000) (n := 400000) (Nat.le_of_ble_eq_true rfl) (Nat.le_of_ble_eq_true rfl) ?_
          exact zlaw_end hx hb hml hr hown ht hlocks hX hbl hL hAe hS (lv_sub hl [2, 6] rfl)
        · skip
          simp only [fa_lt, fa_le, fa_eq, Int32.reduceToInt] at c_10
          exfalso
          have k0 : r_2 = 0 := Int32.toInt_inj.mp (show r_2.toInt = (0 : Int32).toInt by rw [c_7]; rfl)
          have e1 := zF_image hw_4 hw_2
          have h0 := hw_2
          rw [k0] at h0
          unfold zS_image at h0
          rcases h0 with ⟨h9, -⟩ | ⟨-, -, h9⟩
          · exact absurd h9 (by decide)
          · exact c_8 (by rw [e1.2 (e1.1.trans k0), h9]; rfl)
  · skip
    simp only [fa_lt, fa_le, fa_eq, Int32.reduceToInt] at c_6
    exfalso; exact c_6 (by rw [hw_5, (zF_image hw_4 hw_2).1])
set_option maxHeartbeats 4000000 in
set_option maxRecDepth 100000 in
theorem zcase_type {p : Program} {l : Launch} {e : Env} {s : State} {m : MethodId} {below : List Frame} {meth : Method} {c : Code} {b L : Nat} {xs : Nat → Int32} {A : Nat → Prop} (D : va_G) (h cs : Nat → Nat) (o : Nat) (cL : ClassId) (a : Nat → Nat) (cI : ClassId) (hx : p.tables.exec = Jvm.exec) (hb : c.code = code) (hml : c.maxLocals = 9) (hr : meth.sig.returnType = ret) (hown : s.vm.findClass RL = some m.cls) (ht : ∀ w ∈ zT, w.before #[Value.ref b] s = true) (hlocks : meth.locks = false) (hX : va_X b L xs s s.heap) (hbl : b < s.heap.size) (hL : L = 6) (hAe : ∀ q : Nat, A q ↔ s.heap.size ≤ q) (hl0 : l.stackTraces = false) (hEx : zEx A s) (hNc : zNc s) {H : Heap} {locs : List Loc} {ls : Array Slot} (hK : va_K D vwCl [((cs 13), .int), (cL, .long), (cI, .int)] s) (hP : va_P D vwCl [((h 0), .inr (11, [.ref (h 1), .ref (h 9), .int 0, .int 0, .ref (h 20), .ref (h 37), .int 0, .ref (h 38), .ref (h 42), .ref (h 43), .ref (h 44), .ref (h 45), .ref (h 46), .ref (h 47), .ref (h 48)])), ((h 38), .inr (10, [.ref (h 39), .int 0, .ref (h 40), .int 0, .ref (h 80), .int 0, .int 0])), ((h 39), .inl ((cs 13), 200, .inl zI0)), (o, .inl (cL, 1, .inr (.inl (fun _ => 0)))), ((a 0), .inr (12, zMo a zI0)), ((a 6), .inl (cI, 200, .inl zI0))] H) (hD : va_D A [((h 0), .inr (11, [.ref (h 1), .ref (h 9), .int 0, .int 0, .ref (h 20), .ref (h 37), .int 0, .ref (h 38), .ref (h 42), .ref (h 43), .ref (h 44), .ref (h 45), .ref (h 46), .ref (h 47), .ref (h 48)])), ((h 38), .inr (10, [.ref (h 39), .int 0, .ref (h 40), .int 0, .ref (h 80), .int 0, .int 0])), ((h 39), .inl ((cs 13), 200, .inl zI0)), (o, .inl (cL, 1, .inr (.inl (fun _ => 0)))), ((a 0), .inr (12, zMo a zI0)), ((a 6), .inl (cI, 200, .inl zI0))]) (hS : va_S A s.heap H locs) (hl : lv_has ls 9 [(0, .ref b), (1, .ref (h 0)), (2, .ref (a 0)), (3, .ref o), (4, .int 0)]) : W p l e room_1 s m #[Value.ref b] below meth c H locs 1192 188302 (lw_Z below #[Value.ref b] s) (F0 m 2158 ls []) := by
  have hbA : ¬ A b := fun h => Nat.not_le.mpr hbl ((hAe b).mp h)
  have hA : ∀ q : Nat, s.heap.size ≤ q → A q := fun q h => (hAe q).mpr h
  refine lv_aload_n hx hb dL_law__2158 rfl (lv_at hl 1 rfl) ?_
  refine lv_aload_n hx hb dL_law__2159 rfl (lv_at hl 0 rfl) ?_
  refine lv_iload hx hb dL_law__2160 (lv_at hl 4 rfl) ?_
  refine lv_iconst (v := 1) hx hb dL_law__2162 (by decide) ?_
  refine lv_iadd hx hb dL_law__2163 ?_
  refine lv_topi (fun x_1 e_1 => ?_)
  obtain rfl : x_1 = 1 := e_1.trans (by decide)
  refine va_sld hx hb hX hbl hbA hS (by rw [hL]; exact vp_in_iff.mpr (by decide)) dL_law__2164 ?_
  refine W.eq (g2 := F0 m 2165 ls (.int (xs 1) :: .ref (h 0) :: [])) rfl ?_
  refine lv_i2l (v := ((xs 1)).toInt64) hx hb dL_law__2165 rfl ?_
  refine lv_bipush (v := 32) hx hb dL_law__2166 (by decide) ?_
  refine lv_lshl (v := (((xs 1)).toInt64) <<< ((32 : Int32).toInt64 &&& 63)) hx hb dL_law__2168 rfl ?_
  refine lv_aload_n hx hb dL_law__2169 rfl (lv_at hl 0 rfl) ?_
  refine lv_iload hx hb dL_law__2170 (lv_at hl 4 rfl) ?_
  refine lv_iconst (v := 2) hx hb dL_law__2172 (by decide) ?_
  refine lv_iadd hx hb dL_law__2173 ?_
  refine lv_topi (fun x_2 e_2 => ?_)
  obtain rfl : x_2 = 2 := e_2.trans (by decide)
  refine va_sld hx hb hX hbl hbA hS (by rw [hL]; exact vp_in_iff.mpr (by decide)) dL_law__2174 ?_
  refine W.eq (g2 := F0 m 2175 ls (.int (xs 2) :: .long ((((xs 1)).toInt64) <<< ((32 : Int32).toInt64 &&& 63)) :: .ref (h 0) :: [])) rfl ?_
  refine lv_i2l (v := ((xs 2)).toInt64) hx hb dL_law__2175 rfl ?_
  refine lv_ldc2 (v := 4294967295) hx hb hown (ht _ zw_944) dL_law__2176 ?_
  refine lv_land hx hb dL_law__2179 ?_
  refine lv_lor hx hb dL_law__2180 ?_
  refine lv_aload_n hx hb dL_law__2181 rfl (lv_at hl 3 rfl) ?_
  have hPc := hP.sub (ws' := [((h 0), .inr (11, [.ref (h 1), .ref (h 9), .int 0, .int 0, .ref (h 20), .ref (h 37), .int 0, .ref (h 38), .ref (h 42), .ref (h 43), .ref (h 44), .ref (h 45), .ref (h 46), .ref (h 47), .ref (h 48)])), ((h 38), .inr (10, [.ref (h 39), .int 0, .ref (h 40), .int 0, .ref (h 80), .int 0, .int 0])), ((h 39), .inl ((cs 13), 200, .inl zI0)), (o, .inl (cL, 1, .inr (.inl (fun _ => 0))))]) [0, 1, 2, 3] rfl
  have hDc := hD.sub (ws' := [((h 0), .inr (11, [.ref (h 1), .ref (h 9), .int 0, .int 0, .ref (h 20), .ref (h 37), .int 0, .ref (h 38), .ref (h 42), .ref (h 43), .ref (h 44), .ref (h 45), .ref (h 46), .ref (h 47), .ref (h 48)])), ((h 38), .inr (10, [.ref (h 39), .int 0, .ref (h 40), .int 0, .ref (h 80), .int 0, .int 0])), ((h 39), .inl ((cs 13), 200, .inl zI0)), (o, .inl (cL, 1, .inr (.inl (fun _ => 0))))]) [0, 1, 2, 3] (by decide) rfl
  have hKc := hK.sub (tys' := [((cs 13), .int), (cL, .long)]) [0, 1] rfl
  have hFc := va_free (wc := [((h 0), .inr (11, [.ref (h 1), .ref (h 9), .int 0, .int 0, .ref (h 20), .ref (h 37), .int 0, .ref (h 38), .ref (h 42), .ref (h 43), .ref (h 44), .ref (h 45), .ref (h 46), .ref (h 47), .ref (h 48)])), ((h 38), .inr (10, [.ref (h 39), .int 0, .ref (h 40), .int 0, .ref (h 80), .int 0, .int 0])), ((h 39), .inl ((cs 13), 200, .inl zI0)), (o, .inl (cL, 1, .inr (.inl (fun _ => 0))))]) hD hS hA [0, 1, 2, 3] rfl
  refine va_calli (vx_runSW (As := [.ref (h 0), .long (((((xs 1)).toInt64) <<< ((32 : Int32).toInt64 &&& 63)) ||| ((((xs 2)).toInt64) &&& 4294967295)), .ref o]) (rest := []) ⟨hx, hb, hml, hown, ht⟩ (k_L_type l hl0 _ D h cs (((((xs 1)).toInt64) <<< ((32 : Int32).toInt64 &&& 63)) ||| ((((xs 2)).toInt64) &&& 4294967295)) o cL) (vx_cwSW 3 ht (zG_S zw_945 zw_946 zw_773 zw_947) rfl rfl rfl (by decide +kernel) ⟨Nat.le_of_ble_eq_true rfl, Nat.le_of_ble_eq_true rfl⟩) (zY_S hNc hEx hS hFc hPc hKc hDc) rfl rfl hl.1 rfl (lv_room (Nat.le_of_ble_eq_true rfl)) dL_law__2182 ⟨Nat.le_of_ble_eq_true rfl, Nat.le_of_ble_eq_true rfl⟩) hS (fun q _ h => hFc q h) hFc (fun r_3 u_3 t H1 locs ht0 hvm hw_3 hB hz1 hk1 hS => ?_)
  obtain ⟨g_3, hg_3, hB⟩ := hB
  obtain ⟨hP1, hK1, hD1⟩ := hB
  rw [ht0] at hP1
  have hK1 := va_K.moved hvm.symm hK1
  obtain ⟨hP, hD⟩ := va_join (wr := [((a 0), .inr (12, zMo a zI0)), ((a 6), .inl (cI, 200, .inl zI0))]) (w1 := [(o, .inl (cL, 1, .inr (.inl g_3)))]) hP hD [0, 1, 2, 3] [4, 5] rfl rfl (by decide) (by decide) hk1 hFc hP1 hD1
  generalize H1 = H at hP hS ⊢
  have hP : va_P D vwCl [((a 0), .inr (12, zMo a zI0)), ((a 6), .inl (cI, 200, .inl zI0)), (o, .inl (cL, 1, .inr (.inl g_3)))] H := hP
  have hD : va_D A [((a 0), .inr (12, zMo a zI0)), ((a 6), .inl (cI, 200, .inl zI0)), (o, .inl (cL, 1, .inr (.inl g_3)))] := hD
  refine lv_istore (lv' := [(5, .int r_3), (0, .ref b), (1, .ref (h 0)), (2, .ref (a 0)), (3, .ref o), (4, .int 0)]) hx hb dL_law__2185 hl (by decide) rfl (fun ls hl => ?_)
  refine lv_aload_n hx hb dL_law__2187 rfl (lv_at hl 3 rfl) ?_
  refine lv_aload_n hx hb dL_law__2188 rfl (lv_at hl 1 rfl) ?_
  refine lv_iload hx hb dL_law__2189 (lv_at hl 5 rfl) ?_
  refine lv_iconst (v := 1) hx hb dL_law__2191 (by decide) ?_
  refine lv_iadd hx hb dL_law__2192 ?_
  refine lv_topi (fun x_4 e_4 => ?_)
  obtain rfl : x_4 = 1 := e_4.trans (by decide)
  refine va_sld hx hb hX hbl hbA hS (by rw [hL]; exact vp_in_iff.mpr (by decide)) dL_law__2193 ?_
  refine W.eq (g2 := F0 m 2194 ls (.int (xs 1) :: .ref (a 0) :: [])) rfl ?_
  refine lv_i2l (v := ((xs 1)).toInt64) hx hb dL_law__2194 rfl ?_
  refine lv_bipush (v := 32) hx hb dL_law__2195 (by decide) ?_
  refine lv_lshl (v := (((xs 1)).toInt64) <<< ((32 : Int32).toInt64 &&& 63)) hx hb dL_law__2197 rfl ?_
  refine lv_aload_n hx hb dL_law__2198 rfl (lv_at hl 1 rfl) ?_
  refine lv_iload hx hb dL_law__2199 (lv_at hl 5 rfl) ?_
  refine lv_iconst (v := 2) hx hb dL_law__2201 (by decide) ?_
  refine lv_iadd hx hb dL_law__2202 ?_
  refine lv_topi (fun x_5 e_5 => ?_)
  obtain rfl : x_5 = 2 := e_5.trans (by decide)
  refine va_sld hx hb hX hbl hbA hS (by rw [hL]; exact vp_in_iff.mpr (by decide)) dL_law__2203 ?_
  refine W.eq (g2 := F0 m 2204 ls (.int (xs 2) :: .long ((((xs 1)).toInt64) <<< ((32 : Int32).toInt64 &&& 63)) :: .ref (a 0) :: [])) rfl ?_
  refine lv_i2l (v := ((xs 2)).toInt64) hx hb dL_law__2204 rfl ?_
  refine lv_ldc2 (v := 4294967295) hx hb hown (ht _ zw_944) dL_law__2205 ?_
  refine lv_land hx hb dL_law__2208 ?_
  refine lv_lor hx hb dL_law__2209 ?_
  have hPc := hP.sub (ws' := [((a 0), .inr (12, zMo a zI0)), ((a 6), .inl (cI, 200, .inl zI0))]) [0, 1] rfl
  have hDc := hD.sub (ws' := [((a 0), .inr (12, zMo a zI0)), ((a 6), .inl (cI, 200, .inl zI0))]) [0, 1] (by decide) rfl
  have hKc := hK.sub (tys' := [(cI, .int)]) [2] rfl
  have hFc := va_free (wc := [((a 0), .inr (12, zMo a zI0)), ((a 6), .inl (cI, 200, .inl zI0))]) hD hS hA [0, 1] rfl
  refine va_calli (va_runV (As := [.long (((((xs 1)).toInt64) <<< ((32 : Int32).toInt64 &&& 63)) ||| ((((xs 2)).toInt64) &&& 4294967295))]) (rest := []) ⟨hx, hb, hml, hown, ht⟩ (k_X12_type l _ D a cI (((((xs 1)).toInt64) <<< ((32 : Int32).toInt64 &&& 63)) ||| ((((xs 2)).toInt64) &&& 4294967295))) (cwV 1 ht (zG_V zw_948 zw_949 zw_950 zw_2 zw_951) rfl rfl rfl (by decide +kernel) ⟨Nat.le_of_ble_eq_true rfl, Nat.le_of_ble_eq_true rfl⟩) (zM_V (va_recv hK hP (ci := 12) (q0 := 0) rfl rfl) hPc hKc hDc) rfl rfl hl.1 rfl (lv_room (Nat.le_of_ble_eq_true rfl)) dL_law__2210 ⟨Nat.le_of_ble_eq_true rfl, Nat.le_of_ble_eq_true rfl⟩) hS (fun q _ h => hFc q h) hFc (fun r_6 u_6 t H1 locs ht0 hvm hw_6 hB hz1 hk1 hS => ?_)
  obtain ⟨hP1, hK1, hD1⟩ := hB
  rw [ht0] at hP1
  have hK1 := va_K.moved hvm.symm hK1
  obtain ⟨hP, hD⟩ := va_join (wr := [(o, .inl (cL, 1, .inr (.inl g_3)))]) (w1 := [((a 0), .inr (12, zMo a u_6))]) hP hD [0, 1] [2] rfl rfl (by decide) (by decide) hk1 hFc hP1 hD1
  generalize H1 = H at hP hS ⊢
  have hP : va_P D vwCl [(o, .inl (cL, 1, .inr (.inl g_3))), ((a 0), .inr (12, zMo a u_6))] H := hP
  have hD : va_D A [(o, .inl (cL, 1, .inr (.inl g_3))), ((a 0), .inr (12, zMo a u_6))] := hD
  refine lv_istore (lv' := [(6, .int r_6), (5, .int r_3), (0, .ref b), (1, .ref (h 0)), (2, .ref (a 0)), (3, .ref o), (4, .int 0)]) hx hb dL_law__2213 hl (by decide) rfl (fun ls hl => ?_)
  refine lv_aload_n hx hb dL_law__2215 rfl (lv_at hl 4 rfl) ?_
  refine vp_callSi (va_runV (As := []) (rest := []) ⟨hx, hb, hml, hown, ht⟩ (k_X12_thrown l D a u_6) (cwV 0 ht (zG_V zw_779 zw_780 zw_781 zw_2 zw_782) rfl rfl rfl (by decide +kernel) ⟨Nat.le_of_ble_eq_true rfl, Nat.le_of_ble_eq_true rfl⟩) (zR_V (va_recv hK hP (ci := 12) (q0 := 1) rfl rfl) (hP.sub (ws' := [((a 0), .inr (12, zMo a u_6))]) [1] rfl) (hK.sub (tys' := []) [] rfl)) rfl rfl hl.1 rfl (lv_room (Nat.le_of_ble_eq_true rfl)) dL_law__2216 ⟨Nat.le_of_ble_eq_true rfl, Nat.le_of_ble_eq_true rfl⟩).run (fun r_7 hw_7 => ?_)
  refine lv_iload hx hb dL_law__2219 (lv_at hl 1 rfl) ?_
  refine lv_icmp_eq (tgt := 2226) hx hb dL_law__2221 (by decide) (fun c_8 => ?_) (fun c_8 => ?_)
  · skip
    simp only [fa_lt, fa_le, fa_eq, Int32.reduceToInt] at c_8
    refine lv_iload hx hb dL_law__2226 (lv_at hl 1 rfl) ?_
    refine lv_if_ne (tgt := 2243) hx hb dL_law__2228 (by decide) (fun c_9 => ?_) (fun c_9 => ?_)
    · skip
      simp only [fa_lt, fa_le, fa_eq, Int32.reduceToInt] at c_9
      refine lv_goto (tgt := 3433) hx hb dL_law__2243 (by decide) ?_
      refine W.widen (k := 2000) (n := 400000) (Nat.le_of_ble_eq_true rfl) (Nat.le_of_ble_eq_true rfl) ?_
      exact zlaw_end hx hb hml hr hown ht hlocks hX hbl hL hAe hS (lv_sub hl [2, 6] rfl)
    · skip
      simp only [fa_lt, fa_le, fa_eq, Int32.reduceToInt] at c_9
      refine lv_aload_n hx hb dL_law__2231 rfl (lv_at hl 5 rfl) ?_
      refine lv_iconst (v := 0) hx hb dL_law__2232 (by decide) ?_
      refine va_lald hx hb hK hP 0 1 rfl rfl (vp_in_iff.mpr (by decide)) dL_law__2233 ?_
      refine W.eq (g2 := F0 m 2234 ls (.long (g_3 0) :: [])) rfl ?_
      refine lv_iload hx hb dL_law__2234 (lv_at hl 0 rfl) ?_
      refine lv_i2l (v := (r_6).toInt64) hx hb dL_law__2236 rfl ?_
      refine W.lcmp hx hb dL_law__2237 ?_
      refine lv_if_eq (tgt := 2243) hx hb dL_law__2238 (by decide) (fun c_10 => ?_) (fun c_10 => ?_)
      · skip
        refine lv_goto (tgt := 3433) hx hb dL_law__2243 (by decide) ?_
        refine W.widen (k := 2000) (n := 400000) (Nat.le_of_ble_eq_true rfl) (Nat.le_of_ble_eq_true rfl) ?_
        exact zlaw_end hx hb hml hr hown ht hlocks hX hbl hL hAe hS (lv_sub hl [2, 6] rfl)
      · skip
        simp only [fa_lt, fa_le, fa_eq, Int32.reduceToInt] at c_10
        exfalso; exact c_10 (by rw [hg_3, hw_3.2, hw_6.2]; rw [zcmp_self]; rfl)
  · skip
    simp only [fa_lt, fa_le, fa_eq, Int32.reduceToInt] at c_8
    exfalso; exact c_8 (by rw [hw_7, hw_6.1, hw_3.1])
set_option maxHeartbeats 4000000 in
set_option maxRecDepth 100000 in
theorem zcase_clearText {p : Program} {l : Launch} {e : Env} {s : State} {m : MethodId} {below : List Frame} {meth : Method} {c : Code} {b L : Nat} {xs : Nat → Int32} {A : Nat → Prop} (D : va_G) (h cs : Nat → Nat) (a : Nat → Nat) (cI : ClassId) (o : Nat) (hx : p.tables.exec = Jvm.exec) (hb : c.code = code) (hml : c.maxLocals = 9) (hr : meth.sig.returnType = ret) (hown : s.vm.findClass RL = some m.cls) (ht : ∀ w ∈ zT, w.before #[Value.ref b] s = true) (hlocks : meth.locks = false) (hX : va_X b L xs s s.heap) (hbl : b < s.heap.size) (hL : L = 6) (hAe : ∀ q : Nat, A q ↔ s.heap.size ≤ q) (hl0 : l.stackTraces = false) (hEx : zEx A s) (hNc : zNc s) {H : Heap} {locs : List Loc} {ls : Array Slot} (hK : va_K D vwCl [(cI, .int)] s) (hP : va_P D vwCl [((h 0), .inr (11, [.ref (h 1), .ref (h 9), .int 0, .int 0, .ref (h 20), .ref (h 37), .int 0, .ref (h 38), .ref (h 42), .ref (h 43), .ref (h 44), .ref (h 45), .ref (h 46), .ref (h 47), .ref (h 48)])), ((h 38), .inr (10, [.ref (h 39), .int 0, .ref (h 40), .int 0, .ref (h 80), .int 0, .int 0])), ((a 0), .inr (12, zMo a zI0)), ((a 1), .inl (cI, 6792, .inl zI0))] H) (hD : va_D A [((h 0), .inr (11, [.ref (h 1), .ref (h 9), .int 0, .int 0, .ref (h 20), .ref (h 37), .int 0, .ref (h 38), .ref (h 42), .ref (h 43), .ref (h 44), .ref (h 45), .ref (h 46), .ref (h 47), .ref (h 48)])), ((h 38), .inr (10, [.ref (h 39), .int 0, .ref (h 40), .int 0, .ref (h 80), .int 0, .int 0])), ((a 0), .inr (12, zMo a zI0)), ((a 1), .inl (cI, 6792, .inl zI0))]) (hS : va_S A s.heap H locs) (hl : lv_has ls 9 [(0, .ref b), (1, .ref (h 0)), (2, .ref (a 0)), (3, .ref o), (4, .int 0)]) : W p l e room_1 s m #[Value.ref b] below meth c H locs 1192 188302 (lw_Z below #[Value.ref b] s) (F0 m 2246 ls []) := by
  have hbA : ¬ A b := fun h => Nat.not_le.mpr hbl ((hAe b).mp h)
  have hA : ∀ q : Nat, s.heap.size ≤ q → A q := fun q h => (hAe q).mpr h
  refine lv_aload_n hx hb dL_law__2246 rfl (lv_at hl 1 rfl) ?_
  have hPc := hP.sub (ws' := [((h 0), .inr (11, [.ref (h 1), .ref (h 9), .int 0, .int 0, .ref (h 20), .ref (h 37), .int 0, .ref (h 38), .ref (h 42), .ref (h 43), .ref (h 44), .ref (h 45), .ref (h 46), .ref (h 47), .ref (h 48)])), ((h 38), .inr (10, [.ref (h 39), .int 0, .ref (h 40), .int 0, .ref (h 80), .int 0, .int 0]))]) [0, 1] rfl
  have hDc := hD.sub (ws' := [((h 0), .inr (11, [.ref (h 1), .ref (h 9), .int 0, .int 0, .ref (h 20), .ref (h 37), .int 0, .ref (h 38), .ref (h 42), .ref (h 43), .ref (h 44), .ref (h 45), .ref (h 46), .ref (h 47), .ref (h 48)])), ((h 38), .inr (10, [.ref (h 39), .int 0, .ref (h 40), .int 0, .ref (h 80), .int 0, .int 0]))]) [0, 1] (by decide) rfl
  have hKc := hK.sub (tys' := []) [] rfl
  have hFc := va_free (wc := [((h 0), .inr (11, [.ref (h 1), .ref (h 9), .int 0, .int 0, .ref (h 20), .ref (h 37), .int 0, .ref (h 38), .ref (h 42), .ref (h 43), .ref (h 44), .ref (h 45), .ref (h 46), .ref (h 47), .ref (h 48)])), ((h 38), .inr (10, [.ref (h 39), .int 0, .ref (h 40), .int 0, .ref (h 80), .int 0, .int 0]))]) hD hS hA [0, 1] rfl
  refine va_calli (va_runV (As := []) (rest := []) ⟨hx, hb, hml, hown, ht⟩ (k_X11_clearText l _ D h cs) (cwV 0 ht (zG_V zw_952 zw_953 zw_954 zw_404 zw_955) rfl rfl rfl (by decide +kernel) ⟨Nat.le_of_ble_eq_true rfl, Nat.le_of_ble_eq_true rfl⟩) (zM_V (va_recv hK hP (ci := 11) (q0 := 0) rfl rfl) hPc hKc hDc) rfl rfl hl.1 rfl (lv_room (Nat.le_of_ble_eq_true rfl)) dL_law__2247 ⟨Nat.le_of_ble_eq_true rfl, Nat.le_of_ble_eq_true rfl⟩) hS (fun q _ h => hFc q h) hFc (fun r_1 u_1 t H1 locs ht0 hvm hw_1 hB hz1 hk1 hS => ?_)
  obtain ⟨hP1, hK1, hD1⟩ := hB
  rw [ht0] at hP1
  have hK1 := va_K.moved hvm.symm hK1
  obtain ⟨hP, hD⟩ := va_join (wr := [((a 0), .inr (12, zMo a zI0)), ((a 1), .inl (cI, 6792, .inl zI0))]) (w1 := []) hP hD [0, 1] [2, 3] rfl rfl (by decide) (by decide) hk1 hFc hP1 hD1
  generalize H1 = H at hP hS ⊢
  have hP : va_P D vwCl [((a 0), .inr (12, zMo a zI0)), ((a 1), .inl (cI, 6792, .inl zI0))] H := hP
  have hD : va_D A [((a 0), .inr (12, zMo a zI0)), ((a 1), .inl (cI, 6792, .inl zI0))] := hD
  obtain rfl : r_1 = 0 := hw_1
  refine lv_aload_n hx hb dL_law__2250 rfl (lv_at hl 2 rfl) ?_
  have hPc := hP.sub (ws' := [((a 0), .inr (12, zMo a zI0)), ((a 1), .inl (cI, 6792, .inl zI0))]) [0, 1] rfl
  have hDc := hD.sub (ws' := [((a 0), .inr (12, zMo a zI0)), ((a 1), .inl (cI, 6792, .inl zI0))]) [0, 1] (by decide) rfl
  have hKc := hK.sub (tys' := [(cI, .int)]) [0] rfl
  have hFc := va_free (wc := [((a 0), .inr (12, zMo a zI0)), ((a 1), .inl (cI, 6792, .inl zI0))]) hD hS hA [0, 1] rfl
  refine va_calli (va_runV (As := []) (rest := [.int 0]) ⟨hx, hb, hml, hown, ht⟩ (k_X12_clearText l _ D a cI) (cwV 0 ht (zG_V zw_956 zw_957 zw_958 zw_2 zw_959) rfl rfl rfl (by decide +kernel) ⟨Nat.le_of_ble_eq_true rfl, Nat.le_of_ble_eq_true rfl⟩) (zM_V (va_recv hK hP (ci := 12) (q0 := 0) rfl rfl) hPc hKc hDc) rfl rfl hl.1 rfl (lv_room (Nat.le_of_ble_eq_true rfl)) dL_law__2251 ⟨Nat.le_of_ble_eq_true rfl, Nat.le_of_ble_eq_true rfl⟩) hS (fun q _ h => hFc q h) hFc (fun r_2 u_2 t H1 locs ht0 hvm hw_2 hB hz1 hk1 hS => ?_)
  obtain ⟨hP1, hK1, hD1⟩ := hB
  rw [ht0] at hP1
  have hK1 := va_K.moved hvm.symm hK1
  obtain ⟨hP, hD⟩ := va_join (wr := []) (w1 := []) hP hD [0, 1] [] rfl rfl (by decide) (by decide) hk1 hFc hP1 hD1
  generalize H1 = H at hP hS ⊢
  have hP : va_P D vwCl [] H := hP
  have hD : va_D A [] := hD
  obtain rfl : r_2 = 0 := hw_2
  refine lv_icmp_eq (tgt := 3433) hx hb dL_law__2254 (by decide) (fun c_3 => ?_) (fun c_3 => ?_)
  · skip
    refine W.widen (k := 2000) (n := 400000) (Nat.le_of_ble_eq_true rfl) (Nat.le_of_ble_eq_true rfl) ?_
    exact zlaw_end hx hb hml hr hown ht hlocks hX hbl hL hAe hS (lv_sub hl [0, 4] rfl)
  · skip
    exact absurd c_3 (by decide)
set_option maxHeartbeats 4000000 in
set_option maxRecDepth 100000 in
theorem zcase_errorPlace {p : Program} {l : Launch} {e : Env} {s : State} {m : MethodId} {below : List Frame} {meth : Method} {c : Code} {b L : Nat} {xs : Nat → Int32} {A : Nat → Prop} (D : va_G) (h cs : Nat → Nat) (a : Nat → Nat) (cI : ClassId) (o : Nat) (hx : p.tables.exec = Jvm.exec) (hb : c.code = code) (hml : c.maxLocals = 9) (hr : meth.sig.returnType = ret) (hown : s.vm.findClass RL = some m.cls) (ht : ∀ w ∈ zT, w.before #[Value.ref b] s = true) (hlocks : meth.locks = false) (hX : va_X b L xs s s.heap) (hbl : b < s.heap.size) (hL : L = 6) (hAe : ∀ q : Nat, A q ↔ s.heap.size ≤ q) (hl0 : l.stackTraces = false) (hEx : zEx A s) (hNc : zNc s) {H : Heap} {locs : List Loc} {ls : Array Slot} (hK : va_K D vwCl [(cI, .int)] s) (hP : va_P D vwCl [((h 0), .inr (11, [.ref (h 1), .ref (h 9), .int 0, .int 0, .ref (h 20), .ref (h 37), .int 0, .ref (h 38), .ref (h 42), .ref (h 43), .ref (h 44), .ref (h 45), .ref (h 46), .ref (h 47), .ref (h 48)])), ((h 38), .inr (10, [.ref (h 39), .int 0, .ref (h 40), .int 0, .ref (h 80), .int 0, .int 0])), ((a 0), .inr (12, zMo a zI0)), ((a 1), .inl (cI, 6792, .inl zI0)), ((a 10), .inl (cI, 41, .inl zI0))] H) (hD : va_D A [((h 0), .inr (11, [.ref (h 1), .ref (h 9), .int 0, .int 0, .ref (h 20), .ref (h 37), .int 0, .ref (h 38), .ref (h 42), .ref (h 43), .ref (h 44), .ref (h 45), .ref (h 46), .ref (h 47), .ref (h 48)])), ((h 38), .inr (10, [.ref (h 39), .int 0, .ref (h 40), .int 0, .ref (h 80), .int 0, .int 0])), ((a 0), .inr (12, zMo a zI0)), ((a 1), .inl (cI, 6792, .inl zI0)), ((a 10), .inl (cI, 41, .inl zI0))]) (hS : va_S A s.heap H locs) (hl : lv_has ls 9 [(0, .ref b), (1, .ref (h 0)), (2, .ref (a 0)), (3, .ref o), (4, .int 0)]) : W p l e room_1 s m #[Value.ref b] below meth c H locs 1192 188302 (lw_Z below #[Value.ref b] s) (F0 m 2259 ls []) := by
  have hbA : ¬ A b := fun h => Nat.not_le.mpr hbl ((hAe b).mp h)
  have hA : ∀ q : Nat, s.heap.size ≤ q → A q := fun q h => (hAe q).mpr h
  refine lv_aload_n hx hb dL_law__2259 rfl (lv_at hl 1 rfl) ?_
  have hPc := hP.sub (ws' := [((h 0), .inr (11, [.ref (h 1), .ref (h 9), .int 0, .int 0, .ref (h 20), .ref (h 37), .int 0, .ref (h 38), .ref (h 42), .ref (h 43), .ref (h 44), .ref (h 45), .ref (h 46), .ref (h 47), .ref (h 48)])), ((h 38), .inr (10, [.ref (h 39), .int 0, .ref (h 40), .int 0, .ref (h 80), .int 0, .int 0]))]) [0, 1] rfl
  have hDc := hD.sub (ws' := [((h 0), .inr (11, [.ref (h 1), .ref (h 9), .int 0, .int 0, .ref (h 20), .ref (h 37), .int 0, .ref (h 38), .ref (h 42), .ref (h 43), .ref (h 44), .ref (h 45), .ref (h 46), .ref (h 47), .ref (h 48)])), ((h 38), .inr (10, [.ref (h 39), .int 0, .ref (h 40), .int 0, .ref (h 80), .int 0, .int 0]))]) [0, 1] (by decide) rfl
  have hKc := hK.sub (tys' := []) [] rfl
  have hFc := va_free (wc := [((h 0), .inr (11, [.ref (h 1), .ref (h 9), .int 0, .int 0, .ref (h 20), .ref (h 37), .int 0, .ref (h 38), .ref (h 42), .ref (h 43), .ref (h 44), .ref (h 45), .ref (h 46), .ref (h 47), .ref (h 48)])), ((h 38), .inr (10, [.ref (h 39), .int 0, .ref (h 40), .int 0, .ref (h 80), .int 0, .int 0]))]) hD hS hA [0, 1] rfl
  refine va_calli (va_runV (As := []) (rest := []) ⟨hx, hb, hml, hown, ht⟩ (k_X11_errorPlace l _ D h cs) (cwV 0 ht (zG_V zw_960 zw_961 zw_962 zw_404 zw_963) rfl rfl rfl (by decide +kernel) ⟨Nat.le_of_ble_eq_true rfl, Nat.le_of_ble_eq_true rfl⟩) (zM_V (va_recv hK hP (ci := 11) (q0 := 0) rfl rfl) hPc hKc hDc) rfl rfl hl.1 rfl (lv_room (Nat.le_of_ble_eq_true rfl)) dL_law__2260 ⟨Nat.le_of_ble_eq_true rfl, Nat.le_of_ble_eq_true rfl⟩) hS (fun q _ h => hFc q h) hFc (fun r_1 u_1 t H1 locs ht0 hvm hw_1 hB hz1 hk1 hS => ?_)
  obtain ⟨hP1, hK1, hD1⟩ := hB
  rw [ht0] at hP1
  have hK1 := va_K.moved hvm.symm hK1
  obtain ⟨hP, hD⟩ := va_join (wr := [((a 0), .inr (12, zMo a zI0)), ((a 1), .inl (cI, 6792, .inl zI0)), ((a 10), .inl (cI, 41, .inl zI0))]) (w1 := []) hP hD [0, 1] [2, 3, 4] rfl rfl (by decide) (by decide) hk1 hFc hP1 hD1
  generalize H1 = H at hP hS ⊢
  have hP : va_P D vwCl [((a 0), .inr (12, zMo a zI0)), ((a 1), .inl (cI, 6792, .inl zI0)), ((a 10), .inl (cI, 41, .inl zI0))] H := hP
  have hD : va_D A [((a 0), .inr (12, zMo a zI0)), ((a 1), .inl (cI, 6792, .inl zI0)), ((a 10), .inl (cI, 41, .inl zI0))] := hD
  obtain rfl : r_1 = 0 := hw_1
  refine lv_aload_n hx hb dL_law__2263 rfl (lv_at hl 2 rfl) ?_
  have hPc := hP.sub (ws' := [((a 0), .inr (12, zMo a zI0)), ((a 1), .inl (cI, 6792, .inl zI0)), ((a 10), .inl (cI, 41, .inl zI0))]) [0, 1, 2] rfl
  have hDc := hD.sub (ws' := [((a 0), .inr (12, zMo a zI0)), ((a 1), .inl (cI, 6792, .inl zI0)), ((a 10), .inl (cI, 41, .inl zI0))]) [0, 1, 2] (by decide) rfl
  have hKc := hK.sub (tys' := [(cI, .int)]) [0] rfl
  have hFc := va_free (wc := [((a 0), .inr (12, zMo a zI0)), ((a 1), .inl (cI, 6792, .inl zI0)), ((a 10), .inl (cI, 41, .inl zI0))]) hD hS hA [0, 1, 2] rfl
  refine va_calli (va_runV (As := []) (rest := [.int 0]) ⟨hx, hb, hml, hown, ht⟩ (k_X12_errorPlace l _ D a cI) (cwV 0 ht (zG_V zw_964 zw_965 zw_966 zw_2 zw_967) rfl rfl rfl (by decide +kernel) ⟨Nat.le_of_ble_eq_true rfl, Nat.le_of_ble_eq_true rfl⟩) (zM_V (va_recv hK hP (ci := 12) (q0 := 0) rfl rfl) hPc hKc hDc) rfl rfl hl.1 rfl (lv_room (Nat.le_of_ble_eq_true rfl)) dL_law__2264 ⟨Nat.le_of_ble_eq_true rfl, Nat.le_of_ble_eq_true rfl⟩) hS (fun q _ h => hFc q h) hFc (fun r_2 u_2 t H1 locs ht0 hvm hw_2 hB hz1 hk1 hS => ?_)
  obtain ⟨hP1, hK1, hD1⟩ := hB
  rw [ht0] at hP1
  have hK1 := va_K.moved hvm.symm hK1
  obtain ⟨hP, hD⟩ := va_join (wr := []) (w1 := []) hP hD [0, 1, 2] [] rfl rfl (by decide) (by decide) hk1 hFc hP1 hD1
  generalize H1 = H at hP hS ⊢
  have hP : va_P D vwCl [] H := hP
  have hD : va_D A [] := hD
  obtain rfl : r_2 = 0 := hw_2
  refine lv_icmp_eq (tgt := 3433) hx hb dL_law__2267 (by decide) (fun c_3 => ?_) (fun c_3 => ?_)
  · skip
    refine W.widen (k := 2000) (n := 400000) (Nat.le_of_ble_eq_true rfl) (Nat.le_of_ble_eq_true rfl) ?_
    exact zlaw_end hx hb hml hr hown ht hlocks hX hbl hL hAe hS (lv_sub hl [0, 4] rfl)
  · skip
    exact absurd c_3 (by decide)
