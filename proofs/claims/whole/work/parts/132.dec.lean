theorem dL_law_1883 : decode cL_law 1883 = .ok (.invokestatic 300, 3) := by decide +kernel
theorem dL_law_1886 : decode cL_law 1886 = .ok (.istore 6, 2) := by decide +kernel
theorem dL_law_1888 : decode cL_law 1888 = .ok (.aload_n 2, 1) := by decide +kernel
theorem dL_law_1889 : decode cL_law 1889 = .ok (.aload_n 0, 1) := by decide +kernel
theorem dL_law_1890 : decode cL_law 1890 = .ok (.iload 5, 2) := by decide +kernel
theorem dL_law_1892 : decode cL_law 1892 = .ok (.iconst 1, 1) := by decide +kernel
theorem dL_law_1893 : decode cL_law 1893 = .ok (.iadd, 1) := by decide +kernel
theorem dL_law_1894 : decode cL_law 1894 = .ok (.iaload, 1) := by decide +kernel
theorem dL_law_1895 : decode cL_law 1895 = .ok (.invokevirtual 302, 3) := by decide +kernel
theorem dL_law_1898 : decode cL_law 1898 = .ok (.istore 7, 2) := by decide +kernel
theorem dL_law_1900 : decode cL_law 1900 = .ok (.aload_n 2, 1) := by decide +kernel
theorem dL_law_1901 : decode cL_law 1901 = .ok (.invokevirtual 205, 3) := by decide +kernel
theorem dL_law_1904 : decode cL_law 1904 = .ok (.iload 6, 2) := by decide +kernel
theorem dL_law_1906 : decode cL_law 1906 = .ok (.if_icmp .eq 5, 3) := by decide +kernel
theorem dL_law_1909 : decode cL_law 1909 = .ok (.iconst 0, 1) := by decide +kernel
theorem dL_law_1910 : decode cL_law 1910 = .ok (.ireturn, 1) := by decide +kernel
theorem dL_law_1911 : decode cL_law 1911 = .ok (.iload 6, 2) := by decide +kernel
theorem dL_law_1913 : decode cL_law 1913 = .ok (.ifCond .ne 15, 3) := by decide +kernel
theorem dL_law_1916 : decode cL_law 1916 = .ok (.aload_n 3, 1) := by decide +kernel
theorem dL_law_1917 : decode cL_law 1917 = .ok (.iconst 0, 1) := by decide +kernel
theorem dL_law_1918 : decode cL_law 1918 = .ok (.laload, 1) := by decide +kernel
theorem dL_law_1919 : decode cL_law 1919 = .ok (.iload 7, 2) := by decide +kernel
theorem dL_law_1921 : decode cL_law 1921 = .ok (.i2l, 1) := by decide +kernel
theorem dL_law_1922 : decode cL_law 1922 = .ok (.lcmp, 1) := by decide +kernel
theorem dL_law_1923 : decode cL_law 1923 = .ok (.ifCond .eq 5, 3) := by decide +kernel
theorem dL_law_1926 : decode cL_law 1926 = .ok (.iconst 0, 1) := by decide +kernel
theorem dL_law_1927 : decode cL_law 1927 = .ok (.ireturn, 1) := by decide +kernel
theorem dL_law_1928 : decode cL_law 1928 = .ok (.goto 1579, 3) := by decide +kernel
theorem dL_law_1931 : decode cL_law 1931 = .ok (.aload_n 1, 1) := by decide +kernel
theorem dL_law_1932 : decode cL_law 1932 = .ok (.aload_n 3, 1) := by decide +kernel
theorem dL_law_1933 : decode cL_law 1933 = .ok (.invokestatic 303, 3) := by decide +kernel
theorem dL_law_1936 : decode cL_law 1936 = .ok (.istore 6, 2) := by decide +kernel
theorem dL_law_1938 : decode cL_law 1938 = .ok (.aload_n 2, 1) := by decide +kernel
theorem dL_law_1939 : decode cL_law 1939 = .ok (.invokevirtual 305, 3) := by decide +kernel
theorem dL_law_1942 : decode cL_law 1942 = .ok (.istore 7, 2) := by decide +kernel
theorem dL_law_1944 : decode cL_law 1944 = .ok (.aload_n 2, 1) := by decide +kernel
theorem dL_law_1945 : decode cL_law 1945 = .ok (.invokevirtual 205, 3) := by decide +kernel
theorem dL_law_1948 : decode cL_law 1948 = .ok (.iload 6, 2) := by decide +kernel
theorem dL_law_1950 : decode cL_law 1950 = .ok (.if_icmp .eq 5, 3) := by decide +kernel
theorem dL_law_1953 : decode cL_law 1953 = .ok (.iconst 0, 1) := by decide +kernel
theorem dL_law_1954 : decode cL_law 1954 = .ok (.ireturn, 1) := by decide +kernel
theorem dL_law_1955 : decode cL_law 1955 = .ok (.iload 6, 2) := by decide +kernel
theorem dL_law_1957 : decode cL_law 1957 = .ok (.ifCond .ne 15, 3) := by decide +kernel
theorem dL_law_1960 : decode cL_law 1960 = .ok (.aload_n 3, 1) := by decide +kernel
theorem dL_law_1961 : decode cL_law 1961 = .ok (.iconst 0, 1) := by decide +kernel
theorem dL_law_1962 : decode cL_law 1962 = .ok (.laload, 1) := by decide +kernel
theorem dL_law_1963 : decode cL_law 1963 = .ok (.iload 7, 2) := by decide +kernel
theorem dL_law_1965 : decode cL_law 1965 = .ok (.i2l, 1) := by decide +kernel
theorem dL_law_1966 : decode cL_law 1966 = .ok (.lcmp, 1) := by decide +kernel
theorem dL_law_1967 : decode cL_law 1967 = .ok (.ifCond .eq 5, 3) := by decide +kernel
theorem dL_law_1970 : decode cL_law 1970 = .ok (.iconst 0, 1) := by decide +kernel
theorem dL_law_1971 : decode cL_law 1971 = .ok (.ireturn, 1) := by decide +kernel
theorem dL_law_1972 : decode cL_law 1972 = .ok (.goto 1535, 3) := by decide +kernel
theorem dL_law_1975 : decode cL_law 1975 = .ok (.aload_n 1, 1) := by decide +kernel
theorem dL_law_1976 : decode cL_law 1976 = .ok (.aload_n 0, 1) := by decide +kernel
theorem dL_law_1977 : decode cL_law 1977 = .ok (.iload 5, 2) := by decide +kernel
theorem dL_law_1979 : decode cL_law 1979 = .ok (.iconst 1, 1) := by decide +kernel
theorem dL_law_1980 : decode cL_law 1980 = .ok (.iadd, 1) := by decide +kernel
theorem dL_law_1981 : decode cL_law 1981 = .ok (.iaload, 1) := by decide +kernel
theorem dL_law_1982 : decode cL_law 1982 = .ok (.aload_n 0, 1) := by decide +kernel
theorem dL_law_1983 : decode cL_law 1983 = .ok (.iload 5, 2) := by decide +kernel
theorem dL_law_1985 : decode cL_law 1985 = .ok (.iconst 2, 1) := by decide +kernel
theorem dL_law_1986 : decode cL_law 1986 = .ok (.iadd, 1) := by decide +kernel
theorem dL_law_1987 : decode cL_law 1987 = .ok (.iaload, 1) := by decide +kernel
theorem dL_law_1988 : decode cL_law 1988 = .ok (.aload_n 3, 1) := by decide +kernel
theorem dL_law_1989 : decode cL_law 1989 = .ok (.invokestatic 306, 3) := by decide +kernel
theorem dL_law_1992 : decode cL_law 1992 = .ok (.istore 6, 2) := by decide +kernel
theorem dL_law_1994 : decode cL_law 1994 = .ok (.aload_n 2, 1) := by decide +kernel
theorem dL_law_1995 : decode cL_law 1995 = .ok (.aload_n 0, 1) := by decide +kernel
theorem dL_law_1996 : decode cL_law 1996 = .ok (.iload 5, 2) := by decide +kernel
theorem dL_law_1998 : decode cL_law 1998 = .ok (.iconst 1, 1) := by decide +kernel
theorem dL_law_1999 : decode cL_law 1999 = .ok (.iadd, 1) := by decide +kernel
theorem dL_law_2000 : decode cL_law 2000 = .ok (.iaload, 1) := by decide +kernel
theorem dL_law_2001 : decode cL_law 2001 = .ok (.aload_n 0, 1) := by decide +kernel
theorem dL_law_2002 : decode cL_law 2002 = .ok (.iload 5, 2) := by decide +kernel
theorem dL_law_2004 : decode cL_law 2004 = .ok (.iconst 2, 1) := by decide +kernel
theorem dL_law_2005 : decode cL_law 2005 = .ok (.iadd, 1) := by decide +kernel
theorem dL_law_2006 : decode cL_law 2006 = .ok (.iaload, 1) := by decide +kernel
theorem dL_law_2007 : decode cL_law 2007 = .ok (.invokevirtual 308, 3) := by decide +kernel
theorem dL_law_2010 : decode cL_law 2010 = .ok (.istore 7, 2) := by decide +kernel
theorem dL_law_2012 : decode cL_law 2012 = .ok (.aload_n 2, 1) := by decide +kernel
theorem dL_law_2013 : decode cL_law 2013 = .ok (.invokevirtual 205, 3) := by decide +kernel
theorem dL_law_2016 : decode cL_law 2016 = .ok (.iload 6, 2) := by decide +kernel
theorem dL_law_2018 : decode cL_law 2018 = .ok (.if_icmp .eq 5, 3) := by decide +kernel
theorem dL_law_2021 : decode cL_law 2021 = .ok (.iconst 0, 1) := by decide +kernel
theorem dL_law_2022 : decode cL_law 2022 = .ok (.ireturn, 1) := by decide +kernel
theorem dL_law_2023 : decode cL_law 2023 = .ok (.iload 6, 2) := by decide +kernel
theorem dL_law_2025 : decode cL_law 2025 = .ok (.ifCond .ne 15, 3) := by decide +kernel
theorem dL_law_2028 : decode cL_law 2028 = .ok (.aload_n 3, 1) := by decide +kernel
theorem dL_law_2029 : decode cL_law 2029 = .ok (.iconst 0, 1) := by decide +kernel
theorem dL_law_2030 : decode cL_law 2030 = .ok (.laload, 1) := by decide +kernel
theorem dL_law_2031 : decode cL_law 2031 = .ok (.iload 7, 2) := by decide +kernel
theorem dL_law_2033 : decode cL_law 2033 = .ok (.i2l, 1) := by decide +kernel
theorem dL_law_2034 : decode cL_law 2034 = .ok (.lcmp, 1) := by decide +kernel
theorem dL_law_2035 : decode cL_law 2035 = .ok (.ifCond .eq 5, 3) := by decide +kernel
theorem dL_law_2038 : decode cL_law 2038 = .ok (.iconst 0, 1) := by decide +kernel
theorem dL_law_2039 : decode cL_law 2039 = .ok (.ireturn, 1) := by decide +kernel
theorem dL_law_2040 : decode cL_law 2040 = .ok (.goto 1467, 3) := by decide +kernel
theorem dL_law_2043 : decode cL_law 2043 = .ok (.aload_n 1, 1) := by decide +kernel
theorem dL_law_2044 : decode cL_law 2044 = .ok (.aload_n 3, 1) := by decide +kernel
theorem dL_law_2045 : decode cL_law 2045 = .ok (.invokestatic 309, 3) := by decide +kernel
theorem dL_law_2048 : decode cL_law 2048 = .ok (.istore 6, 2) := by decide +kernel
theorem dL_law_2050 : decode cL_law 2050 = .ok (.aload_n 2, 1) := by decide +kernel
theorem dL_law_2051 : decode cL_law 2051 = .ok (.invokevirtual 311, 3) := by decide +kernel
theorem dL_law_2054 : decode cL_law 2054 = .ok (.istore 7, 2) := by decide +kernel
theorem dL_law_2056 : decode cL_law 2056 = .ok (.aload_n 2, 1) := by decide +kernel
theorem dL_law_2057 : decode cL_law 2057 = .ok (.invokevirtual 205, 3) := by decide +kernel
theorem dL_law_2060 : decode cL_law 2060 = .ok (.iload 6, 2) := by decide +kernel
theorem dL_law_2062 : decode cL_law 2062 = .ok (.if_icmp .eq 5, 3) := by decide +kernel
theorem dL_law_2065 : decode cL_law 2065 = .ok (.iconst 0, 1) := by decide +kernel
theorem dL_law_2066 : decode cL_law 2066 = .ok (.ireturn, 1) := by decide +kernel
theorem dL_law_2067 : decode cL_law 2067 = .ok (.iload 6, 2) := by decide +kernel
theorem dL_law_2069 : decode cL_law 2069 = .ok (.ifCond .ne 15, 3) := by decide +kernel
theorem dL_law_2072 : decode cL_law 2072 = .ok (.aload_n 3, 1) := by decide +kernel
theorem dL_law_2073 : decode cL_law 2073 = .ok (.iconst 0, 1) := by decide +kernel
theorem dL_law_2074 : decode cL_law 2074 = .ok (.laload, 1) := by decide +kernel
theorem dL_law_2075 : decode cL_law 2075 = .ok (.iload 7, 2) := by decide +kernel
theorem dL_law_2077 : decode cL_law 2077 = .ok (.i2l, 1) := by decide +kernel
theorem dL_law_2078 : decode cL_law 2078 = .ok (.lcmp, 1) := by decide +kernel
theorem dL_law_2079 : decode cL_law 2079 = .ok (.ifCond .eq 5, 3) := by decide +kernel
theorem dL_law_2082 : decode cL_law 2082 = .ok (.iconst 0, 1) := by decide +kernel
theorem dL_law_2083 : decode cL_law 2083 = .ok (.ireturn, 1) := by decide +kernel
theorem dL_law_2084 : decode cL_law 2084 = .ok (.goto 1423, 3) := by decide +kernel
theorem dL_law_2087 : decode cL_law 2087 = .ok (.aload_n 1, 1) := by decide +kernel
theorem dL_law_2088 : decode cL_law 2088 = .ok (.aload_n 3, 1) := by decide +kernel
theorem dL_law_2089 : decode cL_law 2089 = .ok (.invokestatic 312, 3) := by decide +kernel
theorem dL_law_2092 : decode cL_law 2092 = .ok (.istore 6, 2) := by decide +kernel
theorem dL_law_2094 : decode cL_law 2094 = .ok (.aload_n 2, 1) := by decide +kernel
theorem dL_law_2095 : decode cL_law 2095 = .ok (.invokevirtual 314, 3) := by decide +kernel
theorem dL_law_2098 : decode cL_law 2098 = .ok (.istore 7, 2) := by decide +kernel
theorem dL_law_2100 : decode cL_law 2100 = .ok (.aload_n 2, 1) := by decide +kernel
theorem dL_law_2101 : decode cL_law 2101 = .ok (.invokevirtual 205, 3) := by decide +kernel
theorem dL_law_2104 : decode cL_law 2104 = .ok (.iload 6, 2) := by decide +kernel
theorem dL_law_2106 : decode cL_law 2106 = .ok (.if_icmp .eq 5, 3) := by decide +kernel
theorem dL_law_2109 : decode cL_law 2109 = .ok (.iconst 0, 1) := by decide +kernel
theorem dL_law_2110 : decode cL_law 2110 = .ok (.ireturn, 1) := by decide +kernel
theorem dL_law_2111 : decode cL_law 2111 = .ok (.iload 6, 2) := by decide +kernel
theorem dL_law_2113 : decode cL_law 2113 = .ok (.ifCond .ne 15, 3) := by decide +kernel
theorem dL_law_2116 : decode cL_law 2116 = .ok (.aload_n 3, 1) := by decide +kernel
theorem dL_law_2117 : decode cL_law 2117 = .ok (.iconst 0, 1) := by decide +kernel
theorem dL_law_2118 : decode cL_law 2118 = .ok (.laload, 1) := by decide +kernel
theorem dL_law_2119 : decode cL_law 2119 = .ok (.iload 7, 2) := by decide +kernel
theorem dL_law_2121 : decode cL_law 2121 = .ok (.i2l, 1) := by decide +kernel
theorem dL_law_2122 : decode cL_law 2122 = .ok (.lcmp, 1) := by decide +kernel
theorem dL_law_2123 : decode cL_law 2123 = .ok (.ifCond .eq 5, 3) := by decide +kernel
theorem dL_law_2126 : decode cL_law 2126 = .ok (.iconst 0, 1) := by decide +kernel
theorem dL_law_2127 : decode cL_law 2127 = .ok (.ireturn, 1) := by decide +kernel
theorem dL_law_2128 : decode cL_law 2128 = .ok (.goto 1379, 3) := by decide +kernel
theorem dL_law_2131 : decode cL_law 2131 = .ok (.aload_n 1, 1) := by decide +kernel
theorem dL_law_2132 : decode cL_law 2132 = .ok (.aload_n 3, 1) := by decide +kernel
theorem dL_law_2133 : decode cL_law 2133 = .ok (.invokestatic 315, 3) := by decide +kernel
theorem dL_law_2136 : decode cL_law 2136 = .ok (.istore 6, 2) := by decide +kernel
theorem dL_law_2138 : decode cL_law 2138 = .ok (.aload_n 2, 1) := by decide +kernel
theorem dL_law_2139 : decode cL_law 2139 = .ok (.invokevirtual 317, 3) := by decide +kernel
theorem dL_law_2142 : decode cL_law 2142 = .ok (.istore 7, 2) := by decide +kernel
theorem dL_law_2144 : decode cL_law 2144 = .ok (.aload_n 2, 1) := by decide +kernel
theorem dL_law_2145 : decode cL_law 2145 = .ok (.invokevirtual 205, 3) := by decide +kernel
theorem dL_law_2148 : decode cL_law 2148 = .ok (.iload 6, 2) := by decide +kernel
theorem dL_law_2150 : decode cL_law 2150 = .ok (.if_icmp .eq 5, 3) := by decide +kernel
theorem dL_law_2153 : decode cL_law 2153 = .ok (.iconst 0, 1) := by decide +kernel
theorem dL_law_2154 : decode cL_law 2154 = .ok (.ireturn, 1) := by decide +kernel
theorem dL_law_2155 : decode cL_law 2155 = .ok (.iload 6, 2) := by decide +kernel
theorem dL_law_2157 : decode cL_law 2157 = .ok (.ifCond .ne 15, 3) := by decide +kernel
theorem dL_law_2160 : decode cL_law 2160 = .ok (.aload_n 3, 1) := by decide +kernel
theorem dL_law_2161 : decode cL_law 2161 = .ok (.iconst 0, 1) := by decide +kernel
theorem dL_law_2162 : decode cL_law 2162 = .ok (.laload, 1) := by decide +kernel
theorem dL_law_2163 : decode cL_law 2163 = .ok (.iload 7, 2) := by decide +kernel
theorem dL_law_2165 : decode cL_law 2165 = .ok (.i2l, 1) := by decide +kernel
theorem dL_law_2166 : decode cL_law 2166 = .ok (.lcmp, 1) := by decide +kernel
theorem dL_law_2167 : decode cL_law 2167 = .ok (.ifCond .eq 5, 3) := by decide +kernel
theorem dL_law_2170 : decode cL_law 2170 = .ok (.iconst 0, 1) := by decide +kernel
theorem dL_law_2171 : decode cL_law 2171 = .ok (.ireturn, 1) := by decide +kernel
theorem dL_law_2172 : decode cL_law 2172 = .ok (.goto 1335, 3) := by decide +kernel
theorem dL_law_2175 : decode cL_law 2175 = .ok (.aload_n 1, 1) := by decide +kernel
theorem dL_law_2176 : decode cL_law 2176 = .ok (.aload_n 0, 1) := by decide +kernel
theorem dL_law_2177 : decode cL_law 2177 = .ok (.iload 5, 2) := by decide +kernel
theorem dL_law_2179 : decode cL_law 2179 = .ok (.iconst 1, 1) := by decide +kernel
theorem dL_law_2180 : decode cL_law 2180 = .ok (.iadd, 1) := by decide +kernel
theorem dL_law_2181 : decode cL_law 2181 = .ok (.iaload, 1) := by decide +kernel
theorem dL_law_2182 : decode cL_law 2182 = .ok (.aload_n 3, 1) := by decide +kernel
theorem dL_law_2183 : decode cL_law 2183 = .ok (.invokestatic 318, 3) := by decide +kernel
theorem dL_law_2186 : decode cL_law 2186 = .ok (.istore 6, 2) := by decide +kernel
theorem dL_law_2188 : decode cL_law 2188 = .ok (.aload_n 2, 1) := by decide +kernel
theorem dL_law_2189 : decode cL_law 2189 = .ok (.aload_n 0, 1) := by decide +kernel
theorem dL_law_2190 : decode cL_law 2190 = .ok (.iload 5, 2) := by decide +kernel
theorem dL_law_2192 : decode cL_law 2192 = .ok (.iconst 1, 1) := by decide +kernel
theorem dL_law_2193 : decode cL_law 2193 = .ok (.iadd, 1) := by decide +kernel
theorem dL_law_2194 : decode cL_law 2194 = .ok (.iaload, 1) := by decide +kernel
theorem dL_law_2195 : decode cL_law 2195 = .ok (.invokevirtual 320, 3) := by decide +kernel
theorem dL_law_2198 : decode cL_law 2198 = .ok (.istore 7, 2) := by decide +kernel
theorem dL_law_2200 : decode cL_law 2200 = .ok (.aload_n 2, 1) := by decide +kernel
theorem dL_law_2201 : decode cL_law 2201 = .ok (.invokevirtual 205, 3) := by decide +kernel
theorem dL_law_2204 : decode cL_law 2204 = .ok (.iload 6, 2) := by decide +kernel
theorem dL_law_2206 : decode cL_law 2206 = .ok (.if_icmp .eq 5, 3) := by decide +kernel
theorem dL_law_2209 : decode cL_law 2209 = .ok (.iconst 0, 1) := by decide +kernel
theorem dL_law_2210 : decode cL_law 2210 = .ok (.ireturn, 1) := by decide +kernel
theorem dL_law_2211 : decode cL_law 2211 = .ok (.iload 6, 2) := by decide +kernel
theorem dL_law_2213 : decode cL_law 2213 = .ok (.ifCond .ne 15, 3) := by decide +kernel
theorem dL_law_2216 : decode cL_law 2216 = .ok (.aload_n 3, 1) := by decide +kernel
theorem dL_law_2217 : decode cL_law 2217 = .ok (.iconst 0, 1) := by decide +kernel
theorem dL_law_2218 : decode cL_law 2218 = .ok (.laload, 1) := by decide +kernel
theorem dL_law_2219 : decode cL_law 2219 = .ok (.iload 7, 2) := by decide +kernel
theorem dL_law_2221 : decode cL_law 2221 = .ok (.i2l, 1) := by decide +kernel
theorem dL_law_2222 : decode cL_law 2222 = .ok (.lcmp, 1) := by decide +kernel
theorem dL_law_2223 : decode cL_law 2223 = .ok (.ifCond .eq 5, 3) := by decide +kernel
theorem dL_law_2226 : decode cL_law 2226 = .ok (.iconst 0, 1) := by decide +kernel
theorem dL_law_2227 : decode cL_law 2227 = .ok (.ireturn, 1) := by decide +kernel
theorem dL_law_2228 : decode cL_law 2228 = .ok (.goto 1279, 3) := by decide +kernel
theorem dL_law_2231 : decode cL_law 2231 = .ok (.aload_n 1, 1) := by decide +kernel
theorem dL_law_2232 : decode cL_law 2232 = .ok (.aload_n 0, 1) := by decide +kernel
theorem dL_law_2233 : decode cL_law 2233 = .ok (.iload 5, 2) := by decide +kernel
theorem dL_law_2235 : decode cL_law 2235 = .ok (.iconst 1, 1) := by decide +kernel
theorem dL_law_2236 : decode cL_law 2236 = .ok (.iadd, 1) := by decide +kernel
theorem dL_law_2237 : decode cL_law 2237 = .ok (.iaload, 1) := by decide +kernel
theorem dL_law_2238 : decode cL_law 2238 = .ok (.aload_n 0, 1) := by decide +kernel
theorem dL_law_2239 : decode cL_law 2239 = .ok (.iload 5, 2) := by decide +kernel
theorem dL_law_2241 : decode cL_law 2241 = .ok (.iconst 2, 1) := by decide +kernel
theorem dL_law_2242 : decode cL_law 2242 = .ok (.iadd, 1) := by decide +kernel
theorem dL_law_2243 : decode cL_law 2243 = .ok (.iaload, 1) := by decide +kernel
theorem dL_law_2244 : decode cL_law 2244 = .ok (.aload_n 0, 1) := by decide +kernel
theorem dL_law_2245 : decode cL_law 2245 = .ok (.iload 5, 2) := by decide +kernel
theorem dL_law_2247 : decode cL_law 2247 = .ok (.iconst 3, 1) := by decide +kernel
theorem dL_law_2248 : decode cL_law 2248 = .ok (.iadd, 1) := by decide +kernel
theorem dL_law_2249 : decode cL_law 2249 = .ok (.iaload, 1) := by decide +kernel
theorem dL_law_2250 : decode cL_law 2250 = .ok (.aload_n 3, 1) := by decide +kernel
theorem dL_law_2251 : decode cL_law 2251 = .ok (.invokestatic 321, 3) := by decide +kernel
theorem dL_law_2254 : decode cL_law 2254 = .ok (.istore 6, 2) := by decide +kernel
theorem dL_law_2256 : decode cL_law 2256 = .ok (.aload_n 2, 1) := by decide +kernel
theorem dL_law_2257 : decode cL_law 2257 = .ok (.aload_n 0, 1) := by decide +kernel
theorem dL_law_2258 : decode cL_law 2258 = .ok (.iload 5, 2) := by decide +kernel
theorem dL_law_2260 : decode cL_law 2260 = .ok (.iconst 1, 1) := by decide +kernel
theorem dL_law_2261 : decode cL_law 2261 = .ok (.iadd, 1) := by decide +kernel
theorem dL_law_2262 : decode cL_law 2262 = .ok (.iaload, 1) := by decide +kernel
theorem dL_law_2263 : decode cL_law 2263 = .ok (.aload_n 0, 1) := by decide +kernel
theorem dL_law_2264 : decode cL_law 2264 = .ok (.iload 5, 2) := by decide +kernel
theorem dL_law_2266 : decode cL_law 2266 = .ok (.iconst 2, 1) := by decide +kernel
theorem dL_law_2267 : decode cL_law 2267 = .ok (.iadd, 1) := by decide +kernel
theorem dL_law_2268 : decode cL_law 2268 = .ok (.iaload, 1) := by decide +kernel
theorem dL_law_2269 : decode cL_law 2269 = .ok (.aload_n 0, 1) := by decide +kernel
theorem dL_law_2270 : decode cL_law 2270 = .ok (.iload 5, 2) := by decide +kernel
theorem dL_law_2272 : decode cL_law 2272 = .ok (.iconst 3, 1) := by decide +kernel
theorem dL_law_2273 : decode cL_law 2273 = .ok (.iadd, 1) := by decide +kernel
theorem dL_law_2274 : decode cL_law 2274 = .ok (.iaload, 1) := by decide +kernel
theorem dL_law_2275 : decode cL_law 2275 = .ok (.invokevirtual 324, 3) := by decide +kernel
theorem dL_law_2278 : decode cL_law 2278 = .ok (.istore 7, 2) := by decide +kernel
theorem dL_law_2280 : decode cL_law 2280 = .ok (.aload_n 2, 1) := by decide +kernel
theorem dL_law_2281 : decode cL_law 2281 = .ok (.invokevirtual 205, 3) := by decide +kernel
theorem dL_law_2284 : decode cL_law 2284 = .ok (.iload 6, 2) := by decide +kernel
theorem dL_law_2286 : decode cL_law 2286 = .ok (.if_icmp .eq 5, 3) := by decide +kernel
theorem dL_law_2289 : decode cL_law 2289 = .ok (.iconst 0, 1) := by decide +kernel
theorem dL_law_2290 : decode cL_law 2290 = .ok (.ireturn, 1) := by decide +kernel
theorem dL_law_2291 : decode cL_law 2291 = .ok (.iload 6, 2) := by decide +kernel
theorem dL_law_2293 : decode cL_law 2293 = .ok (.ifCond .ne 15, 3) := by decide +kernel
theorem dL_law_2296 : decode cL_law 2296 = .ok (.aload_n 3, 1) := by decide +kernel
theorem dL_law_2297 : decode cL_law 2297 = .ok (.iconst 0, 1) := by decide +kernel
theorem dL_law_2298 : decode cL_law 2298 = .ok (.laload, 1) := by decide +kernel
theorem dL_law_2299 : decode cL_law 2299 = .ok (.iload 7, 2) := by decide +kernel
theorem dL_law_2301 : decode cL_law 2301 = .ok (.i2l, 1) := by decide +kernel
theorem dL_law_2302 : decode cL_law 2302 = .ok (.lcmp, 1) := by decide +kernel
theorem dL_law_2303 : decode cL_law 2303 = .ok (.ifCond .eq 5, 3) := by decide +kernel
theorem dL_law_2306 : decode cL_law 2306 = .ok (.iconst 0, 1) := by decide +kernel
theorem dL_law_2307 : decode cL_law 2307 = .ok (.ireturn, 1) := by decide +kernel
theorem dL_law_2308 : decode cL_law 2308 = .ok (.goto 1199, 3) := by decide +kernel
theorem dL_law_2311 : decode cL_law 2311 = .ok (.aload_n 1, 1) := by decide +kernel
theorem dL_law_2312 : decode cL_law 2312 = .ok (.aload_n 0, 1) := by decide +kernel
theorem dL_law_2313 : decode cL_law 2313 = .ok (.iload 5, 2) := by decide +kernel
theorem dL_law_2315 : decode cL_law 2315 = .ok (.iconst 1, 1) := by decide +kernel
theorem dL_law_2316 : decode cL_law 2316 = .ok (.iadd, 1) := by decide +kernel
theorem dL_law_2317 : decode cL_law 2317 = .ok (.iaload, 1) := by decide +kernel
theorem dL_law_2318 : decode cL_law 2318 = .ok (.aload_n 3, 1) := by decide +kernel
theorem dL_law_2319 : decode cL_law 2319 = .ok (.invokestatic 325, 3) := by decide +kernel
theorem dL_law_2322 : decode cL_law 2322 = .ok (.istore 6, 2) := by decide +kernel
theorem dL_law_2324 : decode cL_law 2324 = .ok (.aload_n 2, 1) := by decide +kernel
theorem dL_law_2325 : decode cL_law 2325 = .ok (.aload_n 0, 1) := by decide +kernel
theorem dL_law_2326 : decode cL_law 2326 = .ok (.iload 5, 2) := by decide +kernel
theorem dL_law_2328 : decode cL_law 2328 = .ok (.iconst 1, 1) := by decide +kernel
theorem dL_law_2329 : decode cL_law 2329 = .ok (.iadd, 1) := by decide +kernel
theorem dL_law_2330 : decode cL_law 2330 = .ok (.iaload, 1) := by decide +kernel
theorem dL_law_2331 : decode cL_law 2331 = .ok (.invokevirtual 327, 3) := by decide +kernel
theorem dL_law_2334 : decode cL_law 2334 = .ok (.istore 7, 2) := by decide +kernel
theorem dL_law_2336 : decode cL_law 2336 = .ok (.aload_n 2, 1) := by decide +kernel
theorem dL_law_2337 : decode cL_law 2337 = .ok (.invokevirtual 205, 3) := by decide +kernel
theorem dL_law_2340 : decode cL_law 2340 = .ok (.iload 6, 2) := by decide +kernel
theorem dL_law_2342 : decode cL_law 2342 = .ok (.if_icmp .eq 5, 3) := by decide +kernel
theorem dL_law_2345 : decode cL_law 2345 = .ok (.iconst 0, 1) := by decide +kernel
theorem dL_law_2346 : decode cL_law 2346 = .ok (.ireturn, 1) := by decide +kernel
theorem dL_law_2347 : decode cL_law 2347 = .ok (.iload 6, 2) := by decide +kernel
theorem dL_law_2349 : decode cL_law 2349 = .ok (.ifCond .ne 15, 3) := by decide +kernel
theorem dL_law_2352 : decode cL_law 2352 = .ok (.aload_n 3, 1) := by decide +kernel
theorem dL_law_2353 : decode cL_law 2353 = .ok (.iconst 0, 1) := by decide +kernel
theorem dL_law_2354 : decode cL_law 2354 = .ok (.laload, 1) := by decide +kernel
theorem dL_law_2355 : decode cL_law 2355 = .ok (.iload 7, 2) := by decide +kernel
theorem dL_law_2357 : decode cL_law 2357 = .ok (.i2l, 1) := by decide +kernel
theorem dL_law_2358 : decode cL_law 2358 = .ok (.lcmp, 1) := by decide +kernel
theorem dL_law_2359 : decode cL_law 2359 = .ok (.ifCond .eq 5, 3) := by decide +kernel
theorem dL_law_2362 : decode cL_law 2362 = .ok (.iconst 0, 1) := by decide +kernel
theorem dL_law_2363 : decode cL_law 2363 = .ok (.ireturn, 1) := by decide +kernel
theorem dL_law_2364 : decode cL_law 2364 = .ok (.goto 1143, 3) := by decide +kernel
theorem dL_law_2367 : decode cL_law 2367 = .ok (.aload_n 1, 1) := by decide +kernel
theorem dL_law_2368 : decode cL_law 2368 = .ok (.aload_n 0, 1) := by decide +kernel
theorem dL_law_2369 : decode cL_law 2369 = .ok (.iload 5, 2) := by decide +kernel
theorem dL_law_2371 : decode cL_law 2371 = .ok (.iconst 1, 1) := by decide +kernel
theorem dL_law_2372 : decode cL_law 2372 = .ok (.iadd, 1) := by decide +kernel
theorem dL_law_2373 : decode cL_law 2373 = .ok (.iaload, 1) := by decide +kernel
theorem dL_law_2374 : decode cL_law 2374 = .ok (.aload_n 3, 1) := by decide +kernel
theorem dL_law_2375 : decode cL_law 2375 = .ok (.invokestatic 328, 3) := by decide +kernel
theorem dL_law_2378 : decode cL_law 2378 = .ok (.istore 6, 2) := by decide +kernel
theorem dL_law_2380 : decode cL_law 2380 = .ok (.aload_n 2, 1) := by decide +kernel
theorem dL_law_2381 : decode cL_law 2381 = .ok (.aload_n 0, 1) := by decide +kernel
theorem dL_law_2382 : decode cL_law 2382 = .ok (.iload 5, 2) := by decide +kernel
theorem dL_law_2384 : decode cL_law 2384 = .ok (.iconst 1, 1) := by decide +kernel
theorem dL_law_2385 : decode cL_law 2385 = .ok (.iadd, 1) := by decide +kernel
theorem dL_law_2386 : decode cL_law 2386 = .ok (.iaload, 1) := by decide +kernel
theorem dL_law_2387 : decode cL_law 2387 = .ok (.invokevirtual 330, 3) := by decide +kernel
theorem dL_law_2390 : decode cL_law 2390 = .ok (.istore 7, 2) := by decide +kernel
theorem dL_law_2392 : decode cL_law 2392 = .ok (.aload_n 2, 1) := by decide +kernel
theorem dL_law_2393 : decode cL_law 2393 = .ok (.invokevirtual 205, 3) := by decide +kernel
theorem dL_law_2396 : decode cL_law 2396 = .ok (.iload 6, 2) := by decide +kernel
theorem dL_law_2398 : decode cL_law 2398 = .ok (.if_icmp .eq 5, 3) := by decide +kernel
theorem dL_law_2401 : decode cL_law 2401 = .ok (.iconst 0, 1) := by decide +kernel
theorem dL_law_2402 : decode cL_law 2402 = .ok (.ireturn, 1) := by decide +kernel
theorem dL_law_2403 : decode cL_law 2403 = .ok (.iload 6, 2) := by decide +kernel
theorem dL_law_2405 : decode cL_law 2405 = .ok (.ifCond .ne 15, 3) := by decide +kernel
theorem dL_law_2408 : decode cL_law 2408 = .ok (.aload_n 3, 1) := by decide +kernel
theorem dL_law_2409 : decode cL_law 2409 = .ok (.iconst 0, 1) := by decide +kernel
theorem dL_law_2410 : decode cL_law 2410 = .ok (.laload, 1) := by decide +kernel
theorem dL_law_2411 : decode cL_law 2411 = .ok (.iload 7, 2) := by decide +kernel
theorem dL_law_2413 : decode cL_law 2413 = .ok (.i2l, 1) := by decide +kernel
theorem dL_law_2414 : decode cL_law 2414 = .ok (.lcmp, 1) := by decide +kernel
theorem dL_law_2415 : decode cL_law 2415 = .ok (.ifCond .eq 5, 3) := by decide +kernel
theorem dL_law_2418 : decode cL_law 2418 = .ok (.iconst 0, 1) := by decide +kernel
theorem dL_law_2419 : decode cL_law 2419 = .ok (.ireturn, 1) := by decide +kernel
theorem dL_law_2420 : decode cL_law 2420 = .ok (.goto 1087, 3) := by decide +kernel
theorem dL_law_2423 : decode cL_law 2423 = .ok (.aload_n 1, 1) := by decide +kernel
theorem dL_law_2424 : decode cL_law 2424 = .ok (.aload_n 3, 1) := by decide +kernel
theorem dL_law_2425 : decode cL_law 2425 = .ok (.invokestatic 331, 3) := by decide +kernel
theorem dL_law_2428 : decode cL_law 2428 = .ok (.istore 6, 2) := by decide +kernel
theorem dL_law_2430 : decode cL_law 2430 = .ok (.aload_n 2, 1) := by decide +kernel
theorem dL_law_2431 : decode cL_law 2431 = .ok (.invokevirtual 333, 3) := by decide +kernel
theorem dL_law_2434 : decode cL_law 2434 = .ok (.istore 7, 2) := by decide +kernel
theorem dL_law_2436 : decode cL_law 2436 = .ok (.aload_n 2, 1) := by decide +kernel
theorem dL_law_2437 : decode cL_law 2437 = .ok (.invokevirtual 205, 3) := by decide +kernel
theorem dL_law_2440 : decode cL_law 2440 = .ok (.iload 6, 2) := by decide +kernel
theorem dL_law_2442 : decode cL_law 2442 = .ok (.if_icmp .eq 5, 3) := by decide +kernel
theorem dL_law_2445 : decode cL_law 2445 = .ok (.iconst 0, 1) := by decide +kernel
theorem dL_law_2446 : decode cL_law 2446 = .ok (.ireturn, 1) := by decide +kernel
theorem dL_law_2447 : decode cL_law 2447 = .ok (.iload 6, 2) := by decide +kernel
theorem dL_law_2449 : decode cL_law 2449 = .ok (.ifCond .ne 15, 3) := by decide +kernel
theorem dL_law_2452 : decode cL_law 2452 = .ok (.aload_n 3, 1) := by decide +kernel
theorem dL_law_2453 : decode cL_law 2453 = .ok (.iconst 0, 1) := by decide +kernel
theorem dL_law_2454 : decode cL_law 2454 = .ok (.laload, 1) := by decide +kernel
theorem dL_law_2455 : decode cL_law 2455 = .ok (.iload 7, 2) := by decide +kernel
theorem dL_law_2457 : decode cL_law 2457 = .ok (.i2l, 1) := by decide +kernel
theorem dL_law_2458 : decode cL_law 2458 = .ok (.lcmp, 1) := by decide +kernel
theorem dL_law_2459 : decode cL_law 2459 = .ok (.ifCond .eq 5, 3) := by decide +kernel
theorem dL_law_2462 : decode cL_law 2462 = .ok (.iconst 0, 1) := by decide +kernel
theorem dL_law_2463 : decode cL_law 2463 = .ok (.ireturn, 1) := by decide +kernel
theorem dL_law_2464 : decode cL_law 2464 = .ok (.goto 1043, 3) := by decide +kernel
theorem dL_law_2467 : decode cL_law 2467 = .ok (.aload_n 1, 1) := by decide +kernel
theorem dL_law_2468 : decode cL_law 2468 = .ok (.aload_n 3, 1) := by decide +kernel
theorem dL_law_2469 : decode cL_law 2469 = .ok (.invokestatic 334, 3) := by decide +kernel
theorem dL_law_2472 : decode cL_law 2472 = .ok (.istore 6, 2) := by decide +kernel
theorem dL_law_2474 : decode cL_law 2474 = .ok (.aload_n 2, 1) := by decide +kernel
theorem dL_law_2475 : decode cL_law 2475 = .ok (.invokevirtual 336, 3) := by decide +kernel
theorem dL_law_2478 : decode cL_law 2478 = .ok (.istore 7, 2) := by decide +kernel
theorem dL_law_2480 : decode cL_law 2480 = .ok (.aload_n 2, 1) := by decide +kernel
theorem dL_law_2481 : decode cL_law 2481 = .ok (.invokevirtual 205, 3) := by decide +kernel
theorem dL_law_2484 : decode cL_law 2484 = .ok (.iload 6, 2) := by decide +kernel
theorem dL_law_2486 : decode cL_law 2486 = .ok (.if_icmp .eq 5, 3) := by decide +kernel
theorem dL_law_2489 : decode cL_law 2489 = .ok (.iconst 0, 1) := by decide +kernel
theorem dL_law_2490 : decode cL_law 2490 = .ok (.ireturn, 1) := by decide +kernel
theorem dL_law_2491 : decode cL_law 2491 = .ok (.iload 6, 2) := by decide +kernel
theorem dL_law_2493 : decode cL_law 2493 = .ok (.ifCond .ne 15, 3) := by decide +kernel
theorem dL_law_2496 : decode cL_law 2496 = .ok (.aload_n 3, 1) := by decide +kernel
theorem dL_law_2497 : decode cL_law 2497 = .ok (.iconst 0, 1) := by decide +kernel
theorem dL_law_2498 : decode cL_law 2498 = .ok (.laload, 1) := by decide +kernel
theorem dL_law_2499 : decode cL_law 2499 = .ok (.iload 7, 2) := by decide +kernel
theorem dL_law_2501 : decode cL_law 2501 = .ok (.i2l, 1) := by decide +kernel
theorem dL_law_2502 : decode cL_law 2502 = .ok (.lcmp, 1) := by decide +kernel
theorem dL_law_2503 : decode cL_law 2503 = .ok (.ifCond .eq 5, 3) := by decide +kernel
theorem dL_law_2506 : decode cL_law 2506 = .ok (.iconst 0, 1) := by decide +kernel
theorem dL_law_2507 : decode cL_law 2507 = .ok (.ireturn, 1) := by decide +kernel
theorem dL_law_2508 : decode cL_law 2508 = .ok (.goto 999, 3) := by decide +kernel
theorem dL_law_2511 : decode cL_law 2511 = .ok (.aload_n 1, 1) := by decide +kernel
theorem dL_law_2512 : decode cL_law 2512 = .ok (.aload 4, 2) := by decide +kernel
theorem dL_law_2514 : decode cL_law 2514 = .ok (.invokestatic 337, 3) := by decide +kernel
theorem dL_law_2517 : decode cL_law 2517 = .ok (.istore 6, 2) := by decide +kernel
theorem dL_law_2519 : decode cL_law 2519 = .ok (.aload_n 2, 1) := by decide +kernel
theorem dL_law_2520 : decode cL_law 2520 = .ok (.invokevirtual 340, 3) := by decide +kernel
theorem dL_law_2523 : decode cL_law 2523 = .ok (.fstore 7, 2) := by decide +kernel
theorem dL_law_2525 : decode cL_law 2525 = .ok (.aload_n 2, 1) := by decide +kernel
theorem dL_law_2526 : decode cL_law 2526 = .ok (.invokevirtual 205, 3) := by decide +kernel
theorem dL_law_2529 : decode cL_law 2529 = .ok (.iload 6, 2) := by decide +kernel
theorem dL_law_2531 : decode cL_law 2531 = .ok (.if_icmp .eq 5, 3) := by decide +kernel
theorem dL_law_2534 : decode cL_law 2534 = .ok (.iconst 0, 1) := by decide +kernel
theorem dL_law_2535 : decode cL_law 2535 = .ok (.ireturn, 1) := by decide +kernel
theorem dL_law_2536 : decode cL_law 2536 = .ok (.iload 6, 2) := by decide +kernel
theorem dL_law_2538 : decode cL_law 2538 = .ok (.ifCond .ne 36, 3) := by decide +kernel
theorem dL_law_2541 : decode cL_law 2541 = .ok (.aload 4, 2) := by decide +kernel
theorem dL_law_2543 : decode cL_law 2543 = .ok (.iconst 0, 1) := by decide +kernel
theorem dL_law_2544 : decode cL_law 2544 = .ok (.daload, 1) := by decide +kernel
theorem dL_law_2545 : decode cL_law 2545 = .ok (.fload 7, 2) := by decide +kernel
theorem dL_law_2547 : decode cL_law 2547 = .ok (.f2d, 1) := by decide +kernel
theorem dL_law_2548 : decode cL_law 2548 = .ok (.dcmp .l, 1) := by decide +kernel
theorem dL_law_2549 : decode cL_law 2549 = .ok (.ifCond .eq 25, 3) := by decide +kernel
theorem dL_law_2552 : decode cL_law 2552 = .ok (.aload 4, 2) := by decide +kernel
theorem dL_law_2554 : decode cL_law 2554 = .ok (.iconst 0, 1) := by decide +kernel
theorem dL_law_2555 : decode cL_law 2555 = .ok (.daload, 1) := by decide +kernel
theorem dL_law_2556 : decode cL_law 2556 = .ok (.aload 4, 2) := by decide +kernel
theorem dL_law_2558 : decode cL_law 2558 = .ok (.iconst 0, 1) := by decide +kernel
theorem dL_law_2559 : decode cL_law 2559 = .ok (.daload, 1) := by decide +kernel
theorem dL_law_2560 : decode cL_law 2560 = .ok (.dcmp .l, 1) := by decide +kernel
theorem dL_law_2561 : decode cL_law 2561 = .ok (.ifCond .eq 11, 3) := by decide +kernel
theorem dL_law_2564 : decode cL_law 2564 = .ok (.fload 7, 2) := by decide +kernel
theorem dL_law_2566 : decode cL_law 2566 = .ok (.fload 7, 2) := by decide +kernel
theorem dL_law_2568 : decode cL_law 2568 = .ok (.fcmp .l, 1) := by decide +kernel
theorem dL_law_2569 : decode cL_law 2569 = .ok (.ifCond .ne 5, 3) := by decide +kernel
theorem dL_law_2572 : decode cL_law 2572 = .ok (.iconst 0, 1) := by decide +kernel
theorem dL_law_2573 : decode cL_law 2573 = .ok (.ireturn, 1) := by decide +kernel
theorem dL_law_2574 : decode cL_law 2574 = .ok (.goto 933, 3) := by decide +kernel
theorem dL_law_2577 : decode cL_law 2577 = .ok (.aload_n 1, 1) := by decide +kernel
theorem dL_law_2578 : decode cL_law 2578 = .ok (.aload 4, 2) := by decide +kernel
theorem dL_law_2580 : decode cL_law 2580 = .ok (.invokestatic 341, 3) := by decide +kernel
theorem dL_law_2583 : decode cL_law 2583 = .ok (.istore 6, 2) := by decide +kernel
theorem dL_law_2585 : decode cL_law 2585 = .ok (.aload_n 2, 1) := by decide +kernel
theorem dL_law_2586 : decode cL_law 2586 = .ok (.invokevirtual 343, 3) := by decide +kernel
theorem dL_law_2589 : decode cL_law 2589 = .ok (.dstore 7, 2) := by decide +kernel
theorem dL_law_2591 : decode cL_law 2591 = .ok (.aload_n 2, 1) := by decide +kernel
theorem dL_law_2592 : decode cL_law 2592 = .ok (.invokevirtual 205, 3) := by decide +kernel
theorem dL_law_2595 : decode cL_law 2595 = .ok (.iload 6, 2) := by decide +kernel
theorem dL_law_2597 : decode cL_law 2597 = .ok (.if_icmp .eq 5, 3) := by decide +kernel
theorem dL_law_2600 : decode cL_law 2600 = .ok (.iconst 0, 1) := by decide +kernel
theorem dL_law_2601 : decode cL_law 2601 = .ok (.ireturn, 1) := by decide +kernel
theorem dL_law_2602 : decode cL_law 2602 = .ok (.iload 6, 2) := by decide +kernel
theorem dL_law_2604 : decode cL_law 2604 = .ok (.ifCond .ne 35, 3) := by decide +kernel
theorem dL_law_2607 : decode cL_law 2607 = .ok (.aload 4, 2) := by decide +kernel
theorem dL_law_2609 : decode cL_law 2609 = .ok (.iconst 0, 1) := by decide +kernel
theorem dL_law_2610 : decode cL_law 2610 = .ok (.daload, 1) := by decide +kernel
theorem dL_law_2611 : decode cL_law 2611 = .ok (.dload 7, 2) := by decide +kernel
theorem dL_law_2613 : decode cL_law 2613 = .ok (.dcmp .l, 1) := by decide +kernel
theorem dL_law_2614 : decode cL_law 2614 = .ok (.ifCond .eq 25, 3) := by decide +kernel
theorem dL_law_2617 : decode cL_law 2617 = .ok (.aload 4, 2) := by decide +kernel
theorem dL_law_2619 : decode cL_law 2619 = .ok (.iconst 0, 1) := by decide +kernel
theorem dL_law_2620 : decode cL_law 2620 = .ok (.daload, 1) := by decide +kernel
theorem dL_law_2621 : decode cL_law 2621 = .ok (.aload 4, 2) := by decide +kernel
theorem dL_law_2623 : decode cL_law 2623 = .ok (.iconst 0, 1) := by decide +kernel
theorem dL_law_2624 : decode cL_law 2624 = .ok (.daload, 1) := by decide +kernel
theorem dL_law_2625 : decode cL_law 2625 = .ok (.dcmp .l, 1) := by decide +kernel
theorem dL_law_2626 : decode cL_law 2626 = .ok (.ifCond .eq 11, 3) := by decide +kernel
theorem dL_law_2629 : decode cL_law 2629 = .ok (.dload 7, 2) := by decide +kernel
theorem dL_law_2631 : decode cL_law 2631 = .ok (.dload 7, 2) := by decide +kernel
theorem dL_law_2633 : decode cL_law 2633 = .ok (.dcmp .l, 1) := by decide +kernel
theorem dL_law_2634 : decode cL_law 2634 = .ok (.ifCond .ne 5, 3) := by decide +kernel
theorem dL_law_2637 : decode cL_law 2637 = .ok (.iconst 0, 1) := by decide +kernel
theorem dL_law_2638 : decode cL_law 2638 = .ok (.ireturn, 1) := by decide +kernel
theorem dL_law_2639 : decode cL_law 2639 = .ok (.goto 868, 3) := by decide +kernel
theorem dL_law_2642 : decode cL_law 2642 = .ok (.aload_n 1, 1) := by decide +kernel
theorem dL_law_2643 : decode cL_law 2643 = .ok (.aload_n 3, 1) := by decide +kernel
theorem dL_law_2644 : decode cL_law 2644 = .ok (.invokestatic 344, 3) := by decide +kernel
theorem dL_law_2647 : decode cL_law 2647 = .ok (.istore 6, 2) := by decide +kernel
theorem dL_law_2649 : decode cL_law 2649 = .ok (.aload_n 2, 1) := by decide +kernel
theorem dL_law_2650 : decode cL_law 2650 = .ok (.invokevirtual 346, 3) := by decide +kernel
theorem dL_law_2653 : decode cL_law 2653 = .ok (.istore 7, 2) := by decide +kernel
theorem dL_law_2655 : decode cL_law 2655 = .ok (.aload_n 2, 1) := by decide +kernel
theorem dL_law_2656 : decode cL_law 2656 = .ok (.invokevirtual 205, 3) := by decide +kernel
theorem dL_law_2659 : decode cL_law 2659 = .ok (.iload 6, 2) := by decide +kernel
theorem dL_law_2661 : decode cL_law 2661 = .ok (.if_icmp .eq 5, 3) := by decide +kernel
theorem dL_law_2664 : decode cL_law 2664 = .ok (.iconst 0, 1) := by decide +kernel
theorem dL_law_2665 : decode cL_law 2665 = .ok (.ireturn, 1) := by decide +kernel
theorem dL_law_2666 : decode cL_law 2666 = .ok (.iload 6, 2) := by decide +kernel
theorem dL_law_2668 : decode cL_law 2668 = .ok (.ifCond .ne 15, 3) := by decide +kernel
theorem dL_law_2671 : decode cL_law 2671 = .ok (.aload_n 3, 1) := by decide +kernel
theorem dL_law_2672 : decode cL_law 2672 = .ok (.iconst 0, 1) := by decide +kernel
theorem dL_law_2673 : decode cL_law 2673 = .ok (.laload, 1) := by decide +kernel
theorem dL_law_2674 : decode cL_law 2674 = .ok (.iload 7, 2) := by decide +kernel
theorem dL_law_2676 : decode cL_law 2676 = .ok (.i2l, 1) := by decide +kernel
theorem dL_law_2677 : decode cL_law 2677 = .ok (.lcmp, 1) := by decide +kernel
theorem dL_law_2678 : decode cL_law 2678 = .ok (.ifCond .eq 5, 3) := by decide +kernel
theorem dL_law_2681 : decode cL_law 2681 = .ok (.iconst 0, 1) := by decide +kernel
theorem dL_law_2682 : decode cL_law 2682 = .ok (.ireturn, 1) := by decide +kernel
theorem dL_law_2683 : decode cL_law 2683 = .ok (.goto 824, 3) := by decide +kernel
theorem dL_law_2686 : decode cL_law 2686 = .ok (.aload_n 1, 1) := by decide +kernel
theorem dL_law_2687 : decode cL_law 2687 = .ok (.aload_n 3, 1) := by decide +kernel
theorem dL_law_2688 : decode cL_law 2688 = .ok (.invokestatic 347, 3) := by decide +kernel
theorem dL_law_2691 : decode cL_law 2691 = .ok (.istore 6, 2) := by decide +kernel
theorem dL_law_2693 : decode cL_law 2693 = .ok (.aload_n 2, 1) := by decide +kernel
theorem dL_law_2694 : decode cL_law 2694 = .ok (.invokevirtual 349, 3) := by decide +kernel
theorem dL_law_2697 : decode cL_law 2697 = .ok (.istore 7, 2) := by decide +kernel
theorem dL_law_2699 : decode cL_law 2699 = .ok (.aload_n 2, 1) := by decide +kernel
theorem dL_law_2700 : decode cL_law 2700 = .ok (.invokevirtual 205, 3) := by decide +kernel
theorem dL_law_2703 : decode cL_law 2703 = .ok (.iload 6, 2) := by decide +kernel
theorem dL_law_2705 : decode cL_law 2705 = .ok (.if_icmp .eq 5, 3) := by decide +kernel
theorem dL_law_2708 : decode cL_law 2708 = .ok (.iconst 0, 1) := by decide +kernel
theorem dL_law_2709 : decode cL_law 2709 = .ok (.ireturn, 1) := by decide +kernel
theorem dL_law_2710 : decode cL_law 2710 = .ok (.iload 6, 2) := by decide +kernel
theorem dL_law_2712 : decode cL_law 2712 = .ok (.ifCond .ne 15, 3) := by decide +kernel
theorem dL_law_2715 : decode cL_law 2715 = .ok (.aload_n 3, 1) := by decide +kernel
theorem dL_law_2716 : decode cL_law 2716 = .ok (.iconst 0, 1) := by decide +kernel
theorem dL_law_2717 : decode cL_law 2717 = .ok (.laload, 1) := by decide +kernel
theorem dL_law_2718 : decode cL_law 2718 = .ok (.iload 7, 2) := by decide +kernel
