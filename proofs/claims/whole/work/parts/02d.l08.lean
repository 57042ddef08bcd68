theorem dL_law__2000 : decode cL_law_ 2000 = .ok (.istore 5, 2) := by decide +kernel
theorem dL_law__2002 : decode cL_law_ 2002 = .ok (.aload_n 2, 1) := by decide +kernel
theorem dL_law__2003 : decode cL_law_ 2003 = .ok (.aload_n 0, 1) := by decide +kernel
theorem dL_law__2004 : decode cL_law_ 2004 = .ok (.iload 4, 2) := by decide +kernel
theorem dL_law__2006 : decode cL_law_ 2006 = .ok (.iconst 1, 1) := by decide +kernel
theorem dL_law__2007 : decode cL_law_ 2007 = .ok (.iadd, 1) := by decide +kernel
theorem dL_law__2008 : decode cL_law_ 2008 = .ok (.iaload, 1) := by decide +kernel
theorem dL_law__2009 : decode cL_law_ 2009 = .ok (.aload_n 0, 1) := by decide +kernel
theorem dL_law__2010 : decode cL_law_ 2010 = .ok (.iload 4, 2) := by decide +kernel
theorem dL_law__2012 : decode cL_law_ 2012 = .ok (.iconst 2, 1) := by decide +kernel
theorem dL_law__2013 : decode cL_law_ 2013 = .ok (.iadd, 1) := by decide +kernel
theorem dL_law__2014 : decode cL_law_ 2014 = .ok (.iaload, 1) := by decide +kernel
theorem dL_law__2015 : decode cL_law_ 2015 = .ok (.invokevirtual 232, 3) := by decide +kernel
theorem dL_law__2018 : decode cL_law_ 2018 = .ok (.lstore 6, 2) := by decide +kernel
theorem dL_law__2020 : decode cL_law_ 2020 = .ok (.aload_n 2, 1) := by decide +kernel
theorem dL_law__2021 : decode cL_law_ 2021 = .ok (.invokevirtual 122, 3) := by decide +kernel
theorem dL_law__2024 : decode cL_law_ 2024 = .ok (.iload 5, 2) := by decide +kernel
theorem dL_law__2026 : decode cL_law_ 2026 = .ok (.if_icmp .eq 5, 3) := by decide +kernel
theorem dL_law__2029 : decode cL_law_ 2029 = .ok (.iconst 0, 1) := by decide +kernel
theorem dL_law__2030 : decode cL_law_ 2030 = .ok (.ireturn, 1) := by decide +kernel
theorem dL_law__2031 : decode cL_law_ 2031 = .ok (.iload 5, 2) := by decide +kernel
theorem dL_law__2033 : decode cL_law_ 2033 = .ok (.ifCond .ne 14, 3) := by decide +kernel
theorem dL_law__2036 : decode cL_law_ 2036 = .ok (.aload_n 3, 1) := by decide +kernel
theorem dL_law__2037 : decode cL_law_ 2037 = .ok (.iconst 0, 1) := by decide +kernel
theorem dL_law__2038 : decode cL_law_ 2038 = .ok (.laload, 1) := by decide +kernel
theorem dL_law__2039 : decode cL_law_ 2039 = .ok (.lload 6, 2) := by decide +kernel
theorem dL_law__2041 : decode cL_law_ 2041 = .ok (.lcmp, 1) := by decide +kernel
theorem dL_law__2042 : decode cL_law_ 2042 = .ok (.ifCond .eq 5, 3) := by decide +kernel
theorem dL_law__2045 : decode cL_law_ 2045 = .ok (.iconst 0, 1) := by decide +kernel
theorem dL_law__2046 : decode cL_law_ 2046 = .ok (.ireturn, 1) := by decide +kernel
theorem dL_law__2047 : decode cL_law_ 2047 = .ok (.goto 437, 3) := by decide +kernel
theorem dL_law__2050 : decode cL_law_ 2050 = .ok (.aload_n 1, 1) := by decide +kernel
theorem dL_law__2051 : decode cL_law_ 2051 = .ok (.aload_n 0, 1) := by decide +kernel
theorem dL_law__2052 : decode cL_law_ 2052 = .ok (.iload 4, 2) := by decide +kernel
theorem dL_law__2054 : decode cL_law_ 2054 = .ok (.iconst 1, 1) := by decide +kernel
theorem dL_law__2055 : decode cL_law_ 2055 = .ok (.iadd, 1) := by decide +kernel
theorem dL_law__2056 : decode cL_law_ 2056 = .ok (.iaload, 1) := by decide +kernel
theorem dL_law__2057 : decode cL_law_ 2057 = .ok (.aload_n 0, 1) := by decide +kernel
theorem dL_law__2058 : decode cL_law_ 2058 = .ok (.iload 4, 2) := by decide +kernel
theorem dL_law__2060 : decode cL_law_ 2060 = .ok (.iconst 2, 1) := by decide +kernel
theorem dL_law__2061 : decode cL_law_ 2061 = .ok (.iadd, 1) := by decide +kernel
theorem dL_law__2062 : decode cL_law_ 2062 = .ok (.iaload, 1) := by decide +kernel
theorem dL_law__2063 : decode cL_law_ 2063 = .ok (.aload_n 0, 1) := by decide +kernel
theorem dL_law__2064 : decode cL_law_ 2064 = .ok (.iload 4, 2) := by decide +kernel
theorem dL_law__2066 : decode cL_law_ 2066 = .ok (.iconst 3, 1) := by decide +kernel
theorem dL_law__2067 : decode cL_law_ 2067 = .ok (.iadd, 1) := by decide +kernel
theorem dL_law__2068 : decode cL_law_ 2068 = .ok (.iaload, 1) := by decide +kernel
theorem dL_law__2069 : decode cL_law_ 2069 = .ok (.aload_n 3, 1) := by decide +kernel
theorem dL_law__2070 : decode cL_law_ 2070 = .ok (.invokestatic 233, 3) := by decide +kernel
theorem dL_law__2073 : decode cL_law_ 2073 = .ok (.istore 5, 2) := by decide +kernel
theorem dL_law__2075 : decode cL_law_ 2075 = .ok (.aload_n 2, 1) := by decide +kernel
theorem dL_law__2076 : decode cL_law_ 2076 = .ok (.aload_n 0, 1) := by decide +kernel
theorem dL_law__2077 : decode cL_law_ 2077 = .ok (.iload 4, 2) := by decide +kernel
theorem dL_law__2079 : decode cL_law_ 2079 = .ok (.iconst 1, 1) := by decide +kernel
theorem dL_law__2080 : decode cL_law_ 2080 = .ok (.iadd, 1) := by decide +kernel
theorem dL_law__2081 : decode cL_law_ 2081 = .ok (.iaload, 1) := by decide +kernel
theorem dL_law__2082 : decode cL_law_ 2082 = .ok (.aload_n 0, 1) := by decide +kernel
theorem dL_law__2083 : decode cL_law_ 2083 = .ok (.iload 4, 2) := by decide +kernel
theorem dL_law__2085 : decode cL_law_ 2085 = .ok (.iconst 2, 1) := by decide +kernel
theorem dL_law__2086 : decode cL_law_ 2086 = .ok (.iadd, 1) := by decide +kernel
theorem dL_law__2087 : decode cL_law_ 2087 = .ok (.iaload, 1) := by decide +kernel
theorem dL_law__2088 : decode cL_law_ 2088 = .ok (.aload_n 0, 1) := by decide +kernel
theorem dL_law__2089 : decode cL_law_ 2089 = .ok (.iload 4, 2) := by decide +kernel
theorem dL_law__2091 : decode cL_law_ 2091 = .ok (.iconst 3, 1) := by decide +kernel
theorem dL_law__2092 : decode cL_law_ 2092 = .ok (.iadd, 1) := by decide +kernel
theorem dL_law__2093 : decode cL_law_ 2093 = .ok (.iaload, 1) := by decide +kernel
theorem dL_law__2094 : decode cL_law_ 2094 = .ok (.invokevirtual 235, 3) := by decide +kernel
theorem dL_law__2097 : decode cL_law_ 2097 = .ok (.istore 6, 2) := by decide +kernel
theorem dL_law__2099 : decode cL_law_ 2099 = .ok (.aload_n 2, 1) := by decide +kernel
theorem dL_law__2100 : decode cL_law_ 2100 = .ok (.invokevirtual 122, 3) := by decide +kernel
theorem dL_law__2103 : decode cL_law_ 2103 = .ok (.iload 5, 2) := by decide +kernel
theorem dL_law__2105 : decode cL_law_ 2105 = .ok (.if_icmp .eq 5, 3) := by decide +kernel
theorem dL_law__2108 : decode cL_law_ 2108 = .ok (.iconst 0, 1) := by decide +kernel
theorem dL_law__2109 : decode cL_law_ 2109 = .ok (.ireturn, 1) := by decide +kernel
theorem dL_law__2110 : decode cL_law_ 2110 = .ok (.iload 5, 2) := by decide +kernel
theorem dL_law__2112 : decode cL_law_ 2112 = .ok (.ifCond .ne 15, 3) := by decide +kernel
theorem dL_law__2115 : decode cL_law_ 2115 = .ok (.aload_n 3, 1) := by decide +kernel
theorem dL_law__2116 : decode cL_law_ 2116 = .ok (.iconst 0, 1) := by decide +kernel
theorem dL_law__2117 : decode cL_law_ 2117 = .ok (.laload, 1) := by decide +kernel
theorem dL_law__2118 : decode cL_law_ 2118 = .ok (.iload 6, 2) := by decide +kernel
theorem dL_law__2120 : decode cL_law_ 2120 = .ok (.i2l, 1) := by decide +kernel
theorem dL_law__2121 : decode cL_law_ 2121 = .ok (.lcmp, 1) := by decide +kernel
theorem dL_law__2122 : decode cL_law_ 2122 = .ok (.ifCond .eq 5, 3) := by decide +kernel
theorem dL_law__2125 : decode cL_law_ 2125 = .ok (.iconst 0, 1) := by decide +kernel
theorem dL_law__2126 : decode cL_law_ 2126 = .ok (.ireturn, 1) := by decide +kernel
theorem dL_law__2127 : decode cL_law_ 2127 = .ok (.goto 357, 3) := by decide +kernel
theorem dL_law__2130 : decode cL_law_ 2130 = .ok (.aload_n 1, 1) := by decide +kernel
theorem dL_law__2131 : decode cL_law_ 2131 = .ok (.aload_n 0, 1) := by decide +kernel
theorem dL_law__2132 : decode cL_law_ 2132 = .ok (.iload 4, 2) := by decide +kernel
theorem dL_law__2134 : decode cL_law_ 2134 = .ok (.iconst 1, 1) := by decide +kernel
theorem dL_law__2135 : decode cL_law_ 2135 = .ok (.iadd, 1) := by decide +kernel
theorem dL_law__2136 : decode cL_law_ 2136 = .ok (.iaload, 1) := by decide +kernel
theorem dL_law__2137 : decode cL_law_ 2137 = .ok (.aload_n 3, 1) := by decide +kernel
theorem dL_law__2138 : decode cL_law_ 2138 = .ok (.invokestatic 236, 3) := by decide +kernel
theorem dL_law__2141 : decode cL_law_ 2141 = .ok (.istore 5, 2) := by decide +kernel
theorem dL_law__2143 : decode cL_law_ 2143 = .ok (.aload_n 2, 1) := by decide +kernel
theorem dL_law__2144 : decode cL_law_ 2144 = .ok (.aload_n 0, 1) := by decide +kernel
theorem dL_law__2145 : decode cL_law_ 2145 = .ok (.iload 4, 2) := by decide +kernel
theorem dL_law__2147 : decode cL_law_ 2147 = .ok (.iconst 1, 1) := by decide +kernel
theorem dL_law__2148 : decode cL_law_ 2148 = .ok (.iadd, 1) := by decide +kernel
theorem dL_law__2149 : decode cL_law_ 2149 = .ok (.iaload, 1) := by decide +kernel
theorem dL_law__2150 : decode cL_law_ 2150 = .ok (.invokevirtual 238, 3) := by decide +kernel
theorem dL_law__2153 : decode cL_law_ 2153 = .ok (.istore 6, 2) := by decide +kernel
theorem dL_law__2155 : decode cL_law_ 2155 = .ok (.aload_n 2, 1) := by decide +kernel
theorem dL_law__2156 : decode cL_law_ 2156 = .ok (.invokevirtual 122, 3) := by decide +kernel
theorem dL_law__2159 : decode cL_law_ 2159 = .ok (.iload 5, 2) := by decide +kernel
theorem dL_law__2161 : decode cL_law_ 2161 = .ok (.if_icmp .eq 5, 3) := by decide +kernel
theorem dL_law__2164 : decode cL_law_ 2164 = .ok (.iconst 0, 1) := by decide +kernel
theorem dL_law__2165 : decode cL_law_ 2165 = .ok (.ireturn, 1) := by decide +kernel
theorem dL_law__2166 : decode cL_law_ 2166 = .ok (.iload 5, 2) := by decide +kernel
theorem dL_law__2168 : decode cL_law_ 2168 = .ok (.ifCond .ne 15, 3) := by decide +kernel
theorem dL_law__2171 : decode cL_law_ 2171 = .ok (.aload_n 3, 1) := by decide +kernel
theorem dL_law__2172 : decode cL_law_ 2172 = .ok (.iconst 0, 1) := by decide +kernel
theorem dL_law__2173 : decode cL_law_ 2173 = .ok (.laload, 1) := by decide +kernel
theorem dL_law__2174 : decode cL_law_ 2174 = .ok (.iload 6, 2) := by decide +kernel
theorem dL_law__2176 : decode cL_law_ 2176 = .ok (.i2l, 1) := by decide +kernel
theorem dL_law__2177 : decode cL_law_ 2177 = .ok (.lcmp, 1) := by decide +kernel
theorem dL_law__2178 : decode cL_law_ 2178 = .ok (.ifCond .eq 5, 3) := by decide +kernel
theorem dL_law__2181 : decode cL_law_ 2181 = .ok (.iconst 0, 1) := by decide +kernel
theorem dL_law__2182 : decode cL_law_ 2182 = .ok (.ireturn, 1) := by decide +kernel
theorem dL_law__2183 : decode cL_law_ 2183 = .ok (.goto 301, 3) := by decide +kernel
theorem dL_law__2186 : decode cL_law_ 2186 = .ok (.aload_n 1, 1) := by decide +kernel
theorem dL_law__2187 : decode cL_law_ 2187 = .ok (.aload_n 0, 1) := by decide +kernel
theorem dL_law__2188 : decode cL_law_ 2188 = .ok (.iload 4, 2) := by decide +kernel
theorem dL_law__2190 : decode cL_law_ 2190 = .ok (.iconst 1, 1) := by decide +kernel
theorem dL_law__2191 : decode cL_law_ 2191 = .ok (.iadd, 1) := by decide +kernel
theorem dL_law__2192 : decode cL_law_ 2192 = .ok (.iaload, 1) := by decide +kernel
theorem dL_law__2193 : decode cL_law_ 2193 = .ok (.aload_n 0, 1) := by decide +kernel
theorem dL_law__2194 : decode cL_law_ 2194 = .ok (.iload 4, 2) := by decide +kernel
theorem dL_law__2196 : decode cL_law_ 2196 = .ok (.iconst 2, 1) := by decide +kernel
theorem dL_law__2197 : decode cL_law_ 2197 = .ok (.iadd, 1) := by decide +kernel
theorem dL_law__2198 : decode cL_law_ 2198 = .ok (.iaload, 1) := by decide +kernel
theorem dL_law__2199 : decode cL_law_ 2199 = .ok (.aload_n 3, 1) := by decide +kernel
theorem dL_law__2200 : decode cL_law_ 2200 = .ok (.invokestatic 239, 3) := by decide +kernel
theorem dL_law__2203 : decode cL_law_ 2203 = .ok (.istore 5, 2) := by decide +kernel
theorem dL_law__2205 : decode cL_law_ 2205 = .ok (.aload_n 2, 1) := by decide +kernel
theorem dL_law__2206 : decode cL_law_ 2206 = .ok (.aload_n 0, 1) := by decide +kernel
theorem dL_law__2207 : decode cL_law_ 2207 = .ok (.iload 4, 2) := by decide +kernel
theorem dL_law__2209 : decode cL_law_ 2209 = .ok (.iconst 1, 1) := by decide +kernel
theorem dL_law__2210 : decode cL_law_ 2210 = .ok (.iadd, 1) := by decide +kernel
theorem dL_law__2211 : decode cL_law_ 2211 = .ok (.iaload, 1) := by decide +kernel
theorem dL_law__2212 : decode cL_law_ 2212 = .ok (.aload_n 0, 1) := by decide +kernel
theorem dL_law__2213 : decode cL_law_ 2213 = .ok (.iload 4, 2) := by decide +kernel
theorem dL_law__2215 : decode cL_law_ 2215 = .ok (.iconst 2, 1) := by decide +kernel
theorem dL_law__2216 : decode cL_law_ 2216 = .ok (.iadd, 1) := by decide +kernel
theorem dL_law__2217 : decode cL_law_ 2217 = .ok (.iaload, 1) := by decide +kernel
theorem dL_law__2218 : decode cL_law_ 2218 = .ok (.invokevirtual 241, 3) := by decide +kernel
theorem dL_law__2221 : decode cL_law_ 2221 = .ok (.istore 6, 2) := by decide +kernel
theorem dL_law__2223 : decode cL_law_ 2223 = .ok (.aload_n 2, 1) := by decide +kernel
theorem dL_law__2224 : decode cL_law_ 2224 = .ok (.invokevirtual 122, 3) := by decide +kernel
