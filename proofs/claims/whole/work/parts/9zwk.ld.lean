def kL_law_r40 : List (Nat × Instr × Nat) := [(2000, .istore 5, 2), (2002, .aload_n 2, 1), (2003, .aload_n 0, 1), (2004, .iload 4, 2), (2006, .iconst 1, 1), (2007, .iadd, 1), (2008, .iaload, 1), (2009, .aload_n 0, 1), (2010, .iload 4, 2), (2012, .iconst 2, 1), (2013, .iadd, 1), (2014, .iaload, 1), (2015, .invokevirtual 232, 3), (2018, .lstore 6, 2), (2020, .aload_n 2, 1), (2021, .invokevirtual 122, 3), (2024, .iload 5, 2), (2026, .if_icmp .eq 5, 3), (2029, .iconst 0, 1), (2030, .ireturn, 1), (2031, .iload 5, 2), (2033, .ifCond .ne 14, 3), (2036, .aload_n 3, 1), (2037, .iconst 0, 1), (2038, .laload, 1), (2039, .lload 6, 2), (2041, .lcmp, 1), (2042, .ifCond .eq 5, 3), (2045, .iconst 0, 1), (2046, .ireturn, 1)]
set_option maxRecDepth 100000 in
theorem kL_law_r40_ok : kL_law_r40.all (fun q => decide (decode cL_law_ q.1 = .ok q.2)) = true := by decide +kernel
theorem dL_law__2000 : decode cL_law_ 2000 = .ok (.istore 5, 2) := dk_get kL_law_r40_ok 0 rfl
theorem dL_law__2002 : decode cL_law_ 2002 = .ok (.aload_n 2, 1) := dk_get kL_law_r40_ok 1 rfl
theorem dL_law__2003 : decode cL_law_ 2003 = .ok (.aload_n 0, 1) := dk_get kL_law_r40_ok 2 rfl
theorem dL_law__2004 : decode cL_law_ 2004 = .ok (.iload 4, 2) := dk_get kL_law_r40_ok 3 rfl
theorem dL_law__2006 : decode cL_law_ 2006 = .ok (.iconst 1, 1) := dk_get kL_law_r40_ok 4 rfl
theorem dL_law__2007 : decode cL_law_ 2007 = .ok (.iadd, 1) := dk_get kL_law_r40_ok 5 rfl
theorem dL_law__2008 : decode cL_law_ 2008 = .ok (.iaload, 1) := dk_get kL_law_r40_ok 6 rfl
theorem dL_law__2009 : decode cL_law_ 2009 = .ok (.aload_n 0, 1) := dk_get kL_law_r40_ok 7 rfl
theorem dL_law__2010 : decode cL_law_ 2010 = .ok (.iload 4, 2) := dk_get kL_law_r40_ok 8 rfl
theorem dL_law__2012 : decode cL_law_ 2012 = .ok (.iconst 2, 1) := dk_get kL_law_r40_ok 9 rfl
theorem dL_law__2013 : decode cL_law_ 2013 = .ok (.iadd, 1) := dk_get kL_law_r40_ok 10 rfl
theorem dL_law__2014 : decode cL_law_ 2014 = .ok (.iaload, 1) := dk_get kL_law_r40_ok 11 rfl
theorem dL_law__2015 : decode cL_law_ 2015 = .ok (.invokevirtual 232, 3) := dk_get kL_law_r40_ok 12 rfl
theorem dL_law__2018 : decode cL_law_ 2018 = .ok (.lstore 6, 2) := dk_get kL_law_r40_ok 13 rfl
theorem dL_law__2020 : decode cL_law_ 2020 = .ok (.aload_n 2, 1) := dk_get kL_law_r40_ok 14 rfl
theorem dL_law__2021 : decode cL_law_ 2021 = .ok (.invokevirtual 122, 3) := dk_get kL_law_r40_ok 15 rfl
theorem dL_law__2024 : decode cL_law_ 2024 = .ok (.iload 5, 2) := dk_get kL_law_r40_ok 16 rfl
theorem dL_law__2026 : decode cL_law_ 2026 = .ok (.if_icmp .eq 5, 3) := dk_get kL_law_r40_ok 17 rfl
theorem dL_law__2029 : decode cL_law_ 2029 = .ok (.iconst 0, 1) := dk_get kL_law_r40_ok 18 rfl
theorem dL_law__2030 : decode cL_law_ 2030 = .ok (.ireturn, 1) := dk_get kL_law_r40_ok 19 rfl
theorem dL_law__2031 : decode cL_law_ 2031 = .ok (.iload 5, 2) := dk_get kL_law_r40_ok 20 rfl
theorem dL_law__2033 : decode cL_law_ 2033 = .ok (.ifCond .ne 14, 3) := dk_get kL_law_r40_ok 21 rfl
theorem dL_law__2036 : decode cL_law_ 2036 = .ok (.aload_n 3, 1) := dk_get kL_law_r40_ok 22 rfl
theorem dL_law__2037 : decode cL_law_ 2037 = .ok (.iconst 0, 1) := dk_get kL_law_r40_ok 23 rfl
theorem dL_law__2038 : decode cL_law_ 2038 = .ok (.laload, 1) := dk_get kL_law_r40_ok 24 rfl
theorem dL_law__2039 : decode cL_law_ 2039 = .ok (.lload 6, 2) := dk_get kL_law_r40_ok 25 rfl
theorem dL_law__2041 : decode cL_law_ 2041 = .ok (.lcmp, 1) := dk_get kL_law_r40_ok 26 rfl
theorem dL_law__2042 : decode cL_law_ 2042 = .ok (.ifCond .eq 5, 3) := dk_get kL_law_r40_ok 27 rfl
theorem dL_law__2045 : decode cL_law_ 2045 = .ok (.iconst 0, 1) := dk_get kL_law_r40_ok 28 rfl
theorem dL_law__2046 : decode cL_law_ 2046 = .ok (.ireturn, 1) := dk_get kL_law_r40_ok 29 rfl
def kL_law_r41 : List (Nat × Instr × Nat) := [(2047, .goto 437, 3), (2050, .aload_n 1, 1), (2051, .aload_n 0, 1), (2052, .iload 4, 2), (2054, .iconst 1, 1), (2055, .iadd, 1), (2056, .iaload, 1), (2057, .aload_n 0, 1), (2058, .iload 4, 2), (2060, .iconst 2, 1), (2061, .iadd, 1), (2062, .iaload, 1), (2063, .aload_n 0, 1), (2064, .iload 4, 2), (2066, .iconst 3, 1), (2067, .iadd, 1), (2068, .iaload, 1), (2069, .aload_n 3, 1), (2070, .invokestatic 233, 3), (2073, .istore 5, 2), (2075, .aload_n 2, 1), (2076, .aload_n 0, 1), (2077, .iload 4, 2), (2079, .iconst 1, 1), (2080, .iadd, 1), (2081, .iaload, 1), (2082, .aload_n 0, 1), (2083, .iload 4, 2), (2085, .iconst 2, 1), (2086, .iadd, 1)]
set_option maxRecDepth 100000 in
theorem kL_law_r41_ok : kL_law_r41.all (fun q => decide (decode cL_law_ q.1 = .ok q.2)) = true := by decide +kernel
theorem dL_law__2047 : decode cL_law_ 2047 = .ok (.goto 437, 3) := dk_get kL_law_r41_ok 0 rfl
theorem dL_law__2050 : decode cL_law_ 2050 = .ok (.aload_n 1, 1) := dk_get kL_law_r41_ok 1 rfl
theorem dL_law__2051 : decode cL_law_ 2051 = .ok (.aload_n 0, 1) := dk_get kL_law_r41_ok 2 rfl
theorem dL_law__2052 : decode cL_law_ 2052 = .ok (.iload 4, 2) := dk_get kL_law_r41_ok 3 rfl
theorem dL_law__2054 : decode cL_law_ 2054 = .ok (.iconst 1, 1) := dk_get kL_law_r41_ok 4 rfl
theorem dL_law__2055 : decode cL_law_ 2055 = .ok (.iadd, 1) := dk_get kL_law_r41_ok 5 rfl
theorem dL_law__2056 : decode cL_law_ 2056 = .ok (.iaload, 1) := dk_get kL_law_r41_ok 6 rfl
theorem dL_law__2057 : decode cL_law_ 2057 = .ok (.aload_n 0, 1) := dk_get kL_law_r41_ok 7 rfl
theorem dL_law__2058 : decode cL_law_ 2058 = .ok (.iload 4, 2) := dk_get kL_law_r41_ok 8 rfl
theorem dL_law__2060 : decode cL_law_ 2060 = .ok (.iconst 2, 1) := dk_get kL_law_r41_ok 9 rfl
theorem dL_law__2061 : decode cL_law_ 2061 = .ok (.iadd, 1) := dk_get kL_law_r41_ok 10 rfl
theorem dL_law__2062 : decode cL_law_ 2062 = .ok (.iaload, 1) := dk_get kL_law_r41_ok 11 rfl
theorem dL_law__2063 : decode cL_law_ 2063 = .ok (.aload_n 0, 1) := dk_get kL_law_r41_ok 12 rfl
theorem dL_law__2064 : decode cL_law_ 2064 = .ok (.iload 4, 2) := dk_get kL_law_r41_ok 13 rfl
theorem dL_law__2066 : decode cL_law_ 2066 = .ok (.iconst 3, 1) := dk_get kL_law_r41_ok 14 rfl
theorem dL_law__2067 : decode cL_law_ 2067 = .ok (.iadd, 1) := dk_get kL_law_r41_ok 15 rfl
theorem dL_law__2068 : decode cL_law_ 2068 = .ok (.iaload, 1) := dk_get kL_law_r41_ok 16 rfl
theorem dL_law__2069 : decode cL_law_ 2069 = .ok (.aload_n 3, 1) := dk_get kL_law_r41_ok 17 rfl
theorem dL_law__2070 : decode cL_law_ 2070 = .ok (.invokestatic 233, 3) := dk_get kL_law_r41_ok 18 rfl
theorem dL_law__2073 : decode cL_law_ 2073 = .ok (.istore 5, 2) := dk_get kL_law_r41_ok 19 rfl
theorem dL_law__2075 : decode cL_law_ 2075 = .ok (.aload_n 2, 1) := dk_get kL_law_r41_ok 20 rfl
theorem dL_law__2076 : decode cL_law_ 2076 = .ok (.aload_n 0, 1) := dk_get kL_law_r41_ok 21 rfl
theorem dL_law__2077 : decode cL_law_ 2077 = .ok (.iload 4, 2) := dk_get kL_law_r41_ok 22 rfl
theorem dL_law__2079 : decode cL_law_ 2079 = .ok (.iconst 1, 1) := dk_get kL_law_r41_ok 23 rfl
theorem dL_law__2080 : decode cL_law_ 2080 = .ok (.iadd, 1) := dk_get kL_law_r41_ok 24 rfl
theorem dL_law__2081 : decode cL_law_ 2081 = .ok (.iaload, 1) := dk_get kL_law_r41_ok 25 rfl
theorem dL_law__2082 : decode cL_law_ 2082 = .ok (.aload_n 0, 1) := dk_get kL_law_r41_ok 26 rfl
theorem dL_law__2083 : decode cL_law_ 2083 = .ok (.iload 4, 2) := dk_get kL_law_r41_ok 27 rfl
theorem dL_law__2085 : decode cL_law_ 2085 = .ok (.iconst 2, 1) := dk_get kL_law_r41_ok 28 rfl
theorem dL_law__2086 : decode cL_law_ 2086 = .ok (.iadd, 1) := dk_get kL_law_r41_ok 29 rfl
def kL_law_r42 : List (Nat × Instr × Nat) := [(2087, .iaload, 1), (2088, .aload_n 0, 1), (2089, .iload 4, 2), (2091, .iconst 3, 1), (2092, .iadd, 1), (2093, .iaload, 1), (2094, .invokevirtual 235, 3), (2097, .istore 6, 2), (2099, .aload_n 2, 1), (2100, .invokevirtual 122, 3), (2103, .iload 5, 2), (2105, .if_icmp .eq 5, 3), (2108, .iconst 0, 1), (2109, .ireturn, 1), (2110, .iload 5, 2), (2112, .ifCond .ne 15, 3), (2115, .aload_n 3, 1), (2116, .iconst 0, 1), (2117, .laload, 1), (2118, .iload 6, 2), (2120, .i2l, 1), (2121, .lcmp, 1), (2122, .ifCond .eq 5, 3), (2125, .iconst 0, 1), (2126, .ireturn, 1), (2127, .goto 357, 3), (2130, .aload_n 1, 1), (2131, .aload_n 0, 1), (2132, .iload 4, 2), (2134, .iconst 1, 1)]
set_option maxRecDepth 100000 in
theorem kL_law_r42_ok : kL_law_r42.all (fun q => decide (decode cL_law_ q.1 = .ok q.2)) = true := by decide +kernel
theorem dL_law__2087 : decode cL_law_ 2087 = .ok (.iaload, 1) := dk_get kL_law_r42_ok 0 rfl
theorem dL_law__2088 : decode cL_law_ 2088 = .ok (.aload_n 0, 1) := dk_get kL_law_r42_ok 1 rfl
theorem dL_law__2089 : decode cL_law_ 2089 = .ok (.iload 4, 2) := dk_get kL_law_r42_ok 2 rfl
theorem dL_law__2091 : decode cL_law_ 2091 = .ok (.iconst 3, 1) := dk_get kL_law_r42_ok 3 rfl
theorem dL_law__2092 : decode cL_law_ 2092 = .ok (.iadd, 1) := dk_get kL_law_r42_ok 4 rfl
theorem dL_law__2093 : decode cL_law_ 2093 = .ok (.iaload, 1) := dk_get kL_law_r42_ok 5 rfl
theorem dL_law__2094 : decode cL_law_ 2094 = .ok (.invokevirtual 235, 3) := dk_get kL_law_r42_ok 6 rfl
theorem dL_law__2097 : decode cL_law_ 2097 = .ok (.istore 6, 2) := dk_get kL_law_r42_ok 7 rfl
theorem dL_law__2099 : decode cL_law_ 2099 = .ok (.aload_n 2, 1) := dk_get kL_law_r42_ok 8 rfl
theorem dL_law__2100 : decode cL_law_ 2100 = .ok (.invokevirtual 122, 3) := dk_get kL_law_r42_ok 9 rfl
theorem dL_law__2103 : decode cL_law_ 2103 = .ok (.iload 5, 2) := dk_get kL_law_r42_ok 10 rfl
theorem dL_law__2105 : decode cL_law_ 2105 = .ok (.if_icmp .eq 5, 3) := dk_get kL_law_r42_ok 11 rfl
theorem dL_law__2108 : decode cL_law_ 2108 = .ok (.iconst 0, 1) := dk_get kL_law_r42_ok 12 rfl
theorem dL_law__2109 : decode cL_law_ 2109 = .ok (.ireturn, 1) := dk_get kL_law_r42_ok 13 rfl
theorem dL_law__2110 : decode cL_law_ 2110 = .ok (.iload 5, 2) := dk_get kL_law_r42_ok 14 rfl
theorem dL_law__2112 : decode cL_law_ 2112 = .ok (.ifCond .ne 15, 3) := dk_get kL_law_r42_ok 15 rfl
theorem dL_law__2115 : decode cL_law_ 2115 = .ok (.aload_n 3, 1) := dk_get kL_law_r42_ok 16 rfl
theorem dL_law__2116 : decode cL_law_ 2116 = .ok (.iconst 0, 1) := dk_get kL_law_r42_ok 17 rfl
theorem dL_law__2117 : decode cL_law_ 2117 = .ok (.laload, 1) := dk_get kL_law_r42_ok 18 rfl
theorem dL_law__2118 : decode cL_law_ 2118 = .ok (.iload 6, 2) := dk_get kL_law_r42_ok 19 rfl
theorem dL_law__2120 : decode cL_law_ 2120 = .ok (.i2l, 1) := dk_get kL_law_r42_ok 20 rfl
theorem dL_law__2121 : decode cL_law_ 2121 = .ok (.lcmp, 1) := dk_get kL_law_r42_ok 21 rfl
theorem dL_law__2122 : decode cL_law_ 2122 = .ok (.ifCond .eq 5, 3) := dk_get kL_law_r42_ok 22 rfl
theorem dL_law__2125 : decode cL_law_ 2125 = .ok (.iconst 0, 1) := dk_get kL_law_r42_ok 23 rfl
theorem dL_law__2126 : decode cL_law_ 2126 = .ok (.ireturn, 1) := dk_get kL_law_r42_ok 24 rfl
theorem dL_law__2127 : decode cL_law_ 2127 = .ok (.goto 357, 3) := dk_get kL_law_r42_ok 25 rfl
theorem dL_law__2130 : decode cL_law_ 2130 = .ok (.aload_n 1, 1) := dk_get kL_law_r42_ok 26 rfl
theorem dL_law__2131 : decode cL_law_ 2131 = .ok (.aload_n 0, 1) := dk_get kL_law_r42_ok 27 rfl
theorem dL_law__2132 : decode cL_law_ 2132 = .ok (.iload 4, 2) := dk_get kL_law_r42_ok 28 rfl
theorem dL_law__2134 : decode cL_law_ 2134 = .ok (.iconst 1, 1) := dk_get kL_law_r42_ok 29 rfl
def kL_law_r43 : List (Nat × Instr × Nat) := [(2135, .iadd, 1), (2136, .iaload, 1), (2137, .aload_n 3, 1), (2138, .invokestatic 236, 3), (2141, .istore 5, 2), (2143, .aload_n 2, 1), (2144, .aload_n 0, 1), (2145, .iload 4, 2), (2147, .iconst 1, 1), (2148, .iadd, 1), (2149, .iaload, 1), (2150, .invokevirtual 238, 3), (2153, .istore 6, 2), (2155, .aload_n 2, 1), (2156, .invokevirtual 122, 3), (2159, .iload 5, 2), (2161, .if_icmp .eq 5, 3), (2164, .iconst 0, 1), (2165, .ireturn, 1), (2166, .iload 5, 2), (2168, .ifCond .ne 15, 3), (2171, .aload_n 3, 1), (2172, .iconst 0, 1), (2173, .laload, 1), (2174, .iload 6, 2), (2176, .i2l, 1), (2177, .lcmp, 1), (2178, .ifCond .eq 5, 3), (2181, .iconst 0, 1), (2182, .ireturn, 1)]
set_option maxRecDepth 100000 in
theorem kL_law_r43_ok : kL_law_r43.all (fun q => decide (decode cL_law_ q.1 = .ok q.2)) = true := by decide +kernel
theorem dL_law__2135 : decode cL_law_ 2135 = .ok (.iadd, 1) := dk_get kL_law_r43_ok 0 rfl
theorem dL_law__2136 : decode cL_law_ 2136 = .ok (.iaload, 1) := dk_get kL_law_r43_ok 1 rfl
theorem dL_law__2137 : decode cL_law_ 2137 = .ok (.aload_n 3, 1) := dk_get kL_law_r43_ok 2 rfl
theorem dL_law__2138 : decode cL_law_ 2138 = .ok (.invokestatic 236, 3) := dk_get kL_law_r43_ok 3 rfl
theorem dL_law__2141 : decode cL_law_ 2141 = .ok (.istore 5, 2) := dk_get kL_law_r43_ok 4 rfl
theorem dL_law__2143 : decode cL_law_ 2143 = .ok (.aload_n 2, 1) := dk_get kL_law_r43_ok 5 rfl
theorem dL_law__2144 : decode cL_law_ 2144 = .ok (.aload_n 0, 1) := dk_get kL_law_r43_ok 6 rfl
theorem dL_law__2145 : decode cL_law_ 2145 = .ok (.iload 4, 2) := dk_get kL_law_r43_ok 7 rfl
theorem dL_law__2147 : decode cL_law_ 2147 = .ok (.iconst 1, 1) := dk_get kL_law_r43_ok 8 rfl
theorem dL_law__2148 : decode cL_law_ 2148 = .ok (.iadd, 1) := dk_get kL_law_r43_ok 9 rfl
theorem dL_law__2149 : decode cL_law_ 2149 = .ok (.iaload, 1) := dk_get kL_law_r43_ok 10 rfl
theorem dL_law__2150 : decode cL_law_ 2150 = .ok (.invokevirtual 238, 3) := dk_get kL_law_r43_ok 11 rfl
theorem dL_law__2153 : decode cL_law_ 2153 = .ok (.istore 6, 2) := dk_get kL_law_r43_ok 12 rfl
theorem dL_law__2155 : decode cL_law_ 2155 = .ok (.aload_n 2, 1) := dk_get kL_law_r43_ok 13 rfl
theorem dL_law__2156 : decode cL_law_ 2156 = .ok (.invokevirtual 122, 3) := dk_get kL_law_r43_ok 14 rfl
theorem dL_law__2159 : decode cL_law_ 2159 = .ok (.iload 5, 2) := dk_get kL_law_r43_ok 15 rfl
theorem dL_law__2161 : decode cL_law_ 2161 = .ok (.if_icmp .eq 5, 3) := dk_get kL_law_r43_ok 16 rfl
theorem dL_law__2164 : decode cL_law_ 2164 = .ok (.iconst 0, 1) := dk_get kL_law_r43_ok 17 rfl
theorem dL_law__2165 : decode cL_law_ 2165 = .ok (.ireturn, 1) := dk_get kL_law_r43_ok 18 rfl
theorem dL_law__2166 : decode cL_law_ 2166 = .ok (.iload 5, 2) := dk_get kL_law_r43_ok 19 rfl
theorem dL_law__2168 : decode cL_law_ 2168 = .ok (.ifCond .ne 15, 3) := dk_get kL_law_r43_ok 20 rfl
theorem dL_law__2171 : decode cL_law_ 2171 = .ok (.aload_n 3, 1) := dk_get kL_law_r43_ok 21 rfl
theorem dL_law__2172 : decode cL_law_ 2172 = .ok (.iconst 0, 1) := dk_get kL_law_r43_ok 22 rfl
theorem dL_law__2173 : decode cL_law_ 2173 = .ok (.laload, 1) := dk_get kL_law_r43_ok 23 rfl
theorem dL_law__2174 : decode cL_law_ 2174 = .ok (.iload 6, 2) := dk_get kL_law_r43_ok 24 rfl
theorem dL_law__2176 : decode cL_law_ 2176 = .ok (.i2l, 1) := dk_get kL_law_r43_ok 25 rfl
theorem dL_law__2177 : decode cL_law_ 2177 = .ok (.lcmp, 1) := dk_get kL_law_r43_ok 26 rfl
theorem dL_law__2178 : decode cL_law_ 2178 = .ok (.ifCond .eq 5, 3) := dk_get kL_law_r43_ok 27 rfl
theorem dL_law__2181 : decode cL_law_ 2181 = .ok (.iconst 0, 1) := dk_get kL_law_r43_ok 28 rfl
theorem dL_law__2182 : decode cL_law_ 2182 = .ok (.ireturn, 1) := dk_get kL_law_r43_ok 29 rfl
