def kL_law_r44 : List (Nat × Instr × Nat) := [(2183, .goto 301, 3), (2186, .aload_n 1, 1), (2187, .aload_n 0, 1), (2188, .iload 4, 2), (2190, .iconst 1, 1), (2191, .iadd, 1), (2192, .iaload, 1), (2193, .aload_n 0, 1), (2194, .iload 4, 2), (2196, .iconst 2, 1), (2197, .iadd, 1), (2198, .iaload, 1), (2199, .aload_n 3, 1), (2200, .invokestatic 239, 3), (2203, .istore 5, 2), (2205, .aload_n 2, 1), (2206, .aload_n 0, 1), (2207, .iload 4, 2), (2209, .iconst 1, 1), (2210, .iadd, 1), (2211, .iaload, 1), (2212, .aload_n 0, 1), (2213, .iload 4, 2), (2215, .iconst 2, 1), (2216, .iadd, 1), (2217, .iaload, 1), (2218, .invokevirtual 241, 3), (2221, .istore 6, 2), (2223, .aload_n 2, 1), (2224, .invokevirtual 122, 3)]
set_option maxRecDepth 100000 in
theorem kL_law_r44_ok : kL_law_r44.all (fun q => decide (decode cL_law_ q.1 = .ok q.2)) = true := by decide +kernel
theorem dL_law__2183 : decode cL_law_ 2183 = .ok (.goto 301, 3) := dk_get kL_law_r44_ok 0 rfl
theorem dL_law__2186 : decode cL_law_ 2186 = .ok (.aload_n 1, 1) := dk_get kL_law_r44_ok 1 rfl
theorem dL_law__2187 : decode cL_law_ 2187 = .ok (.aload_n 0, 1) := dk_get kL_law_r44_ok 2 rfl
theorem dL_law__2188 : decode cL_law_ 2188 = .ok (.iload 4, 2) := dk_get kL_law_r44_ok 3 rfl
theorem dL_law__2190 : decode cL_law_ 2190 = .ok (.iconst 1, 1) := dk_get kL_law_r44_ok 4 rfl
theorem dL_law__2191 : decode cL_law_ 2191 = .ok (.iadd, 1) := dk_get kL_law_r44_ok 5 rfl
theorem dL_law__2192 : decode cL_law_ 2192 = .ok (.iaload, 1) := dk_get kL_law_r44_ok 6 rfl
theorem dL_law__2193 : decode cL_law_ 2193 = .ok (.aload_n 0, 1) := dk_get kL_law_r44_ok 7 rfl
theorem dL_law__2194 : decode cL_law_ 2194 = .ok (.iload 4, 2) := dk_get kL_law_r44_ok 8 rfl
theorem dL_law__2196 : decode cL_law_ 2196 = .ok (.iconst 2, 1) := dk_get kL_law_r44_ok 9 rfl
theorem dL_law__2197 : decode cL_law_ 2197 = .ok (.iadd, 1) := dk_get kL_law_r44_ok 10 rfl
theorem dL_law__2198 : decode cL_law_ 2198 = .ok (.iaload, 1) := dk_get kL_law_r44_ok 11 rfl
theorem dL_law__2199 : decode cL_law_ 2199 = .ok (.aload_n 3, 1) := dk_get kL_law_r44_ok 12 rfl
theorem dL_law__2200 : decode cL_law_ 2200 = .ok (.invokestatic 239, 3) := dk_get kL_law_r44_ok 13 rfl
theorem dL_law__2203 : decode cL_law_ 2203 = .ok (.istore 5, 2) := dk_get kL_law_r44_ok 14 rfl
theorem dL_law__2205 : decode cL_law_ 2205 = .ok (.aload_n 2, 1) := dk_get kL_law_r44_ok 15 rfl
theorem dL_law__2206 : decode cL_law_ 2206 = .ok (.aload_n 0, 1) := dk_get kL_law_r44_ok 16 rfl
theorem dL_law__2207 : decode cL_law_ 2207 = .ok (.iload 4, 2) := dk_get kL_law_r44_ok 17 rfl
theorem dL_law__2209 : decode cL_law_ 2209 = .ok (.iconst 1, 1) := dk_get kL_law_r44_ok 18 rfl
theorem dL_law__2210 : decode cL_law_ 2210 = .ok (.iadd, 1) := dk_get kL_law_r44_ok 19 rfl
theorem dL_law__2211 : decode cL_law_ 2211 = .ok (.iaload, 1) := dk_get kL_law_r44_ok 20 rfl
theorem dL_law__2212 : decode cL_law_ 2212 = .ok (.aload_n 0, 1) := dk_get kL_law_r44_ok 21 rfl
theorem dL_law__2213 : decode cL_law_ 2213 = .ok (.iload 4, 2) := dk_get kL_law_r44_ok 22 rfl
theorem dL_law__2215 : decode cL_law_ 2215 = .ok (.iconst 2, 1) := dk_get kL_law_r44_ok 23 rfl
theorem dL_law__2216 : decode cL_law_ 2216 = .ok (.iadd, 1) := dk_get kL_law_r44_ok 24 rfl
theorem dL_law__2217 : decode cL_law_ 2217 = .ok (.iaload, 1) := dk_get kL_law_r44_ok 25 rfl
theorem dL_law__2218 : decode cL_law_ 2218 = .ok (.invokevirtual 241, 3) := dk_get kL_law_r44_ok 26 rfl
theorem dL_law__2221 : decode cL_law_ 2221 = .ok (.istore 6, 2) := dk_get kL_law_r44_ok 27 rfl
theorem dL_law__2223 : decode cL_law_ 2223 = .ok (.aload_n 2, 1) := dk_get kL_law_r44_ok 28 rfl
theorem dL_law__2224 : decode cL_law_ 2224 = .ok (.invokevirtual 122, 3) := dk_get kL_law_r44_ok 29 rfl
def kL_law_r45 : List (Nat × Instr × Nat) := [(2227, .iload 5, 2), (2229, .if_icmp .eq 5, 3), (2232, .iconst 0, 1), (2233, .ireturn, 1), (2234, .iload 5, 2), (2236, .ifCond .ne 15, 3), (2239, .aload_n 3, 1), (2240, .iconst 0, 1), (2241, .laload, 1), (2242, .iload 6, 2), (2244, .i2l, 1), (2245, .lcmp, 1), (2246, .ifCond .eq 5, 3), (2249, .iconst 0, 1), (2250, .ireturn, 1), (2251, .goto 233, 3), (2254, .aload_n 1, 1), (2255, .aload_n 0, 1), (2256, .iload 4, 2), (2258, .iconst 1, 1), (2259, .iadd, 1), (2260, .iaload, 1), (2261, .aload_n 0, 1), (2262, .iload 4, 2), (2264, .iconst 2, 1), (2265, .iadd, 1), (2266, .iaload, 1), (2267, .aload_n 3, 1), (2268, .invokestatic 242, 3), (2271, .istore 5, 2)]
set_option maxRecDepth 100000 in
theorem kL_law_r45_ok : kL_law_r45.all (fun q => decide (decode cL_law_ q.1 = .ok q.2)) = true := by decide +kernel
theorem dL_law__2227 : decode cL_law_ 2227 = .ok (.iload 5, 2) := dk_get kL_law_r45_ok 0 rfl
theorem dL_law__2229 : decode cL_law_ 2229 = .ok (.if_icmp .eq 5, 3) := dk_get kL_law_r45_ok 1 rfl
theorem dL_law__2232 : decode cL_law_ 2232 = .ok (.iconst 0, 1) := dk_get kL_law_r45_ok 2 rfl
theorem dL_law__2233 : decode cL_law_ 2233 = .ok (.ireturn, 1) := dk_get kL_law_r45_ok 3 rfl
theorem dL_law__2234 : decode cL_law_ 2234 = .ok (.iload 5, 2) := dk_get kL_law_r45_ok 4 rfl
theorem dL_law__2236 : decode cL_law_ 2236 = .ok (.ifCond .ne 15, 3) := dk_get kL_law_r45_ok 5 rfl
theorem dL_law__2239 : decode cL_law_ 2239 = .ok (.aload_n 3, 1) := dk_get kL_law_r45_ok 6 rfl
theorem dL_law__2240 : decode cL_law_ 2240 = .ok (.iconst 0, 1) := dk_get kL_law_r45_ok 7 rfl
theorem dL_law__2241 : decode cL_law_ 2241 = .ok (.laload, 1) := dk_get kL_law_r45_ok 8 rfl
theorem dL_law__2242 : decode cL_law_ 2242 = .ok (.iload 6, 2) := dk_get kL_law_r45_ok 9 rfl
theorem dL_law__2244 : decode cL_law_ 2244 = .ok (.i2l, 1) := dk_get kL_law_r45_ok 10 rfl
theorem dL_law__2245 : decode cL_law_ 2245 = .ok (.lcmp, 1) := dk_get kL_law_r45_ok 11 rfl
theorem dL_law__2246 : decode cL_law_ 2246 = .ok (.ifCond .eq 5, 3) := dk_get kL_law_r45_ok 12 rfl
theorem dL_law__2249 : decode cL_law_ 2249 = .ok (.iconst 0, 1) := dk_get kL_law_r45_ok 13 rfl
theorem dL_law__2250 : decode cL_law_ 2250 = .ok (.ireturn, 1) := dk_get kL_law_r45_ok 14 rfl
theorem dL_law__2251 : decode cL_law_ 2251 = .ok (.goto 233, 3) := dk_get kL_law_r45_ok 15 rfl
theorem dL_law__2254 : decode cL_law_ 2254 = .ok (.aload_n 1, 1) := dk_get kL_law_r45_ok 16 rfl
theorem dL_law__2255 : decode cL_law_ 2255 = .ok (.aload_n 0, 1) := dk_get kL_law_r45_ok 17 rfl
theorem dL_law__2256 : decode cL_law_ 2256 = .ok (.iload 4, 2) := dk_get kL_law_r45_ok 18 rfl
theorem dL_law__2258 : decode cL_law_ 2258 = .ok (.iconst 1, 1) := dk_get kL_law_r45_ok 19 rfl
theorem dL_law__2259 : decode cL_law_ 2259 = .ok (.iadd, 1) := dk_get kL_law_r45_ok 20 rfl
theorem dL_law__2260 : decode cL_law_ 2260 = .ok (.iaload, 1) := dk_get kL_law_r45_ok 21 rfl
theorem dL_law__2261 : decode cL_law_ 2261 = .ok (.aload_n 0, 1) := dk_get kL_law_r45_ok 22 rfl
theorem dL_law__2262 : decode cL_law_ 2262 = .ok (.iload 4, 2) := dk_get kL_law_r45_ok 23 rfl
theorem dL_law__2264 : decode cL_law_ 2264 = .ok (.iconst 2, 1) := dk_get kL_law_r45_ok 24 rfl
theorem dL_law__2265 : decode cL_law_ 2265 = .ok (.iadd, 1) := dk_get kL_law_r45_ok 25 rfl
theorem dL_law__2266 : decode cL_law_ 2266 = .ok (.iaload, 1) := dk_get kL_law_r45_ok 26 rfl
theorem dL_law__2267 : decode cL_law_ 2267 = .ok (.aload_n 3, 1) := dk_get kL_law_r45_ok 27 rfl
theorem dL_law__2268 : decode cL_law_ 2268 = .ok (.invokestatic 242, 3) := dk_get kL_law_r45_ok 28 rfl
theorem dL_law__2271 : decode cL_law_ 2271 = .ok (.istore 5, 2) := dk_get kL_law_r45_ok 29 rfl
def kL_law_r46 : List (Nat × Instr × Nat) := [(2273, .aload_n 2, 1), (2274, .aload_n 0, 1), (2275, .iload 4, 2), (2277, .iconst 1, 1), (2278, .iadd, 1), (2279, .iaload, 1), (2280, .aload_n 0, 1), (2281, .iload 4, 2), (2283, .iconst 2, 1), (2284, .iadd, 1), (2285, .iaload, 1), (2286, .invokevirtual 244, 3), (2289, .istore 6, 2), (2291, .aload_n 2, 1), (2292, .invokevirtual 122, 3), (2295, .iload 5, 2), (2297, .if_icmp .eq 5, 3), (2300, .iconst 0, 1), (2301, .ireturn, 1), (2302, .iload 5, 2), (2304, .ifCond .ne 15, 3), (2307, .aload_n 3, 1), (2308, .iconst 0, 1), (2309, .laload, 1), (2310, .iload 6, 2), (2312, .i2l, 1), (2313, .lcmp, 1), (2314, .ifCond .eq 5, 3), (2317, .iconst 0, 1), (2318, .ireturn, 1)]
set_option maxRecDepth 100000 in
theorem kL_law_r46_ok : kL_law_r46.all (fun q => decide (decode cL_law_ q.1 = .ok q.2)) = true := by decide +kernel
theorem dL_law__2273 : decode cL_law_ 2273 = .ok (.aload_n 2, 1) := dk_get kL_law_r46_ok 0 rfl
theorem dL_law__2274 : decode cL_law_ 2274 = .ok (.aload_n 0, 1) := dk_get kL_law_r46_ok 1 rfl
theorem dL_law__2275 : decode cL_law_ 2275 = .ok (.iload 4, 2) := dk_get kL_law_r46_ok 2 rfl
theorem dL_law__2277 : decode cL_law_ 2277 = .ok (.iconst 1, 1) := dk_get kL_law_r46_ok 3 rfl
theorem dL_law__2278 : decode cL_law_ 2278 = .ok (.iadd, 1) := dk_get kL_law_r46_ok 4 rfl
theorem dL_law__2279 : decode cL_law_ 2279 = .ok (.iaload, 1) := dk_get kL_law_r46_ok 5 rfl
theorem dL_law__2280 : decode cL_law_ 2280 = .ok (.aload_n 0, 1) := dk_get kL_law_r46_ok 6 rfl
theorem dL_law__2281 : decode cL_law_ 2281 = .ok (.iload 4, 2) := dk_get kL_law_r46_ok 7 rfl
theorem dL_law__2283 : decode cL_law_ 2283 = .ok (.iconst 2, 1) := dk_get kL_law_r46_ok 8 rfl
theorem dL_law__2284 : decode cL_law_ 2284 = .ok (.iadd, 1) := dk_get kL_law_r46_ok 9 rfl
theorem dL_law__2285 : decode cL_law_ 2285 = .ok (.iaload, 1) := dk_get kL_law_r46_ok 10 rfl
theorem dL_law__2286 : decode cL_law_ 2286 = .ok (.invokevirtual 244, 3) := dk_get kL_law_r46_ok 11 rfl
theorem dL_law__2289 : decode cL_law_ 2289 = .ok (.istore 6, 2) := dk_get kL_law_r46_ok 12 rfl
theorem dL_law__2291 : decode cL_law_ 2291 = .ok (.aload_n 2, 1) := dk_get kL_law_r46_ok 13 rfl
theorem dL_law__2292 : decode cL_law_ 2292 = .ok (.invokevirtual 122, 3) := dk_get kL_law_r46_ok 14 rfl
theorem dL_law__2295 : decode cL_law_ 2295 = .ok (.iload 5, 2) := dk_get kL_law_r46_ok 15 rfl
theorem dL_law__2297 : decode cL_law_ 2297 = .ok (.if_icmp .eq 5, 3) := dk_get kL_law_r46_ok 16 rfl
theorem dL_law__2300 : decode cL_law_ 2300 = .ok (.iconst 0, 1) := dk_get kL_law_r46_ok 17 rfl
theorem dL_law__2301 : decode cL_law_ 2301 = .ok (.ireturn, 1) := dk_get kL_law_r46_ok 18 rfl
theorem dL_law__2302 : decode cL_law_ 2302 = .ok (.iload 5, 2) := dk_get kL_law_r46_ok 19 rfl
theorem dL_law__2304 : decode cL_law_ 2304 = .ok (.ifCond .ne 15, 3) := dk_get kL_law_r46_ok 20 rfl
theorem dL_law__2307 : decode cL_law_ 2307 = .ok (.aload_n 3, 1) := dk_get kL_law_r46_ok 21 rfl
theorem dL_law__2308 : decode cL_law_ 2308 = .ok (.iconst 0, 1) := dk_get kL_law_r46_ok 22 rfl
theorem dL_law__2309 : decode cL_law_ 2309 = .ok (.laload, 1) := dk_get kL_law_r46_ok 23 rfl
theorem dL_law__2310 : decode cL_law_ 2310 = .ok (.iload 6, 2) := dk_get kL_law_r46_ok 24 rfl
theorem dL_law__2312 : decode cL_law_ 2312 = .ok (.i2l, 1) := dk_get kL_law_r46_ok 25 rfl
theorem dL_law__2313 : decode cL_law_ 2313 = .ok (.lcmp, 1) := dk_get kL_law_r46_ok 26 rfl
theorem dL_law__2314 : decode cL_law_ 2314 = .ok (.ifCond .eq 5, 3) := dk_get kL_law_r46_ok 27 rfl
theorem dL_law__2317 : decode cL_law_ 2317 = .ok (.iconst 0, 1) := dk_get kL_law_r46_ok 28 rfl
theorem dL_law__2318 : decode cL_law_ 2318 = .ok (.ireturn, 1) := dk_get kL_law_r46_ok 29 rfl
def kL_law_r47 : List (Nat × Instr × Nat) := [(2319, .goto 165, 3), (2322, .aload_n 1, 1), (2323, .aload_n 0, 1), (2324, .iload 4, 2), (2326, .iconst 1, 1), (2327, .iadd, 1), (2328, .iaload, 1), (2329, .aload_n 3, 1), (2330, .invokestatic 245, 3), (2333, .istore 5, 2), (2335, .aload_n 2, 1), (2336, .aload_n 0, 1), (2337, .iload 4, 2), (2339, .iconst 1, 1), (2340, .iadd, 1), (2341, .iaload, 1), (2342, .invokevirtual 247, 3), (2345, .lstore 6, 2), (2347, .aload_n 2, 1), (2348, .invokevirtual 122, 3), (2351, .iload 5, 2), (2353, .if_icmp .eq 5, 3), (2356, .iconst 0, 1), (2357, .ireturn, 1), (2358, .iload 5, 2), (2360, .ifCond .ne 14, 3), (2363, .aload_n 3, 1), (2364, .iconst 0, 1), (2365, .laload, 1), (2366, .lload 6, 2)]
set_option maxRecDepth 100000 in
theorem kL_law_r47_ok : kL_law_r47.all (fun q => decide (decode cL_law_ q.1 = .ok q.2)) = true := by decide +kernel
theorem dL_law__2319 : decode cL_law_ 2319 = .ok (.goto 165, 3) := dk_get kL_law_r47_ok 0 rfl
theorem dL_law__2322 : decode cL_law_ 2322 = .ok (.aload_n 1, 1) := dk_get kL_law_r47_ok 1 rfl
theorem dL_law__2323 : decode cL_law_ 2323 = .ok (.aload_n 0, 1) := dk_get kL_law_r47_ok 2 rfl
theorem dL_law__2324 : decode cL_law_ 2324 = .ok (.iload 4, 2) := dk_get kL_law_r47_ok 3 rfl
theorem dL_law__2326 : decode cL_law_ 2326 = .ok (.iconst 1, 1) := dk_get kL_law_r47_ok 4 rfl
theorem dL_law__2327 : decode cL_law_ 2327 = .ok (.iadd, 1) := dk_get kL_law_r47_ok 5 rfl
theorem dL_law__2328 : decode cL_law_ 2328 = .ok (.iaload, 1) := dk_get kL_law_r47_ok 6 rfl
theorem dL_law__2329 : decode cL_law_ 2329 = .ok (.aload_n 3, 1) := dk_get kL_law_r47_ok 7 rfl
theorem dL_law__2330 : decode cL_law_ 2330 = .ok (.invokestatic 245, 3) := dk_get kL_law_r47_ok 8 rfl
theorem dL_law__2333 : decode cL_law_ 2333 = .ok (.istore 5, 2) := dk_get kL_law_r47_ok 9 rfl
theorem dL_law__2335 : decode cL_law_ 2335 = .ok (.aload_n 2, 1) := dk_get kL_law_r47_ok 10 rfl
theorem dL_law__2336 : decode cL_law_ 2336 = .ok (.aload_n 0, 1) := dk_get kL_law_r47_ok 11 rfl
theorem dL_law__2337 : decode cL_law_ 2337 = .ok (.iload 4, 2) := dk_get kL_law_r47_ok 12 rfl
theorem dL_law__2339 : decode cL_law_ 2339 = .ok (.iconst 1, 1) := dk_get kL_law_r47_ok 13 rfl
theorem dL_law__2340 : decode cL_law_ 2340 = .ok (.iadd, 1) := dk_get kL_law_r47_ok 14 rfl
theorem dL_law__2341 : decode cL_law_ 2341 = .ok (.iaload, 1) := dk_get kL_law_r47_ok 15 rfl
theorem dL_law__2342 : decode cL_law_ 2342 = .ok (.invokevirtual 247, 3) := dk_get kL_law_r47_ok 16 rfl
theorem dL_law__2345 : decode cL_law_ 2345 = .ok (.lstore 6, 2) := dk_get kL_law_r47_ok 17 rfl
theorem dL_law__2347 : decode cL_law_ 2347 = .ok (.aload_n 2, 1) := dk_get kL_law_r47_ok 18 rfl
theorem dL_law__2348 : decode cL_law_ 2348 = .ok (.invokevirtual 122, 3) := dk_get kL_law_r47_ok 19 rfl
theorem dL_law__2351 : decode cL_law_ 2351 = .ok (.iload 5, 2) := dk_get kL_law_r47_ok 20 rfl
theorem dL_law__2353 : decode cL_law_ 2353 = .ok (.if_icmp .eq 5, 3) := dk_get kL_law_r47_ok 21 rfl
theorem dL_law__2356 : decode cL_law_ 2356 = .ok (.iconst 0, 1) := dk_get kL_law_r47_ok 22 rfl
theorem dL_law__2357 : decode cL_law_ 2357 = .ok (.ireturn, 1) := dk_get kL_law_r47_ok 23 rfl
theorem dL_law__2358 : decode cL_law_ 2358 = .ok (.iload 5, 2) := dk_get kL_law_r47_ok 24 rfl
theorem dL_law__2360 : decode cL_law_ 2360 = .ok (.ifCond .ne 14, 3) := dk_get kL_law_r47_ok 25 rfl
theorem dL_law__2363 : decode cL_law_ 2363 = .ok (.aload_n 3, 1) := dk_get kL_law_r47_ok 26 rfl
theorem dL_law__2364 : decode cL_law_ 2364 = .ok (.iconst 0, 1) := dk_get kL_law_r47_ok 27 rfl
theorem dL_law__2365 : decode cL_law_ 2365 = .ok (.laload, 1) := dk_get kL_law_r47_ok 28 rfl
theorem dL_law__2366 : decode cL_law_ 2366 = .ok (.lload 6, 2) := dk_get kL_law_r47_ok 29 rfl
