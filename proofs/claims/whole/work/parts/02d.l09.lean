theorem dL_law__2227 : decode cL_law_ 2227 = .ok (.iload 5, 2) := by decide +kernel
theorem dL_law__2229 : decode cL_law_ 2229 = .ok (.if_icmp .eq 5, 3) := by decide +kernel
theorem dL_law__2232 : decode cL_law_ 2232 = .ok (.iconst 0, 1) := by decide +kernel
theorem dL_law__2233 : decode cL_law_ 2233 = .ok (.ireturn, 1) := by decide +kernel
theorem dL_law__2234 : decode cL_law_ 2234 = .ok (.iload 5, 2) := by decide +kernel
theorem dL_law__2236 : decode cL_law_ 2236 = .ok (.ifCond .ne 15, 3) := by decide +kernel
theorem dL_law__2239 : decode cL_law_ 2239 = .ok (.aload_n 3, 1) := by decide +kernel
theorem dL_law__2240 : decode cL_law_ 2240 = .ok (.iconst 0, 1) := by decide +kernel
theorem dL_law__2241 : decode cL_law_ 2241 = .ok (.laload, 1) := by decide +kernel
theorem dL_law__2242 : decode cL_law_ 2242 = .ok (.iload 6, 2) := by decide +kernel
theorem dL_law__2244 : decode cL_law_ 2244 = .ok (.i2l, 1) := by decide +kernel
theorem dL_law__2245 : decode cL_law_ 2245 = .ok (.lcmp, 1) := by decide +kernel
theorem dL_law__2246 : decode cL_law_ 2246 = .ok (.ifCond .eq 5, 3) := by decide +kernel
theorem dL_law__2249 : decode cL_law_ 2249 = .ok (.iconst 0, 1) := by decide +kernel
theorem dL_law__2250 : decode cL_law_ 2250 = .ok (.ireturn, 1) := by decide +kernel
theorem dL_law__2251 : decode cL_law_ 2251 = .ok (.goto 233, 3) := by decide +kernel
theorem dL_law__2254 : decode cL_law_ 2254 = .ok (.aload_n 1, 1) := by decide +kernel
theorem dL_law__2255 : decode cL_law_ 2255 = .ok (.aload_n 0, 1) := by decide +kernel
theorem dL_law__2256 : decode cL_law_ 2256 = .ok (.iload 4, 2) := by decide +kernel
theorem dL_law__2258 : decode cL_law_ 2258 = .ok (.iconst 1, 1) := by decide +kernel
theorem dL_law__2259 : decode cL_law_ 2259 = .ok (.iadd, 1) := by decide +kernel
theorem dL_law__2260 : decode cL_law_ 2260 = .ok (.iaload, 1) := by decide +kernel
theorem dL_law__2261 : decode cL_law_ 2261 = .ok (.aload_n 0, 1) := by decide +kernel
theorem dL_law__2262 : decode cL_law_ 2262 = .ok (.iload 4, 2) := by decide +kernel
theorem dL_law__2264 : decode cL_law_ 2264 = .ok (.iconst 2, 1) := by decide +kernel
theorem dL_law__2265 : decode cL_law_ 2265 = .ok (.iadd, 1) := by decide +kernel
theorem dL_law__2266 : decode cL_law_ 2266 = .ok (.iaload, 1) := by decide +kernel
theorem dL_law__2267 : decode cL_law_ 2267 = .ok (.aload_n 3, 1) := by decide +kernel
theorem dL_law__2268 : decode cL_law_ 2268 = .ok (.invokestatic 242, 3) := by decide +kernel
theorem dL_law__2271 : decode cL_law_ 2271 = .ok (.istore 5, 2) := by decide +kernel
theorem dL_law__2273 : decode cL_law_ 2273 = .ok (.aload_n 2, 1) := by decide +kernel
theorem dL_law__2274 : decode cL_law_ 2274 = .ok (.aload_n 0, 1) := by decide +kernel
theorem dL_law__2275 : decode cL_law_ 2275 = .ok (.iload 4, 2) := by decide +kernel
theorem dL_law__2277 : decode cL_law_ 2277 = .ok (.iconst 1, 1) := by decide +kernel
theorem dL_law__2278 : decode cL_law_ 2278 = .ok (.iadd, 1) := by decide +kernel
theorem dL_law__2279 : decode cL_law_ 2279 = .ok (.iaload, 1) := by decide +kernel
theorem dL_law__2280 : decode cL_law_ 2280 = .ok (.aload_n 0, 1) := by decide +kernel
theorem dL_law__2281 : decode cL_law_ 2281 = .ok (.iload 4, 2) := by decide +kernel
theorem dL_law__2283 : decode cL_law_ 2283 = .ok (.iconst 2, 1) := by decide +kernel
theorem dL_law__2284 : decode cL_law_ 2284 = .ok (.iadd, 1) := by decide +kernel
theorem dL_law__2285 : decode cL_law_ 2285 = .ok (.iaload, 1) := by decide +kernel
theorem dL_law__2286 : decode cL_law_ 2286 = .ok (.invokevirtual 244, 3) := by decide +kernel
theorem dL_law__2289 : decode cL_law_ 2289 = .ok (.istore 6, 2) := by decide +kernel
theorem dL_law__2291 : decode cL_law_ 2291 = .ok (.aload_n 2, 1) := by decide +kernel
theorem dL_law__2292 : decode cL_law_ 2292 = .ok (.invokevirtual 122, 3) := by decide +kernel
theorem dL_law__2295 : decode cL_law_ 2295 = .ok (.iload 5, 2) := by decide +kernel
theorem dL_law__2297 : decode cL_law_ 2297 = .ok (.if_icmp .eq 5, 3) := by decide +kernel
theorem dL_law__2300 : decode cL_law_ 2300 = .ok (.iconst 0, 1) := by decide +kernel
theorem dL_law__2301 : decode cL_law_ 2301 = .ok (.ireturn, 1) := by decide +kernel
theorem dL_law__2302 : decode cL_law_ 2302 = .ok (.iload 5, 2) := by decide +kernel
theorem dL_law__2304 : decode cL_law_ 2304 = .ok (.ifCond .ne 15, 3) := by decide +kernel
theorem dL_law__2307 : decode cL_law_ 2307 = .ok (.aload_n 3, 1) := by decide +kernel
theorem dL_law__2308 : decode cL_law_ 2308 = .ok (.iconst 0, 1) := by decide +kernel
theorem dL_law__2309 : decode cL_law_ 2309 = .ok (.laload, 1) := by decide +kernel
theorem dL_law__2310 : decode cL_law_ 2310 = .ok (.iload 6, 2) := by decide +kernel
theorem dL_law__2312 : decode cL_law_ 2312 = .ok (.i2l, 1) := by decide +kernel
theorem dL_law__2313 : decode cL_law_ 2313 = .ok (.lcmp, 1) := by decide +kernel
theorem dL_law__2314 : decode cL_law_ 2314 = .ok (.ifCond .eq 5, 3) := by decide +kernel
theorem dL_law__2317 : decode cL_law_ 2317 = .ok (.iconst 0, 1) := by decide +kernel
theorem dL_law__2318 : decode cL_law_ 2318 = .ok (.ireturn, 1) := by decide +kernel
theorem dL_law__2319 : decode cL_law_ 2319 = .ok (.goto 165, 3) := by decide +kernel
theorem dL_law__2322 : decode cL_law_ 2322 = .ok (.aload_n 1, 1) := by decide +kernel
theorem dL_law__2323 : decode cL_law_ 2323 = .ok (.aload_n 0, 1) := by decide +kernel
theorem dL_law__2324 : decode cL_law_ 2324 = .ok (.iload 4, 2) := by decide +kernel
theorem dL_law__2326 : decode cL_law_ 2326 = .ok (.iconst 1, 1) := by decide +kernel
theorem dL_law__2327 : decode cL_law_ 2327 = .ok (.iadd, 1) := by decide +kernel
theorem dL_law__2328 : decode cL_law_ 2328 = .ok (.iaload, 1) := by decide +kernel
theorem dL_law__2329 : decode cL_law_ 2329 = .ok (.aload_n 3, 1) := by decide +kernel
theorem dL_law__2330 : decode cL_law_ 2330 = .ok (.invokestatic 245, 3) := by decide +kernel
theorem dL_law__2333 : decode cL_law_ 2333 = .ok (.istore 5, 2) := by decide +kernel
theorem dL_law__2335 : decode cL_law_ 2335 = .ok (.aload_n 2, 1) := by decide +kernel
theorem dL_law__2336 : decode cL_law_ 2336 = .ok (.aload_n 0, 1) := by decide +kernel
theorem dL_law__2337 : decode cL_law_ 2337 = .ok (.iload 4, 2) := by decide +kernel
theorem dL_law__2339 : decode cL_law_ 2339 = .ok (.iconst 1, 1) := by decide +kernel
theorem dL_law__2340 : decode cL_law_ 2340 = .ok (.iadd, 1) := by decide +kernel
theorem dL_law__2341 : decode cL_law_ 2341 = .ok (.iaload, 1) := by decide +kernel
theorem dL_law__2342 : decode cL_law_ 2342 = .ok (.invokevirtual 247, 3) := by decide +kernel
theorem dL_law__2345 : decode cL_law_ 2345 = .ok (.lstore 6, 2) := by decide +kernel
theorem dL_law__2347 : decode cL_law_ 2347 = .ok (.aload_n 2, 1) := by decide +kernel
theorem dL_law__2348 : decode cL_law_ 2348 = .ok (.invokevirtual 122, 3) := by decide +kernel
theorem dL_law__2351 : decode cL_law_ 2351 = .ok (.iload 5, 2) := by decide +kernel
theorem dL_law__2353 : decode cL_law_ 2353 = .ok (.if_icmp .eq 5, 3) := by decide +kernel
theorem dL_law__2356 : decode cL_law_ 2356 = .ok (.iconst 0, 1) := by decide +kernel
theorem dL_law__2357 : decode cL_law_ 2357 = .ok (.ireturn, 1) := by decide +kernel
theorem dL_law__2358 : decode cL_law_ 2358 = .ok (.iload 5, 2) := by decide +kernel
theorem dL_law__2360 : decode cL_law_ 2360 = .ok (.ifCond .ne 14, 3) := by decide +kernel
theorem dL_law__2363 : decode cL_law_ 2363 = .ok (.aload_n 3, 1) := by decide +kernel
theorem dL_law__2364 : decode cL_law_ 2364 = .ok (.iconst 0, 1) := by decide +kernel
theorem dL_law__2365 : decode cL_law_ 2365 = .ok (.laload, 1) := by decide +kernel
theorem dL_law__2366 : decode cL_law_ 2366 = .ok (.lload 6, 2) := by decide +kernel
theorem dL_law__2368 : decode cL_law_ 2368 = .ok (.lcmp, 1) := by decide +kernel
theorem dL_law__2369 : decode cL_law_ 2369 = .ok (.ifCond .eq 5, 3) := by decide +kernel
theorem dL_law__2372 : decode cL_law_ 2372 = .ok (.iconst 0, 1) := by decide +kernel
theorem dL_law__2373 : decode cL_law_ 2373 = .ok (.ireturn, 1) := by decide +kernel
theorem dL_law__2374 : decode cL_law_ 2374 = .ok (.goto 110, 3) := by decide +kernel
theorem dL_law__2377 : decode cL_law_ 2377 = .ok (.aload_n 1, 1) := by decide +kernel
theorem dL_law__2378 : decode cL_law_ 2378 = .ok (.aload_n 0, 1) := by decide +kernel
theorem dL_law__2379 : decode cL_law_ 2379 = .ok (.iload 4, 2) := by decide +kernel
theorem dL_law__2381 : decode cL_law_ 2381 = .ok (.iconst 1, 1) := by decide +kernel
theorem dL_law__2382 : decode cL_law_ 2382 = .ok (.iadd, 1) := by decide +kernel
theorem dL_law__2383 : decode cL_law_ 2383 = .ok (.iaload, 1) := by decide +kernel
theorem dL_law__2384 : decode cL_law_ 2384 = .ok (.aload_n 3, 1) := by decide +kernel
theorem dL_law__2385 : decode cL_law_ 2385 = .ok (.invokestatic 248, 3) := by decide +kernel
theorem dL_law__2388 : decode cL_law_ 2388 = .ok (.istore 5, 2) := by decide +kernel
theorem dL_law__2390 : decode cL_law_ 2390 = .ok (.aload_n 2, 1) := by decide +kernel
theorem dL_law__2391 : decode cL_law_ 2391 = .ok (.aload_n 0, 1) := by decide +kernel
theorem dL_law__2392 : decode cL_law_ 2392 = .ok (.iload 4, 2) := by decide +kernel
theorem dL_law__2394 : decode cL_law_ 2394 = .ok (.iconst 1, 1) := by decide +kernel
theorem dL_law__2395 : decode cL_law_ 2395 = .ok (.iadd, 1) := by decide +kernel
theorem dL_law__2396 : decode cL_law_ 2396 = .ok (.iaload, 1) := by decide +kernel
theorem dL_law__2397 : decode cL_law_ 2397 = .ok (.invokevirtual 250, 3) := by decide +kernel
theorem dL_law__2400 : decode cL_law_ 2400 = .ok (.istore 6, 2) := by decide +kernel
theorem dL_law__2402 : decode cL_law_ 2402 = .ok (.aload_n 2, 1) := by decide +kernel
theorem dL_law__2403 : decode cL_law_ 2403 = .ok (.invokevirtual 122, 3) := by decide +kernel
theorem dL_law__2406 : decode cL_law_ 2406 = .ok (.iload 5, 2) := by decide +kernel
theorem dL_law__2408 : decode cL_law_ 2408 = .ok (.if_icmp .eq 5, 3) := by decide +kernel
theorem dL_law__2411 : decode cL_law_ 2411 = .ok (.iconst 0, 1) := by decide +kernel
theorem dL_law__2412 : decode cL_law_ 2412 = .ok (.ireturn, 1) := by decide +kernel
theorem dL_law__2413 : decode cL_law_ 2413 = .ok (.iload 5, 2) := by decide +kernel
theorem dL_law__2415 : decode cL_law_ 2415 = .ok (.ifCond .ne 15, 3) := by decide +kernel
theorem dL_law__2418 : decode cL_law_ 2418 = .ok (.aload_n 3, 1) := by decide +kernel
theorem dL_law__2419 : decode cL_law_ 2419 = .ok (.iconst 0, 1) := by decide +kernel
theorem dL_law__2420 : decode cL_law_ 2420 = .ok (.laload, 1) := by decide +kernel
theorem dL_law__2421 : decode cL_law_ 2421 = .ok (.iload 6, 2) := by decide +kernel
theorem dL_law__2423 : decode cL_law_ 2423 = .ok (.i2l, 1) := by decide +kernel
theorem dL_law__2424 : decode cL_law_ 2424 = .ok (.lcmp, 1) := by decide +kernel
theorem dL_law__2425 : decode cL_law_ 2425 = .ok (.ifCond .eq 5, 3) := by decide +kernel
theorem dL_law__2428 : decode cL_law_ 2428 = .ok (.iconst 0, 1) := by decide +kernel
theorem dL_law__2429 : decode cL_law_ 2429 = .ok (.ireturn, 1) := by decide +kernel
theorem dL_law__2430 : decode cL_law_ 2430 = .ok (.goto 54, 3) := by decide +kernel
theorem dL_law__2433 : decode cL_law_ 2433 = .ok (.aload_n 1, 1) := by decide +kernel
theorem dL_law__2434 : decode cL_law_ 2434 = .ok (.invokevirtual 251, 3) := by decide +kernel
theorem dL_law__2437 : decode cL_law_ 2437 = .ok (.aload_n 2, 1) := by decide +kernel
theorem dL_law__2438 : decode cL_law_ 2438 = .ok (.invokevirtual 254, 3) := by decide +kernel
theorem dL_law__2441 : decode cL_law_ 2441 = .ok (.if_icmp .eq 43, 3) := by decide +kernel
theorem dL_law__2444 : decode cL_law_ 2444 = .ok (.iconst 0, 1) := by decide +kernel
theorem dL_law__2445 : decode cL_law_ 2445 = .ok (.ireturn, 1) := by decide +kernel
theorem dL_law__2446 : decode cL_law_ 2446 = .ok (.aload_n 1, 1) := by decide +kernel
theorem dL_law__2447 : decode cL_law_ 2447 = .ok (.invokevirtual 255, 3) := by decide +kernel
theorem dL_law__2450 : decode cL_law_ 2450 = .ok (.aload_n 2, 1) := by decide +kernel
theorem dL_law__2451 : decode cL_law_ 2451 = .ok (.invokevirtual 258, 3) := by decide +kernel
theorem dL_law__2454 : decode cL_law_ 2454 = .ok (.if_icmp .eq 30, 3) := by decide +kernel
theorem dL_law__2457 : decode cL_law_ 2457 = .ok (.iconst 0, 1) := by decide +kernel
theorem dL_law__2458 : decode cL_law_ 2458 = .ok (.ireturn, 1) := by decide +kernel
theorem dL_law__2459 : decode cL_law_ 2459 = .ok (.aload_n 1, 1) := by decide +kernel
theorem dL_law__2460 : decode cL_law_ 2460 = .ok (.aload_n 0, 1) := by decide +kernel
theorem dL_law__2461 : decode cL_law_ 2461 = .ok (.iload 4, 2) := by decide +kernel
theorem dL_law__2463 : decode cL_law_ 2463 = .ok (.iconst 1, 1) := by decide +kernel
theorem dL_law__2464 : decode cL_law_ 2464 = .ok (.iadd, 1) := by decide +kernel
theorem dL_law__2465 : decode cL_law_ 2465 = .ok (.iaload, 1) := by decide +kernel
