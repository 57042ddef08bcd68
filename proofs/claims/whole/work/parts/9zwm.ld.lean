def kL_law_r48 : List (Nat × Instr × Nat) := [(2368, .lcmp, 1), (2369, .ifCond .eq 5, 3), (2372, .iconst 0, 1), (2373, .ireturn, 1), (2374, .goto 110, 3), (2377, .aload_n 1, 1), (2378, .aload_n 0, 1), (2379, .iload 4, 2), (2381, .iconst 1, 1), (2382, .iadd, 1), (2383, .iaload, 1), (2384, .aload_n 3, 1), (2385, .invokestatic 248, 3), (2388, .istore 5, 2), (2390, .aload_n 2, 1), (2391, .aload_n 0, 1), (2392, .iload 4, 2), (2394, .iconst 1, 1), (2395, .iadd, 1), (2396, .iaload, 1), (2397, .invokevirtual 250, 3), (2400, .istore 6, 2), (2402, .aload_n 2, 1), (2403, .invokevirtual 122, 3), (2406, .iload 5, 2), (2408, .if_icmp .eq 5, 3), (2411, .iconst 0, 1), (2412, .ireturn, 1), (2413, .iload 5, 2), (2415, .ifCond .ne 15, 3)]
set_option maxRecDepth 100000 in
theorem kL_law_r48_ok : kL_law_r48.all (fun q => decide (decode cL_law_ q.1 = .ok q.2)) = true := by decide +kernel
theorem dL_law__2368 : decode cL_law_ 2368 = .ok (.lcmp, 1) := dk_get kL_law_r48_ok 0 rfl
theorem dL_law__2369 : decode cL_law_ 2369 = .ok (.ifCond .eq 5, 3) := dk_get kL_law_r48_ok 1 rfl
theorem dL_law__2372 : decode cL_law_ 2372 = .ok (.iconst 0, 1) := dk_get kL_law_r48_ok 2 rfl
theorem dL_law__2373 : decode cL_law_ 2373 = .ok (.ireturn, 1) := dk_get kL_law_r48_ok 3 rfl
theorem dL_law__2374 : decode cL_law_ 2374 = .ok (.goto 110, 3) := dk_get kL_law_r48_ok 4 rfl
theorem dL_law__2377 : decode cL_law_ 2377 = .ok (.aload_n 1, 1) := dk_get kL_law_r48_ok 5 rfl
theorem dL_law__2378 : decode cL_law_ 2378 = .ok (.aload_n 0, 1) := dk_get kL_law_r48_ok 6 rfl
theorem dL_law__2379 : decode cL_law_ 2379 = .ok (.iload 4, 2) := dk_get kL_law_r48_ok 7 rfl
theorem dL_law__2381 : decode cL_law_ 2381 = .ok (.iconst 1, 1) := dk_get kL_law_r48_ok 8 rfl
theorem dL_law__2382 : decode cL_law_ 2382 = .ok (.iadd, 1) := dk_get kL_law_r48_ok 9 rfl
theorem dL_law__2383 : decode cL_law_ 2383 = .ok (.iaload, 1) := dk_get kL_law_r48_ok 10 rfl
theorem dL_law__2384 : decode cL_law_ 2384 = .ok (.aload_n 3, 1) := dk_get kL_law_r48_ok 11 rfl
theorem dL_law__2385 : decode cL_law_ 2385 = .ok (.invokestatic 248, 3) := dk_get kL_law_r48_ok 12 rfl
theorem dL_law__2388 : decode cL_law_ 2388 = .ok (.istore 5, 2) := dk_get kL_law_r48_ok 13 rfl
theorem dL_law__2390 : decode cL_law_ 2390 = .ok (.aload_n 2, 1) := dk_get kL_law_r48_ok 14 rfl
theorem dL_law__2391 : decode cL_law_ 2391 = .ok (.aload_n 0, 1) := dk_get kL_law_r48_ok 15 rfl
theorem dL_law__2392 : decode cL_law_ 2392 = .ok (.iload 4, 2) := dk_get kL_law_r48_ok 16 rfl
theorem dL_law__2394 : decode cL_law_ 2394 = .ok (.iconst 1, 1) := dk_get kL_law_r48_ok 17 rfl
theorem dL_law__2395 : decode cL_law_ 2395 = .ok (.iadd, 1) := dk_get kL_law_r48_ok 18 rfl
theorem dL_law__2396 : decode cL_law_ 2396 = .ok (.iaload, 1) := dk_get kL_law_r48_ok 19 rfl
theorem dL_law__2397 : decode cL_law_ 2397 = .ok (.invokevirtual 250, 3) := dk_get kL_law_r48_ok 20 rfl
theorem dL_law__2400 : decode cL_law_ 2400 = .ok (.istore 6, 2) := dk_get kL_law_r48_ok 21 rfl
theorem dL_law__2402 : decode cL_law_ 2402 = .ok (.aload_n 2, 1) := dk_get kL_law_r48_ok 22 rfl
theorem dL_law__2403 : decode cL_law_ 2403 = .ok (.invokevirtual 122, 3) := dk_get kL_law_r48_ok 23 rfl
theorem dL_law__2406 : decode cL_law_ 2406 = .ok (.iload 5, 2) := dk_get kL_law_r48_ok 24 rfl
theorem dL_law__2408 : decode cL_law_ 2408 = .ok (.if_icmp .eq 5, 3) := dk_get kL_law_r48_ok 25 rfl
theorem dL_law__2411 : decode cL_law_ 2411 = .ok (.iconst 0, 1) := dk_get kL_law_r48_ok 26 rfl
theorem dL_law__2412 : decode cL_law_ 2412 = .ok (.ireturn, 1) := dk_get kL_law_r48_ok 27 rfl
theorem dL_law__2413 : decode cL_law_ 2413 = .ok (.iload 5, 2) := dk_get kL_law_r48_ok 28 rfl
theorem dL_law__2415 : decode cL_law_ 2415 = .ok (.ifCond .ne 15, 3) := dk_get kL_law_r48_ok 29 rfl
def kL_law_r49 : List (Nat × Instr × Nat) := [(2418, .aload_n 3, 1), (2419, .iconst 0, 1), (2420, .laload, 1), (2421, .iload 6, 2), (2423, .i2l, 1), (2424, .lcmp, 1), (2425, .ifCond .eq 5, 3), (2428, .iconst 0, 1), (2429, .ireturn, 1), (2430, .goto 54, 3), (2433, .aload_n 1, 1), (2434, .invokevirtual 251, 3), (2437, .aload_n 2, 1), (2438, .invokevirtual 254, 3), (2441, .if_icmp .eq 43, 3), (2444, .iconst 0, 1), (2445, .ireturn, 1), (2446, .aload_n 1, 1), (2447, .invokevirtual 255, 3), (2450, .aload_n 2, 1), (2451, .invokevirtual 258, 3), (2454, .if_icmp .eq 30, 3), (2457, .iconst 0, 1), (2458, .ireturn, 1), (2459, .aload_n 1, 1), (2460, .aload_n 0, 1), (2461, .iload 4, 2), (2463, .iconst 1, 1), (2464, .iadd, 1), (2465, .iaload, 1)]
set_option maxRecDepth 100000 in
theorem kL_law_r49_ok : kL_law_r49.all (fun q => decide (decode cL_law_ q.1 = .ok q.2)) = true := by decide +kernel
theorem dL_law__2418 : decode cL_law_ 2418 = .ok (.aload_n 3, 1) := dk_get kL_law_r49_ok 0 rfl
theorem dL_law__2419 : decode cL_law_ 2419 = .ok (.iconst 0, 1) := dk_get kL_law_r49_ok 1 rfl
theorem dL_law__2420 : decode cL_law_ 2420 = .ok (.laload, 1) := dk_get kL_law_r49_ok 2 rfl
theorem dL_law__2421 : decode cL_law_ 2421 = .ok (.iload 6, 2) := dk_get kL_law_r49_ok 3 rfl
theorem dL_law__2423 : decode cL_law_ 2423 = .ok (.i2l, 1) := dk_get kL_law_r49_ok 4 rfl
theorem dL_law__2424 : decode cL_law_ 2424 = .ok (.lcmp, 1) := dk_get kL_law_r49_ok 5 rfl
theorem dL_law__2425 : decode cL_law_ 2425 = .ok (.ifCond .eq 5, 3) := dk_get kL_law_r49_ok 6 rfl
theorem dL_law__2428 : decode cL_law_ 2428 = .ok (.iconst 0, 1) := dk_get kL_law_r49_ok 7 rfl
theorem dL_law__2429 : decode cL_law_ 2429 = .ok (.ireturn, 1) := dk_get kL_law_r49_ok 8 rfl
theorem dL_law__2430 : decode cL_law_ 2430 = .ok (.goto 54, 3) := dk_get kL_law_r49_ok 9 rfl
theorem dL_law__2433 : decode cL_law_ 2433 = .ok (.aload_n 1, 1) := dk_get kL_law_r49_ok 10 rfl
theorem dL_law__2434 : decode cL_law_ 2434 = .ok (.invokevirtual 251, 3) := dk_get kL_law_r49_ok 11 rfl
theorem dL_law__2437 : decode cL_law_ 2437 = .ok (.aload_n 2, 1) := dk_get kL_law_r49_ok 12 rfl
theorem dL_law__2438 : decode cL_law_ 2438 = .ok (.invokevirtual 254, 3) := dk_get kL_law_r49_ok 13 rfl
theorem dL_law__2441 : decode cL_law_ 2441 = .ok (.if_icmp .eq 43, 3) := dk_get kL_law_r49_ok 14 rfl
theorem dL_law__2444 : decode cL_law_ 2444 = .ok (.iconst 0, 1) := dk_get kL_law_r49_ok 15 rfl
theorem dL_law__2445 : decode cL_law_ 2445 = .ok (.ireturn, 1) := dk_get kL_law_r49_ok 16 rfl
theorem dL_law__2446 : decode cL_law_ 2446 = .ok (.aload_n 1, 1) := dk_get kL_law_r49_ok 17 rfl
theorem dL_law__2447 : decode cL_law_ 2447 = .ok (.invokevirtual 255, 3) := dk_get kL_law_r49_ok 18 rfl
theorem dL_law__2450 : decode cL_law_ 2450 = .ok (.aload_n 2, 1) := dk_get kL_law_r49_ok 19 rfl
theorem dL_law__2451 : decode cL_law_ 2451 = .ok (.invokevirtual 258, 3) := dk_get kL_law_r49_ok 20 rfl
theorem dL_law__2454 : decode cL_law_ 2454 = .ok (.if_icmp .eq 30, 3) := dk_get kL_law_r49_ok 21 rfl
theorem dL_law__2457 : decode cL_law_ 2457 = .ok (.iconst 0, 1) := dk_get kL_law_r49_ok 22 rfl
theorem dL_law__2458 : decode cL_law_ 2458 = .ok (.ireturn, 1) := dk_get kL_law_r49_ok 23 rfl
theorem dL_law__2459 : decode cL_law_ 2459 = .ok (.aload_n 1, 1) := dk_get kL_law_r49_ok 24 rfl
theorem dL_law__2460 : decode cL_law_ 2460 = .ok (.aload_n 0, 1) := dk_get kL_law_r49_ok 25 rfl
theorem dL_law__2461 : decode cL_law_ 2461 = .ok (.iload 4, 2) := dk_get kL_law_r49_ok 26 rfl
theorem dL_law__2463 : decode cL_law_ 2463 = .ok (.iconst 1, 1) := dk_get kL_law_r49_ok 27 rfl
theorem dL_law__2464 : decode cL_law_ 2464 = .ok (.iadd, 1) := dk_get kL_law_r49_ok 28 rfl
theorem dL_law__2465 : decode cL_law_ 2465 = .ok (.iaload, 1) := dk_get kL_law_r49_ok 29 rfl
def kL_law_r50 : List (Nat × Instr × Nat) := [(2466, .invokevirtual 259, 3), (2469, .aload_n 2, 1), (2470, .aload_n 0, 1), (2471, .iload 4, 2), (2473, .iconst 1, 1), (2474, .iadd, 1), (2475, .iaload, 1), (2476, .invokevirtual 262, 3), (2479, .if_icmp .eq 5, 3), (2482, .iconst 0, 1), (2483, .ireturn, 1), (2484, .iinc 4 6, 3), (2487, .goto (-2464), 3), (2490, .iconst 1, 1), (2491, .ireturn, 1)]
set_option maxRecDepth 100000 in
theorem kL_law_r50_ok : kL_law_r50.all (fun q => decide (decode cL_law_ q.1 = .ok q.2)) = true := by decide +kernel
theorem dL_law__2466 : decode cL_law_ 2466 = .ok (.invokevirtual 259, 3) := dk_get kL_law_r50_ok 0 rfl
theorem dL_law__2469 : decode cL_law_ 2469 = .ok (.aload_n 2, 1) := dk_get kL_law_r50_ok 1 rfl
theorem dL_law__2470 : decode cL_law_ 2470 = .ok (.aload_n 0, 1) := dk_get kL_law_r50_ok 2 rfl
theorem dL_law__2471 : decode cL_law_ 2471 = .ok (.iload 4, 2) := dk_get kL_law_r50_ok 3 rfl
theorem dL_law__2473 : decode cL_law_ 2473 = .ok (.iconst 1, 1) := dk_get kL_law_r50_ok 4 rfl
theorem dL_law__2474 : decode cL_law_ 2474 = .ok (.iadd, 1) := dk_get kL_law_r50_ok 5 rfl
theorem dL_law__2475 : decode cL_law_ 2475 = .ok (.iaload, 1) := dk_get kL_law_r50_ok 6 rfl
theorem dL_law__2476 : decode cL_law_ 2476 = .ok (.invokevirtual 262, 3) := dk_get kL_law_r50_ok 7 rfl
theorem dL_law__2479 : decode cL_law_ 2479 = .ok (.if_icmp .eq 5, 3) := dk_get kL_law_r50_ok 8 rfl
theorem dL_law__2482 : decode cL_law_ 2482 = .ok (.iconst 0, 1) := dk_get kL_law_r50_ok 9 rfl
theorem dL_law__2483 : decode cL_law_ 2483 = .ok (.ireturn, 1) := dk_get kL_law_r50_ok 10 rfl
theorem dL_law__2484 : decode cL_law_ 2484 = .ok (.iinc 4 6, 3) := dk_get kL_law_r50_ok 11 rfl
theorem dL_law__2487 : decode cL_law_ 2487 = .ok (.goto (-2464), 3) := dk_get kL_law_r50_ok 12 rfl
theorem dL_law__2490 : decode cL_law_ 2490 = .ok (.iconst 1, 1) := dk_get kL_law_r50_ok 13 rfl
theorem dL_law__2491 : decode cL_law_ 2491 = .ok (.ireturn, 1) := dk_get kL_law_r50_ok 14 rfl
