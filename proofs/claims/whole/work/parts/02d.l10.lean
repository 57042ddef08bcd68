theorem dL_law__2466 : decode cL_law_ 2466 = .ok (.invokevirtual 259, 3) := by decide +kernel
theorem dL_law__2469 : decode cL_law_ 2469 = .ok (.aload_n 2, 1) := by decide +kernel
theorem dL_law__2470 : decode cL_law_ 2470 = .ok (.aload_n 0, 1) := by decide +kernel
theorem dL_law__2471 : decode cL_law_ 2471 = .ok (.iload 4, 2) := by decide +kernel
theorem dL_law__2473 : decode cL_law_ 2473 = .ok (.iconst 1, 1) := by decide +kernel
theorem dL_law__2474 : decode cL_law_ 2474 = .ok (.iadd, 1) := by decide +kernel
theorem dL_law__2475 : decode cL_law_ 2475 = .ok (.iaload, 1) := by decide +kernel
theorem dL_law__2476 : decode cL_law_ 2476 = .ok (.invokevirtual 262, 3) := by decide +kernel
theorem dL_law__2479 : decode cL_law_ 2479 = .ok (.if_icmp .eq 5, 3) := by decide +kernel
theorem dL_law__2482 : decode cL_law_ 2482 = .ok (.iconst 0, 1) := by decide +kernel
theorem dL_law__2483 : decode cL_law_ 2483 = .ok (.ireturn, 1) := by decide +kernel
theorem dL_law__2484 : decode cL_law_ 2484 = .ok (.iinc 4 6, 3) := by decide +kernel
theorem dL_law__2487 : decode cL_law_ 2487 = .ok (.goto (-2464), 3) := by decide +kernel
theorem dL_law__2490 : decode cL_law_ 2490 = .ok (.iconst 1, 1) := by decide +kernel
theorem dL_law__2491 : decode cL_law_ 2491 = .ok (.ireturn, 1) := by decide +kernel
