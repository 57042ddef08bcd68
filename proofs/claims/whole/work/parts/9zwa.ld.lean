def kL_law_r0 : List (Nat × Instr × Nat) := [(0, .new 8, 3), (3, .dup, 1), (4, .invokespecial 112, 3), (7, .astore_n 1, 1), (8, .new 113, 3), (11, .dup, 1), (12, .invokespecial 115, 3), (15, .astore_n 2, 1), (16, .iconst 1, 1), (17, .newarray .long, 2), (19, .astore_n 3, 1), (20, .iconst 0, 1), (21, .istore 4, 2), (23, .iload 4, 2), (25, .aload_n 0, 1), (26, .arraylength, 1), (27, .bipush 6, 2), (29, .isub, 1), (30, .if_icmp .gt 2460, 3), (33, .aload_n 0, 1), (34, .iload 4, 2), (36, .iaload, 1), (37, .bipush 63, 2), (39, .iand, 1), (40, .tableswitch 2444 0 40 #[180, 284, 352, 432, 505, 561, 574, 642, 710, 790, 858, 926, 1022, 1090, 1158, 1221, 1289, 1357, 1371, 1384, 1439, 1495, 1509, 1577, 1590, 1681, 1736, 1792, 1848, 1862, 1875, 1943, 2010, 2090, 2146, 2214, 2282, 2337, 2393, 2406, 2419], 180), (220, .aload_n 1, 1), (221, .aload_n 0, 1), (222, .iload 4, 2), (224, .iconst 1, 1), (225, .iadd, 1)]
set_option maxRecDepth 100000 in
theorem kL_law_r0_ok : kL_law_r0.all (fun q => decide (decode cL_law_ q.1 = .ok q.2)) = true := by decide +kernel
theorem dL_law__0 : decode cL_law_ 0 = .ok (.new 8, 3) := dk_get kL_law_r0_ok 0 rfl
theorem dL_law__3 : decode cL_law_ 3 = .ok (.dup, 1) := dk_get kL_law_r0_ok 1 rfl
theorem dL_law__4 : decode cL_law_ 4 = .ok (.invokespecial 112, 3) := dk_get kL_law_r0_ok 2 rfl
theorem dL_law__7 : decode cL_law_ 7 = .ok (.astore_n 1, 1) := dk_get kL_law_r0_ok 3 rfl
theorem dL_law__8 : decode cL_law_ 8 = .ok (.new 113, 3) := dk_get kL_law_r0_ok 4 rfl
theorem dL_law__11 : decode cL_law_ 11 = .ok (.dup, 1) := dk_get kL_law_r0_ok 5 rfl
theorem dL_law__12 : decode cL_law_ 12 = .ok (.invokespecial 115, 3) := dk_get kL_law_r0_ok 6 rfl
theorem dL_law__15 : decode cL_law_ 15 = .ok (.astore_n 2, 1) := dk_get kL_law_r0_ok 7 rfl
theorem dL_law__16 : decode cL_law_ 16 = .ok (.iconst 1, 1) := dk_get kL_law_r0_ok 8 rfl
theorem dL_law__17 : decode cL_law_ 17 = .ok (.newarray .long, 2) := dk_get kL_law_r0_ok 9 rfl
theorem dL_law__19 : decode cL_law_ 19 = .ok (.astore_n 3, 1) := dk_get kL_law_r0_ok 10 rfl
theorem dL_law__20 : decode cL_law_ 20 = .ok (.iconst 0, 1) := dk_get kL_law_r0_ok 11 rfl
theorem dL_law__21 : decode cL_law_ 21 = .ok (.istore 4, 2) := dk_get kL_law_r0_ok 12 rfl
theorem dL_law__23 : decode cL_law_ 23 = .ok (.iload 4, 2) := dk_get kL_law_r0_ok 13 rfl
theorem dL_law__25 : decode cL_law_ 25 = .ok (.aload_n 0, 1) := dk_get kL_law_r0_ok 14 rfl
theorem dL_law__26 : decode cL_law_ 26 = .ok (.arraylength, 1) := dk_get kL_law_r0_ok 15 rfl
theorem dL_law__27 : decode cL_law_ 27 = .ok (.bipush 6, 2) := dk_get kL_law_r0_ok 16 rfl
theorem dL_law__29 : decode cL_law_ 29 = .ok (.isub, 1) := dk_get kL_law_r0_ok 17 rfl
theorem dL_law__30 : decode cL_law_ 30 = .ok (.if_icmp .gt 2460, 3) := dk_get kL_law_r0_ok 18 rfl
theorem dL_law__33 : decode cL_law_ 33 = .ok (.aload_n 0, 1) := dk_get kL_law_r0_ok 19 rfl
theorem dL_law__34 : decode cL_law_ 34 = .ok (.iload 4, 2) := dk_get kL_law_r0_ok 20 rfl
theorem dL_law__36 : decode cL_law_ 36 = .ok (.iaload, 1) := dk_get kL_law_r0_ok 21 rfl
theorem dL_law__37 : decode cL_law_ 37 = .ok (.bipush 63, 2) := dk_get kL_law_r0_ok 22 rfl
theorem dL_law__39 : decode cL_law_ 39 = .ok (.iand, 1) := dk_get kL_law_r0_ok 23 rfl
theorem dL_law__40 : decode cL_law_ 40 = .ok (.tableswitch 2444 0 40 #[180, 284, 352, 432, 505, 561, 574, 642, 710, 790, 858, 926, 1022, 1090, 1158, 1221, 1289, 1357, 1371, 1384, 1439, 1495, 1509, 1577, 1590, 1681, 1736, 1792, 1848, 1862, 1875, 1943, 2010, 2090, 2146, 2214, 2282, 2337, 2393, 2406, 2419], 180) := dk_get kL_law_r0_ok 24 rfl
theorem dL_law__220 : decode cL_law_ 220 = .ok (.aload_n 1, 1) := dk_get kL_law_r0_ok 25 rfl
theorem dL_law__221 : decode cL_law_ 221 = .ok (.aload_n 0, 1) := dk_get kL_law_r0_ok 26 rfl
theorem dL_law__222 : decode cL_law_ 222 = .ok (.iload 4, 2) := dk_get kL_law_r0_ok 27 rfl
theorem dL_law__224 : decode cL_law_ 224 = .ok (.iconst 1, 1) := dk_get kL_law_r0_ok 28 rfl
theorem dL_law__225 : decode cL_law_ 225 = .ok (.iadd, 1) := dk_get kL_law_r0_ok 29 rfl
def kL_law_r1 : List (Nat × Instr × Nat) := [(226, .iaload, 1), (227, .aload_n 0, 1), (228, .iload 4, 2), (230, .iconst 2, 1), (231, .iadd, 1), (232, .iaload, 1), (233, .aload_n 0, 1), (234, .iload 4, 2), (236, .iconst 3, 1), (237, .iadd, 1), (238, .iaload, 1), (239, .aload_n 0, 1), (240, .iload 4, 2), (242, .iconst 4, 1), (243, .iadd, 1), (244, .iaload, 1), (245, .aload_n 0, 1), (246, .iload 4, 2), (248, .iconst 5, 1), (249, .iadd, 1), (250, .iaload, 1), (251, .aload_n 3, 1), (252, .invokestatic 116, 3), (255, .istore 5, 2), (257, .aload_n 2, 1), (258, .aload_n 0, 1), (259, .iload 4, 2), (261, .iconst 1, 1), (262, .iadd, 1), (263, .iaload, 1)]
set_option maxRecDepth 100000 in
theorem kL_law_r1_ok : kL_law_r1.all (fun q => decide (decode cL_law_ q.1 = .ok q.2)) = true := by decide +kernel
theorem dL_law__226 : decode cL_law_ 226 = .ok (.iaload, 1) := dk_get kL_law_r1_ok 0 rfl
theorem dL_law__227 : decode cL_law_ 227 = .ok (.aload_n 0, 1) := dk_get kL_law_r1_ok 1 rfl
theorem dL_law__228 : decode cL_law_ 228 = .ok (.iload 4, 2) := dk_get kL_law_r1_ok 2 rfl
theorem dL_law__230 : decode cL_law_ 230 = .ok (.iconst 2, 1) := dk_get kL_law_r1_ok 3 rfl
theorem dL_law__231 : decode cL_law_ 231 = .ok (.iadd, 1) := dk_get kL_law_r1_ok 4 rfl
theorem dL_law__232 : decode cL_law_ 232 = .ok (.iaload, 1) := dk_get kL_law_r1_ok 5 rfl
theorem dL_law__233 : decode cL_law_ 233 = .ok (.aload_n 0, 1) := dk_get kL_law_r1_ok 6 rfl
theorem dL_law__234 : decode cL_law_ 234 = .ok (.iload 4, 2) := dk_get kL_law_r1_ok 7 rfl
theorem dL_law__236 : decode cL_law_ 236 = .ok (.iconst 3, 1) := dk_get kL_law_r1_ok 8 rfl
theorem dL_law__237 : decode cL_law_ 237 = .ok (.iadd, 1) := dk_get kL_law_r1_ok 9 rfl
theorem dL_law__238 : decode cL_law_ 238 = .ok (.iaload, 1) := dk_get kL_law_r1_ok 10 rfl
theorem dL_law__239 : decode cL_law_ 239 = .ok (.aload_n 0, 1) := dk_get kL_law_r1_ok 11 rfl
theorem dL_law__240 : decode cL_law_ 240 = .ok (.iload 4, 2) := dk_get kL_law_r1_ok 12 rfl
theorem dL_law__242 : decode cL_law_ 242 = .ok (.iconst 4, 1) := dk_get kL_law_r1_ok 13 rfl
theorem dL_law__243 : decode cL_law_ 243 = .ok (.iadd, 1) := dk_get kL_law_r1_ok 14 rfl
theorem dL_law__244 : decode cL_law_ 244 = .ok (.iaload, 1) := dk_get kL_law_r1_ok 15 rfl
theorem dL_law__245 : decode cL_law_ 245 = .ok (.aload_n 0, 1) := dk_get kL_law_r1_ok 16 rfl
theorem dL_law__246 : decode cL_law_ 246 = .ok (.iload 4, 2) := dk_get kL_law_r1_ok 17 rfl
theorem dL_law__248 : decode cL_law_ 248 = .ok (.iconst 5, 1) := dk_get kL_law_r1_ok 18 rfl
theorem dL_law__249 : decode cL_law_ 249 = .ok (.iadd, 1) := dk_get kL_law_r1_ok 19 rfl
theorem dL_law__250 : decode cL_law_ 250 = .ok (.iaload, 1) := dk_get kL_law_r1_ok 20 rfl
theorem dL_law__251 : decode cL_law_ 251 = .ok (.aload_n 3, 1) := dk_get kL_law_r1_ok 21 rfl
theorem dL_law__252 : decode cL_law_ 252 = .ok (.invokestatic 116, 3) := dk_get kL_law_r1_ok 22 rfl
theorem dL_law__255 : decode cL_law_ 255 = .ok (.istore 5, 2) := dk_get kL_law_r1_ok 23 rfl
theorem dL_law__257 : decode cL_law_ 257 = .ok (.aload_n 2, 1) := dk_get kL_law_r1_ok 24 rfl
theorem dL_law__258 : decode cL_law_ 258 = .ok (.aload_n 0, 1) := dk_get kL_law_r1_ok 25 rfl
theorem dL_law__259 : decode cL_law_ 259 = .ok (.iload 4, 2) := dk_get kL_law_r1_ok 26 rfl
theorem dL_law__261 : decode cL_law_ 261 = .ok (.iconst 1, 1) := dk_get kL_law_r1_ok 27 rfl
theorem dL_law__262 : decode cL_law_ 262 = .ok (.iadd, 1) := dk_get kL_law_r1_ok 28 rfl
theorem dL_law__263 : decode cL_law_ 263 = .ok (.iaload, 1) := dk_get kL_law_r1_ok 29 rfl
def kL_law_r2 : List (Nat × Instr × Nat) := [(264, .aload_n 0, 1), (265, .iload 4, 2), (267, .iconst 2, 1), (268, .iadd, 1), (269, .iaload, 1), (270, .aload_n 0, 1), (271, .iload 4, 2), (273, .iconst 3, 1), (274, .iadd, 1), (275, .iaload, 1), (276, .aload_n 0, 1), (277, .iload 4, 2), (279, .iconst 4, 1), (280, .iadd, 1), (281, .iaload, 1), (282, .aload_n 0, 1), (283, .iload 4, 2), (285, .iconst 5, 1), (286, .iadd, 1), (287, .iaload, 1), (288, .invokevirtual 121, 3), (291, .istore 6, 2), (293, .aload_n 2, 1), (294, .invokevirtual 122, 3), (297, .iload 5, 2), (299, .if_icmp .eq 5, 3), (302, .iconst 0, 1), (303, .ireturn, 1), (304, .iload 5, 2), (306, .ifCond .ne 15, 3)]
set_option maxRecDepth 100000 in
theorem kL_law_r2_ok : kL_law_r2.all (fun q => decide (decode cL_law_ q.1 = .ok q.2)) = true := by decide +kernel
theorem dL_law__264 : decode cL_law_ 264 = .ok (.aload_n 0, 1) := dk_get kL_law_r2_ok 0 rfl
theorem dL_law__265 : decode cL_law_ 265 = .ok (.iload 4, 2) := dk_get kL_law_r2_ok 1 rfl
theorem dL_law__267 : decode cL_law_ 267 = .ok (.iconst 2, 1) := dk_get kL_law_r2_ok 2 rfl
theorem dL_law__268 : decode cL_law_ 268 = .ok (.iadd, 1) := dk_get kL_law_r2_ok 3 rfl
theorem dL_law__269 : decode cL_law_ 269 = .ok (.iaload, 1) := dk_get kL_law_r2_ok 4 rfl
theorem dL_law__270 : decode cL_law_ 270 = .ok (.aload_n 0, 1) := dk_get kL_law_r2_ok 5 rfl
theorem dL_law__271 : decode cL_law_ 271 = .ok (.iload 4, 2) := dk_get kL_law_r2_ok 6 rfl
theorem dL_law__273 : decode cL_law_ 273 = .ok (.iconst 3, 1) := dk_get kL_law_r2_ok 7 rfl
theorem dL_law__274 : decode cL_law_ 274 = .ok (.iadd, 1) := dk_get kL_law_r2_ok 8 rfl
theorem dL_law__275 : decode cL_law_ 275 = .ok (.iaload, 1) := dk_get kL_law_r2_ok 9 rfl
theorem dL_law__276 : decode cL_law_ 276 = .ok (.aload_n 0, 1) := dk_get kL_law_r2_ok 10 rfl
theorem dL_law__277 : decode cL_law_ 277 = .ok (.iload 4, 2) := dk_get kL_law_r2_ok 11 rfl
theorem dL_law__279 : decode cL_law_ 279 = .ok (.iconst 4, 1) := dk_get kL_law_r2_ok 12 rfl
theorem dL_law__280 : decode cL_law_ 280 = .ok (.iadd, 1) := dk_get kL_law_r2_ok 13 rfl
theorem dL_law__281 : decode cL_law_ 281 = .ok (.iaload, 1) := dk_get kL_law_r2_ok 14 rfl
theorem dL_law__282 : decode cL_law_ 282 = .ok (.aload_n 0, 1) := dk_get kL_law_r2_ok 15 rfl
theorem dL_law__283 : decode cL_law_ 283 = .ok (.iload 4, 2) := dk_get kL_law_r2_ok 16 rfl
theorem dL_law__285 : decode cL_law_ 285 = .ok (.iconst 5, 1) := dk_get kL_law_r2_ok 17 rfl
theorem dL_law__286 : decode cL_law_ 286 = .ok (.iadd, 1) := dk_get kL_law_r2_ok 18 rfl
theorem dL_law__287 : decode cL_law_ 287 = .ok (.iaload, 1) := dk_get kL_law_r2_ok 19 rfl
theorem dL_law__288 : decode cL_law_ 288 = .ok (.invokevirtual 121, 3) := dk_get kL_law_r2_ok 20 rfl
theorem dL_law__291 : decode cL_law_ 291 = .ok (.istore 6, 2) := dk_get kL_law_r2_ok 21 rfl
theorem dL_law__293 : decode cL_law_ 293 = .ok (.aload_n 2, 1) := dk_get kL_law_r2_ok 22 rfl
theorem dL_law__294 : decode cL_law_ 294 = .ok (.invokevirtual 122, 3) := dk_get kL_law_r2_ok 23 rfl
theorem dL_law__297 : decode cL_law_ 297 = .ok (.iload 5, 2) := dk_get kL_law_r2_ok 24 rfl
theorem dL_law__299 : decode cL_law_ 299 = .ok (.if_icmp .eq 5, 3) := dk_get kL_law_r2_ok 25 rfl
theorem dL_law__302 : decode cL_law_ 302 = .ok (.iconst 0, 1) := dk_get kL_law_r2_ok 26 rfl
theorem dL_law__303 : decode cL_law_ 303 = .ok (.ireturn, 1) := dk_get kL_law_r2_ok 27 rfl
theorem dL_law__304 : decode cL_law_ 304 = .ok (.iload 5, 2) := dk_get kL_law_r2_ok 28 rfl
theorem dL_law__306 : decode cL_law_ 306 = .ok (.ifCond .ne 15, 3) := dk_get kL_law_r2_ok 29 rfl
def kL_law_r3 : List (Nat × Instr × Nat) := [(309, .aload_n 3, 1), (310, .iconst 0, 1), (311, .laload, 1), (312, .iload 6, 2), (314, .i2l, 1), (315, .lcmp, 1), (316, .ifCond .eq 5, 3), (319, .iconst 0, 1), (320, .ireturn, 1), (321, .goto 2163, 3), (324, .aload_n 1, 1), (325, .aload_n 0, 1), (326, .iload 4, 2), (328, .iconst 1, 1), (329, .iadd, 1), (330, .iaload, 1), (331, .aload_n 0, 1), (332, .iload 4, 2), (334, .iconst 2, 1), (335, .iadd, 1), (336, .iaload, 1), (337, .aload_n 3, 1), (338, .invokestatic 126, 3), (341, .istore 5, 2), (343, .aload_n 2, 1), (344, .aload_n 0, 1), (345, .iload 4, 2), (347, .iconst 1, 1), (348, .iadd, 1), (349, .iaload, 1)]
set_option maxRecDepth 100000 in
theorem kL_law_r3_ok : kL_law_r3.all (fun q => decide (decode cL_law_ q.1 = .ok q.2)) = true := by decide +kernel
theorem dL_law__309 : decode cL_law_ 309 = .ok (.aload_n 3, 1) := dk_get kL_law_r3_ok 0 rfl
theorem dL_law__310 : decode cL_law_ 310 = .ok (.iconst 0, 1) := dk_get kL_law_r3_ok 1 rfl
theorem dL_law__311 : decode cL_law_ 311 = .ok (.laload, 1) := dk_get kL_law_r3_ok 2 rfl
theorem dL_law__312 : decode cL_law_ 312 = .ok (.iload 6, 2) := dk_get kL_law_r3_ok 3 rfl
theorem dL_law__314 : decode cL_law_ 314 = .ok (.i2l, 1) := dk_get kL_law_r3_ok 4 rfl
theorem dL_law__315 : decode cL_law_ 315 = .ok (.lcmp, 1) := dk_get kL_law_r3_ok 5 rfl
theorem dL_law__316 : decode cL_law_ 316 = .ok (.ifCond .eq 5, 3) := dk_get kL_law_r3_ok 6 rfl
theorem dL_law__319 : decode cL_law_ 319 = .ok (.iconst 0, 1) := dk_get kL_law_r3_ok 7 rfl
theorem dL_law__320 : decode cL_law_ 320 = .ok (.ireturn, 1) := dk_get kL_law_r3_ok 8 rfl
theorem dL_law__321 : decode cL_law_ 321 = .ok (.goto 2163, 3) := dk_get kL_law_r3_ok 9 rfl
theorem dL_law__324 : decode cL_law_ 324 = .ok (.aload_n 1, 1) := dk_get kL_law_r3_ok 10 rfl
theorem dL_law__325 : decode cL_law_ 325 = .ok (.aload_n 0, 1) := dk_get kL_law_r3_ok 11 rfl
theorem dL_law__326 : decode cL_law_ 326 = .ok (.iload 4, 2) := dk_get kL_law_r3_ok 12 rfl
theorem dL_law__328 : decode cL_law_ 328 = .ok (.iconst 1, 1) := dk_get kL_law_r3_ok 13 rfl
theorem dL_law__329 : decode cL_law_ 329 = .ok (.iadd, 1) := dk_get kL_law_r3_ok 14 rfl
theorem dL_law__330 : decode cL_law_ 330 = .ok (.iaload, 1) := dk_get kL_law_r3_ok 15 rfl
theorem dL_law__331 : decode cL_law_ 331 = .ok (.aload_n 0, 1) := dk_get kL_law_r3_ok 16 rfl
theorem dL_law__332 : decode cL_law_ 332 = .ok (.iload 4, 2) := dk_get kL_law_r3_ok 17 rfl
theorem dL_law__334 : decode cL_law_ 334 = .ok (.iconst 2, 1) := dk_get kL_law_r3_ok 18 rfl
theorem dL_law__335 : decode cL_law_ 335 = .ok (.iadd, 1) := dk_get kL_law_r3_ok 19 rfl
theorem dL_law__336 : decode cL_law_ 336 = .ok (.iaload, 1) := dk_get kL_law_r3_ok 20 rfl
theorem dL_law__337 : decode cL_law_ 337 = .ok (.aload_n 3, 1) := dk_get kL_law_r3_ok 21 rfl
theorem dL_law__338 : decode cL_law_ 338 = .ok (.invokestatic 126, 3) := dk_get kL_law_r3_ok 22 rfl
theorem dL_law__341 : decode cL_law_ 341 = .ok (.istore 5, 2) := dk_get kL_law_r3_ok 23 rfl
theorem dL_law__343 : decode cL_law_ 343 = .ok (.aload_n 2, 1) := dk_get kL_law_r3_ok 24 rfl
theorem dL_law__344 : decode cL_law_ 344 = .ok (.aload_n 0, 1) := dk_get kL_law_r3_ok 25 rfl
theorem dL_law__345 : decode cL_law_ 345 = .ok (.iload 4, 2) := dk_get kL_law_r3_ok 26 rfl
theorem dL_law__347 : decode cL_law_ 347 = .ok (.iconst 1, 1) := dk_get kL_law_r3_ok 27 rfl
theorem dL_law__348 : decode cL_law_ 348 = .ok (.iadd, 1) := dk_get kL_law_r3_ok 28 rfl
theorem dL_law__349 : decode cL_law_ 349 = .ok (.iaload, 1) := dk_get kL_law_r3_ok 29 rfl
