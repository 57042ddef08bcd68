def kL_law__0 : List (Nat × Instr × Nat) := [(0, .new 8, 3), (3, .dup, 1), (4, .invokespecial 112, 3), (7, .astore_n 1, 1), (8, .new 113, 3), (11, .dup, 1), (12, .invokespecial 115, 3), (15, .astore_n 2, 1), (16, .iconst 1, 1), (17, .newarray .long, 2), (19, .astore_n 3, 1), (20, .iconst 0, 1), (21, .istore 4, 2), (23, .iload 4, 2), (25, .aload_n 0, 1), (26, .arraylength, 1), (27, .bipush 6, 2), (29, .isub, 1), (30, .if_icmp .gt 2460, 3), (33, .aload_n 0, 1), (34, .iload 4, 2), (36, .iaload, 1), (37, .bipush 63, 2), (39, .iand, 1), (40, .tableswitch 2444 0 40 #[180, 284, 352, 432, 505, 561, 574, 642, 710, 790, 858, 926, 1022, 1090, 1158, 1221, 1289, 1357, 1371, 1384, 1439, 1495, 1509, 1577, 1590, 1681, 1736, 1792, 1848, 1862, 1875, 1943, 2010, 2090, 2146, 2214, 2282, 2337, 2393, 2406, 2419], 180), (220, .aload_n 1, 1), (221, .aload_n 0, 1), (222, .iload 4, 2), (224, .iconst 1, 1), (225, .iadd, 1), (226, .iaload, 1), (227, .aload_n 0, 1), (228, .iload 4, 2), (230, .iconst 2, 1), (231, .iadd, 1), (232, .iaload, 1), (233, .aload_n 0, 1), (234, .iload 4, 2), (236, .iconst 3, 1), (237, .iadd, 1), (238, .iaload, 1), (239, .aload_n 0, 1), (240, .iload 4, 2), (242, .iconst 4, 1), (243, .iadd, 1), (244, .iaload, 1), (245, .aload_n 0, 1), (246, .iload 4, 2), (248, .iconst 5, 1), (249, .iadd, 1), (250, .iaload, 1), (251, .aload_n 3, 1), (252, .invokestatic 116, 3), (255, .istore 5, 2), (257, .aload_n 2, 1), (258, .aload_n 0, 1), (259, .iload 4, 2), (261, .iconst 1, 1), (262, .iadd, 1), (263, .iaload, 1), (264, .aload_n 0, 1), (265, .iload 4, 2), (267, .iconst 2, 1), (268, .iadd, 1), (269, .iaload, 1), (270, .aload_n 0, 1), (271, .iload 4, 2), (273, .iconst 3, 1), (274, .iadd, 1), (275, .iaload, 1), (276, .aload_n 0, 1), (277, .iload 4, 2), (279, .iconst 4, 1), (280, .iadd, 1), (281, .iaload, 1), (282, .aload_n 0, 1), (283, .iload 4, 2), (285, .iconst 5, 1), (286, .iadd, 1), (287, .iaload, 1), (288, .invokevirtual 121, 3), (291, .istore 6, 2), (293, .aload_n 2, 1), (294, .invokevirtual 122, 3), (297, .iload 5, 2), (299, .if_icmp .eq 5, 3), (302, .iconst 0, 1), (303, .ireturn, 1), (304, .iload 5, 2), (306, .ifCond .ne 15, 3), (309, .aload_n 3, 1), (310, .iconst 0, 1), (311, .laload, 1), (312, .iload 6, 2), (314, .i2l, 1), (315, .lcmp, 1), (316, .ifCond .eq 5, 3), (319, .iconst 0, 1), (320, .ireturn, 1), (321, .goto 2163, 3), (324, .aload_n 1, 1), (325, .aload_n 0, 1), (326, .iload 4, 2), (328, .iconst 1, 1), (329, .iadd, 1), (330, .iaload, 1), (331, .aload_n 0, 1), (332, .iload 4, 2), (334, .iconst 2, 1), (335, .iadd, 1), (336, .iaload, 1), (337, .aload_n 3, 1), (338, .invokestatic 126, 3), (341, .istore 5, 2), (343, .aload_n 2, 1), (344, .aload_n 0, 1), (345, .iload 4, 2), (347, .iconst 1, 1), (348, .iadd, 1), (349, .iaload, 1)]
set_option maxRecDepth 100000 in
theorem kL_law__0_ok : kL_law__0.all (fun q => decide (decode cL_law_ q.1 = .ok q.2)) = true := by decide +kernel
theorem dL_law__0 : decode cL_law_ 0 = .ok (.new 8, 3) := dk_get kL_law__0_ok 0 rfl
theorem dL_law__3 : decode cL_law_ 3 = .ok (.dup, 1) := dk_get kL_law__0_ok 1 rfl
theorem dL_law__4 : decode cL_law_ 4 = .ok (.invokespecial 112, 3) := dk_get kL_law__0_ok 2 rfl
theorem dL_law__7 : decode cL_law_ 7 = .ok (.astore_n 1, 1) := dk_get kL_law__0_ok 3 rfl
theorem dL_law__8 : decode cL_law_ 8 = .ok (.new 113, 3) := dk_get kL_law__0_ok 4 rfl
theorem dL_law__11 : decode cL_law_ 11 = .ok (.dup, 1) := dk_get kL_law__0_ok 5 rfl
theorem dL_law__12 : decode cL_law_ 12 = .ok (.invokespecial 115, 3) := dk_get kL_law__0_ok 6 rfl
theorem dL_law__15 : decode cL_law_ 15 = .ok (.astore_n 2, 1) := dk_get kL_law__0_ok 7 rfl
theorem dL_law__16 : decode cL_law_ 16 = .ok (.iconst 1, 1) := dk_get kL_law__0_ok 8 rfl
theorem dL_law__17 : decode cL_law_ 17 = .ok (.newarray .long, 2) := dk_get kL_law__0_ok 9 rfl
theorem dL_law__19 : decode cL_law_ 19 = .ok (.astore_n 3, 1) := dk_get kL_law__0_ok 10 rfl
theorem dL_law__20 : decode cL_law_ 20 = .ok (.iconst 0, 1) := dk_get kL_law__0_ok 11 rfl
theorem dL_law__21 : decode cL_law_ 21 = .ok (.istore 4, 2) := dk_get kL_law__0_ok 12 rfl
theorem dL_law__23 : decode cL_law_ 23 = .ok (.iload 4, 2) := dk_get kL_law__0_ok 13 rfl
theorem dL_law__25 : decode cL_law_ 25 = .ok (.aload_n 0, 1) := dk_get kL_law__0_ok 14 rfl
theorem dL_law__26 : decode cL_law_ 26 = .ok (.arraylength, 1) := dk_get kL_law__0_ok 15 rfl
theorem dL_law__27 : decode cL_law_ 27 = .ok (.bipush 6, 2) := dk_get kL_law__0_ok 16 rfl
theorem dL_law__29 : decode cL_law_ 29 = .ok (.isub, 1) := dk_get kL_law__0_ok 17 rfl
theorem dL_law__30 : decode cL_law_ 30 = .ok (.if_icmp .gt 2460, 3) := dk_get kL_law__0_ok 18 rfl
theorem dL_law__33 : decode cL_law_ 33 = .ok (.aload_n 0, 1) := dk_get kL_law__0_ok 19 rfl
theorem dL_law__34 : decode cL_law_ 34 = .ok (.iload 4, 2) := dk_get kL_law__0_ok 20 rfl
theorem dL_law__36 : decode cL_law_ 36 = .ok (.iaload, 1) := dk_get kL_law__0_ok 21 rfl
theorem dL_law__37 : decode cL_law_ 37 = .ok (.bipush 63, 2) := dk_get kL_law__0_ok 22 rfl
theorem dL_law__39 : decode cL_law_ 39 = .ok (.iand, 1) := dk_get kL_law__0_ok 23 rfl
theorem dL_law__40 : decode cL_law_ 40 = .ok (.tableswitch 2444 0 40 #[180, 284, 352, 432, 505, 561, 574, 642, 710, 790, 858, 926, 1022, 1090, 1158, 1221, 1289, 1357, 1371, 1384, 1439, 1495, 1509, 1577, 1590, 1681, 1736, 1792, 1848, 1862, 1875, 1943, 2010, 2090, 2146, 2214, 2282, 2337, 2393, 2406, 2419], 180) := dk_get kL_law__0_ok 24 rfl
theorem dL_law__220 : decode cL_law_ 220 = .ok (.aload_n 1, 1) := dk_get kL_law__0_ok 25 rfl
theorem dL_law__221 : decode cL_law_ 221 = .ok (.aload_n 0, 1) := dk_get kL_law__0_ok 26 rfl
theorem dL_law__222 : decode cL_law_ 222 = .ok (.iload 4, 2) := dk_get kL_law__0_ok 27 rfl
theorem dL_law__224 : decode cL_law_ 224 = .ok (.iconst 1, 1) := dk_get kL_law__0_ok 28 rfl
theorem dL_law__225 : decode cL_law_ 225 = .ok (.iadd, 1) := dk_get kL_law__0_ok 29 rfl
theorem dL_law__226 : decode cL_law_ 226 = .ok (.iaload, 1) := dk_get kL_law__0_ok 30 rfl
theorem dL_law__227 : decode cL_law_ 227 = .ok (.aload_n 0, 1) := dk_get kL_law__0_ok 31 rfl
theorem dL_law__228 : decode cL_law_ 228 = .ok (.iload 4, 2) := dk_get kL_law__0_ok 32 rfl
theorem dL_law__230 : decode cL_law_ 230 = .ok (.iconst 2, 1) := dk_get kL_law__0_ok 33 rfl
theorem dL_law__231 : decode cL_law_ 231 = .ok (.iadd, 1) := dk_get kL_law__0_ok 34 rfl
theorem dL_law__232 : decode cL_law_ 232 = .ok (.iaload, 1) := dk_get kL_law__0_ok 35 rfl
theorem dL_law__233 : decode cL_law_ 233 = .ok (.aload_n 0, 1) := dk_get kL_law__0_ok 36 rfl
theorem dL_law__234 : decode cL_law_ 234 = .ok (.iload 4, 2) := dk_get kL_law__0_ok 37 rfl
theorem dL_law__236 : decode cL_law_ 236 = .ok (.iconst 3, 1) := dk_get kL_law__0_ok 38 rfl
theorem dL_law__237 : decode cL_law_ 237 = .ok (.iadd, 1) := dk_get kL_law__0_ok 39 rfl
theorem dL_law__238 : decode cL_law_ 238 = .ok (.iaload, 1) := dk_get kL_law__0_ok 40 rfl
theorem dL_law__239 : decode cL_law_ 239 = .ok (.aload_n 0, 1) := dk_get kL_law__0_ok 41 rfl
theorem dL_law__240 : decode cL_law_ 240 = .ok (.iload 4, 2) := dk_get kL_law__0_ok 42 rfl
theorem dL_law__242 : decode cL_law_ 242 = .ok (.iconst 4, 1) := dk_get kL_law__0_ok 43 rfl
theorem dL_law__243 : decode cL_law_ 243 = .ok (.iadd, 1) := dk_get kL_law__0_ok 44 rfl
theorem dL_law__244 : decode cL_law_ 244 = .ok (.iaload, 1) := dk_get kL_law__0_ok 45 rfl
theorem dL_law__245 : decode cL_law_ 245 = .ok (.aload_n 0, 1) := dk_get kL_law__0_ok 46 rfl
theorem dL_law__246 : decode cL_law_ 246 = .ok (.iload 4, 2) := dk_get kL_law__0_ok 47 rfl
theorem dL_law__248 : decode cL_law_ 248 = .ok (.iconst 5, 1) := dk_get kL_law__0_ok 48 rfl
theorem dL_law__249 : decode cL_law_ 249 = .ok (.iadd, 1) := dk_get kL_law__0_ok 49 rfl
theorem dL_law__250 : decode cL_law_ 250 = .ok (.iaload, 1) := dk_get kL_law__0_ok 50 rfl
theorem dL_law__251 : decode cL_law_ 251 = .ok (.aload_n 3, 1) := dk_get kL_law__0_ok 51 rfl
theorem dL_law__252 : decode cL_law_ 252 = .ok (.invokestatic 116, 3) := dk_get kL_law__0_ok 52 rfl
theorem dL_law__255 : decode cL_law_ 255 = .ok (.istore 5, 2) := dk_get kL_law__0_ok 53 rfl
theorem dL_law__257 : decode cL_law_ 257 = .ok (.aload_n 2, 1) := dk_get kL_law__0_ok 54 rfl
theorem dL_law__258 : decode cL_law_ 258 = .ok (.aload_n 0, 1) := dk_get kL_law__0_ok 55 rfl
theorem dL_law__259 : decode cL_law_ 259 = .ok (.iload 4, 2) := dk_get kL_law__0_ok 56 rfl
theorem dL_law__261 : decode cL_law_ 261 = .ok (.iconst 1, 1) := dk_get kL_law__0_ok 57 rfl
theorem dL_law__262 : decode cL_law_ 262 = .ok (.iadd, 1) := dk_get kL_law__0_ok 58 rfl
theorem dL_law__263 : decode cL_law_ 263 = .ok (.iaload, 1) := dk_get kL_law__0_ok 59 rfl
theorem dL_law__264 : decode cL_law_ 264 = .ok (.aload_n 0, 1) := dk_get kL_law__0_ok 60 rfl
theorem dL_law__265 : decode cL_law_ 265 = .ok (.iload 4, 2) := dk_get kL_law__0_ok 61 rfl
theorem dL_law__267 : decode cL_law_ 267 = .ok (.iconst 2, 1) := dk_get kL_law__0_ok 62 rfl
theorem dL_law__268 : decode cL_law_ 268 = .ok (.iadd, 1) := dk_get kL_law__0_ok 63 rfl
theorem dL_law__269 : decode cL_law_ 269 = .ok (.iaload, 1) := dk_get kL_law__0_ok 64 rfl
theorem dL_law__270 : decode cL_law_ 270 = .ok (.aload_n 0, 1) := dk_get kL_law__0_ok 65 rfl
theorem dL_law__271 : decode cL_law_ 271 = .ok (.iload 4, 2) := dk_get kL_law__0_ok 66 rfl
theorem dL_law__273 : decode cL_law_ 273 = .ok (.iconst 3, 1) := dk_get kL_law__0_ok 67 rfl
theorem dL_law__274 : decode cL_law_ 274 = .ok (.iadd, 1) := dk_get kL_law__0_ok 68 rfl
theorem dL_law__275 : decode cL_law_ 275 = .ok (.iaload, 1) := dk_get kL_law__0_ok 69 rfl
theorem dL_law__276 : decode cL_law_ 276 = .ok (.aload_n 0, 1) := dk_get kL_law__0_ok 70 rfl
theorem dL_law__277 : decode cL_law_ 277 = .ok (.iload 4, 2) := dk_get kL_law__0_ok 71 rfl
theorem dL_law__279 : decode cL_law_ 279 = .ok (.iconst 4, 1) := dk_get kL_law__0_ok 72 rfl
theorem dL_law__280 : decode cL_law_ 280 = .ok (.iadd, 1) := dk_get kL_law__0_ok 73 rfl
theorem dL_law__281 : decode cL_law_ 281 = .ok (.iaload, 1) := dk_get kL_law__0_ok 74 rfl
theorem dL_law__282 : decode cL_law_ 282 = .ok (.aload_n 0, 1) := dk_get kL_law__0_ok 75 rfl
theorem dL_law__283 : decode cL_law_ 283 = .ok (.iload 4, 2) := dk_get kL_law__0_ok 76 rfl
theorem dL_law__285 : decode cL_law_ 285 = .ok (.iconst 5, 1) := dk_get kL_law__0_ok 77 rfl
theorem dL_law__286 : decode cL_law_ 286 = .ok (.iadd, 1) := dk_get kL_law__0_ok 78 rfl
theorem dL_law__287 : decode cL_law_ 287 = .ok (.iaload, 1) := dk_get kL_law__0_ok 79 rfl
theorem dL_law__288 : decode cL_law_ 288 = .ok (.invokevirtual 121, 3) := dk_get kL_law__0_ok 80 rfl
theorem dL_law__291 : decode cL_law_ 291 = .ok (.istore 6, 2) := dk_get kL_law__0_ok 81 rfl
theorem dL_law__293 : decode cL_law_ 293 = .ok (.aload_n 2, 1) := dk_get kL_law__0_ok 82 rfl
theorem dL_law__294 : decode cL_law_ 294 = .ok (.invokevirtual 122, 3) := dk_get kL_law__0_ok 83 rfl
theorem dL_law__297 : decode cL_law_ 297 = .ok (.iload 5, 2) := dk_get kL_law__0_ok 84 rfl
theorem dL_law__299 : decode cL_law_ 299 = .ok (.if_icmp .eq 5, 3) := dk_get kL_law__0_ok 85 rfl
theorem dL_law__302 : decode cL_law_ 302 = .ok (.iconst 0, 1) := dk_get kL_law__0_ok 86 rfl
theorem dL_law__303 : decode cL_law_ 303 = .ok (.ireturn, 1) := dk_get kL_law__0_ok 87 rfl
theorem dL_law__304 : decode cL_law_ 304 = .ok (.iload 5, 2) := dk_get kL_law__0_ok 88 rfl
theorem dL_law__306 : decode cL_law_ 306 = .ok (.ifCond .ne 15, 3) := dk_get kL_law__0_ok 89 rfl
theorem dL_law__309 : decode cL_law_ 309 = .ok (.aload_n 3, 1) := dk_get kL_law__0_ok 90 rfl
theorem dL_law__310 : decode cL_law_ 310 = .ok (.iconst 0, 1) := dk_get kL_law__0_ok 91 rfl
theorem dL_law__311 : decode cL_law_ 311 = .ok (.laload, 1) := dk_get kL_law__0_ok 92 rfl
theorem dL_law__312 : decode cL_law_ 312 = .ok (.iload 6, 2) := dk_get kL_law__0_ok 93 rfl
theorem dL_law__314 : decode cL_law_ 314 = .ok (.i2l, 1) := dk_get kL_law__0_ok 94 rfl
theorem dL_law__315 : decode cL_law_ 315 = .ok (.lcmp, 1) := dk_get kL_law__0_ok 95 rfl
theorem dL_law__316 : decode cL_law_ 316 = .ok (.ifCond .eq 5, 3) := dk_get kL_law__0_ok 96 rfl
theorem dL_law__319 : decode cL_law_ 319 = .ok (.iconst 0, 1) := dk_get kL_law__0_ok 97 rfl
theorem dL_law__320 : decode cL_law_ 320 = .ok (.ireturn, 1) := dk_get kL_law__0_ok 98 rfl
theorem dL_law__321 : decode cL_law_ 321 = .ok (.goto 2163, 3) := dk_get kL_law__0_ok 99 rfl
theorem dL_law__324 : decode cL_law_ 324 = .ok (.aload_n 1, 1) := dk_get kL_law__0_ok 100 rfl
theorem dL_law__325 : decode cL_law_ 325 = .ok (.aload_n 0, 1) := dk_get kL_law__0_ok 101 rfl
theorem dL_law__326 : decode cL_law_ 326 = .ok (.iload 4, 2) := dk_get kL_law__0_ok 102 rfl
theorem dL_law__328 : decode cL_law_ 328 = .ok (.iconst 1, 1) := dk_get kL_law__0_ok 103 rfl
theorem dL_law__329 : decode cL_law_ 329 = .ok (.iadd, 1) := dk_get kL_law__0_ok 104 rfl
theorem dL_law__330 : decode cL_law_ 330 = .ok (.iaload, 1) := dk_get kL_law__0_ok 105 rfl
theorem dL_law__331 : decode cL_law_ 331 = .ok (.aload_n 0, 1) := dk_get kL_law__0_ok 106 rfl
theorem dL_law__332 : decode cL_law_ 332 = .ok (.iload 4, 2) := dk_get kL_law__0_ok 107 rfl
theorem dL_law__334 : decode cL_law_ 334 = .ok (.iconst 2, 1) := dk_get kL_law__0_ok 108 rfl
theorem dL_law__335 : decode cL_law_ 335 = .ok (.iadd, 1) := dk_get kL_law__0_ok 109 rfl
theorem dL_law__336 : decode cL_law_ 336 = .ok (.iaload, 1) := dk_get kL_law__0_ok 110 rfl
theorem dL_law__337 : decode cL_law_ 337 = .ok (.aload_n 3, 1) := dk_get kL_law__0_ok 111 rfl
theorem dL_law__338 : decode cL_law_ 338 = .ok (.invokestatic 126, 3) := dk_get kL_law__0_ok 112 rfl
theorem dL_law__341 : decode cL_law_ 341 = .ok (.istore 5, 2) := dk_get kL_law__0_ok 113 rfl
theorem dL_law__343 : decode cL_law_ 343 = .ok (.aload_n 2, 1) := dk_get kL_law__0_ok 114 rfl
theorem dL_law__344 : decode cL_law_ 344 = .ok (.aload_n 0, 1) := dk_get kL_law__0_ok 115 rfl
theorem dL_law__345 : decode cL_law_ 345 = .ok (.iload 4, 2) := dk_get kL_law__0_ok 116 rfl
theorem dL_law__347 : decode cL_law_ 347 = .ok (.iconst 1, 1) := dk_get kL_law__0_ok 117 rfl
theorem dL_law__348 : decode cL_law_ 348 = .ok (.iadd, 1) := dk_get kL_law__0_ok 118 rfl
theorem dL_law__349 : decode cL_law_ 349 = .ok (.iaload, 1) := dk_get kL_law__0_ok 119 rfl
def kL_law__1 : List (Nat × Instr × Nat) := [(350, .aload_n 0, 1), (351, .iload 4, 2), (353, .iconst 2, 1), (354, .iadd, 1), (355, .iaload, 1), (356, .invokevirtual 129, 3), (359, .istore 6, 2), (361, .aload_n 2, 1), (362, .invokevirtual 122, 3), (365, .iload 5, 2), (367, .if_icmp .eq 5, 3), (370, .iconst 0, 1), (371, .ireturn, 1), (372, .iload 5, 2), (374, .ifCond .ne 15, 3), (377, .aload_n 3, 1), (378, .iconst 0, 1), (379, .laload, 1), (380, .iload 6, 2), (382, .i2l, 1), (383, .lcmp, 1), (384, .ifCond .eq 5, 3), (387, .iconst 0, 1), (388, .ireturn, 1), (389, .goto 2095, 3), (392, .aload_n 1, 1), (393, .aload_n 0, 1), (394, .iload 4, 2), (396, .iconst 1, 1), (397, .iadd, 1), (398, .iaload, 1), (399, .aload_n 0, 1), (400, .iload 4, 2), (402, .iconst 2, 1), (403, .iadd, 1), (404, .iaload, 1), (405, .aload_n 0, 1), (406, .iload 4, 2), (408, .iconst 3, 1), (409, .iadd, 1), (410, .iaload, 1), (411, .aload_n 3, 1), (412, .invokestatic 130, 3), (415, .istore 5, 2), (417, .aload_n 2, 1), (418, .aload_n 0, 1), (419, .iload 4, 2), (421, .iconst 1, 1), (422, .iadd, 1), (423, .iaload, 1), (424, .aload_n 0, 1), (425, .iload 4, 2), (427, .iconst 2, 1), (428, .iadd, 1), (429, .iaload, 1), (430, .aload_n 0, 1), (431, .iload 4, 2), (433, .iconst 3, 1), (434, .iadd, 1), (435, .iaload, 1), (436, .invokevirtual 133, 3), (439, .istore 6, 2), (441, .aload_n 2, 1), (442, .invokevirtual 122, 3), (445, .iload 5, 2), (447, .if_icmp .eq 5, 3), (450, .iconst 0, 1), (451, .ireturn, 1), (452, .iload 5, 2), (454, .ifCond .ne 15, 3), (457, .aload_n 3, 1), (458, .iconst 0, 1), (459, .laload, 1), (460, .iload 6, 2), (462, .i2l, 1), (463, .lcmp, 1), (464, .ifCond .eq 5, 3), (467, .iconst 0, 1), (468, .ireturn, 1), (469, .goto 2015, 3), (472, .aload_n 1, 1), (473, .aload_n 0, 1), (474, .iload 4, 2), (476, .iconst 1, 1), (477, .iadd, 1), (478, .iaload, 1), (479, .aload_n 0, 1), (480, .iload 4, 2), (482, .iconst 2, 1), (483, .iadd, 1), (484, .iaload, 1), (485, .aload_n 0, 1), (486, .iload 4, 2), (488, .iconst 3, 1), (489, .iadd, 1), (490, .iaload, 1), (491, .aload_n 0, 1), (492, .iload 4, 2), (494, .iconst 4, 1), (495, .iadd, 1), (496, .iaload, 1), (497, .aload_n 0, 1), (498, .iload 4, 2), (500, .iconst 5, 1), (501, .iadd, 1), (502, .iaload, 1), (503, .invokevirtual 134, 3), (506, .aload_n 2, 1), (507, .aload_n 0, 1), (508, .iload 4, 2), (510, .iconst 1, 1), (511, .iadd, 1), (512, .iaload, 1), (513, .aload_n 0, 1), (514, .iload 4, 2), (516, .iconst 2, 1), (517, .iadd, 1), (518, .iaload, 1), (519, .aload_n 0, 1), (520, .iload 4, 2)]
set_option maxRecDepth 100000 in
theorem kL_law__1_ok : kL_law__1.all (fun q => decide (decode cL_law_ q.1 = .ok q.2)) = true := by decide +kernel
theorem dL_law__350 : decode cL_law_ 350 = .ok (.aload_n 0, 1) := dk_get kL_law__1_ok 0 rfl
theorem dL_law__351 : decode cL_law_ 351 = .ok (.iload 4, 2) := dk_get kL_law__1_ok 1 rfl
theorem dL_law__353 : decode cL_law_ 353 = .ok (.iconst 2, 1) := dk_get kL_law__1_ok 2 rfl
theorem dL_law__354 : decode cL_law_ 354 = .ok (.iadd, 1) := dk_get kL_law__1_ok 3 rfl
theorem dL_law__355 : decode cL_law_ 355 = .ok (.iaload, 1) := dk_get kL_law__1_ok 4 rfl
theorem dL_law__356 : decode cL_law_ 356 = .ok (.invokevirtual 129, 3) := dk_get kL_law__1_ok 5 rfl
theorem dL_law__359 : decode cL_law_ 359 = .ok (.istore 6, 2) := dk_get kL_law__1_ok 6 rfl
theorem dL_law__361 : decode cL_law_ 361 = .ok (.aload_n 2, 1) := dk_get kL_law__1_ok 7 rfl
theorem dL_law__362 : decode cL_law_ 362 = .ok (.invokevirtual 122, 3) := dk_get kL_law__1_ok 8 rfl
theorem dL_law__365 : decode cL_law_ 365 = .ok (.iload 5, 2) := dk_get kL_law__1_ok 9 rfl
theorem dL_law__367 : decode cL_law_ 367 = .ok (.if_icmp .eq 5, 3) := dk_get kL_law__1_ok 10 rfl
theorem dL_law__370 : decode cL_law_ 370 = .ok (.iconst 0, 1) := dk_get kL_law__1_ok 11 rfl
theorem dL_law__371 : decode cL_law_ 371 = .ok (.ireturn, 1) := dk_get kL_law__1_ok 12 rfl
theorem dL_law__372 : decode cL_law_ 372 = .ok (.iload 5, 2) := dk_get kL_law__1_ok 13 rfl
theorem dL_law__374 : decode cL_law_ 374 = .ok (.ifCond .ne 15, 3) := dk_get kL_law__1_ok 14 rfl
theorem dL_law__377 : decode cL_law_ 377 = .ok (.aload_n 3, 1) := dk_get kL_law__1_ok 15 rfl
theorem dL_law__378 : decode cL_law_ 378 = .ok (.iconst 0, 1) := dk_get kL_law__1_ok 16 rfl
theorem dL_law__379 : decode cL_law_ 379 = .ok (.laload, 1) := dk_get kL_law__1_ok 17 rfl
theorem dL_law__380 : decode cL_law_ 380 = .ok (.iload 6, 2) := dk_get kL_law__1_ok 18 rfl
theorem dL_law__382 : decode cL_law_ 382 = .ok (.i2l, 1) := dk_get kL_law__1_ok 19 rfl
theorem dL_law__383 : decode cL_law_ 383 = .ok (.lcmp, 1) := dk_get kL_law__1_ok 20 rfl
theorem dL_law__384 : decode cL_law_ 384 = .ok (.ifCond .eq 5, 3) := dk_get kL_law__1_ok 21 rfl
theorem dL_law__387 : decode cL_law_ 387 = .ok (.iconst 0, 1) := dk_get kL_law__1_ok 22 rfl
theorem dL_law__388 : decode cL_law_ 388 = .ok (.ireturn, 1) := dk_get kL_law__1_ok 23 rfl
theorem dL_law__389 : decode cL_law_ 389 = .ok (.goto 2095, 3) := dk_get kL_law__1_ok 24 rfl
theorem dL_law__392 : decode cL_law_ 392 = .ok (.aload_n 1, 1) := dk_get kL_law__1_ok 25 rfl
theorem dL_law__393 : decode cL_law_ 393 = .ok (.aload_n 0, 1) := dk_get kL_law__1_ok 26 rfl
theorem dL_law__394 : decode cL_law_ 394 = .ok (.iload 4, 2) := dk_get kL_law__1_ok 27 rfl
theorem dL_law__396 : decode cL_law_ 396 = .ok (.iconst 1, 1) := dk_get kL_law__1_ok 28 rfl
theorem dL_law__397 : decode cL_law_ 397 = .ok (.iadd, 1) := dk_get kL_law__1_ok 29 rfl
theorem dL_law__398 : decode cL_law_ 398 = .ok (.iaload, 1) := dk_get kL_law__1_ok 30 rfl
theorem dL_law__399 : decode cL_law_ 399 = .ok (.aload_n 0, 1) := dk_get kL_law__1_ok 31 rfl
theorem dL_law__400 : decode cL_law_ 400 = .ok (.iload 4, 2) := dk_get kL_law__1_ok 32 rfl
theorem dL_law__402 : decode cL_law_ 402 = .ok (.iconst 2, 1) := dk_get kL_law__1_ok 33 rfl
theorem dL_law__403 : decode cL_law_ 403 = .ok (.iadd, 1) := dk_get kL_law__1_ok 34 rfl
theorem dL_law__404 : decode cL_law_ 404 = .ok (.iaload, 1) := dk_get kL_law__1_ok 35 rfl
theorem dL_law__405 : decode cL_law_ 405 = .ok (.aload_n 0, 1) := dk_get kL_law__1_ok 36 rfl
theorem dL_law__406 : decode cL_law_ 406 = .ok (.iload 4, 2) := dk_get kL_law__1_ok 37 rfl
theorem dL_law__408 : decode cL_law_ 408 = .ok (.iconst 3, 1) := dk_get kL_law__1_ok 38 rfl
theorem dL_law__409 : decode cL_law_ 409 = .ok (.iadd, 1) := dk_get kL_law__1_ok 39 rfl
theorem dL_law__410 : decode cL_law_ 410 = .ok (.iaload, 1) := dk_get kL_law__1_ok 40 rfl
theorem dL_law__411 : decode cL_law_ 411 = .ok (.aload_n 3, 1) := dk_get kL_law__1_ok 41 rfl
theorem dL_law__412 : decode cL_law_ 412 = .ok (.invokestatic 130, 3) := dk_get kL_law__1_ok 42 rfl
theorem dL_law__415 : decode cL_law_ 415 = .ok (.istore 5, 2) := dk_get kL_law__1_ok 43 rfl
theorem dL_law__417 : decode cL_law_ 417 = .ok (.aload_n 2, 1) := dk_get kL_law__1_ok 44 rfl
theorem dL_law__418 : decode cL_law_ 418 = .ok (.aload_n 0, 1) := dk_get kL_law__1_ok 45 rfl
theorem dL_law__419 : decode cL_law_ 419 = .ok (.iload 4, 2) := dk_get kL_law__1_ok 46 rfl
theorem dL_law__421 : decode cL_law_ 421 = .ok (.iconst 1, 1) := dk_get kL_law__1_ok 47 rfl
theorem dL_law__422 : decode cL_law_ 422 = .ok (.iadd, 1) := dk_get kL_law__1_ok 48 rfl
theorem dL_law__423 : decode cL_law_ 423 = .ok (.iaload, 1) := dk_get kL_law__1_ok 49 rfl
theorem dL_law__424 : decode cL_law_ 424 = .ok (.aload_n 0, 1) := dk_get kL_law__1_ok 50 rfl
theorem dL_law__425 : decode cL_law_ 425 = .ok (.iload 4, 2) := dk_get kL_law__1_ok 51 rfl
theorem dL_law__427 : decode cL_law_ 427 = .ok (.iconst 2, 1) := dk_get kL_law__1_ok 52 rfl
theorem dL_law__428 : decode cL_law_ 428 = .ok (.iadd, 1) := dk_get kL_law__1_ok 53 rfl
theorem dL_law__429 : decode cL_law_ 429 = .ok (.iaload, 1) := dk_get kL_law__1_ok 54 rfl
theorem dL_law__430 : decode cL_law_ 430 = .ok (.aload_n 0, 1) := dk_get kL_law__1_ok 55 rfl
theorem dL_law__431 : decode cL_law_ 431 = .ok (.iload 4, 2) := dk_get kL_law__1_ok 56 rfl
theorem dL_law__433 : decode cL_law_ 433 = .ok (.iconst 3, 1) := dk_get kL_law__1_ok 57 rfl
theorem dL_law__434 : decode cL_law_ 434 = .ok (.iadd, 1) := dk_get kL_law__1_ok 58 rfl
theorem dL_law__435 : decode cL_law_ 435 = .ok (.iaload, 1) := dk_get kL_law__1_ok 59 rfl
theorem dL_law__436 : decode cL_law_ 436 = .ok (.invokevirtual 133, 3) := dk_get kL_law__1_ok 60 rfl
theorem dL_law__439 : decode cL_law_ 439 = .ok (.istore 6, 2) := dk_get kL_law__1_ok 61 rfl
theorem dL_law__441 : decode cL_law_ 441 = .ok (.aload_n 2, 1) := dk_get kL_law__1_ok 62 rfl
theorem dL_law__442 : decode cL_law_ 442 = .ok (.invokevirtual 122, 3) := dk_get kL_law__1_ok 63 rfl
theorem dL_law__445 : decode cL_law_ 445 = .ok (.iload 5, 2) := dk_get kL_law__1_ok 64 rfl
theorem dL_law__447 : decode cL_law_ 447 = .ok (.if_icmp .eq 5, 3) := dk_get kL_law__1_ok 65 rfl
theorem dL_law__450 : decode cL_law_ 450 = .ok (.iconst 0, 1) := dk_get kL_law__1_ok 66 rfl
theorem dL_law__451 : decode cL_law_ 451 = .ok (.ireturn, 1) := dk_get kL_law__1_ok 67 rfl
theorem dL_law__452 : decode cL_law_ 452 = .ok (.iload 5, 2) := dk_get kL_law__1_ok 68 rfl
theorem dL_law__454 : decode cL_law_ 454 = .ok (.ifCond .ne 15, 3) := dk_get kL_law__1_ok 69 rfl
theorem dL_law__457 : decode cL_law_ 457 = .ok (.aload_n 3, 1) := dk_get kL_law__1_ok 70 rfl
theorem dL_law__458 : decode cL_law_ 458 = .ok (.iconst 0, 1) := dk_get kL_law__1_ok 71 rfl
theorem dL_law__459 : decode cL_law_ 459 = .ok (.laload, 1) := dk_get kL_law__1_ok 72 rfl
theorem dL_law__460 : decode cL_law_ 460 = .ok (.iload 6, 2) := dk_get kL_law__1_ok 73 rfl
theorem dL_law__462 : decode cL_law_ 462 = .ok (.i2l, 1) := dk_get kL_law__1_ok 74 rfl
theorem dL_law__463 : decode cL_law_ 463 = .ok (.lcmp, 1) := dk_get kL_law__1_ok 75 rfl
theorem dL_law__464 : decode cL_law_ 464 = .ok (.ifCond .eq 5, 3) := dk_get kL_law__1_ok 76 rfl
theorem dL_law__467 : decode cL_law_ 467 = .ok (.iconst 0, 1) := dk_get kL_law__1_ok 77 rfl
theorem dL_law__468 : decode cL_law_ 468 = .ok (.ireturn, 1) := dk_get kL_law__1_ok 78 rfl
theorem dL_law__469 : decode cL_law_ 469 = .ok (.goto 2015, 3) := dk_get kL_law__1_ok 79 rfl
theorem dL_law__472 : decode cL_law_ 472 = .ok (.aload_n 1, 1) := dk_get kL_law__1_ok 80 rfl
theorem dL_law__473 : decode cL_law_ 473 = .ok (.aload_n 0, 1) := dk_get kL_law__1_ok 81 rfl
theorem dL_law__474 : decode cL_law_ 474 = .ok (.iload 4, 2) := dk_get kL_law__1_ok 82 rfl
theorem dL_law__476 : decode cL_law_ 476 = .ok (.iconst 1, 1) := dk_get kL_law__1_ok 83 rfl
theorem dL_law__477 : decode cL_law_ 477 = .ok (.iadd, 1) := dk_get kL_law__1_ok 84 rfl
theorem dL_law__478 : decode cL_law_ 478 = .ok (.iaload, 1) := dk_get kL_law__1_ok 85 rfl
theorem dL_law__479 : decode cL_law_ 479 = .ok (.aload_n 0, 1) := dk_get kL_law__1_ok 86 rfl
theorem dL_law__480 : decode cL_law_ 480 = .ok (.iload 4, 2) := dk_get kL_law__1_ok 87 rfl
theorem dL_law__482 : decode cL_law_ 482 = .ok (.iconst 2, 1) := dk_get kL_law__1_ok 88 rfl
theorem dL_law__483 : decode cL_law_ 483 = .ok (.iadd, 1) := dk_get kL_law__1_ok 89 rfl
theorem dL_law__484 : decode cL_law_ 484 = .ok (.iaload, 1) := dk_get kL_law__1_ok 90 rfl
theorem dL_law__485 : decode cL_law_ 485 = .ok (.aload_n 0, 1) := dk_get kL_law__1_ok 91 rfl
theorem dL_law__486 : decode cL_law_ 486 = .ok (.iload 4, 2) := dk_get kL_law__1_ok 92 rfl
theorem dL_law__488 : decode cL_law_ 488 = .ok (.iconst 3, 1) := dk_get kL_law__1_ok 93 rfl
theorem dL_law__489 : decode cL_law_ 489 = .ok (.iadd, 1) := dk_get kL_law__1_ok 94 rfl
theorem dL_law__490 : decode cL_law_ 490 = .ok (.iaload, 1) := dk_get kL_law__1_ok 95 rfl
theorem dL_law__491 : decode cL_law_ 491 = .ok (.aload_n 0, 1) := dk_get kL_law__1_ok 96 rfl
theorem dL_law__492 : decode cL_law_ 492 = .ok (.iload 4, 2) := dk_get kL_law__1_ok 97 rfl
theorem dL_law__494 : decode cL_law_ 494 = .ok (.iconst 4, 1) := dk_get kL_law__1_ok 98 rfl
theorem dL_law__495 : decode cL_law_ 495 = .ok (.iadd, 1) := dk_get kL_law__1_ok 99 rfl
theorem dL_law__496 : decode cL_law_ 496 = .ok (.iaload, 1) := dk_get kL_law__1_ok 100 rfl
theorem dL_law__497 : decode cL_law_ 497 = .ok (.aload_n 0, 1) := dk_get kL_law__1_ok 101 rfl
theorem dL_law__498 : decode cL_law_ 498 = .ok (.iload 4, 2) := dk_get kL_law__1_ok 102 rfl
theorem dL_law__500 : decode cL_law_ 500 = .ok (.iconst 5, 1) := dk_get kL_law__1_ok 103 rfl
theorem dL_law__501 : decode cL_law_ 501 = .ok (.iadd, 1) := dk_get kL_law__1_ok 104 rfl
theorem dL_law__502 : decode cL_law_ 502 = .ok (.iaload, 1) := dk_get kL_law__1_ok 105 rfl
theorem dL_law__503 : decode cL_law_ 503 = .ok (.invokevirtual 134, 3) := dk_get kL_law__1_ok 106 rfl
theorem dL_law__506 : decode cL_law_ 506 = .ok (.aload_n 2, 1) := dk_get kL_law__1_ok 107 rfl
theorem dL_law__507 : decode cL_law_ 507 = .ok (.aload_n 0, 1) := dk_get kL_law__1_ok 108 rfl
theorem dL_law__508 : decode cL_law_ 508 = .ok (.iload 4, 2) := dk_get kL_law__1_ok 109 rfl
theorem dL_law__510 : decode cL_law_ 510 = .ok (.iconst 1, 1) := dk_get kL_law__1_ok 110 rfl
theorem dL_law__511 : decode cL_law_ 511 = .ok (.iadd, 1) := dk_get kL_law__1_ok 111 rfl
theorem dL_law__512 : decode cL_law_ 512 = .ok (.iaload, 1) := dk_get kL_law__1_ok 112 rfl
theorem dL_law__513 : decode cL_law_ 513 = .ok (.aload_n 0, 1) := dk_get kL_law__1_ok 113 rfl
theorem dL_law__514 : decode cL_law_ 514 = .ok (.iload 4, 2) := dk_get kL_law__1_ok 114 rfl
theorem dL_law__516 : decode cL_law_ 516 = .ok (.iconst 2, 1) := dk_get kL_law__1_ok 115 rfl
theorem dL_law__517 : decode cL_law_ 517 = .ok (.iadd, 1) := dk_get kL_law__1_ok 116 rfl
theorem dL_law__518 : decode cL_law_ 518 = .ok (.iaload, 1) := dk_get kL_law__1_ok 117 rfl
theorem dL_law__519 : decode cL_law_ 519 = .ok (.aload_n 0, 1) := dk_get kL_law__1_ok 118 rfl
theorem dL_law__520 : decode cL_law_ 520 = .ok (.iload 4, 2) := dk_get kL_law__1_ok 119 rfl
def kL_law__2 : List (Nat × Instr × Nat) := [(522, .iconst 3, 1), (523, .iadd, 1), (524, .iaload, 1), (525, .aload_n 0, 1), (526, .iload 4, 2), (528, .iconst 4, 1), (529, .iadd, 1), (530, .iaload, 1), (531, .aload_n 0, 1), (532, .iload 4, 2), (534, .iconst 5, 1), (535, .iadd, 1), (536, .iaload, 1), (537, .invokevirtual 137, 3), (540, .if_icmp .eq 1944, 3), (543, .iconst 0, 1), (544, .ireturn, 1), (545, .aload_n 1, 1), (546, .aload_n 0, 1), (547, .iload 4, 2), (549, .iconst 1, 1), (550, .iadd, 1), (551, .iaload, 1), (552, .aload_n 3, 1), (553, .invokestatic 138, 3), (556, .istore 5, 2), (558, .aload_n 2, 1), (559, .aload_n 0, 1), (560, .iload 4, 2), (562, .iconst 1, 1), (563, .iadd, 1), (564, .iaload, 1), (565, .invokevirtual 141, 3), (568, .istore 6, 2), (570, .aload_n 2, 1), (571, .invokevirtual 122, 3), (574, .iload 5, 2), (576, .if_icmp .eq 5, 3), (579, .iconst 0, 1), (580, .ireturn, 1), (581, .iload 5, 2), (583, .ifCond .ne 15, 3), (586, .aload_n 3, 1), (587, .iconst 0, 1), (588, .laload, 1), (589, .iload 6, 2), (591, .i2l, 1), (592, .lcmp, 1), (593, .ifCond .eq 5, 3), (596, .iconst 0, 1), (597, .ireturn, 1), (598, .goto 1886, 3), (601, .aload_n 1, 1), (602, .invokevirtual 142, 3), (605, .aload_n 2, 1), (606, .invokevirtual 145, 3), (609, .if_icmp .eq 1875, 3), (612, .iconst 0, 1), (613, .ireturn, 1), (614, .aload_n 1, 1), (615, .aload_n 0, 1), (616, .iload 4, 2), (618, .iconst 1, 1), (619, .iadd, 1), (620, .iaload, 1), (621, .aload_n 0, 1), (622, .iload 4, 2), (624, .iconst 2, 1), (625, .iadd, 1), (626, .iaload, 1), (627, .aload_n 3, 1), (628, .invokestatic 146, 3), (631, .istore 5, 2), (633, .aload_n 2, 1), (634, .aload_n 0, 1), (635, .iload 4, 2), (637, .iconst 1, 1), (638, .iadd, 1), (639, .iaload, 1), (640, .aload_n 0, 1), (641, .iload 4, 2), (643, .iconst 2, 1), (644, .iadd, 1), (645, .iaload, 1), (646, .invokevirtual 148, 3), (649, .istore 6, 2), (651, .aload_n 2, 1), (652, .invokevirtual 122, 3), (655, .iload 5, 2), (657, .if_icmp .eq 5, 3), (660, .iconst 0, 1), (661, .ireturn, 1), (662, .iload 5, 2), (664, .ifCond .ne 15, 3), (667, .aload_n 3, 1), (668, .iconst 0, 1), (669, .laload, 1), (670, .iload 6, 2), (672, .i2l, 1), (673, .lcmp, 1), (674, .ifCond .eq 5, 3), (677, .iconst 0, 1), (678, .ireturn, 1), (679, .goto 1805, 3), (682, .aload_n 1, 1), (683, .aload_n 0, 1), (684, .iload 4, 2), (686, .iconst 1, 1), (687, .iadd, 1), (688, .iaload, 1), (689, .aload_n 0, 1), (690, .iload 4, 2), (692, .iconst 2, 1), (693, .iadd, 1), (694, .iaload, 1), (695, .aload_n 3, 1), (696, .invokestatic 149, 3), (699, .istore 5, 2), (701, .aload_n 2, 1), (702, .aload_n 0, 1)]
set_option maxRecDepth 100000 in
theorem kL_law__2_ok : kL_law__2.all (fun q => decide (decode cL_law_ q.1 = .ok q.2)) = true := by decide +kernel
theorem dL_law__522 : decode cL_law_ 522 = .ok (.iconst 3, 1) := dk_get kL_law__2_ok 0 rfl
theorem dL_law__523 : decode cL_law_ 523 = .ok (.iadd, 1) := dk_get kL_law__2_ok 1 rfl
theorem dL_law__524 : decode cL_law_ 524 = .ok (.iaload, 1) := dk_get kL_law__2_ok 2 rfl
theorem dL_law__525 : decode cL_law_ 525 = .ok (.aload_n 0, 1) := dk_get kL_law__2_ok 3 rfl
theorem dL_law__526 : decode cL_law_ 526 = .ok (.iload 4, 2) := dk_get kL_law__2_ok 4 rfl
theorem dL_law__528 : decode cL_law_ 528 = .ok (.iconst 4, 1) := dk_get kL_law__2_ok 5 rfl
theorem dL_law__529 : decode cL_law_ 529 = .ok (.iadd, 1) := dk_get kL_law__2_ok 6 rfl
theorem dL_law__530 : decode cL_law_ 530 = .ok (.iaload, 1) := dk_get kL_law__2_ok 7 rfl
theorem dL_law__531 : decode cL_law_ 531 = .ok (.aload_n 0, 1) := dk_get kL_law__2_ok 8 rfl
theorem dL_law__532 : decode cL_law_ 532 = .ok (.iload 4, 2) := dk_get kL_law__2_ok 9 rfl
theorem dL_law__534 : decode cL_law_ 534 = .ok (.iconst 5, 1) := dk_get kL_law__2_ok 10 rfl
theorem dL_law__535 : decode cL_law_ 535 = .ok (.iadd, 1) := dk_get kL_law__2_ok 11 rfl
theorem dL_law__536 : decode cL_law_ 536 = .ok (.iaload, 1) := dk_get kL_law__2_ok 12 rfl
theorem dL_law__537 : decode cL_law_ 537 = .ok (.invokevirtual 137, 3) := dk_get kL_law__2_ok 13 rfl
theorem dL_law__540 : decode cL_law_ 540 = .ok (.if_icmp .eq 1944, 3) := dk_get kL_law__2_ok 14 rfl
theorem dL_law__543 : decode cL_law_ 543 = .ok (.iconst 0, 1) := dk_get kL_law__2_ok 15 rfl
theorem dL_law__544 : decode cL_law_ 544 = .ok (.ireturn, 1) := dk_get kL_law__2_ok 16 rfl
theorem dL_law__545 : decode cL_law_ 545 = .ok (.aload_n 1, 1) := dk_get kL_law__2_ok 17 rfl
theorem dL_law__546 : decode cL_law_ 546 = .ok (.aload_n 0, 1) := dk_get kL_law__2_ok 18 rfl
theorem dL_law__547 : decode cL_law_ 547 = .ok (.iload 4, 2) := dk_get kL_law__2_ok 19 rfl
theorem dL_law__549 : decode cL_law_ 549 = .ok (.iconst 1, 1) := dk_get kL_law__2_ok 20 rfl
theorem dL_law__550 : decode cL_law_ 550 = .ok (.iadd, 1) := dk_get kL_law__2_ok 21 rfl
theorem dL_law__551 : decode cL_law_ 551 = .ok (.iaload, 1) := dk_get kL_law__2_ok 22 rfl
theorem dL_law__552 : decode cL_law_ 552 = .ok (.aload_n 3, 1) := dk_get kL_law__2_ok 23 rfl
theorem dL_law__553 : decode cL_law_ 553 = .ok (.invokestatic 138, 3) := dk_get kL_law__2_ok 24 rfl
theorem dL_law__556 : decode cL_law_ 556 = .ok (.istore 5, 2) := dk_get kL_law__2_ok 25 rfl
theorem dL_law__558 : decode cL_law_ 558 = .ok (.aload_n 2, 1) := dk_get kL_law__2_ok 26 rfl
theorem dL_law__559 : decode cL_law_ 559 = .ok (.aload_n 0, 1) := dk_get kL_law__2_ok 27 rfl
theorem dL_law__560 : decode cL_law_ 560 = .ok (.iload 4, 2) := dk_get kL_law__2_ok 28 rfl
theorem dL_law__562 : decode cL_law_ 562 = .ok (.iconst 1, 1) := dk_get kL_law__2_ok 29 rfl
theorem dL_law__563 : decode cL_law_ 563 = .ok (.iadd, 1) := dk_get kL_law__2_ok 30 rfl
theorem dL_law__564 : decode cL_law_ 564 = .ok (.iaload, 1) := dk_get kL_law__2_ok 31 rfl
theorem dL_law__565 : decode cL_law_ 565 = .ok (.invokevirtual 141, 3) := dk_get kL_law__2_ok 32 rfl
theorem dL_law__568 : decode cL_law_ 568 = .ok (.istore 6, 2) := dk_get kL_law__2_ok 33 rfl
theorem dL_law__570 : decode cL_law_ 570 = .ok (.aload_n 2, 1) := dk_get kL_law__2_ok 34 rfl
theorem dL_law__571 : decode cL_law_ 571 = .ok (.invokevirtual 122, 3) := dk_get kL_law__2_ok 35 rfl
theorem dL_law__574 : decode cL_law_ 574 = .ok (.iload 5, 2) := dk_get kL_law__2_ok 36 rfl
theorem dL_law__576 : decode cL_law_ 576 = .ok (.if_icmp .eq 5, 3) := dk_get kL_law__2_ok 37 rfl
theorem dL_law__579 : decode cL_law_ 579 = .ok (.iconst 0, 1) := dk_get kL_law__2_ok 38 rfl
theorem dL_law__580 : decode cL_law_ 580 = .ok (.ireturn, 1) := dk_get kL_law__2_ok 39 rfl
theorem dL_law__581 : decode cL_law_ 581 = .ok (.iload 5, 2) := dk_get kL_law__2_ok 40 rfl
theorem dL_law__583 : decode cL_law_ 583 = .ok (.ifCond .ne 15, 3) := dk_get kL_law__2_ok 41 rfl
theorem dL_law__586 : decode cL_law_ 586 = .ok (.aload_n 3, 1) := dk_get kL_law__2_ok 42 rfl
theorem dL_law__587 : decode cL_law_ 587 = .ok (.iconst 0, 1) := dk_get kL_law__2_ok 43 rfl
theorem dL_law__588 : decode cL_law_ 588 = .ok (.laload, 1) := dk_get kL_law__2_ok 44 rfl
theorem dL_law__589 : decode cL_law_ 589 = .ok (.iload 6, 2) := dk_get kL_law__2_ok 45 rfl
theorem dL_law__591 : decode cL_law_ 591 = .ok (.i2l, 1) := dk_get kL_law__2_ok 46 rfl
theorem dL_law__592 : decode cL_law_ 592 = .ok (.lcmp, 1) := dk_get kL_law__2_ok 47 rfl
theorem dL_law__593 : decode cL_law_ 593 = .ok (.ifCond .eq 5, 3) := dk_get kL_law__2_ok 48 rfl
theorem dL_law__596 : decode cL_law_ 596 = .ok (.iconst 0, 1) := dk_get kL_law__2_ok 49 rfl
theorem dL_law__597 : decode cL_law_ 597 = .ok (.ireturn, 1) := dk_get kL_law__2_ok 50 rfl
theorem dL_law__598 : decode cL_law_ 598 = .ok (.goto 1886, 3) := dk_get kL_law__2_ok 51 rfl
theorem dL_law__601 : decode cL_law_ 601 = .ok (.aload_n 1, 1) := dk_get kL_law__2_ok 52 rfl
theorem dL_law__602 : decode cL_law_ 602 = .ok (.invokevirtual 142, 3) := dk_get kL_law__2_ok 53 rfl
theorem dL_law__605 : decode cL_law_ 605 = .ok (.aload_n 2, 1) := dk_get kL_law__2_ok 54 rfl
theorem dL_law__606 : decode cL_law_ 606 = .ok (.invokevirtual 145, 3) := dk_get kL_law__2_ok 55 rfl
theorem dL_law__609 : decode cL_law_ 609 = .ok (.if_icmp .eq 1875, 3) := dk_get kL_law__2_ok 56 rfl
theorem dL_law__612 : decode cL_law_ 612 = .ok (.iconst 0, 1) := dk_get kL_law__2_ok 57 rfl
theorem dL_law__613 : decode cL_law_ 613 = .ok (.ireturn, 1) := dk_get kL_law__2_ok 58 rfl
theorem dL_law__614 : decode cL_law_ 614 = .ok (.aload_n 1, 1) := dk_get kL_law__2_ok 59 rfl
theorem dL_law__615 : decode cL_law_ 615 = .ok (.aload_n 0, 1) := dk_get kL_law__2_ok 60 rfl
theorem dL_law__616 : decode cL_law_ 616 = .ok (.iload 4, 2) := dk_get kL_law__2_ok 61 rfl
theorem dL_law__618 : decode cL_law_ 618 = .ok (.iconst 1, 1) := dk_get kL_law__2_ok 62 rfl
theorem dL_law__619 : decode cL_law_ 619 = .ok (.iadd, 1) := dk_get kL_law__2_ok 63 rfl
theorem dL_law__620 : decode cL_law_ 620 = .ok (.iaload, 1) := dk_get kL_law__2_ok 64 rfl
theorem dL_law__621 : decode cL_law_ 621 = .ok (.aload_n 0, 1) := dk_get kL_law__2_ok 65 rfl
theorem dL_law__622 : decode cL_law_ 622 = .ok (.iload 4, 2) := dk_get kL_law__2_ok 66 rfl
theorem dL_law__624 : decode cL_law_ 624 = .ok (.iconst 2, 1) := dk_get kL_law__2_ok 67 rfl
theorem dL_law__625 : decode cL_law_ 625 = .ok (.iadd, 1) := dk_get kL_law__2_ok 68 rfl
theorem dL_law__626 : decode cL_law_ 626 = .ok (.iaload, 1) := dk_get kL_law__2_ok 69 rfl
theorem dL_law__627 : decode cL_law_ 627 = .ok (.aload_n 3, 1) := dk_get kL_law__2_ok 70 rfl
theorem dL_law__628 : decode cL_law_ 628 = .ok (.invokestatic 146, 3) := dk_get kL_law__2_ok 71 rfl
theorem dL_law__631 : decode cL_law_ 631 = .ok (.istore 5, 2) := dk_get kL_law__2_ok 72 rfl
theorem dL_law__633 : decode cL_law_ 633 = .ok (.aload_n 2, 1) := dk_get kL_law__2_ok 73 rfl
theorem dL_law__634 : decode cL_law_ 634 = .ok (.aload_n 0, 1) := dk_get kL_law__2_ok 74 rfl
theorem dL_law__635 : decode cL_law_ 635 = .ok (.iload 4, 2) := dk_get kL_law__2_ok 75 rfl
theorem dL_law__637 : decode cL_law_ 637 = .ok (.iconst 1, 1) := dk_get kL_law__2_ok 76 rfl
theorem dL_law__638 : decode cL_law_ 638 = .ok (.iadd, 1) := dk_get kL_law__2_ok 77 rfl
theorem dL_law__639 : decode cL_law_ 639 = .ok (.iaload, 1) := dk_get kL_law__2_ok 78 rfl
theorem dL_law__640 : decode cL_law_ 640 = .ok (.aload_n 0, 1) := dk_get kL_law__2_ok 79 rfl
theorem dL_law__641 : decode cL_law_ 641 = .ok (.iload 4, 2) := dk_get kL_law__2_ok 80 rfl
theorem dL_law__643 : decode cL_law_ 643 = .ok (.iconst 2, 1) := dk_get kL_law__2_ok 81 rfl
theorem dL_law__644 : decode cL_law_ 644 = .ok (.iadd, 1) := dk_get kL_law__2_ok 82 rfl
theorem dL_law__645 : decode cL_law_ 645 = .ok (.iaload, 1) := dk_get kL_law__2_ok 83 rfl
theorem dL_law__646 : decode cL_law_ 646 = .ok (.invokevirtual 148, 3) := dk_get kL_law__2_ok 84 rfl
theorem dL_law__649 : decode cL_law_ 649 = .ok (.istore 6, 2) := dk_get kL_law__2_ok 85 rfl
theorem dL_law__651 : decode cL_law_ 651 = .ok (.aload_n 2, 1) := dk_get kL_law__2_ok 86 rfl
theorem dL_law__652 : decode cL_law_ 652 = .ok (.invokevirtual 122, 3) := dk_get kL_law__2_ok 87 rfl
theorem dL_law__655 : decode cL_law_ 655 = .ok (.iload 5, 2) := dk_get kL_law__2_ok 88 rfl
theorem dL_law__657 : decode cL_law_ 657 = .ok (.if_icmp .eq 5, 3) := dk_get kL_law__2_ok 89 rfl
theorem dL_law__660 : decode cL_law_ 660 = .ok (.iconst 0, 1) := dk_get kL_law__2_ok 90 rfl
theorem dL_law__661 : decode cL_law_ 661 = .ok (.ireturn, 1) := dk_get kL_law__2_ok 91 rfl
theorem dL_law__662 : decode cL_law_ 662 = .ok (.iload 5, 2) := dk_get kL_law__2_ok 92 rfl
theorem dL_law__664 : decode cL_law_ 664 = .ok (.ifCond .ne 15, 3) := dk_get kL_law__2_ok 93 rfl
theorem dL_law__667 : decode cL_law_ 667 = .ok (.aload_n 3, 1) := dk_get kL_law__2_ok 94 rfl
theorem dL_law__668 : decode cL_law_ 668 = .ok (.iconst 0, 1) := dk_get kL_law__2_ok 95 rfl
theorem dL_law__669 : decode cL_law_ 669 = .ok (.laload, 1) := dk_get kL_law__2_ok 96 rfl
theorem dL_law__670 : decode cL_law_ 670 = .ok (.iload 6, 2) := dk_get kL_law__2_ok 97 rfl
theorem dL_law__672 : decode cL_law_ 672 = .ok (.i2l, 1) := dk_get kL_law__2_ok 98 rfl
theorem dL_law__673 : decode cL_law_ 673 = .ok (.lcmp, 1) := dk_get kL_law__2_ok 99 rfl
theorem dL_law__674 : decode cL_law_ 674 = .ok (.ifCond .eq 5, 3) := dk_get kL_law__2_ok 100 rfl
theorem dL_law__677 : decode cL_law_ 677 = .ok (.iconst 0, 1) := dk_get kL_law__2_ok 101 rfl
theorem dL_law__678 : decode cL_law_ 678 = .ok (.ireturn, 1) := dk_get kL_law__2_ok 102 rfl
theorem dL_law__679 : decode cL_law_ 679 = .ok (.goto 1805, 3) := dk_get kL_law__2_ok 103 rfl
theorem dL_law__682 : decode cL_law_ 682 = .ok (.aload_n 1, 1) := dk_get kL_law__2_ok 104 rfl
theorem dL_law__683 : decode cL_law_ 683 = .ok (.aload_n 0, 1) := dk_get kL_law__2_ok 105 rfl
theorem dL_law__684 : decode cL_law_ 684 = .ok (.iload 4, 2) := dk_get kL_law__2_ok 106 rfl
theorem dL_law__686 : decode cL_law_ 686 = .ok (.iconst 1, 1) := dk_get kL_law__2_ok 107 rfl
theorem dL_law__687 : decode cL_law_ 687 = .ok (.iadd, 1) := dk_get kL_law__2_ok 108 rfl
theorem dL_law__688 : decode cL_law_ 688 = .ok (.iaload, 1) := dk_get kL_law__2_ok 109 rfl
theorem dL_law__689 : decode cL_law_ 689 = .ok (.aload_n 0, 1) := dk_get kL_law__2_ok 110 rfl
theorem dL_law__690 : decode cL_law_ 690 = .ok (.iload 4, 2) := dk_get kL_law__2_ok 111 rfl
theorem dL_law__692 : decode cL_law_ 692 = .ok (.iconst 2, 1) := dk_get kL_law__2_ok 112 rfl
theorem dL_law__693 : decode cL_law_ 693 = .ok (.iadd, 1) := dk_get kL_law__2_ok 113 rfl
theorem dL_law__694 : decode cL_law_ 694 = .ok (.iaload, 1) := dk_get kL_law__2_ok 114 rfl
theorem dL_law__695 : decode cL_law_ 695 = .ok (.aload_n 3, 1) := dk_get kL_law__2_ok 115 rfl
theorem dL_law__696 : decode cL_law_ 696 = .ok (.invokestatic 149, 3) := dk_get kL_law__2_ok 116 rfl
theorem dL_law__699 : decode cL_law_ 699 = .ok (.istore 5, 2) := dk_get kL_law__2_ok 117 rfl
theorem dL_law__701 : decode cL_law_ 701 = .ok (.aload_n 2, 1) := dk_get kL_law__2_ok 118 rfl
theorem dL_law__702 : decode cL_law_ 702 = .ok (.aload_n 0, 1) := dk_get kL_law__2_ok 119 rfl
def kL_law__3 : List (Nat × Instr × Nat) := [(703, .iload 4, 2), (705, .iconst 1, 1), (706, .iadd, 1), (707, .iaload, 1), (708, .aload_n 0, 1), (709, .iload 4, 2), (711, .iconst 2, 1), (712, .iadd, 1), (713, .iaload, 1), (714, .invokevirtual 151, 3), (717, .istore 6, 2), (719, .aload_n 2, 1), (720, .invokevirtual 122, 3), (723, .iload 5, 2), (725, .if_icmp .eq 5, 3), (728, .iconst 0, 1), (729, .ireturn, 1), (730, .iload 5, 2), (732, .ifCond .ne 15, 3), (735, .aload_n 3, 1), (736, .iconst 0, 1), (737, .laload, 1), (738, .iload 6, 2), (740, .i2l, 1), (741, .lcmp, 1), (742, .ifCond .eq 5, 3), (745, .iconst 0, 1), (746, .ireturn, 1), (747, .goto 1737, 3), (750, .aload_n 1, 1), (751, .aload_n 0, 1), (752, .iload 4, 2), (754, .iconst 1, 1), (755, .iadd, 1), (756, .iaload, 1), (757, .aload_n 0, 1), (758, .iload 4, 2), (760, .iconst 2, 1), (761, .iadd, 1), (762, .iaload, 1), (763, .aload_n 0, 1), (764, .iload 4, 2), (766, .iconst 3, 1), (767, .iadd, 1), (768, .iaload, 1), (769, .aload_n 3, 1), (770, .invokestatic 152, 3), (773, .istore 5, 2), (775, .aload_n 2, 1), (776, .aload_n 0, 1), (777, .iload 4, 2), (779, .iconst 1, 1), (780, .iadd, 1), (781, .iaload, 1), (782, .aload_n 0, 1), (783, .iload 4, 2), (785, .iconst 2, 1), (786, .iadd, 1), (787, .iaload, 1), (788, .aload_n 0, 1), (789, .iload 4, 2), (791, .iconst 3, 1), (792, .iadd, 1), (793, .iaload, 1), (794, .invokevirtual 154, 3), (797, .istore 6, 2), (799, .aload_n 2, 1), (800, .invokevirtual 122, 3), (803, .iload 5, 2), (805, .if_icmp .eq 5, 3), (808, .iconst 0, 1), (809, .ireturn, 1), (810, .iload 5, 2), (812, .ifCond .ne 15, 3), (815, .aload_n 3, 1), (816, .iconst 0, 1), (817, .laload, 1), (818, .iload 6, 2), (820, .i2l, 1), (821, .lcmp, 1), (822, .ifCond .eq 5, 3), (825, .iconst 0, 1), (826, .ireturn, 1), (827, .goto 1657, 3), (830, .aload_n 1, 1), (831, .aload_n 0, 1), (832, .iload 4, 2), (834, .iconst 1, 1), (835, .iadd, 1), (836, .iaload, 1), (837, .aload_n 0, 1), (838, .iload 4, 2), (840, .iconst 2, 1), (841, .iadd, 1), (842, .iaload, 1), (843, .aload_n 3, 1), (844, .invokestatic 155, 3), (847, .istore 5, 2), (849, .aload_n 2, 1), (850, .aload_n 0, 1), (851, .iload 4, 2), (853, .iconst 1, 1), (854, .iadd, 1), (855, .iaload, 1), (856, .aload_n 0, 1), (857, .iload 4, 2), (859, .iconst 2, 1), (860, .iadd, 1), (861, .iaload, 1), (862, .invokevirtual 157, 3), (865, .istore 6, 2), (867, .aload_n 2, 1), (868, .invokevirtual 122, 3), (871, .iload 5, 2), (873, .if_icmp .eq 5, 3), (876, .iconst 0, 1), (877, .ireturn, 1), (878, .iload 5, 2), (880, .ifCond .ne 15, 3), (883, .aload_n 3, 1)]
set_option maxRecDepth 100000 in
theorem kL_law__3_ok : kL_law__3.all (fun q => decide (decode cL_law_ q.1 = .ok q.2)) = true := by decide +kernel
theorem dL_law__703 : decode cL_law_ 703 = .ok (.iload 4, 2) := dk_get kL_law__3_ok 0 rfl
theorem dL_law__705 : decode cL_law_ 705 = .ok (.iconst 1, 1) := dk_get kL_law__3_ok 1 rfl
theorem dL_law__706 : decode cL_law_ 706 = .ok (.iadd, 1) := dk_get kL_law__3_ok 2 rfl
theorem dL_law__707 : decode cL_law_ 707 = .ok (.iaload, 1) := dk_get kL_law__3_ok 3 rfl
theorem dL_law__708 : decode cL_law_ 708 = .ok (.aload_n 0, 1) := dk_get kL_law__3_ok 4 rfl
theorem dL_law__709 : decode cL_law_ 709 = .ok (.iload 4, 2) := dk_get kL_law__3_ok 5 rfl
theorem dL_law__711 : decode cL_law_ 711 = .ok (.iconst 2, 1) := dk_get kL_law__3_ok 6 rfl
theorem dL_law__712 : decode cL_law_ 712 = .ok (.iadd, 1) := dk_get kL_law__3_ok 7 rfl
theorem dL_law__713 : decode cL_law_ 713 = .ok (.iaload, 1) := dk_get kL_law__3_ok 8 rfl
theorem dL_law__714 : decode cL_law_ 714 = .ok (.invokevirtual 151, 3) := dk_get kL_law__3_ok 9 rfl
theorem dL_law__717 : decode cL_law_ 717 = .ok (.istore 6, 2) := dk_get kL_law__3_ok 10 rfl
theorem dL_law__719 : decode cL_law_ 719 = .ok (.aload_n 2, 1) := dk_get kL_law__3_ok 11 rfl
theorem dL_law__720 : decode cL_law_ 720 = .ok (.invokevirtual 122, 3) := dk_get kL_law__3_ok 12 rfl
theorem dL_law__723 : decode cL_law_ 723 = .ok (.iload 5, 2) := dk_get kL_law__3_ok 13 rfl
theorem dL_law__725 : decode cL_law_ 725 = .ok (.if_icmp .eq 5, 3) := dk_get kL_law__3_ok 14 rfl
theorem dL_law__728 : decode cL_law_ 728 = .ok (.iconst 0, 1) := dk_get kL_law__3_ok 15 rfl
theorem dL_law__729 : decode cL_law_ 729 = .ok (.ireturn, 1) := dk_get kL_law__3_ok 16 rfl
theorem dL_law__730 : decode cL_law_ 730 = .ok (.iload 5, 2) := dk_get kL_law__3_ok 17 rfl
theorem dL_law__732 : decode cL_law_ 732 = .ok (.ifCond .ne 15, 3) := dk_get kL_law__3_ok 18 rfl
theorem dL_law__735 : decode cL_law_ 735 = .ok (.aload_n 3, 1) := dk_get kL_law__3_ok 19 rfl
theorem dL_law__736 : decode cL_law_ 736 = .ok (.iconst 0, 1) := dk_get kL_law__3_ok 20 rfl
theorem dL_law__737 : decode cL_law_ 737 = .ok (.laload, 1) := dk_get kL_law__3_ok 21 rfl
theorem dL_law__738 : decode cL_law_ 738 = .ok (.iload 6, 2) := dk_get kL_law__3_ok 22 rfl
theorem dL_law__740 : decode cL_law_ 740 = .ok (.i2l, 1) := dk_get kL_law__3_ok 23 rfl
theorem dL_law__741 : decode cL_law_ 741 = .ok (.lcmp, 1) := dk_get kL_law__3_ok 24 rfl
theorem dL_law__742 : decode cL_law_ 742 = .ok (.ifCond .eq 5, 3) := dk_get kL_law__3_ok 25 rfl
theorem dL_law__745 : decode cL_law_ 745 = .ok (.iconst 0, 1) := dk_get kL_law__3_ok 26 rfl
theorem dL_law__746 : decode cL_law_ 746 = .ok (.ireturn, 1) := dk_get kL_law__3_ok 27 rfl
theorem dL_law__747 : decode cL_law_ 747 = .ok (.goto 1737, 3) := dk_get kL_law__3_ok 28 rfl
theorem dL_law__750 : decode cL_law_ 750 = .ok (.aload_n 1, 1) := dk_get kL_law__3_ok 29 rfl
theorem dL_law__751 : decode cL_law_ 751 = .ok (.aload_n 0, 1) := dk_get kL_law__3_ok 30 rfl
theorem dL_law__752 : decode cL_law_ 752 = .ok (.iload 4, 2) := dk_get kL_law__3_ok 31 rfl
theorem dL_law__754 : decode cL_law_ 754 = .ok (.iconst 1, 1) := dk_get kL_law__3_ok 32 rfl
theorem dL_law__755 : decode cL_law_ 755 = .ok (.iadd, 1) := dk_get kL_law__3_ok 33 rfl
theorem dL_law__756 : decode cL_law_ 756 = .ok (.iaload, 1) := dk_get kL_law__3_ok 34 rfl
theorem dL_law__757 : decode cL_law_ 757 = .ok (.aload_n 0, 1) := dk_get kL_law__3_ok 35 rfl
theorem dL_law__758 : decode cL_law_ 758 = .ok (.iload 4, 2) := dk_get kL_law__3_ok 36 rfl
theorem dL_law__760 : decode cL_law_ 760 = .ok (.iconst 2, 1) := dk_get kL_law__3_ok 37 rfl
theorem dL_law__761 : decode cL_law_ 761 = .ok (.iadd, 1) := dk_get kL_law__3_ok 38 rfl
theorem dL_law__762 : decode cL_law_ 762 = .ok (.iaload, 1) := dk_get kL_law__3_ok 39 rfl
theorem dL_law__763 : decode cL_law_ 763 = .ok (.aload_n 0, 1) := dk_get kL_law__3_ok 40 rfl
theorem dL_law__764 : decode cL_law_ 764 = .ok (.iload 4, 2) := dk_get kL_law__3_ok 41 rfl
theorem dL_law__766 : decode cL_law_ 766 = .ok (.iconst 3, 1) := dk_get kL_law__3_ok 42 rfl
theorem dL_law__767 : decode cL_law_ 767 = .ok (.iadd, 1) := dk_get kL_law__3_ok 43 rfl
theorem dL_law__768 : decode cL_law_ 768 = .ok (.iaload, 1) := dk_get kL_law__3_ok 44 rfl
theorem dL_law__769 : decode cL_law_ 769 = .ok (.aload_n 3, 1) := dk_get kL_law__3_ok 45 rfl
theorem dL_law__770 : decode cL_law_ 770 = .ok (.invokestatic 152, 3) := dk_get kL_law__3_ok 46 rfl
theorem dL_law__773 : decode cL_law_ 773 = .ok (.istore 5, 2) := dk_get kL_law__3_ok 47 rfl
theorem dL_law__775 : decode cL_law_ 775 = .ok (.aload_n 2, 1) := dk_get kL_law__3_ok 48 rfl
theorem dL_law__776 : decode cL_law_ 776 = .ok (.aload_n 0, 1) := dk_get kL_law__3_ok 49 rfl
theorem dL_law__777 : decode cL_law_ 777 = .ok (.iload 4, 2) := dk_get kL_law__3_ok 50 rfl
theorem dL_law__779 : decode cL_law_ 779 = .ok (.iconst 1, 1) := dk_get kL_law__3_ok 51 rfl
theorem dL_law__780 : decode cL_law_ 780 = .ok (.iadd, 1) := dk_get kL_law__3_ok 52 rfl
theorem dL_law__781 : decode cL_law_ 781 = .ok (.iaload, 1) := dk_get kL_law__3_ok 53 rfl
theorem dL_law__782 : decode cL_law_ 782 = .ok (.aload_n 0, 1) := dk_get kL_law__3_ok 54 rfl
theorem dL_law__783 : decode cL_law_ 783 = .ok (.iload 4, 2) := dk_get kL_law__3_ok 55 rfl
theorem dL_law__785 : decode cL_law_ 785 = .ok (.iconst 2, 1) := dk_get kL_law__3_ok 56 rfl
theorem dL_law__786 : decode cL_law_ 786 = .ok (.iadd, 1) := dk_get kL_law__3_ok 57 rfl
theorem dL_law__787 : decode cL_law_ 787 = .ok (.iaload, 1) := dk_get kL_law__3_ok 58 rfl
theorem dL_law__788 : decode cL_law_ 788 = .ok (.aload_n 0, 1) := dk_get kL_law__3_ok 59 rfl
theorem dL_law__789 : decode cL_law_ 789 = .ok (.iload 4, 2) := dk_get kL_law__3_ok 60 rfl
theorem dL_law__791 : decode cL_law_ 791 = .ok (.iconst 3, 1) := dk_get kL_law__3_ok 61 rfl
theorem dL_law__792 : decode cL_law_ 792 = .ok (.iadd, 1) := dk_get kL_law__3_ok 62 rfl
theorem dL_law__793 : decode cL_law_ 793 = .ok (.iaload, 1) := dk_get kL_law__3_ok 63 rfl
theorem dL_law__794 : decode cL_law_ 794 = .ok (.invokevirtual 154, 3) := dk_get kL_law__3_ok 64 rfl
theorem dL_law__797 : decode cL_law_ 797 = .ok (.istore 6, 2) := dk_get kL_law__3_ok 65 rfl
theorem dL_law__799 : decode cL_law_ 799 = .ok (.aload_n 2, 1) := dk_get kL_law__3_ok 66 rfl
theorem dL_law__800 : decode cL_law_ 800 = .ok (.invokevirtual 122, 3) := dk_get kL_law__3_ok 67 rfl
theorem dL_law__803 : decode cL_law_ 803 = .ok (.iload 5, 2) := dk_get kL_law__3_ok 68 rfl
theorem dL_law__805 : decode cL_law_ 805 = .ok (.if_icmp .eq 5, 3) := dk_get kL_law__3_ok 69 rfl
theorem dL_law__808 : decode cL_law_ 808 = .ok (.iconst 0, 1) := dk_get kL_law__3_ok 70 rfl
theorem dL_law__809 : decode cL_law_ 809 = .ok (.ireturn, 1) := dk_get kL_law__3_ok 71 rfl
theorem dL_law__810 : decode cL_law_ 810 = .ok (.iload 5, 2) := dk_get kL_law__3_ok 72 rfl
theorem dL_law__812 : decode cL_law_ 812 = .ok (.ifCond .ne 15, 3) := dk_get kL_law__3_ok 73 rfl
theorem dL_law__815 : decode cL_law_ 815 = .ok (.aload_n 3, 1) := dk_get kL_law__3_ok 74 rfl
theorem dL_law__816 : decode cL_law_ 816 = .ok (.iconst 0, 1) := dk_get kL_law__3_ok 75 rfl
theorem dL_law__817 : decode cL_law_ 817 = .ok (.laload, 1) := dk_get kL_law__3_ok 76 rfl
theorem dL_law__818 : decode cL_law_ 818 = .ok (.iload 6, 2) := dk_get kL_law__3_ok 77 rfl
theorem dL_law__820 : decode cL_law_ 820 = .ok (.i2l, 1) := dk_get kL_law__3_ok 78 rfl
theorem dL_law__821 : decode cL_law_ 821 = .ok (.lcmp, 1) := dk_get kL_law__3_ok 79 rfl
theorem dL_law__822 : decode cL_law_ 822 = .ok (.ifCond .eq 5, 3) := dk_get kL_law__3_ok 80 rfl
theorem dL_law__825 : decode cL_law_ 825 = .ok (.iconst 0, 1) := dk_get kL_law__3_ok 81 rfl
theorem dL_law__826 : decode cL_law_ 826 = .ok (.ireturn, 1) := dk_get kL_law__3_ok 82 rfl
theorem dL_law__827 : decode cL_law_ 827 = .ok (.goto 1657, 3) := dk_get kL_law__3_ok 83 rfl
theorem dL_law__830 : decode cL_law_ 830 = .ok (.aload_n 1, 1) := dk_get kL_law__3_ok 84 rfl
theorem dL_law__831 : decode cL_law_ 831 = .ok (.aload_n 0, 1) := dk_get kL_law__3_ok 85 rfl
theorem dL_law__832 : decode cL_law_ 832 = .ok (.iload 4, 2) := dk_get kL_law__3_ok 86 rfl
theorem dL_law__834 : decode cL_law_ 834 = .ok (.iconst 1, 1) := dk_get kL_law__3_ok 87 rfl
theorem dL_law__835 : decode cL_law_ 835 = .ok (.iadd, 1) := dk_get kL_law__3_ok 88 rfl
theorem dL_law__836 : decode cL_law_ 836 = .ok (.iaload, 1) := dk_get kL_law__3_ok 89 rfl
theorem dL_law__837 : decode cL_law_ 837 = .ok (.aload_n 0, 1) := dk_get kL_law__3_ok 90 rfl
theorem dL_law__838 : decode cL_law_ 838 = .ok (.iload 4, 2) := dk_get kL_law__3_ok 91 rfl
theorem dL_law__840 : decode cL_law_ 840 = .ok (.iconst 2, 1) := dk_get kL_law__3_ok 92 rfl
theorem dL_law__841 : decode cL_law_ 841 = .ok (.iadd, 1) := dk_get kL_law__3_ok 93 rfl
theorem dL_law__842 : decode cL_law_ 842 = .ok (.iaload, 1) := dk_get kL_law__3_ok 94 rfl
theorem dL_law__843 : decode cL_law_ 843 = .ok (.aload_n 3, 1) := dk_get kL_law__3_ok 95 rfl
theorem dL_law__844 : decode cL_law_ 844 = .ok (.invokestatic 155, 3) := dk_get kL_law__3_ok 96 rfl
theorem dL_law__847 : decode cL_law_ 847 = .ok (.istore 5, 2) := dk_get kL_law__3_ok 97 rfl
theorem dL_law__849 : decode cL_law_ 849 = .ok (.aload_n 2, 1) := dk_get kL_law__3_ok 98 rfl
theorem dL_law__850 : decode cL_law_ 850 = .ok (.aload_n 0, 1) := dk_get kL_law__3_ok 99 rfl
theorem dL_law__851 : decode cL_law_ 851 = .ok (.iload 4, 2) := dk_get kL_law__3_ok 100 rfl
theorem dL_law__853 : decode cL_law_ 853 = .ok (.iconst 1, 1) := dk_get kL_law__3_ok 101 rfl
theorem dL_law__854 : decode cL_law_ 854 = .ok (.iadd, 1) := dk_get kL_law__3_ok 102 rfl
theorem dL_law__855 : decode cL_law_ 855 = .ok (.iaload, 1) := dk_get kL_law__3_ok 103 rfl
theorem dL_law__856 : decode cL_law_ 856 = .ok (.aload_n 0, 1) := dk_get kL_law__3_ok 104 rfl
theorem dL_law__857 : decode cL_law_ 857 = .ok (.iload 4, 2) := dk_get kL_law__3_ok 105 rfl
theorem dL_law__859 : decode cL_law_ 859 = .ok (.iconst 2, 1) := dk_get kL_law__3_ok 106 rfl
theorem dL_law__860 : decode cL_law_ 860 = .ok (.iadd, 1) := dk_get kL_law__3_ok 107 rfl
theorem dL_law__861 : decode cL_law_ 861 = .ok (.iaload, 1) := dk_get kL_law__3_ok 108 rfl
theorem dL_law__862 : decode cL_law_ 862 = .ok (.invokevirtual 157, 3) := dk_get kL_law__3_ok 109 rfl
theorem dL_law__865 : decode cL_law_ 865 = .ok (.istore 6, 2) := dk_get kL_law__3_ok 110 rfl
theorem dL_law__867 : decode cL_law_ 867 = .ok (.aload_n 2, 1) := dk_get kL_law__3_ok 111 rfl
theorem dL_law__868 : decode cL_law_ 868 = .ok (.invokevirtual 122, 3) := dk_get kL_law__3_ok 112 rfl
theorem dL_law__871 : decode cL_law_ 871 = .ok (.iload 5, 2) := dk_get kL_law__3_ok 113 rfl
theorem dL_law__873 : decode cL_law_ 873 = .ok (.if_icmp .eq 5, 3) := dk_get kL_law__3_ok 114 rfl
theorem dL_law__876 : decode cL_law_ 876 = .ok (.iconst 0, 1) := dk_get kL_law__3_ok 115 rfl
theorem dL_law__877 : decode cL_law_ 877 = .ok (.ireturn, 1) := dk_get kL_law__3_ok 116 rfl
theorem dL_law__878 : decode cL_law_ 878 = .ok (.iload 5, 2) := dk_get kL_law__3_ok 117 rfl
theorem dL_law__880 : decode cL_law_ 880 = .ok (.ifCond .ne 15, 3) := dk_get kL_law__3_ok 118 rfl
theorem dL_law__883 : decode cL_law_ 883 = .ok (.aload_n 3, 1) := dk_get kL_law__3_ok 119 rfl
def kL_law__4 : List (Nat × Instr × Nat) := [(884, .iconst 0, 1), (885, .laload, 1), (886, .iload 6, 2), (888, .i2l, 1), (889, .lcmp, 1), (890, .ifCond .eq 5, 3), (893, .iconst 0, 1), (894, .ireturn, 1), (895, .goto 1589, 3), (898, .aload_n 1, 1), (899, .aload_n 0, 1), (900, .iload 4, 2), (902, .iconst 1, 1), (903, .iadd, 1), (904, .iaload, 1), (905, .aload_n 0, 1), (906, .iload 4, 2), (908, .iconst 2, 1), (909, .iadd, 1), (910, .iaload, 1), (911, .aload_n 3, 1), (912, .invokestatic 158, 3), (915, .istore 5, 2), (917, .aload_n 2, 1), (918, .aload_n 0, 1), (919, .iload 4, 2), (921, .iconst 1, 1), (922, .iadd, 1), (923, .iaload, 1), (924, .aload_n 0, 1), (925, .iload 4, 2), (927, .iconst 2, 1), (928, .iadd, 1), (929, .iaload, 1), (930, .invokevirtual 160, 3), (933, .istore 6, 2), (935, .aload_n 2, 1), (936, .invokevirtual 122, 3), (939, .iload 5, 2), (941, .if_icmp .eq 5, 3), (944, .iconst 0, 1), (945, .ireturn, 1), (946, .iload 5, 2), (948, .ifCond .ne 15, 3), (951, .aload_n 3, 1), (952, .iconst 0, 1), (953, .laload, 1), (954, .iload 6, 2), (956, .i2l, 1), (957, .lcmp, 1), (958, .ifCond .eq 5, 3), (961, .iconst 0, 1), (962, .ireturn, 1), (963, .goto 1521, 3), (966, .aload_n 1, 1), (967, .aload_n 0, 1), (968, .iload 4, 2), (970, .iconst 1, 1), (971, .iadd, 1), (972, .iaload, 1), (973, .aload_n 0, 1), (974, .iload 4, 2), (976, .iconst 2, 1), (977, .iadd, 1), (978, .iaload, 1), (979, .aload_n 0, 1), (980, .iload 4, 2), (982, .iconst 3, 1), (983, .iadd, 1), (984, .iaload, 1), (985, .ifCond .eq 7, 3), (988, .iconst 1, 1), (989, .goto 4, 3), (992, .iconst 0, 1), (993, .aload_n 3, 1), (994, .invokestatic 161, 3), (997, .istore 5, 2), (999, .aload_n 2, 1), (1000, .aload_n 0, 1), (1001, .iload 4, 2), (1003, .iconst 1, 1), (1004, .iadd, 1), (1005, .iaload, 1), (1006, .aload_n 0, 1), (1007, .iload 4, 2), (1009, .iconst 2, 1), (1010, .iadd, 1), (1011, .iaload, 1), (1012, .aload_n 0, 1), (1013, .iload 4, 2), (1015, .iconst 3, 1), (1016, .iadd, 1), (1017, .iaload, 1), (1018, .ifCond .eq 7, 3), (1021, .iconst 1, 1), (1022, .goto 4, 3), (1025, .iconst 0, 1), (1026, .invokevirtual 164, 3), (1029, .istore 6, 2), (1031, .aload_n 2, 1), (1032, .invokevirtual 122, 3), (1035, .iload 5, 2), (1037, .if_icmp .eq 5, 3), (1040, .iconst 0, 1), (1041, .ireturn, 1), (1042, .iload 5, 2), (1044, .ifCond .ne 15, 3), (1047, .aload_n 3, 1), (1048, .iconst 0, 1), (1049, .laload, 1), (1050, .iload 6, 2), (1052, .i2l, 1), (1053, .lcmp, 1), (1054, .ifCond .eq 5, 3), (1057, .iconst 0, 1), (1058, .ireturn, 1), (1059, .goto 1425, 3), (1062, .aload_n 1, 1), (1063, .aload_n 0, 1), (1064, .iload 4, 2)]
set_option maxRecDepth 100000 in
theorem kL_law__4_ok : kL_law__4.all (fun q => decide (decode cL_law_ q.1 = .ok q.2)) = true := by decide +kernel
theorem dL_law__884 : decode cL_law_ 884 = .ok (.iconst 0, 1) := dk_get kL_law__4_ok 0 rfl
theorem dL_law__885 : decode cL_law_ 885 = .ok (.laload, 1) := dk_get kL_law__4_ok 1 rfl
theorem dL_law__886 : decode cL_law_ 886 = .ok (.iload 6, 2) := dk_get kL_law__4_ok 2 rfl
theorem dL_law__888 : decode cL_law_ 888 = .ok (.i2l, 1) := dk_get kL_law__4_ok 3 rfl
theorem dL_law__889 : decode cL_law_ 889 = .ok (.lcmp, 1) := dk_get kL_law__4_ok 4 rfl
theorem dL_law__890 : decode cL_law_ 890 = .ok (.ifCond .eq 5, 3) := dk_get kL_law__4_ok 5 rfl
theorem dL_law__893 : decode cL_law_ 893 = .ok (.iconst 0, 1) := dk_get kL_law__4_ok 6 rfl
theorem dL_law__894 : decode cL_law_ 894 = .ok (.ireturn, 1) := dk_get kL_law__4_ok 7 rfl
theorem dL_law__895 : decode cL_law_ 895 = .ok (.goto 1589, 3) := dk_get kL_law__4_ok 8 rfl
theorem dL_law__898 : decode cL_law_ 898 = .ok (.aload_n 1, 1) := dk_get kL_law__4_ok 9 rfl
theorem dL_law__899 : decode cL_law_ 899 = .ok (.aload_n 0, 1) := dk_get kL_law__4_ok 10 rfl
theorem dL_law__900 : decode cL_law_ 900 = .ok (.iload 4, 2) := dk_get kL_law__4_ok 11 rfl
theorem dL_law__902 : decode cL_law_ 902 = .ok (.iconst 1, 1) := dk_get kL_law__4_ok 12 rfl
theorem dL_law__903 : decode cL_law_ 903 = .ok (.iadd, 1) := dk_get kL_law__4_ok 13 rfl
theorem dL_law__904 : decode cL_law_ 904 = .ok (.iaload, 1) := dk_get kL_law__4_ok 14 rfl
theorem dL_law__905 : decode cL_law_ 905 = .ok (.aload_n 0, 1) := dk_get kL_law__4_ok 15 rfl
theorem dL_law__906 : decode cL_law_ 906 = .ok (.iload 4, 2) := dk_get kL_law__4_ok 16 rfl
theorem dL_law__908 : decode cL_law_ 908 = .ok (.iconst 2, 1) := dk_get kL_law__4_ok 17 rfl
theorem dL_law__909 : decode cL_law_ 909 = .ok (.iadd, 1) := dk_get kL_law__4_ok 18 rfl
theorem dL_law__910 : decode cL_law_ 910 = .ok (.iaload, 1) := dk_get kL_law__4_ok 19 rfl
theorem dL_law__911 : decode cL_law_ 911 = .ok (.aload_n 3, 1) := dk_get kL_law__4_ok 20 rfl
theorem dL_law__912 : decode cL_law_ 912 = .ok (.invokestatic 158, 3) := dk_get kL_law__4_ok 21 rfl
theorem dL_law__915 : decode cL_law_ 915 = .ok (.istore 5, 2) := dk_get kL_law__4_ok 22 rfl
theorem dL_law__917 : decode cL_law_ 917 = .ok (.aload_n 2, 1) := dk_get kL_law__4_ok 23 rfl
theorem dL_law__918 : decode cL_law_ 918 = .ok (.aload_n 0, 1) := dk_get kL_law__4_ok 24 rfl
theorem dL_law__919 : decode cL_law_ 919 = .ok (.iload 4, 2) := dk_get kL_law__4_ok 25 rfl
theorem dL_law__921 : decode cL_law_ 921 = .ok (.iconst 1, 1) := dk_get kL_law__4_ok 26 rfl
theorem dL_law__922 : decode cL_law_ 922 = .ok (.iadd, 1) := dk_get kL_law__4_ok 27 rfl
theorem dL_law__923 : decode cL_law_ 923 = .ok (.iaload, 1) := dk_get kL_law__4_ok 28 rfl
theorem dL_law__924 : decode cL_law_ 924 = .ok (.aload_n 0, 1) := dk_get kL_law__4_ok 29 rfl
theorem dL_law__925 : decode cL_law_ 925 = .ok (.iload 4, 2) := dk_get kL_law__4_ok 30 rfl
theorem dL_law__927 : decode cL_law_ 927 = .ok (.iconst 2, 1) := dk_get kL_law__4_ok 31 rfl
theorem dL_law__928 : decode cL_law_ 928 = .ok (.iadd, 1) := dk_get kL_law__4_ok 32 rfl
theorem dL_law__929 : decode cL_law_ 929 = .ok (.iaload, 1) := dk_get kL_law__4_ok 33 rfl
theorem dL_law__930 : decode cL_law_ 930 = .ok (.invokevirtual 160, 3) := dk_get kL_law__4_ok 34 rfl
theorem dL_law__933 : decode cL_law_ 933 = .ok (.istore 6, 2) := dk_get kL_law__4_ok 35 rfl
theorem dL_law__935 : decode cL_law_ 935 = .ok (.aload_n 2, 1) := dk_get kL_law__4_ok 36 rfl
theorem dL_law__936 : decode cL_law_ 936 = .ok (.invokevirtual 122, 3) := dk_get kL_law__4_ok 37 rfl
theorem dL_law__939 : decode cL_law_ 939 = .ok (.iload 5, 2) := dk_get kL_law__4_ok 38 rfl
theorem dL_law__941 : decode cL_law_ 941 = .ok (.if_icmp .eq 5, 3) := dk_get kL_law__4_ok 39 rfl
theorem dL_law__944 : decode cL_law_ 944 = .ok (.iconst 0, 1) := dk_get kL_law__4_ok 40 rfl
theorem dL_law__945 : decode cL_law_ 945 = .ok (.ireturn, 1) := dk_get kL_law__4_ok 41 rfl
theorem dL_law__946 : decode cL_law_ 946 = .ok (.iload 5, 2) := dk_get kL_law__4_ok 42 rfl
theorem dL_law__948 : decode cL_law_ 948 = .ok (.ifCond .ne 15, 3) := dk_get kL_law__4_ok 43 rfl
theorem dL_law__951 : decode cL_law_ 951 = .ok (.aload_n 3, 1) := dk_get kL_law__4_ok 44 rfl
theorem dL_law__952 : decode cL_law_ 952 = .ok (.iconst 0, 1) := dk_get kL_law__4_ok 45 rfl
theorem dL_law__953 : decode cL_law_ 953 = .ok (.laload, 1) := dk_get kL_law__4_ok 46 rfl
theorem dL_law__954 : decode cL_law_ 954 = .ok (.iload 6, 2) := dk_get kL_law__4_ok 47 rfl
theorem dL_law__956 : decode cL_law_ 956 = .ok (.i2l, 1) := dk_get kL_law__4_ok 48 rfl
theorem dL_law__957 : decode cL_law_ 957 = .ok (.lcmp, 1) := dk_get kL_law__4_ok 49 rfl
theorem dL_law__958 : decode cL_law_ 958 = .ok (.ifCond .eq 5, 3) := dk_get kL_law__4_ok 50 rfl
theorem dL_law__961 : decode cL_law_ 961 = .ok (.iconst 0, 1) := dk_get kL_law__4_ok 51 rfl
theorem dL_law__962 : decode cL_law_ 962 = .ok (.ireturn, 1) := dk_get kL_law__4_ok 52 rfl
theorem dL_law__963 : decode cL_law_ 963 = .ok (.goto 1521, 3) := dk_get kL_law__4_ok 53 rfl
theorem dL_law__966 : decode cL_law_ 966 = .ok (.aload_n 1, 1) := dk_get kL_law__4_ok 54 rfl
theorem dL_law__967 : decode cL_law_ 967 = .ok (.aload_n 0, 1) := dk_get kL_law__4_ok 55 rfl
theorem dL_law__968 : decode cL_law_ 968 = .ok (.iload 4, 2) := dk_get kL_law__4_ok 56 rfl
theorem dL_law__970 : decode cL_law_ 970 = .ok (.iconst 1, 1) := dk_get kL_law__4_ok 57 rfl
theorem dL_law__971 : decode cL_law_ 971 = .ok (.iadd, 1) := dk_get kL_law__4_ok 58 rfl
theorem dL_law__972 : decode cL_law_ 972 = .ok (.iaload, 1) := dk_get kL_law__4_ok 59 rfl
theorem dL_law__973 : decode cL_law_ 973 = .ok (.aload_n 0, 1) := dk_get kL_law__4_ok 60 rfl
theorem dL_law__974 : decode cL_law_ 974 = .ok (.iload 4, 2) := dk_get kL_law__4_ok 61 rfl
theorem dL_law__976 : decode cL_law_ 976 = .ok (.iconst 2, 1) := dk_get kL_law__4_ok 62 rfl
theorem dL_law__977 : decode cL_law_ 977 = .ok (.iadd, 1) := dk_get kL_law__4_ok 63 rfl
theorem dL_law__978 : decode cL_law_ 978 = .ok (.iaload, 1) := dk_get kL_law__4_ok 64 rfl
theorem dL_law__979 : decode cL_law_ 979 = .ok (.aload_n 0, 1) := dk_get kL_law__4_ok 65 rfl
theorem dL_law__980 : decode cL_law_ 980 = .ok (.iload 4, 2) := dk_get kL_law__4_ok 66 rfl
theorem dL_law__982 : decode cL_law_ 982 = .ok (.iconst 3, 1) := dk_get kL_law__4_ok 67 rfl
theorem dL_law__983 : decode cL_law_ 983 = .ok (.iadd, 1) := dk_get kL_law__4_ok 68 rfl
theorem dL_law__984 : decode cL_law_ 984 = .ok (.iaload, 1) := dk_get kL_law__4_ok 69 rfl
theorem dL_law__985 : decode cL_law_ 985 = .ok (.ifCond .eq 7, 3) := dk_get kL_law__4_ok 70 rfl
theorem dL_law__988 : decode cL_law_ 988 = .ok (.iconst 1, 1) := dk_get kL_law__4_ok 71 rfl
theorem dL_law__989 : decode cL_law_ 989 = .ok (.goto 4, 3) := dk_get kL_law__4_ok 72 rfl
theorem dL_law__992 : decode cL_law_ 992 = .ok (.iconst 0, 1) := dk_get kL_law__4_ok 73 rfl
theorem dL_law__993 : decode cL_law_ 993 = .ok (.aload_n 3, 1) := dk_get kL_law__4_ok 74 rfl
theorem dL_law__994 : decode cL_law_ 994 = .ok (.invokestatic 161, 3) := dk_get kL_law__4_ok 75 rfl
theorem dL_law__997 : decode cL_law_ 997 = .ok (.istore 5, 2) := dk_get kL_law__4_ok 76 rfl
theorem dL_law__999 : decode cL_law_ 999 = .ok (.aload_n 2, 1) := dk_get kL_law__4_ok 77 rfl
theorem dL_law__1000 : decode cL_law_ 1000 = .ok (.aload_n 0, 1) := dk_get kL_law__4_ok 78 rfl
theorem dL_law__1001 : decode cL_law_ 1001 = .ok (.iload 4, 2) := dk_get kL_law__4_ok 79 rfl
theorem dL_law__1003 : decode cL_law_ 1003 = .ok (.iconst 1, 1) := dk_get kL_law__4_ok 80 rfl
theorem dL_law__1004 : decode cL_law_ 1004 = .ok (.iadd, 1) := dk_get kL_law__4_ok 81 rfl
theorem dL_law__1005 : decode cL_law_ 1005 = .ok (.iaload, 1) := dk_get kL_law__4_ok 82 rfl
theorem dL_law__1006 : decode cL_law_ 1006 = .ok (.aload_n 0, 1) := dk_get kL_law__4_ok 83 rfl
theorem dL_law__1007 : decode cL_law_ 1007 = .ok (.iload 4, 2) := dk_get kL_law__4_ok 84 rfl
theorem dL_law__1009 : decode cL_law_ 1009 = .ok (.iconst 2, 1) := dk_get kL_law__4_ok 85 rfl
theorem dL_law__1010 : decode cL_law_ 1010 = .ok (.iadd, 1) := dk_get kL_law__4_ok 86 rfl
theorem dL_law__1011 : decode cL_law_ 1011 = .ok (.iaload, 1) := dk_get kL_law__4_ok 87 rfl
theorem dL_law__1012 : decode cL_law_ 1012 = .ok (.aload_n 0, 1) := dk_get kL_law__4_ok 88 rfl
theorem dL_law__1013 : decode cL_law_ 1013 = .ok (.iload 4, 2) := dk_get kL_law__4_ok 89 rfl
theorem dL_law__1015 : decode cL_law_ 1015 = .ok (.iconst 3, 1) := dk_get kL_law__4_ok 90 rfl
theorem dL_law__1016 : decode cL_law_ 1016 = .ok (.iadd, 1) := dk_get kL_law__4_ok 91 rfl
theorem dL_law__1017 : decode cL_law_ 1017 = .ok (.iaload, 1) := dk_get kL_law__4_ok 92 rfl
theorem dL_law__1018 : decode cL_law_ 1018 = .ok (.ifCond .eq 7, 3) := dk_get kL_law__4_ok 93 rfl
theorem dL_law__1021 : decode cL_law_ 1021 = .ok (.iconst 1, 1) := dk_get kL_law__4_ok 94 rfl
theorem dL_law__1022 : decode cL_law_ 1022 = .ok (.goto 4, 3) := dk_get kL_law__4_ok 95 rfl
theorem dL_law__1025 : decode cL_law_ 1025 = .ok (.iconst 0, 1) := dk_get kL_law__4_ok 96 rfl
theorem dL_law__1026 : decode cL_law_ 1026 = .ok (.invokevirtual 164, 3) := dk_get kL_law__4_ok 97 rfl
theorem dL_law__1029 : decode cL_law_ 1029 = .ok (.istore 6, 2) := dk_get kL_law__4_ok 98 rfl
theorem dL_law__1031 : decode cL_law_ 1031 = .ok (.aload_n 2, 1) := dk_get kL_law__4_ok 99 rfl
theorem dL_law__1032 : decode cL_law_ 1032 = .ok (.invokevirtual 122, 3) := dk_get kL_law__4_ok 100 rfl
theorem dL_law__1035 : decode cL_law_ 1035 = .ok (.iload 5, 2) := dk_get kL_law__4_ok 101 rfl
theorem dL_law__1037 : decode cL_law_ 1037 = .ok (.if_icmp .eq 5, 3) := dk_get kL_law__4_ok 102 rfl
theorem dL_law__1040 : decode cL_law_ 1040 = .ok (.iconst 0, 1) := dk_get kL_law__4_ok 103 rfl
theorem dL_law__1041 : decode cL_law_ 1041 = .ok (.ireturn, 1) := dk_get kL_law__4_ok 104 rfl
theorem dL_law__1042 : decode cL_law_ 1042 = .ok (.iload 5, 2) := dk_get kL_law__4_ok 105 rfl
theorem dL_law__1044 : decode cL_law_ 1044 = .ok (.ifCond .ne 15, 3) := dk_get kL_law__4_ok 106 rfl
theorem dL_law__1047 : decode cL_law_ 1047 = .ok (.aload_n 3, 1) := dk_get kL_law__4_ok 107 rfl
theorem dL_law__1048 : decode cL_law_ 1048 = .ok (.iconst 0, 1) := dk_get kL_law__4_ok 108 rfl
theorem dL_law__1049 : decode cL_law_ 1049 = .ok (.laload, 1) := dk_get kL_law__4_ok 109 rfl
theorem dL_law__1050 : decode cL_law_ 1050 = .ok (.iload 6, 2) := dk_get kL_law__4_ok 110 rfl
theorem dL_law__1052 : decode cL_law_ 1052 = .ok (.i2l, 1) := dk_get kL_law__4_ok 111 rfl
theorem dL_law__1053 : decode cL_law_ 1053 = .ok (.lcmp, 1) := dk_get kL_law__4_ok 112 rfl
theorem dL_law__1054 : decode cL_law_ 1054 = .ok (.ifCond .eq 5, 3) := dk_get kL_law__4_ok 113 rfl
theorem dL_law__1057 : decode cL_law_ 1057 = .ok (.iconst 0, 1) := dk_get kL_law__4_ok 114 rfl
theorem dL_law__1058 : decode cL_law_ 1058 = .ok (.ireturn, 1) := dk_get kL_law__4_ok 115 rfl
theorem dL_law__1059 : decode cL_law_ 1059 = .ok (.goto 1425, 3) := dk_get kL_law__4_ok 116 rfl
theorem dL_law__1062 : decode cL_law_ 1062 = .ok (.aload_n 1, 1) := dk_get kL_law__4_ok 117 rfl
theorem dL_law__1063 : decode cL_law_ 1063 = .ok (.aload_n 0, 1) := dk_get kL_law__4_ok 118 rfl
theorem dL_law__1064 : decode cL_law_ 1064 = .ok (.iload 4, 2) := dk_get kL_law__4_ok 119 rfl
def kL_law__5 : List (Nat × Instr × Nat) := [(1066, .iconst 1, 1), (1067, .iadd, 1), (1068, .iaload, 1), (1069, .aload_n 0, 1), (1070, .iload 4, 2), (1072, .iconst 2, 1), (1073, .iadd, 1), (1074, .iaload, 1), (1075, .aload_n 3, 1), (1076, .invokestatic 165, 3), (1079, .istore 5, 2), (1081, .aload_n 2, 1), (1082, .aload_n 0, 1), (1083, .iload 4, 2), (1085, .iconst 1, 1), (1086, .iadd, 1), (1087, .iaload, 1), (1088, .aload_n 0, 1), (1089, .iload 4, 2), (1091, .iconst 2, 1), (1092, .iadd, 1), (1093, .iaload, 1), (1094, .invokevirtual 167, 3), (1097, .istore 6, 2), (1099, .aload_n 2, 1), (1100, .invokevirtual 122, 3), (1103, .iload 5, 2), (1105, .if_icmp .eq 5, 3), (1108, .iconst 0, 1), (1109, .ireturn, 1), (1110, .iload 5, 2), (1112, .ifCond .ne 15, 3), (1115, .aload_n 3, 1), (1116, .iconst 0, 1), (1117, .laload, 1), (1118, .iload 6, 2), (1120, .i2l, 1), (1121, .lcmp, 1), (1122, .ifCond .eq 5, 3), (1125, .iconst 0, 1), (1126, .ireturn, 1), (1127, .goto 1357, 3), (1130, .aload_n 1, 1), (1131, .aload_n 0, 1), (1132, .iload 4, 2), (1134, .iconst 1, 1), (1135, .iadd, 1), (1136, .iaload, 1), (1137, .aload_n 0, 1), (1138, .iload 4, 2), (1140, .iconst 2, 1), (1141, .iadd, 1), (1142, .iaload, 1), (1143, .aload_n 3, 1), (1144, .invokestatic 168, 3), (1147, .istore 5, 2), (1149, .aload_n 2, 1), (1150, .aload_n 0, 1), (1151, .iload 4, 2), (1153, .iconst 1, 1), (1154, .iadd, 1), (1155, .iaload, 1), (1156, .aload_n 0, 1), (1157, .iload 4, 2), (1159, .iconst 2, 1), (1160, .iadd, 1), (1161, .iaload, 1), (1162, .invokevirtual 170, 3), (1165, .istore 6, 2), (1167, .aload_n 2, 1), (1168, .invokevirtual 122, 3), (1171, .iload 5, 2), (1173, .if_icmp .eq 5, 3), (1176, .iconst 0, 1), (1177, .ireturn, 1), (1178, .iload 5, 2), (1180, .ifCond .ne 15, 3), (1183, .aload_n 3, 1), (1184, .iconst 0, 1), (1185, .laload, 1), (1186, .iload 6, 2), (1188, .i2l, 1), (1189, .lcmp, 1), (1190, .ifCond .eq 5, 3), (1193, .iconst 0, 1), (1194, .ireturn, 1), (1195, .goto 1289, 3), (1198, .aload_n 1, 1), (1199, .aload_n 0, 1), (1200, .iload 4, 2), (1202, .iconst 1, 1), (1203, .iadd, 1), (1204, .iaload, 1), (1205, .aload_n 3, 1), (1206, .invokestatic 171, 3), (1209, .istore 5, 2), (1211, .aload_n 2, 1), (1212, .aload_n 0, 1), (1213, .iload 4, 2), (1215, .iconst 1, 1), (1216, .iadd, 1), (1217, .iaload, 1), (1218, .invokevirtual 173, 3), (1221, .istore 6, 2), (1223, .aload_n 2, 1), (1224, .invokevirtual 122, 3), (1227, .iload 5, 2), (1229, .if_icmp .eq 5, 3), (1232, .iconst 0, 1), (1233, .ireturn, 1), (1234, .iload 5, 2), (1236, .ifCond .ne 22, 3), (1239, .aload_n 3, 1), (1240, .iconst 0, 1), (1241, .laload, 1), (1242, .iload 6, 2), (1244, .ifCond .eq 7, 3), (1247, .lconst 1, 1), (1248, .goto 4, 3), (1251, .lconst 0, 1)]
set_option maxRecDepth 100000 in
theorem kL_law__5_ok : kL_law__5.all (fun q => decide (decode cL_law_ q.1 = .ok q.2)) = true := by decide +kernel
theorem dL_law__1066 : decode cL_law_ 1066 = .ok (.iconst 1, 1) := dk_get kL_law__5_ok 0 rfl
theorem dL_law__1067 : decode cL_law_ 1067 = .ok (.iadd, 1) := dk_get kL_law__5_ok 1 rfl
theorem dL_law__1068 : decode cL_law_ 1068 = .ok (.iaload, 1) := dk_get kL_law__5_ok 2 rfl
theorem dL_law__1069 : decode cL_law_ 1069 = .ok (.aload_n 0, 1) := dk_get kL_law__5_ok 3 rfl
theorem dL_law__1070 : decode cL_law_ 1070 = .ok (.iload 4, 2) := dk_get kL_law__5_ok 4 rfl
theorem dL_law__1072 : decode cL_law_ 1072 = .ok (.iconst 2, 1) := dk_get kL_law__5_ok 5 rfl
theorem dL_law__1073 : decode cL_law_ 1073 = .ok (.iadd, 1) := dk_get kL_law__5_ok 6 rfl
theorem dL_law__1074 : decode cL_law_ 1074 = .ok (.iaload, 1) := dk_get kL_law__5_ok 7 rfl
theorem dL_law__1075 : decode cL_law_ 1075 = .ok (.aload_n 3, 1) := dk_get kL_law__5_ok 8 rfl
theorem dL_law__1076 : decode cL_law_ 1076 = .ok (.invokestatic 165, 3) := dk_get kL_law__5_ok 9 rfl
theorem dL_law__1079 : decode cL_law_ 1079 = .ok (.istore 5, 2) := dk_get kL_law__5_ok 10 rfl
theorem dL_law__1081 : decode cL_law_ 1081 = .ok (.aload_n 2, 1) := dk_get kL_law__5_ok 11 rfl
theorem dL_law__1082 : decode cL_law_ 1082 = .ok (.aload_n 0, 1) := dk_get kL_law__5_ok 12 rfl
theorem dL_law__1083 : decode cL_law_ 1083 = .ok (.iload 4, 2) := dk_get kL_law__5_ok 13 rfl
theorem dL_law__1085 : decode cL_law_ 1085 = .ok (.iconst 1, 1) := dk_get kL_law__5_ok 14 rfl
theorem dL_law__1086 : decode cL_law_ 1086 = .ok (.iadd, 1) := dk_get kL_law__5_ok 15 rfl
theorem dL_law__1087 : decode cL_law_ 1087 = .ok (.iaload, 1) := dk_get kL_law__5_ok 16 rfl
theorem dL_law__1088 : decode cL_law_ 1088 = .ok (.aload_n 0, 1) := dk_get kL_law__5_ok 17 rfl
theorem dL_law__1089 : decode cL_law_ 1089 = .ok (.iload 4, 2) := dk_get kL_law__5_ok 18 rfl
theorem dL_law__1091 : decode cL_law_ 1091 = .ok (.iconst 2, 1) := dk_get kL_law__5_ok 19 rfl
theorem dL_law__1092 : decode cL_law_ 1092 = .ok (.iadd, 1) := dk_get kL_law__5_ok 20 rfl
theorem dL_law__1093 : decode cL_law_ 1093 = .ok (.iaload, 1) := dk_get kL_law__5_ok 21 rfl
theorem dL_law__1094 : decode cL_law_ 1094 = .ok (.invokevirtual 167, 3) := dk_get kL_law__5_ok 22 rfl
theorem dL_law__1097 : decode cL_law_ 1097 = .ok (.istore 6, 2) := dk_get kL_law__5_ok 23 rfl
theorem dL_law__1099 : decode cL_law_ 1099 = .ok (.aload_n 2, 1) := dk_get kL_law__5_ok 24 rfl
theorem dL_law__1100 : decode cL_law_ 1100 = .ok (.invokevirtual 122, 3) := dk_get kL_law__5_ok 25 rfl
theorem dL_law__1103 : decode cL_law_ 1103 = .ok (.iload 5, 2) := dk_get kL_law__5_ok 26 rfl
theorem dL_law__1105 : decode cL_law_ 1105 = .ok (.if_icmp .eq 5, 3) := dk_get kL_law__5_ok 27 rfl
theorem dL_law__1108 : decode cL_law_ 1108 = .ok (.iconst 0, 1) := dk_get kL_law__5_ok 28 rfl
theorem dL_law__1109 : decode cL_law_ 1109 = .ok (.ireturn, 1) := dk_get kL_law__5_ok 29 rfl
theorem dL_law__1110 : decode cL_law_ 1110 = .ok (.iload 5, 2) := dk_get kL_law__5_ok 30 rfl
theorem dL_law__1112 : decode cL_law_ 1112 = .ok (.ifCond .ne 15, 3) := dk_get kL_law__5_ok 31 rfl
theorem dL_law__1115 : decode cL_law_ 1115 = .ok (.aload_n 3, 1) := dk_get kL_law__5_ok 32 rfl
theorem dL_law__1116 : decode cL_law_ 1116 = .ok (.iconst 0, 1) := dk_get kL_law__5_ok 33 rfl
theorem dL_law__1117 : decode cL_law_ 1117 = .ok (.laload, 1) := dk_get kL_law__5_ok 34 rfl
theorem dL_law__1118 : decode cL_law_ 1118 = .ok (.iload 6, 2) := dk_get kL_law__5_ok 35 rfl
theorem dL_law__1120 : decode cL_law_ 1120 = .ok (.i2l, 1) := dk_get kL_law__5_ok 36 rfl
theorem dL_law__1121 : decode cL_law_ 1121 = .ok (.lcmp, 1) := dk_get kL_law__5_ok 37 rfl
theorem dL_law__1122 : decode cL_law_ 1122 = .ok (.ifCond .eq 5, 3) := dk_get kL_law__5_ok 38 rfl
theorem dL_law__1125 : decode cL_law_ 1125 = .ok (.iconst 0, 1) := dk_get kL_law__5_ok 39 rfl
theorem dL_law__1126 : decode cL_law_ 1126 = .ok (.ireturn, 1) := dk_get kL_law__5_ok 40 rfl
theorem dL_law__1127 : decode cL_law_ 1127 = .ok (.goto 1357, 3) := dk_get kL_law__5_ok 41 rfl
theorem dL_law__1130 : decode cL_law_ 1130 = .ok (.aload_n 1, 1) := dk_get kL_law__5_ok 42 rfl
theorem dL_law__1131 : decode cL_law_ 1131 = .ok (.aload_n 0, 1) := dk_get kL_law__5_ok 43 rfl
theorem dL_law__1132 : decode cL_law_ 1132 = .ok (.iload 4, 2) := dk_get kL_law__5_ok 44 rfl
theorem dL_law__1134 : decode cL_law_ 1134 = .ok (.iconst 1, 1) := dk_get kL_law__5_ok 45 rfl
theorem dL_law__1135 : decode cL_law_ 1135 = .ok (.iadd, 1) := dk_get kL_law__5_ok 46 rfl
theorem dL_law__1136 : decode cL_law_ 1136 = .ok (.iaload, 1) := dk_get kL_law__5_ok 47 rfl
theorem dL_law__1137 : decode cL_law_ 1137 = .ok (.aload_n 0, 1) := dk_get kL_law__5_ok 48 rfl
theorem dL_law__1138 : decode cL_law_ 1138 = .ok (.iload 4, 2) := dk_get kL_law__5_ok 49 rfl
theorem dL_law__1140 : decode cL_law_ 1140 = .ok (.iconst 2, 1) := dk_get kL_law__5_ok 50 rfl
theorem dL_law__1141 : decode cL_law_ 1141 = .ok (.iadd, 1) := dk_get kL_law__5_ok 51 rfl
theorem dL_law__1142 : decode cL_law_ 1142 = .ok (.iaload, 1) := dk_get kL_law__5_ok 52 rfl
theorem dL_law__1143 : decode cL_law_ 1143 = .ok (.aload_n 3, 1) := dk_get kL_law__5_ok 53 rfl
theorem dL_law__1144 : decode cL_law_ 1144 = .ok (.invokestatic 168, 3) := dk_get kL_law__5_ok 54 rfl
theorem dL_law__1147 : decode cL_law_ 1147 = .ok (.istore 5, 2) := dk_get kL_law__5_ok 55 rfl
theorem dL_law__1149 : decode cL_law_ 1149 = .ok (.aload_n 2, 1) := dk_get kL_law__5_ok 56 rfl
theorem dL_law__1150 : decode cL_law_ 1150 = .ok (.aload_n 0, 1) := dk_get kL_law__5_ok 57 rfl
theorem dL_law__1151 : decode cL_law_ 1151 = .ok (.iload 4, 2) := dk_get kL_law__5_ok 58 rfl
theorem dL_law__1153 : decode cL_law_ 1153 = .ok (.iconst 1, 1) := dk_get kL_law__5_ok 59 rfl
theorem dL_law__1154 : decode cL_law_ 1154 = .ok (.iadd, 1) := dk_get kL_law__5_ok 60 rfl
theorem dL_law__1155 : decode cL_law_ 1155 = .ok (.iaload, 1) := dk_get kL_law__5_ok 61 rfl
theorem dL_law__1156 : decode cL_law_ 1156 = .ok (.aload_n 0, 1) := dk_get kL_law__5_ok 62 rfl
theorem dL_law__1157 : decode cL_law_ 1157 = .ok (.iload 4, 2) := dk_get kL_law__5_ok 63 rfl
theorem dL_law__1159 : decode cL_law_ 1159 = .ok (.iconst 2, 1) := dk_get kL_law__5_ok 64 rfl
theorem dL_law__1160 : decode cL_law_ 1160 = .ok (.iadd, 1) := dk_get kL_law__5_ok 65 rfl
theorem dL_law__1161 : decode cL_law_ 1161 = .ok (.iaload, 1) := dk_get kL_law__5_ok 66 rfl
theorem dL_law__1162 : decode cL_law_ 1162 = .ok (.invokevirtual 170, 3) := dk_get kL_law__5_ok 67 rfl
theorem dL_law__1165 : decode cL_law_ 1165 = .ok (.istore 6, 2) := dk_get kL_law__5_ok 68 rfl
theorem dL_law__1167 : decode cL_law_ 1167 = .ok (.aload_n 2, 1) := dk_get kL_law__5_ok 69 rfl
theorem dL_law__1168 : decode cL_law_ 1168 = .ok (.invokevirtual 122, 3) := dk_get kL_law__5_ok 70 rfl
theorem dL_law__1171 : decode cL_law_ 1171 = .ok (.iload 5, 2) := dk_get kL_law__5_ok 71 rfl
theorem dL_law__1173 : decode cL_law_ 1173 = .ok (.if_icmp .eq 5, 3) := dk_get kL_law__5_ok 72 rfl
theorem dL_law__1176 : decode cL_law_ 1176 = .ok (.iconst 0, 1) := dk_get kL_law__5_ok 73 rfl
theorem dL_law__1177 : decode cL_law_ 1177 = .ok (.ireturn, 1) := dk_get kL_law__5_ok 74 rfl
theorem dL_law__1178 : decode cL_law_ 1178 = .ok (.iload 5, 2) := dk_get kL_law__5_ok 75 rfl
theorem dL_law__1180 : decode cL_law_ 1180 = .ok (.ifCond .ne 15, 3) := dk_get kL_law__5_ok 76 rfl
theorem dL_law__1183 : decode cL_law_ 1183 = .ok (.aload_n 3, 1) := dk_get kL_law__5_ok 77 rfl
theorem dL_law__1184 : decode cL_law_ 1184 = .ok (.iconst 0, 1) := dk_get kL_law__5_ok 78 rfl
theorem dL_law__1185 : decode cL_law_ 1185 = .ok (.laload, 1) := dk_get kL_law__5_ok 79 rfl
theorem dL_law__1186 : decode cL_law_ 1186 = .ok (.iload 6, 2) := dk_get kL_law__5_ok 80 rfl
theorem dL_law__1188 : decode cL_law_ 1188 = .ok (.i2l, 1) := dk_get kL_law__5_ok 81 rfl
theorem dL_law__1189 : decode cL_law_ 1189 = .ok (.lcmp, 1) := dk_get kL_law__5_ok 82 rfl
theorem dL_law__1190 : decode cL_law_ 1190 = .ok (.ifCond .eq 5, 3) := dk_get kL_law__5_ok 83 rfl
theorem dL_law__1193 : decode cL_law_ 1193 = .ok (.iconst 0, 1) := dk_get kL_law__5_ok 84 rfl
theorem dL_law__1194 : decode cL_law_ 1194 = .ok (.ireturn, 1) := dk_get kL_law__5_ok 85 rfl
theorem dL_law__1195 : decode cL_law_ 1195 = .ok (.goto 1289, 3) := dk_get kL_law__5_ok 86 rfl
theorem dL_law__1198 : decode cL_law_ 1198 = .ok (.aload_n 1, 1) := dk_get kL_law__5_ok 87 rfl
theorem dL_law__1199 : decode cL_law_ 1199 = .ok (.aload_n 0, 1) := dk_get kL_law__5_ok 88 rfl
theorem dL_law__1200 : decode cL_law_ 1200 = .ok (.iload 4, 2) := dk_get kL_law__5_ok 89 rfl
theorem dL_law__1202 : decode cL_law_ 1202 = .ok (.iconst 1, 1) := dk_get kL_law__5_ok 90 rfl
theorem dL_law__1203 : decode cL_law_ 1203 = .ok (.iadd, 1) := dk_get kL_law__5_ok 91 rfl
theorem dL_law__1204 : decode cL_law_ 1204 = .ok (.iaload, 1) := dk_get kL_law__5_ok 92 rfl
theorem dL_law__1205 : decode cL_law_ 1205 = .ok (.aload_n 3, 1) := dk_get kL_law__5_ok 93 rfl
theorem dL_law__1206 : decode cL_law_ 1206 = .ok (.invokestatic 171, 3) := dk_get kL_law__5_ok 94 rfl
theorem dL_law__1209 : decode cL_law_ 1209 = .ok (.istore 5, 2) := dk_get kL_law__5_ok 95 rfl
theorem dL_law__1211 : decode cL_law_ 1211 = .ok (.aload_n 2, 1) := dk_get kL_law__5_ok 96 rfl
theorem dL_law__1212 : decode cL_law_ 1212 = .ok (.aload_n 0, 1) := dk_get kL_law__5_ok 97 rfl
theorem dL_law__1213 : decode cL_law_ 1213 = .ok (.iload 4, 2) := dk_get kL_law__5_ok 98 rfl
theorem dL_law__1215 : decode cL_law_ 1215 = .ok (.iconst 1, 1) := dk_get kL_law__5_ok 99 rfl
theorem dL_law__1216 : decode cL_law_ 1216 = .ok (.iadd, 1) := dk_get kL_law__5_ok 100 rfl
theorem dL_law__1217 : decode cL_law_ 1217 = .ok (.iaload, 1) := dk_get kL_law__5_ok 101 rfl
theorem dL_law__1218 : decode cL_law_ 1218 = .ok (.invokevirtual 173, 3) := dk_get kL_law__5_ok 102 rfl
theorem dL_law__1221 : decode cL_law_ 1221 = .ok (.istore 6, 2) := dk_get kL_law__5_ok 103 rfl
theorem dL_law__1223 : decode cL_law_ 1223 = .ok (.aload_n 2, 1) := dk_get kL_law__5_ok 104 rfl
theorem dL_law__1224 : decode cL_law_ 1224 = .ok (.invokevirtual 122, 3) := dk_get kL_law__5_ok 105 rfl
theorem dL_law__1227 : decode cL_law_ 1227 = .ok (.iload 5, 2) := dk_get kL_law__5_ok 106 rfl
theorem dL_law__1229 : decode cL_law_ 1229 = .ok (.if_icmp .eq 5, 3) := dk_get kL_law__5_ok 107 rfl
theorem dL_law__1232 : decode cL_law_ 1232 = .ok (.iconst 0, 1) := dk_get kL_law__5_ok 108 rfl
theorem dL_law__1233 : decode cL_law_ 1233 = .ok (.ireturn, 1) := dk_get kL_law__5_ok 109 rfl
theorem dL_law__1234 : decode cL_law_ 1234 = .ok (.iload 5, 2) := dk_get kL_law__5_ok 110 rfl
theorem dL_law__1236 : decode cL_law_ 1236 = .ok (.ifCond .ne 22, 3) := dk_get kL_law__5_ok 111 rfl
theorem dL_law__1239 : decode cL_law_ 1239 = .ok (.aload_n 3, 1) := dk_get kL_law__5_ok 112 rfl
theorem dL_law__1240 : decode cL_law_ 1240 = .ok (.iconst 0, 1) := dk_get kL_law__5_ok 113 rfl
theorem dL_law__1241 : decode cL_law_ 1241 = .ok (.laload, 1) := dk_get kL_law__5_ok 114 rfl
theorem dL_law__1242 : decode cL_law_ 1242 = .ok (.iload 6, 2) := dk_get kL_law__5_ok 115 rfl
theorem dL_law__1244 : decode cL_law_ 1244 = .ok (.ifCond .eq 7, 3) := dk_get kL_law__5_ok 116 rfl
theorem dL_law__1247 : decode cL_law_ 1247 = .ok (.lconst 1, 1) := dk_get kL_law__5_ok 117 rfl
theorem dL_law__1248 : decode cL_law_ 1248 = .ok (.goto 4, 3) := dk_get kL_law__5_ok 118 rfl
theorem dL_law__1251 : decode cL_law_ 1251 = .ok (.lconst 0, 1) := dk_get kL_law__5_ok 119 rfl
def kL_law__6 : List (Nat × Instr × Nat) := [(1252, .lcmp, 1), (1253, .ifCond .eq 5, 3), (1256, .iconst 0, 1), (1257, .ireturn, 1), (1258, .goto 1226, 3), (1261, .aload_n 1, 1), (1262, .aload_n 0, 1), (1263, .iload 4, 2), (1265, .iconst 1, 1), (1266, .iadd, 1), (1267, .iaload, 1), (1268, .aload_n 0, 1), (1269, .iload 4, 2), (1271, .iconst 2, 1), (1272, .iadd, 1), (1273, .iaload, 1), (1274, .aload_n 3, 1), (1275, .invokestatic 174, 3), (1278, .istore 5, 2), (1280, .aload_n 2, 1), (1281, .aload_n 0, 1), (1282, .iload 4, 2), (1284, .iconst 1, 1), (1285, .iadd, 1), (1286, .iaload, 1), (1287, .aload_n 0, 1), (1288, .iload 4, 2), (1290, .iconst 2, 1), (1291, .iadd, 1), (1292, .iaload, 1), (1293, .invokevirtual 176, 3), (1296, .istore 6, 2), (1298, .aload_n 2, 1), (1299, .invokevirtual 122, 3), (1302, .iload 5, 2), (1304, .if_icmp .eq 5, 3), (1307, .iconst 0, 1), (1308, .ireturn, 1), (1309, .iload 5, 2), (1311, .ifCond .ne 15, 3), (1314, .aload_n 3, 1), (1315, .iconst 0, 1), (1316, .laload, 1), (1317, .iload 6, 2), (1319, .i2l, 1), (1320, .lcmp, 1), (1321, .ifCond .eq 5, 3), (1324, .iconst 0, 1), (1325, .ireturn, 1), (1326, .goto 1158, 3), (1329, .aload_n 1, 1), (1330, .aload_n 0, 1), (1331, .iload 4, 2), (1333, .iconst 1, 1), (1334, .iadd, 1), (1335, .iaload, 1), (1336, .aload_n 0, 1), (1337, .iload 4, 2), (1339, .iconst 2, 1), (1340, .iadd, 1), (1341, .iaload, 1), (1342, .aload_n 3, 1), (1343, .invokestatic 177, 3), (1346, .istore 5, 2), (1348, .aload_n 2, 1), (1349, .aload_n 0, 1), (1350, .iload 4, 2), (1352, .iconst 1, 1), (1353, .iadd, 1), (1354, .iaload, 1), (1355, .aload_n 0, 1), (1356, .iload 4, 2), (1358, .iconst 2, 1), (1359, .iadd, 1), (1360, .iaload, 1), (1361, .invokevirtual 179, 3), (1364, .istore 6, 2), (1366, .aload_n 2, 1), (1367, .invokevirtual 122, 3), (1370, .iload 5, 2), (1372, .if_icmp .eq 5, 3), (1375, .iconst 0, 1), (1376, .ireturn, 1), (1377, .iload 5, 2), (1379, .ifCond .ne 15, 3), (1382, .aload_n 3, 1), (1383, .iconst 0, 1), (1384, .laload, 1), (1385, .iload 6, 2), (1387, .i2l, 1), (1388, .lcmp, 1), (1389, .ifCond .eq 5, 3), (1392, .iconst 0, 1), (1393, .ireturn, 1), (1394, .goto 1090, 3), (1397, .aload_n 1, 1), (1398, .invokevirtual 180, 3), (1401, .aload_n 2, 1), (1402, .invokevirtual 184, 3), (1405, .lcmp, 1), (1406, .ifCond .eq 1078, 3), (1409, .iconst 0, 1), (1410, .ireturn, 1), (1411, .aload_n 1, 1), (1412, .invokevirtual 185, 3), (1415, .aload_n 2, 1), (1416, .invokevirtual 188, 3), (1419, .if_icmp .eq 1065, 3), (1422, .iconst 0, 1), (1423, .ireturn, 1), (1424, .aload_n 1, 1), (1425, .aload_n 0, 1), (1426, .iload 4, 2), (1428, .iconst 1, 1), (1429, .iadd, 1), (1430, .iaload, 1), (1431, .aload_n 3, 1), (1432, .invokestatic 189, 3), (1435, .istore 5, 2), (1437, .aload_n 2, 1)]
set_option maxRecDepth 100000 in
theorem kL_law__6_ok : kL_law__6.all (fun q => decide (decode cL_law_ q.1 = .ok q.2)) = true := by decide +kernel
theorem dL_law__1252 : decode cL_law_ 1252 = .ok (.lcmp, 1) := dk_get kL_law__6_ok 0 rfl
theorem dL_law__1253 : decode cL_law_ 1253 = .ok (.ifCond .eq 5, 3) := dk_get kL_law__6_ok 1 rfl
theorem dL_law__1256 : decode cL_law_ 1256 = .ok (.iconst 0, 1) := dk_get kL_law__6_ok 2 rfl
theorem dL_law__1257 : decode cL_law_ 1257 = .ok (.ireturn, 1) := dk_get kL_law__6_ok 3 rfl
theorem dL_law__1258 : decode cL_law_ 1258 = .ok (.goto 1226, 3) := dk_get kL_law__6_ok 4 rfl
theorem dL_law__1261 : decode cL_law_ 1261 = .ok (.aload_n 1, 1) := dk_get kL_law__6_ok 5 rfl
theorem dL_law__1262 : decode cL_law_ 1262 = .ok (.aload_n 0, 1) := dk_get kL_law__6_ok 6 rfl
theorem dL_law__1263 : decode cL_law_ 1263 = .ok (.iload 4, 2) := dk_get kL_law__6_ok 7 rfl
theorem dL_law__1265 : decode cL_law_ 1265 = .ok (.iconst 1, 1) := dk_get kL_law__6_ok 8 rfl
theorem dL_law__1266 : decode cL_law_ 1266 = .ok (.iadd, 1) := dk_get kL_law__6_ok 9 rfl
theorem dL_law__1267 : decode cL_law_ 1267 = .ok (.iaload, 1) := dk_get kL_law__6_ok 10 rfl
theorem dL_law__1268 : decode cL_law_ 1268 = .ok (.aload_n 0, 1) := dk_get kL_law__6_ok 11 rfl
theorem dL_law__1269 : decode cL_law_ 1269 = .ok (.iload 4, 2) := dk_get kL_law__6_ok 12 rfl
theorem dL_law__1271 : decode cL_law_ 1271 = .ok (.iconst 2, 1) := dk_get kL_law__6_ok 13 rfl
theorem dL_law__1272 : decode cL_law_ 1272 = .ok (.iadd, 1) := dk_get kL_law__6_ok 14 rfl
theorem dL_law__1273 : decode cL_law_ 1273 = .ok (.iaload, 1) := dk_get kL_law__6_ok 15 rfl
theorem dL_law__1274 : decode cL_law_ 1274 = .ok (.aload_n 3, 1) := dk_get kL_law__6_ok 16 rfl
theorem dL_law__1275 : decode cL_law_ 1275 = .ok (.invokestatic 174, 3) := dk_get kL_law__6_ok 17 rfl
theorem dL_law__1278 : decode cL_law_ 1278 = .ok (.istore 5, 2) := dk_get kL_law__6_ok 18 rfl
theorem dL_law__1280 : decode cL_law_ 1280 = .ok (.aload_n 2, 1) := dk_get kL_law__6_ok 19 rfl
theorem dL_law__1281 : decode cL_law_ 1281 = .ok (.aload_n 0, 1) := dk_get kL_law__6_ok 20 rfl
theorem dL_law__1282 : decode cL_law_ 1282 = .ok (.iload 4, 2) := dk_get kL_law__6_ok 21 rfl
theorem dL_law__1284 : decode cL_law_ 1284 = .ok (.iconst 1, 1) := dk_get kL_law__6_ok 22 rfl
theorem dL_law__1285 : decode cL_law_ 1285 = .ok (.iadd, 1) := dk_get kL_law__6_ok 23 rfl
theorem dL_law__1286 : decode cL_law_ 1286 = .ok (.iaload, 1) := dk_get kL_law__6_ok 24 rfl
theorem dL_law__1287 : decode cL_law_ 1287 = .ok (.aload_n 0, 1) := dk_get kL_law__6_ok 25 rfl
theorem dL_law__1288 : decode cL_law_ 1288 = .ok (.iload 4, 2) := dk_get kL_law__6_ok 26 rfl
theorem dL_law__1290 : decode cL_law_ 1290 = .ok (.iconst 2, 1) := dk_get kL_law__6_ok 27 rfl
theorem dL_law__1291 : decode cL_law_ 1291 = .ok (.iadd, 1) := dk_get kL_law__6_ok 28 rfl
theorem dL_law__1292 : decode cL_law_ 1292 = .ok (.iaload, 1) := dk_get kL_law__6_ok 29 rfl
theorem dL_law__1293 : decode cL_law_ 1293 = .ok (.invokevirtual 176, 3) := dk_get kL_law__6_ok 30 rfl
theorem dL_law__1296 : decode cL_law_ 1296 = .ok (.istore 6, 2) := dk_get kL_law__6_ok 31 rfl
theorem dL_law__1298 : decode cL_law_ 1298 = .ok (.aload_n 2, 1) := dk_get kL_law__6_ok 32 rfl
theorem dL_law__1299 : decode cL_law_ 1299 = .ok (.invokevirtual 122, 3) := dk_get kL_law__6_ok 33 rfl
theorem dL_law__1302 : decode cL_law_ 1302 = .ok (.iload 5, 2) := dk_get kL_law__6_ok 34 rfl
theorem dL_law__1304 : decode cL_law_ 1304 = .ok (.if_icmp .eq 5, 3) := dk_get kL_law__6_ok 35 rfl
theorem dL_law__1307 : decode cL_law_ 1307 = .ok (.iconst 0, 1) := dk_get kL_law__6_ok 36 rfl
theorem dL_law__1308 : decode cL_law_ 1308 = .ok (.ireturn, 1) := dk_get kL_law__6_ok 37 rfl
theorem dL_law__1309 : decode cL_law_ 1309 = .ok (.iload 5, 2) := dk_get kL_law__6_ok 38 rfl
theorem dL_law__1311 : decode cL_law_ 1311 = .ok (.ifCond .ne 15, 3) := dk_get kL_law__6_ok 39 rfl
theorem dL_law__1314 : decode cL_law_ 1314 = .ok (.aload_n 3, 1) := dk_get kL_law__6_ok 40 rfl
theorem dL_law__1315 : decode cL_law_ 1315 = .ok (.iconst 0, 1) := dk_get kL_law__6_ok 41 rfl
theorem dL_law__1316 : decode cL_law_ 1316 = .ok (.laload, 1) := dk_get kL_law__6_ok 42 rfl
theorem dL_law__1317 : decode cL_law_ 1317 = .ok (.iload 6, 2) := dk_get kL_law__6_ok 43 rfl
theorem dL_law__1319 : decode cL_law_ 1319 = .ok (.i2l, 1) := dk_get kL_law__6_ok 44 rfl
theorem dL_law__1320 : decode cL_law_ 1320 = .ok (.lcmp, 1) := dk_get kL_law__6_ok 45 rfl
theorem dL_law__1321 : decode cL_law_ 1321 = .ok (.ifCond .eq 5, 3) := dk_get kL_law__6_ok 46 rfl
theorem dL_law__1324 : decode cL_law_ 1324 = .ok (.iconst 0, 1) := dk_get kL_law__6_ok 47 rfl
theorem dL_law__1325 : decode cL_law_ 1325 = .ok (.ireturn, 1) := dk_get kL_law__6_ok 48 rfl
theorem dL_law__1326 : decode cL_law_ 1326 = .ok (.goto 1158, 3) := dk_get kL_law__6_ok 49 rfl
theorem dL_law__1329 : decode cL_law_ 1329 = .ok (.aload_n 1, 1) := dk_get kL_law__6_ok 50 rfl
theorem dL_law__1330 : decode cL_law_ 1330 = .ok (.aload_n 0, 1) := dk_get kL_law__6_ok 51 rfl
theorem dL_law__1331 : decode cL_law_ 1331 = .ok (.iload 4, 2) := dk_get kL_law__6_ok 52 rfl
theorem dL_law__1333 : decode cL_law_ 1333 = .ok (.iconst 1, 1) := dk_get kL_law__6_ok 53 rfl
theorem dL_law__1334 : decode cL_law_ 1334 = .ok (.iadd, 1) := dk_get kL_law__6_ok 54 rfl
theorem dL_law__1335 : decode cL_law_ 1335 = .ok (.iaload, 1) := dk_get kL_law__6_ok 55 rfl
theorem dL_law__1336 : decode cL_law_ 1336 = .ok (.aload_n 0, 1) := dk_get kL_law__6_ok 56 rfl
theorem dL_law__1337 : decode cL_law_ 1337 = .ok (.iload 4, 2) := dk_get kL_law__6_ok 57 rfl
theorem dL_law__1339 : decode cL_law_ 1339 = .ok (.iconst 2, 1) := dk_get kL_law__6_ok 58 rfl
theorem dL_law__1340 : decode cL_law_ 1340 = .ok (.iadd, 1) := dk_get kL_law__6_ok 59 rfl
theorem dL_law__1341 : decode cL_law_ 1341 = .ok (.iaload, 1) := dk_get kL_law__6_ok 60 rfl
theorem dL_law__1342 : decode cL_law_ 1342 = .ok (.aload_n 3, 1) := dk_get kL_law__6_ok 61 rfl
theorem dL_law__1343 : decode cL_law_ 1343 = .ok (.invokestatic 177, 3) := dk_get kL_law__6_ok 62 rfl
theorem dL_law__1346 : decode cL_law_ 1346 = .ok (.istore 5, 2) := dk_get kL_law__6_ok 63 rfl
theorem dL_law__1348 : decode cL_law_ 1348 = .ok (.aload_n 2, 1) := dk_get kL_law__6_ok 64 rfl
theorem dL_law__1349 : decode cL_law_ 1349 = .ok (.aload_n 0, 1) := dk_get kL_law__6_ok 65 rfl
theorem dL_law__1350 : decode cL_law_ 1350 = .ok (.iload 4, 2) := dk_get kL_law__6_ok 66 rfl
theorem dL_law__1352 : decode cL_law_ 1352 = .ok (.iconst 1, 1) := dk_get kL_law__6_ok 67 rfl
theorem dL_law__1353 : decode cL_law_ 1353 = .ok (.iadd, 1) := dk_get kL_law__6_ok 68 rfl
theorem dL_law__1354 : decode cL_law_ 1354 = .ok (.iaload, 1) := dk_get kL_law__6_ok 69 rfl
theorem dL_law__1355 : decode cL_law_ 1355 = .ok (.aload_n 0, 1) := dk_get kL_law__6_ok 70 rfl
theorem dL_law__1356 : decode cL_law_ 1356 = .ok (.iload 4, 2) := dk_get kL_law__6_ok 71 rfl
theorem dL_law__1358 : decode cL_law_ 1358 = .ok (.iconst 2, 1) := dk_get kL_law__6_ok 72 rfl
theorem dL_law__1359 : decode cL_law_ 1359 = .ok (.iadd, 1) := dk_get kL_law__6_ok 73 rfl
theorem dL_law__1360 : decode cL_law_ 1360 = .ok (.iaload, 1) := dk_get kL_law__6_ok 74 rfl
theorem dL_law__1361 : decode cL_law_ 1361 = .ok (.invokevirtual 179, 3) := dk_get kL_law__6_ok 75 rfl
theorem dL_law__1364 : decode cL_law_ 1364 = .ok (.istore 6, 2) := dk_get kL_law__6_ok 76 rfl
theorem dL_law__1366 : decode cL_law_ 1366 = .ok (.aload_n 2, 1) := dk_get kL_law__6_ok 77 rfl
theorem dL_law__1367 : decode cL_law_ 1367 = .ok (.invokevirtual 122, 3) := dk_get kL_law__6_ok 78 rfl
theorem dL_law__1370 : decode cL_law_ 1370 = .ok (.iload 5, 2) := dk_get kL_law__6_ok 79 rfl
theorem dL_law__1372 : decode cL_law_ 1372 = .ok (.if_icmp .eq 5, 3) := dk_get kL_law__6_ok 80 rfl
theorem dL_law__1375 : decode cL_law_ 1375 = .ok (.iconst 0, 1) := dk_get kL_law__6_ok 81 rfl
theorem dL_law__1376 : decode cL_law_ 1376 = .ok (.ireturn, 1) := dk_get kL_law__6_ok 82 rfl
theorem dL_law__1377 : decode cL_law_ 1377 = .ok (.iload 5, 2) := dk_get kL_law__6_ok 83 rfl
theorem dL_law__1379 : decode cL_law_ 1379 = .ok (.ifCond .ne 15, 3) := dk_get kL_law__6_ok 84 rfl
theorem dL_law__1382 : decode cL_law_ 1382 = .ok (.aload_n 3, 1) := dk_get kL_law__6_ok 85 rfl
theorem dL_law__1383 : decode cL_law_ 1383 = .ok (.iconst 0, 1) := dk_get kL_law__6_ok 86 rfl
theorem dL_law__1384 : decode cL_law_ 1384 = .ok (.laload, 1) := dk_get kL_law__6_ok 87 rfl
theorem dL_law__1385 : decode cL_law_ 1385 = .ok (.iload 6, 2) := dk_get kL_law__6_ok 88 rfl
theorem dL_law__1387 : decode cL_law_ 1387 = .ok (.i2l, 1) := dk_get kL_law__6_ok 89 rfl
theorem dL_law__1388 : decode cL_law_ 1388 = .ok (.lcmp, 1) := dk_get kL_law__6_ok 90 rfl
theorem dL_law__1389 : decode cL_law_ 1389 = .ok (.ifCond .eq 5, 3) := dk_get kL_law__6_ok 91 rfl
theorem dL_law__1392 : decode cL_law_ 1392 = .ok (.iconst 0, 1) := dk_get kL_law__6_ok 92 rfl
theorem dL_law__1393 : decode cL_law_ 1393 = .ok (.ireturn, 1) := dk_get kL_law__6_ok 93 rfl
theorem dL_law__1394 : decode cL_law_ 1394 = .ok (.goto 1090, 3) := dk_get kL_law__6_ok 94 rfl
theorem dL_law__1397 : decode cL_law_ 1397 = .ok (.aload_n 1, 1) := dk_get kL_law__6_ok 95 rfl
theorem dL_law__1398 : decode cL_law_ 1398 = .ok (.invokevirtual 180, 3) := dk_get kL_law__6_ok 96 rfl
theorem dL_law__1401 : decode cL_law_ 1401 = .ok (.aload_n 2, 1) := dk_get kL_law__6_ok 97 rfl
theorem dL_law__1402 : decode cL_law_ 1402 = .ok (.invokevirtual 184, 3) := dk_get kL_law__6_ok 98 rfl
theorem dL_law__1405 : decode cL_law_ 1405 = .ok (.lcmp, 1) := dk_get kL_law__6_ok 99 rfl
theorem dL_law__1406 : decode cL_law_ 1406 = .ok (.ifCond .eq 1078, 3) := dk_get kL_law__6_ok 100 rfl
theorem dL_law__1409 : decode cL_law_ 1409 = .ok (.iconst 0, 1) := dk_get kL_law__6_ok 101 rfl
theorem dL_law__1410 : decode cL_law_ 1410 = .ok (.ireturn, 1) := dk_get kL_law__6_ok 102 rfl
theorem dL_law__1411 : decode cL_law_ 1411 = .ok (.aload_n 1, 1) := dk_get kL_law__6_ok 103 rfl
theorem dL_law__1412 : decode cL_law_ 1412 = .ok (.invokevirtual 185, 3) := dk_get kL_law__6_ok 104 rfl
theorem dL_law__1415 : decode cL_law_ 1415 = .ok (.aload_n 2, 1) := dk_get kL_law__6_ok 105 rfl
theorem dL_law__1416 : decode cL_law_ 1416 = .ok (.invokevirtual 188, 3) := dk_get kL_law__6_ok 106 rfl
theorem dL_law__1419 : decode cL_law_ 1419 = .ok (.if_icmp .eq 1065, 3) := dk_get kL_law__6_ok 107 rfl
theorem dL_law__1422 : decode cL_law_ 1422 = .ok (.iconst 0, 1) := dk_get kL_law__6_ok 108 rfl
theorem dL_law__1423 : decode cL_law_ 1423 = .ok (.ireturn, 1) := dk_get kL_law__6_ok 109 rfl
theorem dL_law__1424 : decode cL_law_ 1424 = .ok (.aload_n 1, 1) := dk_get kL_law__6_ok 110 rfl
theorem dL_law__1425 : decode cL_law_ 1425 = .ok (.aload_n 0, 1) := dk_get kL_law__6_ok 111 rfl
theorem dL_law__1426 : decode cL_law_ 1426 = .ok (.iload 4, 2) := dk_get kL_law__6_ok 112 rfl
theorem dL_law__1428 : decode cL_law_ 1428 = .ok (.iconst 1, 1) := dk_get kL_law__6_ok 113 rfl
theorem dL_law__1429 : decode cL_law_ 1429 = .ok (.iadd, 1) := dk_get kL_law__6_ok 114 rfl
theorem dL_law__1430 : decode cL_law_ 1430 = .ok (.iaload, 1) := dk_get kL_law__6_ok 115 rfl
theorem dL_law__1431 : decode cL_law_ 1431 = .ok (.aload_n 3, 1) := dk_get kL_law__6_ok 116 rfl
theorem dL_law__1432 : decode cL_law_ 1432 = .ok (.invokestatic 189, 3) := dk_get kL_law__6_ok 117 rfl
theorem dL_law__1435 : decode cL_law_ 1435 = .ok (.istore 5, 2) := dk_get kL_law__6_ok 118 rfl
theorem dL_law__1437 : decode cL_law_ 1437 = .ok (.aload_n 2, 1) := dk_get kL_law__6_ok 119 rfl
def kL_law__7 : List (Nat × Instr × Nat) := [(1438, .aload_n 0, 1), (1439, .iload 4, 2), (1441, .iconst 1, 1), (1442, .iadd, 1), (1443, .iaload, 1), (1444, .invokevirtual 191, 3), (1447, .lstore 6, 2), (1449, .aload_n 2, 1), (1450, .invokevirtual 122, 3), (1453, .iload 5, 2), (1455, .if_icmp .eq 5, 3), (1458, .iconst 0, 1), (1459, .ireturn, 1), (1460, .iload 5, 2), (1462, .ifCond .ne 14, 3), (1465, .aload_n 3, 1), (1466, .iconst 0, 1), (1467, .laload, 1), (1468, .lload 6, 2), (1470, .lcmp, 1), (1471, .ifCond .eq 5, 3), (1474, .iconst 0, 1), (1475, .ireturn, 1), (1476, .goto 1008, 3), (1479, .aload_n 1, 1), (1480, .aload_n 0, 1), (1481, .iload 4, 2), (1483, .iconst 1, 1), (1484, .iadd, 1), (1485, .iaload, 1), (1486, .aload_n 3, 1), (1487, .invokestatic 192, 3), (1490, .istore 5, 2), (1492, .aload_n 2, 1), (1493, .aload_n 0, 1), (1494, .iload 4, 2), (1496, .iconst 1, 1), (1497, .iadd, 1), (1498, .iaload, 1), (1499, .invokevirtual 194, 3), (1502, .istore 6, 2), (1504, .aload_n 2, 1), (1505, .invokevirtual 122, 3), (1508, .iload 5, 2), (1510, .if_icmp .eq 5, 3), (1513, .iconst 0, 1), (1514, .ireturn, 1), (1515, .iload 5, 2), (1517, .ifCond .ne 15, 3), (1520, .aload_n 3, 1), (1521, .iconst 0, 1), (1522, .laload, 1), (1523, .iload 6, 2), (1525, .i2l, 1), (1526, .lcmp, 1), (1527, .ifCond .eq 5, 3), (1530, .iconst 0, 1), (1531, .ireturn, 1), (1532, .goto 952, 3), (1535, .aload_n 1, 1), (1536, .invokevirtual 195, 3), (1539, .aload_n 2, 1), (1540, .invokevirtual 198, 3), (1543, .lcmp, 1), (1544, .ifCond .eq 940, 3), (1547, .iconst 0, 1), (1548, .ireturn, 1), (1549, .aload_n 1, 1), (1550, .aload_n 0, 1), (1551, .iload 4, 2), (1553, .iconst 1, 1), (1554, .iadd, 1), (1555, .iaload, 1), (1556, .aload_n 0, 1), (1557, .iload 4, 2), (1559, .iconst 2, 1), (1560, .iadd, 1), (1561, .iaload, 1), (1562, .aload_n 3, 1), (1563, .invokestatic 199, 3), (1566, .istore 5, 2), (1568, .aload_n 2, 1), (1569, .aload_n 0, 1), (1570, .iload 4, 2), (1572, .iconst 1, 1), (1573, .iadd, 1), (1574, .iaload, 1), (1575, .aload_n 0, 1), (1576, .iload 4, 2), (1578, .iconst 2, 1), (1579, .iadd, 1), (1580, .iaload, 1), (1581, .invokevirtual 201, 3), (1584, .istore 6, 2), (1586, .aload_n 2, 1), (1587, .invokevirtual 122, 3), (1590, .iload 5, 2), (1592, .if_icmp .eq 5, 3), (1595, .iconst 0, 1), (1596, .ireturn, 1), (1597, .iload 5, 2), (1599, .ifCond .ne 15, 3), (1602, .aload_n 3, 1), (1603, .iconst 0, 1), (1604, .laload, 1), (1605, .iload 6, 2), (1607, .i2l, 1), (1608, .lcmp, 1), (1609, .ifCond .eq 5, 3), (1612, .iconst 0, 1), (1613, .ireturn, 1), (1614, .goto 870, 3), (1617, .aload_n 1, 1), (1618, .invokevirtual 202, 3), (1621, .aload_n 2, 1), (1622, .invokevirtual 205, 3), (1625, .if_icmp .eq 859, 3), (1628, .iconst 0, 1), (1629, .ireturn, 1), (1630, .aload_n 1, 1)]
set_option maxRecDepth 100000 in
theorem kL_law__7_ok : kL_law__7.all (fun q => decide (decode cL_law_ q.1 = .ok q.2)) = true := by decide +kernel
theorem dL_law__1438 : decode cL_law_ 1438 = .ok (.aload_n 0, 1) := dk_get kL_law__7_ok 0 rfl
theorem dL_law__1439 : decode cL_law_ 1439 = .ok (.iload 4, 2) := dk_get kL_law__7_ok 1 rfl
theorem dL_law__1441 : decode cL_law_ 1441 = .ok (.iconst 1, 1) := dk_get kL_law__7_ok 2 rfl
theorem dL_law__1442 : decode cL_law_ 1442 = .ok (.iadd, 1) := dk_get kL_law__7_ok 3 rfl
theorem dL_law__1443 : decode cL_law_ 1443 = .ok (.iaload, 1) := dk_get kL_law__7_ok 4 rfl
theorem dL_law__1444 : decode cL_law_ 1444 = .ok (.invokevirtual 191, 3) := dk_get kL_law__7_ok 5 rfl
theorem dL_law__1447 : decode cL_law_ 1447 = .ok (.lstore 6, 2) := dk_get kL_law__7_ok 6 rfl
theorem dL_law__1449 : decode cL_law_ 1449 = .ok (.aload_n 2, 1) := dk_get kL_law__7_ok 7 rfl
theorem dL_law__1450 : decode cL_law_ 1450 = .ok (.invokevirtual 122, 3) := dk_get kL_law__7_ok 8 rfl
theorem dL_law__1453 : decode cL_law_ 1453 = .ok (.iload 5, 2) := dk_get kL_law__7_ok 9 rfl
theorem dL_law__1455 : decode cL_law_ 1455 = .ok (.if_icmp .eq 5, 3) := dk_get kL_law__7_ok 10 rfl
theorem dL_law__1458 : decode cL_law_ 1458 = .ok (.iconst 0, 1) := dk_get kL_law__7_ok 11 rfl
theorem dL_law__1459 : decode cL_law_ 1459 = .ok (.ireturn, 1) := dk_get kL_law__7_ok 12 rfl
theorem dL_law__1460 : decode cL_law_ 1460 = .ok (.iload 5, 2) := dk_get kL_law__7_ok 13 rfl
theorem dL_law__1462 : decode cL_law_ 1462 = .ok (.ifCond .ne 14, 3) := dk_get kL_law__7_ok 14 rfl
theorem dL_law__1465 : decode cL_law_ 1465 = .ok (.aload_n 3, 1) := dk_get kL_law__7_ok 15 rfl
theorem dL_law__1466 : decode cL_law_ 1466 = .ok (.iconst 0, 1) := dk_get kL_law__7_ok 16 rfl
theorem dL_law__1467 : decode cL_law_ 1467 = .ok (.laload, 1) := dk_get kL_law__7_ok 17 rfl
theorem dL_law__1468 : decode cL_law_ 1468 = .ok (.lload 6, 2) := dk_get kL_law__7_ok 18 rfl
theorem dL_law__1470 : decode cL_law_ 1470 = .ok (.lcmp, 1) := dk_get kL_law__7_ok 19 rfl
theorem dL_law__1471 : decode cL_law_ 1471 = .ok (.ifCond .eq 5, 3) := dk_get kL_law__7_ok 20 rfl
theorem dL_law__1474 : decode cL_law_ 1474 = .ok (.iconst 0, 1) := dk_get kL_law__7_ok 21 rfl
theorem dL_law__1475 : decode cL_law_ 1475 = .ok (.ireturn, 1) := dk_get kL_law__7_ok 22 rfl
theorem dL_law__1476 : decode cL_law_ 1476 = .ok (.goto 1008, 3) := dk_get kL_law__7_ok 23 rfl
theorem dL_law__1479 : decode cL_law_ 1479 = .ok (.aload_n 1, 1) := dk_get kL_law__7_ok 24 rfl
theorem dL_law__1480 : decode cL_law_ 1480 = .ok (.aload_n 0, 1) := dk_get kL_law__7_ok 25 rfl
theorem dL_law__1481 : decode cL_law_ 1481 = .ok (.iload 4, 2) := dk_get kL_law__7_ok 26 rfl
theorem dL_law__1483 : decode cL_law_ 1483 = .ok (.iconst 1, 1) := dk_get kL_law__7_ok 27 rfl
theorem dL_law__1484 : decode cL_law_ 1484 = .ok (.iadd, 1) := dk_get kL_law__7_ok 28 rfl
theorem dL_law__1485 : decode cL_law_ 1485 = .ok (.iaload, 1) := dk_get kL_law__7_ok 29 rfl
theorem dL_law__1486 : decode cL_law_ 1486 = .ok (.aload_n 3, 1) := dk_get kL_law__7_ok 30 rfl
theorem dL_law__1487 : decode cL_law_ 1487 = .ok (.invokestatic 192, 3) := dk_get kL_law__7_ok 31 rfl
theorem dL_law__1490 : decode cL_law_ 1490 = .ok (.istore 5, 2) := dk_get kL_law__7_ok 32 rfl
theorem dL_law__1492 : decode cL_law_ 1492 = .ok (.aload_n 2, 1) := dk_get kL_law__7_ok 33 rfl
theorem dL_law__1493 : decode cL_law_ 1493 = .ok (.aload_n 0, 1) := dk_get kL_law__7_ok 34 rfl
theorem dL_law__1494 : decode cL_law_ 1494 = .ok (.iload 4, 2) := dk_get kL_law__7_ok 35 rfl
theorem dL_law__1496 : decode cL_law_ 1496 = .ok (.iconst 1, 1) := dk_get kL_law__7_ok 36 rfl
theorem dL_law__1497 : decode cL_law_ 1497 = .ok (.iadd, 1) := dk_get kL_law__7_ok 37 rfl
theorem dL_law__1498 : decode cL_law_ 1498 = .ok (.iaload, 1) := dk_get kL_law__7_ok 38 rfl
theorem dL_law__1499 : decode cL_law_ 1499 = .ok (.invokevirtual 194, 3) := dk_get kL_law__7_ok 39 rfl
theorem dL_law__1502 : decode cL_law_ 1502 = .ok (.istore 6, 2) := dk_get kL_law__7_ok 40 rfl
theorem dL_law__1504 : decode cL_law_ 1504 = .ok (.aload_n 2, 1) := dk_get kL_law__7_ok 41 rfl
theorem dL_law__1505 : decode cL_law_ 1505 = .ok (.invokevirtual 122, 3) := dk_get kL_law__7_ok 42 rfl
theorem dL_law__1508 : decode cL_law_ 1508 = .ok (.iload 5, 2) := dk_get kL_law__7_ok 43 rfl
theorem dL_law__1510 : decode cL_law_ 1510 = .ok (.if_icmp .eq 5, 3) := dk_get kL_law__7_ok 44 rfl
theorem dL_law__1513 : decode cL_law_ 1513 = .ok (.iconst 0, 1) := dk_get kL_law__7_ok 45 rfl
theorem dL_law__1514 : decode cL_law_ 1514 = .ok (.ireturn, 1) := dk_get kL_law__7_ok 46 rfl
theorem dL_law__1515 : decode cL_law_ 1515 = .ok (.iload 5, 2) := dk_get kL_law__7_ok 47 rfl
theorem dL_law__1517 : decode cL_law_ 1517 = .ok (.ifCond .ne 15, 3) := dk_get kL_law__7_ok 48 rfl
theorem dL_law__1520 : decode cL_law_ 1520 = .ok (.aload_n 3, 1) := dk_get kL_law__7_ok 49 rfl
theorem dL_law__1521 : decode cL_law_ 1521 = .ok (.iconst 0, 1) := dk_get kL_law__7_ok 50 rfl
theorem dL_law__1522 : decode cL_law_ 1522 = .ok (.laload, 1) := dk_get kL_law__7_ok 51 rfl
theorem dL_law__1523 : decode cL_law_ 1523 = .ok (.iload 6, 2) := dk_get kL_law__7_ok 52 rfl
theorem dL_law__1525 : decode cL_law_ 1525 = .ok (.i2l, 1) := dk_get kL_law__7_ok 53 rfl
theorem dL_law__1526 : decode cL_law_ 1526 = .ok (.lcmp, 1) := dk_get kL_law__7_ok 54 rfl
theorem dL_law__1527 : decode cL_law_ 1527 = .ok (.ifCond .eq 5, 3) := dk_get kL_law__7_ok 55 rfl
theorem dL_law__1530 : decode cL_law_ 1530 = .ok (.iconst 0, 1) := dk_get kL_law__7_ok 56 rfl
theorem dL_law__1531 : decode cL_law_ 1531 = .ok (.ireturn, 1) := dk_get kL_law__7_ok 57 rfl
theorem dL_law__1532 : decode cL_law_ 1532 = .ok (.goto 952, 3) := dk_get kL_law__7_ok 58 rfl
theorem dL_law__1535 : decode cL_law_ 1535 = .ok (.aload_n 1, 1) := dk_get kL_law__7_ok 59 rfl
theorem dL_law__1536 : decode cL_law_ 1536 = .ok (.invokevirtual 195, 3) := dk_get kL_law__7_ok 60 rfl
theorem dL_law__1539 : decode cL_law_ 1539 = .ok (.aload_n 2, 1) := dk_get kL_law__7_ok 61 rfl
theorem dL_law__1540 : decode cL_law_ 1540 = .ok (.invokevirtual 198, 3) := dk_get kL_law__7_ok 62 rfl
theorem dL_law__1543 : decode cL_law_ 1543 = .ok (.lcmp, 1) := dk_get kL_law__7_ok 63 rfl
theorem dL_law__1544 : decode cL_law_ 1544 = .ok (.ifCond .eq 940, 3) := dk_get kL_law__7_ok 64 rfl
theorem dL_law__1547 : decode cL_law_ 1547 = .ok (.iconst 0, 1) := dk_get kL_law__7_ok 65 rfl
theorem dL_law__1548 : decode cL_law_ 1548 = .ok (.ireturn, 1) := dk_get kL_law__7_ok 66 rfl
theorem dL_law__1549 : decode cL_law_ 1549 = .ok (.aload_n 1, 1) := dk_get kL_law__7_ok 67 rfl
theorem dL_law__1550 : decode cL_law_ 1550 = .ok (.aload_n 0, 1) := dk_get kL_law__7_ok 68 rfl
theorem dL_law__1551 : decode cL_law_ 1551 = .ok (.iload 4, 2) := dk_get kL_law__7_ok 69 rfl
theorem dL_law__1553 : decode cL_law_ 1553 = .ok (.iconst 1, 1) := dk_get kL_law__7_ok 70 rfl
theorem dL_law__1554 : decode cL_law_ 1554 = .ok (.iadd, 1) := dk_get kL_law__7_ok 71 rfl
theorem dL_law__1555 : decode cL_law_ 1555 = .ok (.iaload, 1) := dk_get kL_law__7_ok 72 rfl
theorem dL_law__1556 : decode cL_law_ 1556 = .ok (.aload_n 0, 1) := dk_get kL_law__7_ok 73 rfl
theorem dL_law__1557 : decode cL_law_ 1557 = .ok (.iload 4, 2) := dk_get kL_law__7_ok 74 rfl
theorem dL_law__1559 : decode cL_law_ 1559 = .ok (.iconst 2, 1) := dk_get kL_law__7_ok 75 rfl
theorem dL_law__1560 : decode cL_law_ 1560 = .ok (.iadd, 1) := dk_get kL_law__7_ok 76 rfl
theorem dL_law__1561 : decode cL_law_ 1561 = .ok (.iaload, 1) := dk_get kL_law__7_ok 77 rfl
theorem dL_law__1562 : decode cL_law_ 1562 = .ok (.aload_n 3, 1) := dk_get kL_law__7_ok 78 rfl
theorem dL_law__1563 : decode cL_law_ 1563 = .ok (.invokestatic 199, 3) := dk_get kL_law__7_ok 79 rfl
theorem dL_law__1566 : decode cL_law_ 1566 = .ok (.istore 5, 2) := dk_get kL_law__7_ok 80 rfl
theorem dL_law__1568 : decode cL_law_ 1568 = .ok (.aload_n 2, 1) := dk_get kL_law__7_ok 81 rfl
theorem dL_law__1569 : decode cL_law_ 1569 = .ok (.aload_n 0, 1) := dk_get kL_law__7_ok 82 rfl
theorem dL_law__1570 : decode cL_law_ 1570 = .ok (.iload 4, 2) := dk_get kL_law__7_ok 83 rfl
theorem dL_law__1572 : decode cL_law_ 1572 = .ok (.iconst 1, 1) := dk_get kL_law__7_ok 84 rfl
theorem dL_law__1573 : decode cL_law_ 1573 = .ok (.iadd, 1) := dk_get kL_law__7_ok 85 rfl
theorem dL_law__1574 : decode cL_law_ 1574 = .ok (.iaload, 1) := dk_get kL_law__7_ok 86 rfl
theorem dL_law__1575 : decode cL_law_ 1575 = .ok (.aload_n 0, 1) := dk_get kL_law__7_ok 87 rfl
theorem dL_law__1576 : decode cL_law_ 1576 = .ok (.iload 4, 2) := dk_get kL_law__7_ok 88 rfl
theorem dL_law__1578 : decode cL_law_ 1578 = .ok (.iconst 2, 1) := dk_get kL_law__7_ok 89 rfl
theorem dL_law__1579 : decode cL_law_ 1579 = .ok (.iadd, 1) := dk_get kL_law__7_ok 90 rfl
theorem dL_law__1580 : decode cL_law_ 1580 = .ok (.iaload, 1) := dk_get kL_law__7_ok 91 rfl
theorem dL_law__1581 : decode cL_law_ 1581 = .ok (.invokevirtual 201, 3) := dk_get kL_law__7_ok 92 rfl
theorem dL_law__1584 : decode cL_law_ 1584 = .ok (.istore 6, 2) := dk_get kL_law__7_ok 93 rfl
theorem dL_law__1586 : decode cL_law_ 1586 = .ok (.aload_n 2, 1) := dk_get kL_law__7_ok 94 rfl
theorem dL_law__1587 : decode cL_law_ 1587 = .ok (.invokevirtual 122, 3) := dk_get kL_law__7_ok 95 rfl
theorem dL_law__1590 : decode cL_law_ 1590 = .ok (.iload 5, 2) := dk_get kL_law__7_ok 96 rfl
theorem dL_law__1592 : decode cL_law_ 1592 = .ok (.if_icmp .eq 5, 3) := dk_get kL_law__7_ok 97 rfl
theorem dL_law__1595 : decode cL_law_ 1595 = .ok (.iconst 0, 1) := dk_get kL_law__7_ok 98 rfl
theorem dL_law__1596 : decode cL_law_ 1596 = .ok (.ireturn, 1) := dk_get kL_law__7_ok 99 rfl
theorem dL_law__1597 : decode cL_law_ 1597 = .ok (.iload 5, 2) := dk_get kL_law__7_ok 100 rfl
theorem dL_law__1599 : decode cL_law_ 1599 = .ok (.ifCond .ne 15, 3) := dk_get kL_law__7_ok 101 rfl
theorem dL_law__1602 : decode cL_law_ 1602 = .ok (.aload_n 3, 1) := dk_get kL_law__7_ok 102 rfl
theorem dL_law__1603 : decode cL_law_ 1603 = .ok (.iconst 0, 1) := dk_get kL_law__7_ok 103 rfl
theorem dL_law__1604 : decode cL_law_ 1604 = .ok (.laload, 1) := dk_get kL_law__7_ok 104 rfl
theorem dL_law__1605 : decode cL_law_ 1605 = .ok (.iload 6, 2) := dk_get kL_law__7_ok 105 rfl
theorem dL_law__1607 : decode cL_law_ 1607 = .ok (.i2l, 1) := dk_get kL_law__7_ok 106 rfl
theorem dL_law__1608 : decode cL_law_ 1608 = .ok (.lcmp, 1) := dk_get kL_law__7_ok 107 rfl
theorem dL_law__1609 : decode cL_law_ 1609 = .ok (.ifCond .eq 5, 3) := dk_get kL_law__7_ok 108 rfl
theorem dL_law__1612 : decode cL_law_ 1612 = .ok (.iconst 0, 1) := dk_get kL_law__7_ok 109 rfl
theorem dL_law__1613 : decode cL_law_ 1613 = .ok (.ireturn, 1) := dk_get kL_law__7_ok 110 rfl
theorem dL_law__1614 : decode cL_law_ 1614 = .ok (.goto 870, 3) := dk_get kL_law__7_ok 111 rfl
theorem dL_law__1617 : decode cL_law_ 1617 = .ok (.aload_n 1, 1) := dk_get kL_law__7_ok 112 rfl
theorem dL_law__1618 : decode cL_law_ 1618 = .ok (.invokevirtual 202, 3) := dk_get kL_law__7_ok 113 rfl
theorem dL_law__1621 : decode cL_law_ 1621 = .ok (.aload_n 2, 1) := dk_get kL_law__7_ok 114 rfl
theorem dL_law__1622 : decode cL_law_ 1622 = .ok (.invokevirtual 205, 3) := dk_get kL_law__7_ok 115 rfl
theorem dL_law__1625 : decode cL_law_ 1625 = .ok (.if_icmp .eq 859, 3) := dk_get kL_law__7_ok 116 rfl
theorem dL_law__1628 : decode cL_law_ 1628 = .ok (.iconst 0, 1) := dk_get kL_law__7_ok 117 rfl
theorem dL_law__1629 : decode cL_law_ 1629 = .ok (.ireturn, 1) := dk_get kL_law__7_ok 118 rfl
theorem dL_law__1630 : decode cL_law_ 1630 = .ok (.aload_n 1, 1) := dk_get kL_law__7_ok 119 rfl
def kL_law__8 : List (Nat × Instr × Nat) := [(1631, .aload_n 0, 1), (1632, .iload 4, 2), (1634, .iconst 1, 1), (1635, .iadd, 1), (1636, .iaload, 1), (1637, .aload_n 0, 1), (1638, .iload 4, 2), (1640, .iconst 2, 1), (1641, .iadd, 1), (1642, .iaload, 1), (1643, .aload_n 0, 1), (1644, .iload 4, 2), (1646, .iconst 3, 1), (1647, .iadd, 1), (1648, .iaload, 1), (1649, .aload_n 0, 1), (1650, .iload 4, 2), (1652, .iconst 4, 1), (1653, .iadd, 1), (1654, .iaload, 1), (1655, .aload_n 3, 1), (1656, .invokestatic 206, 3), (1659, .istore 5, 2), (1661, .aload_n 2, 1), (1662, .aload_n 0, 1), (1663, .iload 4, 2), (1665, .iconst 1, 1), (1666, .iadd, 1), (1667, .iaload, 1), (1668, .aload_n 0, 1), (1669, .iload 4, 2), (1671, .iconst 2, 1), (1672, .iadd, 1), (1673, .iaload, 1), (1674, .aload_n 0, 1), (1675, .iload 4, 2), (1677, .iconst 3, 1), (1678, .iadd, 1), (1679, .iaload, 1), (1680, .aload_n 0, 1), (1681, .iload 4, 2), (1683, .iconst 4, 1), (1684, .iadd, 1), (1685, .iaload, 1), (1686, .invokevirtual 209, 3), (1689, .lstore 6, 2), (1691, .aload_n 2, 1), (1692, .invokevirtual 122, 3), (1695, .iload 5, 2), (1697, .if_icmp .eq 5, 3), (1700, .iconst 0, 1), (1701, .ireturn, 1), (1702, .iload 5, 2), (1704, .ifCond .ne 14, 3), (1707, .aload_n 3, 1), (1708, .iconst 0, 1), (1709, .laload, 1), (1710, .lload 6, 2), (1712, .lcmp, 1), (1713, .ifCond .eq 5, 3), (1716, .iconst 0, 1), (1717, .ireturn, 1), (1718, .goto 766, 3), (1721, .aload_n 1, 1), (1722, .aload_n 0, 1), (1723, .iload 4, 2), (1725, .iconst 1, 1), (1726, .iadd, 1), (1727, .iaload, 1), (1728, .aload_n 3, 1), (1729, .invokestatic 210, 3), (1732, .istore 5, 2), (1734, .aload_n 2, 1), (1735, .aload_n 0, 1), (1736, .iload 4, 2), (1738, .iconst 1, 1), (1739, .iadd, 1), (1740, .iaload, 1), (1741, .invokevirtual 212, 3), (1744, .lstore 6, 2), (1746, .aload_n 2, 1), (1747, .invokevirtual 122, 3), (1750, .iload 5, 2), (1752, .if_icmp .eq 5, 3), (1755, .iconst 0, 1), (1756, .ireturn, 1), (1757, .iload 5, 2), (1759, .ifCond .ne 14, 3), (1762, .aload_n 3, 1), (1763, .iconst 0, 1), (1764, .laload, 1), (1765, .lload 6, 2), (1767, .lcmp, 1), (1768, .ifCond .eq 5, 3), (1771, .iconst 0, 1), (1772, .ireturn, 1), (1773, .goto 711, 3), (1776, .aload_n 1, 1), (1777, .aload_n 0, 1), (1778, .iload 4, 2), (1780, .iconst 1, 1), (1781, .iadd, 1), (1782, .iaload, 1), (1783, .aload_n 3, 1), (1784, .invokestatic 213, 3), (1787, .istore 5, 2), (1789, .aload_n 2, 1), (1790, .aload_n 0, 1), (1791, .iload 4, 2), (1793, .iconst 1, 1), (1794, .iadd, 1), (1795, .iaload, 1), (1796, .invokevirtual 215, 3), (1799, .istore 6, 2), (1801, .aload_n 2, 1), (1802, .invokevirtual 122, 3), (1805, .iload 5, 2), (1807, .if_icmp .eq 5, 3), (1810, .iconst 0, 1), (1811, .ireturn, 1)]
set_option maxRecDepth 100000 in
theorem kL_law__8_ok : kL_law__8.all (fun q => decide (decode cL_law_ q.1 = .ok q.2)) = true := by decide +kernel
theorem dL_law__1631 : decode cL_law_ 1631 = .ok (.aload_n 0, 1) := dk_get kL_law__8_ok 0 rfl
theorem dL_law__1632 : decode cL_law_ 1632 = .ok (.iload 4, 2) := dk_get kL_law__8_ok 1 rfl
theorem dL_law__1634 : decode cL_law_ 1634 = .ok (.iconst 1, 1) := dk_get kL_law__8_ok 2 rfl
theorem dL_law__1635 : decode cL_law_ 1635 = .ok (.iadd, 1) := dk_get kL_law__8_ok 3 rfl
theorem dL_law__1636 : decode cL_law_ 1636 = .ok (.iaload, 1) := dk_get kL_law__8_ok 4 rfl
theorem dL_law__1637 : decode cL_law_ 1637 = .ok (.aload_n 0, 1) := dk_get kL_law__8_ok 5 rfl
theorem dL_law__1638 : decode cL_law_ 1638 = .ok (.iload 4, 2) := dk_get kL_law__8_ok 6 rfl
theorem dL_law__1640 : decode cL_law_ 1640 = .ok (.iconst 2, 1) := dk_get kL_law__8_ok 7 rfl
theorem dL_law__1641 : decode cL_law_ 1641 = .ok (.iadd, 1) := dk_get kL_law__8_ok 8 rfl
theorem dL_law__1642 : decode cL_law_ 1642 = .ok (.iaload, 1) := dk_get kL_law__8_ok 9 rfl
theorem dL_law__1643 : decode cL_law_ 1643 = .ok (.aload_n 0, 1) := dk_get kL_law__8_ok 10 rfl
theorem dL_law__1644 : decode cL_law_ 1644 = .ok (.iload 4, 2) := dk_get kL_law__8_ok 11 rfl
theorem dL_law__1646 : decode cL_law_ 1646 = .ok (.iconst 3, 1) := dk_get kL_law__8_ok 12 rfl
theorem dL_law__1647 : decode cL_law_ 1647 = .ok (.iadd, 1) := dk_get kL_law__8_ok 13 rfl
theorem dL_law__1648 : decode cL_law_ 1648 = .ok (.iaload, 1) := dk_get kL_law__8_ok 14 rfl
theorem dL_law__1649 : decode cL_law_ 1649 = .ok (.aload_n 0, 1) := dk_get kL_law__8_ok 15 rfl
theorem dL_law__1650 : decode cL_law_ 1650 = .ok (.iload 4, 2) := dk_get kL_law__8_ok 16 rfl
theorem dL_law__1652 : decode cL_law_ 1652 = .ok (.iconst 4, 1) := dk_get kL_law__8_ok 17 rfl
theorem dL_law__1653 : decode cL_law_ 1653 = .ok (.iadd, 1) := dk_get kL_law__8_ok 18 rfl
theorem dL_law__1654 : decode cL_law_ 1654 = .ok (.iaload, 1) := dk_get kL_law__8_ok 19 rfl
theorem dL_law__1655 : decode cL_law_ 1655 = .ok (.aload_n 3, 1) := dk_get kL_law__8_ok 20 rfl
theorem dL_law__1656 : decode cL_law_ 1656 = .ok (.invokestatic 206, 3) := dk_get kL_law__8_ok 21 rfl
theorem dL_law__1659 : decode cL_law_ 1659 = .ok (.istore 5, 2) := dk_get kL_law__8_ok 22 rfl
theorem dL_law__1661 : decode cL_law_ 1661 = .ok (.aload_n 2, 1) := dk_get kL_law__8_ok 23 rfl
theorem dL_law__1662 : decode cL_law_ 1662 = .ok (.aload_n 0, 1) := dk_get kL_law__8_ok 24 rfl
theorem dL_law__1663 : decode cL_law_ 1663 = .ok (.iload 4, 2) := dk_get kL_law__8_ok 25 rfl
theorem dL_law__1665 : decode cL_law_ 1665 = .ok (.iconst 1, 1) := dk_get kL_law__8_ok 26 rfl
theorem dL_law__1666 : decode cL_law_ 1666 = .ok (.iadd, 1) := dk_get kL_law__8_ok 27 rfl
theorem dL_law__1667 : decode cL_law_ 1667 = .ok (.iaload, 1) := dk_get kL_law__8_ok 28 rfl
theorem dL_law__1668 : decode cL_law_ 1668 = .ok (.aload_n 0, 1) := dk_get kL_law__8_ok 29 rfl
theorem dL_law__1669 : decode cL_law_ 1669 = .ok (.iload 4, 2) := dk_get kL_law__8_ok 30 rfl
theorem dL_law__1671 : decode cL_law_ 1671 = .ok (.iconst 2, 1) := dk_get kL_law__8_ok 31 rfl
theorem dL_law__1672 : decode cL_law_ 1672 = .ok (.iadd, 1) := dk_get kL_law__8_ok 32 rfl
theorem dL_law__1673 : decode cL_law_ 1673 = .ok (.iaload, 1) := dk_get kL_law__8_ok 33 rfl
theorem dL_law__1674 : decode cL_law_ 1674 = .ok (.aload_n 0, 1) := dk_get kL_law__8_ok 34 rfl
theorem dL_law__1675 : decode cL_law_ 1675 = .ok (.iload 4, 2) := dk_get kL_law__8_ok 35 rfl
theorem dL_law__1677 : decode cL_law_ 1677 = .ok (.iconst 3, 1) := dk_get kL_law__8_ok 36 rfl
theorem dL_law__1678 : decode cL_law_ 1678 = .ok (.iadd, 1) := dk_get kL_law__8_ok 37 rfl
theorem dL_law__1679 : decode cL_law_ 1679 = .ok (.iaload, 1) := dk_get kL_law__8_ok 38 rfl
theorem dL_law__1680 : decode cL_law_ 1680 = .ok (.aload_n 0, 1) := dk_get kL_law__8_ok 39 rfl
theorem dL_law__1681 : decode cL_law_ 1681 = .ok (.iload 4, 2) := dk_get kL_law__8_ok 40 rfl
theorem dL_law__1683 : decode cL_law_ 1683 = .ok (.iconst 4, 1) := dk_get kL_law__8_ok 41 rfl
theorem dL_law__1684 : decode cL_law_ 1684 = .ok (.iadd, 1) := dk_get kL_law__8_ok 42 rfl
theorem dL_law__1685 : decode cL_law_ 1685 = .ok (.iaload, 1) := dk_get kL_law__8_ok 43 rfl
theorem dL_law__1686 : decode cL_law_ 1686 = .ok (.invokevirtual 209, 3) := dk_get kL_law__8_ok 44 rfl
theorem dL_law__1689 : decode cL_law_ 1689 = .ok (.lstore 6, 2) := dk_get kL_law__8_ok 45 rfl
theorem dL_law__1691 : decode cL_law_ 1691 = .ok (.aload_n 2, 1) := dk_get kL_law__8_ok 46 rfl
theorem dL_law__1692 : decode cL_law_ 1692 = .ok (.invokevirtual 122, 3) := dk_get kL_law__8_ok 47 rfl
theorem dL_law__1695 : decode cL_law_ 1695 = .ok (.iload 5, 2) := dk_get kL_law__8_ok 48 rfl
theorem dL_law__1697 : decode cL_law_ 1697 = .ok (.if_icmp .eq 5, 3) := dk_get kL_law__8_ok 49 rfl
theorem dL_law__1700 : decode cL_law_ 1700 = .ok (.iconst 0, 1) := dk_get kL_law__8_ok 50 rfl
theorem dL_law__1701 : decode cL_law_ 1701 = .ok (.ireturn, 1) := dk_get kL_law__8_ok 51 rfl
theorem dL_law__1702 : decode cL_law_ 1702 = .ok (.iload 5, 2) := dk_get kL_law__8_ok 52 rfl
theorem dL_law__1704 : decode cL_law_ 1704 = .ok (.ifCond .ne 14, 3) := dk_get kL_law__8_ok 53 rfl
theorem dL_law__1707 : decode cL_law_ 1707 = .ok (.aload_n 3, 1) := dk_get kL_law__8_ok 54 rfl
theorem dL_law__1708 : decode cL_law_ 1708 = .ok (.iconst 0, 1) := dk_get kL_law__8_ok 55 rfl
theorem dL_law__1709 : decode cL_law_ 1709 = .ok (.laload, 1) := dk_get kL_law__8_ok 56 rfl
theorem dL_law__1710 : decode cL_law_ 1710 = .ok (.lload 6, 2) := dk_get kL_law__8_ok 57 rfl
theorem dL_law__1712 : decode cL_law_ 1712 = .ok (.lcmp, 1) := dk_get kL_law__8_ok 58 rfl
theorem dL_law__1713 : decode cL_law_ 1713 = .ok (.ifCond .eq 5, 3) := dk_get kL_law__8_ok 59 rfl
theorem dL_law__1716 : decode cL_law_ 1716 = .ok (.iconst 0, 1) := dk_get kL_law__8_ok 60 rfl
theorem dL_law__1717 : decode cL_law_ 1717 = .ok (.ireturn, 1) := dk_get kL_law__8_ok 61 rfl
theorem dL_law__1718 : decode cL_law_ 1718 = .ok (.goto 766, 3) := dk_get kL_law__8_ok 62 rfl
theorem dL_law__1721 : decode cL_law_ 1721 = .ok (.aload_n 1, 1) := dk_get kL_law__8_ok 63 rfl
theorem dL_law__1722 : decode cL_law_ 1722 = .ok (.aload_n 0, 1) := dk_get kL_law__8_ok 64 rfl
theorem dL_law__1723 : decode cL_law_ 1723 = .ok (.iload 4, 2) := dk_get kL_law__8_ok 65 rfl
theorem dL_law__1725 : decode cL_law_ 1725 = .ok (.iconst 1, 1) := dk_get kL_law__8_ok 66 rfl
theorem dL_law__1726 : decode cL_law_ 1726 = .ok (.iadd, 1) := dk_get kL_law__8_ok 67 rfl
theorem dL_law__1727 : decode cL_law_ 1727 = .ok (.iaload, 1) := dk_get kL_law__8_ok 68 rfl
theorem dL_law__1728 : decode cL_law_ 1728 = .ok (.aload_n 3, 1) := dk_get kL_law__8_ok 69 rfl
theorem dL_law__1729 : decode cL_law_ 1729 = .ok (.invokestatic 210, 3) := dk_get kL_law__8_ok 70 rfl
theorem dL_law__1732 : decode cL_law_ 1732 = .ok (.istore 5, 2) := dk_get kL_law__8_ok 71 rfl
theorem dL_law__1734 : decode cL_law_ 1734 = .ok (.aload_n 2, 1) := dk_get kL_law__8_ok 72 rfl
theorem dL_law__1735 : decode cL_law_ 1735 = .ok (.aload_n 0, 1) := dk_get kL_law__8_ok 73 rfl
theorem dL_law__1736 : decode cL_law_ 1736 = .ok (.iload 4, 2) := dk_get kL_law__8_ok 74 rfl
theorem dL_law__1738 : decode cL_law_ 1738 = .ok (.iconst 1, 1) := dk_get kL_law__8_ok 75 rfl
theorem dL_law__1739 : decode cL_law_ 1739 = .ok (.iadd, 1) := dk_get kL_law__8_ok 76 rfl
theorem dL_law__1740 : decode cL_law_ 1740 = .ok (.iaload, 1) := dk_get kL_law__8_ok 77 rfl
theorem dL_law__1741 : decode cL_law_ 1741 = .ok (.invokevirtual 212, 3) := dk_get kL_law__8_ok 78 rfl
theorem dL_law__1744 : decode cL_law_ 1744 = .ok (.lstore 6, 2) := dk_get kL_law__8_ok 79 rfl
theorem dL_law__1746 : decode cL_law_ 1746 = .ok (.aload_n 2, 1) := dk_get kL_law__8_ok 80 rfl
theorem dL_law__1747 : decode cL_law_ 1747 = .ok (.invokevirtual 122, 3) := dk_get kL_law__8_ok 81 rfl
theorem dL_law__1750 : decode cL_law_ 1750 = .ok (.iload 5, 2) := dk_get kL_law__8_ok 82 rfl
theorem dL_law__1752 : decode cL_law_ 1752 = .ok (.if_icmp .eq 5, 3) := dk_get kL_law__8_ok 83 rfl
theorem dL_law__1755 : decode cL_law_ 1755 = .ok (.iconst 0, 1) := dk_get kL_law__8_ok 84 rfl
theorem dL_law__1756 : decode cL_law_ 1756 = .ok (.ireturn, 1) := dk_get kL_law__8_ok 85 rfl
theorem dL_law__1757 : decode cL_law_ 1757 = .ok (.iload 5, 2) := dk_get kL_law__8_ok 86 rfl
theorem dL_law__1759 : decode cL_law_ 1759 = .ok (.ifCond .ne 14, 3) := dk_get kL_law__8_ok 87 rfl
theorem dL_law__1762 : decode cL_law_ 1762 = .ok (.aload_n 3, 1) := dk_get kL_law__8_ok 88 rfl
theorem dL_law__1763 : decode cL_law_ 1763 = .ok (.iconst 0, 1) := dk_get kL_law__8_ok 89 rfl
theorem dL_law__1764 : decode cL_law_ 1764 = .ok (.laload, 1) := dk_get kL_law__8_ok 90 rfl
theorem dL_law__1765 : decode cL_law_ 1765 = .ok (.lload 6, 2) := dk_get kL_law__8_ok 91 rfl
theorem dL_law__1767 : decode cL_law_ 1767 = .ok (.lcmp, 1) := dk_get kL_law__8_ok 92 rfl
theorem dL_law__1768 : decode cL_law_ 1768 = .ok (.ifCond .eq 5, 3) := dk_get kL_law__8_ok 93 rfl
theorem dL_law__1771 : decode cL_law_ 1771 = .ok (.iconst 0, 1) := dk_get kL_law__8_ok 94 rfl
theorem dL_law__1772 : decode cL_law_ 1772 = .ok (.ireturn, 1) := dk_get kL_law__8_ok 95 rfl
theorem dL_law__1773 : decode cL_law_ 1773 = .ok (.goto 711, 3) := dk_get kL_law__8_ok 96 rfl
theorem dL_law__1776 : decode cL_law_ 1776 = .ok (.aload_n 1, 1) := dk_get kL_law__8_ok 97 rfl
theorem dL_law__1777 : decode cL_law_ 1777 = .ok (.aload_n 0, 1) := dk_get kL_law__8_ok 98 rfl
theorem dL_law__1778 : decode cL_law_ 1778 = .ok (.iload 4, 2) := dk_get kL_law__8_ok 99 rfl
theorem dL_law__1780 : decode cL_law_ 1780 = .ok (.iconst 1, 1) := dk_get kL_law__8_ok 100 rfl
theorem dL_law__1781 : decode cL_law_ 1781 = .ok (.iadd, 1) := dk_get kL_law__8_ok 101 rfl
theorem dL_law__1782 : decode cL_law_ 1782 = .ok (.iaload, 1) := dk_get kL_law__8_ok 102 rfl
theorem dL_law__1783 : decode cL_law_ 1783 = .ok (.aload_n 3, 1) := dk_get kL_law__8_ok 103 rfl
theorem dL_law__1784 : decode cL_law_ 1784 = .ok (.invokestatic 213, 3) := dk_get kL_law__8_ok 104 rfl
theorem dL_law__1787 : decode cL_law_ 1787 = .ok (.istore 5, 2) := dk_get kL_law__8_ok 105 rfl
theorem dL_law__1789 : decode cL_law_ 1789 = .ok (.aload_n 2, 1) := dk_get kL_law__8_ok 106 rfl
theorem dL_law__1790 : decode cL_law_ 1790 = .ok (.aload_n 0, 1) := dk_get kL_law__8_ok 107 rfl
theorem dL_law__1791 : decode cL_law_ 1791 = .ok (.iload 4, 2) := dk_get kL_law__8_ok 108 rfl
theorem dL_law__1793 : decode cL_law_ 1793 = .ok (.iconst 1, 1) := dk_get kL_law__8_ok 109 rfl
theorem dL_law__1794 : decode cL_law_ 1794 = .ok (.iadd, 1) := dk_get kL_law__8_ok 110 rfl
theorem dL_law__1795 : decode cL_law_ 1795 = .ok (.iaload, 1) := dk_get kL_law__8_ok 111 rfl
theorem dL_law__1796 : decode cL_law_ 1796 = .ok (.invokevirtual 215, 3) := dk_get kL_law__8_ok 112 rfl
theorem dL_law__1799 : decode cL_law_ 1799 = .ok (.istore 6, 2) := dk_get kL_law__8_ok 113 rfl
theorem dL_law__1801 : decode cL_law_ 1801 = .ok (.aload_n 2, 1) := dk_get kL_law__8_ok 114 rfl
theorem dL_law__1802 : decode cL_law_ 1802 = .ok (.invokevirtual 122, 3) := dk_get kL_law__8_ok 115 rfl
theorem dL_law__1805 : decode cL_law_ 1805 = .ok (.iload 5, 2) := dk_get kL_law__8_ok 116 rfl
theorem dL_law__1807 : decode cL_law_ 1807 = .ok (.if_icmp .eq 5, 3) := dk_get kL_law__8_ok 117 rfl
theorem dL_law__1810 : decode cL_law_ 1810 = .ok (.iconst 0, 1) := dk_get kL_law__8_ok 118 rfl
theorem dL_law__1811 : decode cL_law_ 1811 = .ok (.ireturn, 1) := dk_get kL_law__8_ok 119 rfl
def kL_law__9 : List (Nat × Instr × Nat) := [(1812, .iload 5, 2), (1814, .ifCond .ne 15, 3), (1817, .aload_n 3, 1), (1818, .iconst 0, 1), (1819, .laload, 1), (1820, .iload 6, 2), (1822, .i2l, 1), (1823, .lcmp, 1), (1824, .ifCond .eq 5, 3), (1827, .iconst 0, 1), (1828, .ireturn, 1), (1829, .goto 655, 3), (1832, .aload_n 1, 1), (1833, .aload_n 0, 1), (1834, .iload 4, 2), (1836, .iconst 1, 1), (1837, .iadd, 1), (1838, .iaload, 1), (1839, .aload_n 3, 1), (1840, .invokestatic 216, 3), (1843, .istore 5, 2), (1845, .aload_n 2, 1), (1846, .aload_n 0, 1), (1847, .iload 4, 2), (1849, .iconst 1, 1), (1850, .iadd, 1), (1851, .iaload, 1), (1852, .invokevirtual 218, 3), (1855, .istore 6, 2), (1857, .aload_n 2, 1), (1858, .invokevirtual 122, 3), (1861, .iload 5, 2), (1863, .if_icmp .eq 5, 3), (1866, .iconst 0, 1), (1867, .ireturn, 1), (1868, .iload 5, 2), (1870, .ifCond .ne 15, 3), (1873, .aload_n 3, 1), (1874, .iconst 0, 1), (1875, .laload, 1), (1876, .iload 6, 2), (1878, .i2l, 1), (1879, .lcmp, 1), (1880, .ifCond .eq 5, 3), (1883, .iconst 0, 1), (1884, .ireturn, 1), (1885, .goto 599, 3), (1888, .aload_n 1, 1), (1889, .invokevirtual 219, 3), (1892, .aload_n 2, 1), (1893, .invokevirtual 222, 3), (1896, .lcmp, 1), (1897, .ifCond .eq 587, 3), (1900, .iconst 0, 1), (1901, .ireturn, 1), (1902, .aload_n 1, 1), (1903, .invokevirtual 223, 3), (1906, .aload_n 2, 1), (1907, .invokevirtual 226, 3), (1910, .if_icmp .eq 574, 3), (1913, .iconst 0, 1), (1914, .ireturn, 1), (1915, .aload_n 1, 1), (1916, .aload_n 0, 1), (1917, .iload 4, 2), (1919, .iconst 1, 1), (1920, .iadd, 1), (1921, .iaload, 1), (1922, .aload_n 0, 1), (1923, .iload 4, 2), (1925, .iconst 2, 1), (1926, .iadd, 1), (1927, .iaload, 1), (1928, .aload_n 3, 1), (1929, .invokestatic 227, 3), (1932, .istore 5, 2), (1934, .aload_n 2, 1), (1935, .aload_n 0, 1), (1936, .iload 4, 2), (1938, .iconst 1, 1), (1939, .iadd, 1), (1940, .iaload, 1), (1941, .aload_n 0, 1), (1942, .iload 4, 2), (1944, .iconst 2, 1), (1945, .iadd, 1), (1946, .iaload, 1), (1947, .invokevirtual 229, 3), (1950, .istore 6, 2), (1952, .aload_n 2, 1), (1953, .invokevirtual 122, 3), (1956, .iload 5, 2), (1958, .if_icmp .eq 5, 3), (1961, .iconst 0, 1), (1962, .ireturn, 1), (1963, .iload 5, 2), (1965, .ifCond .ne 15, 3), (1968, .aload_n 3, 1), (1969, .iconst 0, 1), (1970, .laload, 1), (1971, .iload 6, 2), (1973, .i2l, 1), (1974, .lcmp, 1), (1975, .ifCond .eq 5, 3), (1978, .iconst 0, 1), (1979, .ireturn, 1), (1980, .goto 504, 3), (1983, .aload_n 1, 1), (1984, .aload_n 0, 1), (1985, .iload 4, 2), (1987, .iconst 1, 1), (1988, .iadd, 1), (1989, .iaload, 1), (1990, .aload_n 0, 1), (1991, .iload 4, 2), (1993, .iconst 2, 1), (1994, .iadd, 1), (1995, .iaload, 1), (1996, .aload_n 3, 1), (1997, .invokestatic 230, 3)]
set_option maxRecDepth 100000 in
theorem kL_law__9_ok : kL_law__9.all (fun q => decide (decode cL_law_ q.1 = .ok q.2)) = true := by decide +kernel
theorem dL_law__1812 : decode cL_law_ 1812 = .ok (.iload 5, 2) := dk_get kL_law__9_ok 0 rfl
theorem dL_law__1814 : decode cL_law_ 1814 = .ok (.ifCond .ne 15, 3) := dk_get kL_law__9_ok 1 rfl
theorem dL_law__1817 : decode cL_law_ 1817 = .ok (.aload_n 3, 1) := dk_get kL_law__9_ok 2 rfl
theorem dL_law__1818 : decode cL_law_ 1818 = .ok (.iconst 0, 1) := dk_get kL_law__9_ok 3 rfl
theorem dL_law__1819 : decode cL_law_ 1819 = .ok (.laload, 1) := dk_get kL_law__9_ok 4 rfl
theorem dL_law__1820 : decode cL_law_ 1820 = .ok (.iload 6, 2) := dk_get kL_law__9_ok 5 rfl
theorem dL_law__1822 : decode cL_law_ 1822 = .ok (.i2l, 1) := dk_get kL_law__9_ok 6 rfl
theorem dL_law__1823 : decode cL_law_ 1823 = .ok (.lcmp, 1) := dk_get kL_law__9_ok 7 rfl
theorem dL_law__1824 : decode cL_law_ 1824 = .ok (.ifCond .eq 5, 3) := dk_get kL_law__9_ok 8 rfl
theorem dL_law__1827 : decode cL_law_ 1827 = .ok (.iconst 0, 1) := dk_get kL_law__9_ok 9 rfl
theorem dL_law__1828 : decode cL_law_ 1828 = .ok (.ireturn, 1) := dk_get kL_law__9_ok 10 rfl
theorem dL_law__1829 : decode cL_law_ 1829 = .ok (.goto 655, 3) := dk_get kL_law__9_ok 11 rfl
theorem dL_law__1832 : decode cL_law_ 1832 = .ok (.aload_n 1, 1) := dk_get kL_law__9_ok 12 rfl
theorem dL_law__1833 : decode cL_law_ 1833 = .ok (.aload_n 0, 1) := dk_get kL_law__9_ok 13 rfl
theorem dL_law__1834 : decode cL_law_ 1834 = .ok (.iload 4, 2) := dk_get kL_law__9_ok 14 rfl
theorem dL_law__1836 : decode cL_law_ 1836 = .ok (.iconst 1, 1) := dk_get kL_law__9_ok 15 rfl
theorem dL_law__1837 : decode cL_law_ 1837 = .ok (.iadd, 1) := dk_get kL_law__9_ok 16 rfl
theorem dL_law__1838 : decode cL_law_ 1838 = .ok (.iaload, 1) := dk_get kL_law__9_ok 17 rfl
theorem dL_law__1839 : decode cL_law_ 1839 = .ok (.aload_n 3, 1) := dk_get kL_law__9_ok 18 rfl
theorem dL_law__1840 : decode cL_law_ 1840 = .ok (.invokestatic 216, 3) := dk_get kL_law__9_ok 19 rfl
theorem dL_law__1843 : decode cL_law_ 1843 = .ok (.istore 5, 2) := dk_get kL_law__9_ok 20 rfl
theorem dL_law__1845 : decode cL_law_ 1845 = .ok (.aload_n 2, 1) := dk_get kL_law__9_ok 21 rfl
theorem dL_law__1846 : decode cL_law_ 1846 = .ok (.aload_n 0, 1) := dk_get kL_law__9_ok 22 rfl
theorem dL_law__1847 : decode cL_law_ 1847 = .ok (.iload 4, 2) := dk_get kL_law__9_ok 23 rfl
theorem dL_law__1849 : decode cL_law_ 1849 = .ok (.iconst 1, 1) := dk_get kL_law__9_ok 24 rfl
theorem dL_law__1850 : decode cL_law_ 1850 = .ok (.iadd, 1) := dk_get kL_law__9_ok 25 rfl
theorem dL_law__1851 : decode cL_law_ 1851 = .ok (.iaload, 1) := dk_get kL_law__9_ok 26 rfl
theorem dL_law__1852 : decode cL_law_ 1852 = .ok (.invokevirtual 218, 3) := dk_get kL_law__9_ok 27 rfl
theorem dL_law__1855 : decode cL_law_ 1855 = .ok (.istore 6, 2) := dk_get kL_law__9_ok 28 rfl
theorem dL_law__1857 : decode cL_law_ 1857 = .ok (.aload_n 2, 1) := dk_get kL_law__9_ok 29 rfl
theorem dL_law__1858 : decode cL_law_ 1858 = .ok (.invokevirtual 122, 3) := dk_get kL_law__9_ok 30 rfl
theorem dL_law__1861 : decode cL_law_ 1861 = .ok (.iload 5, 2) := dk_get kL_law__9_ok 31 rfl
theorem dL_law__1863 : decode cL_law_ 1863 = .ok (.if_icmp .eq 5, 3) := dk_get kL_law__9_ok 32 rfl
theorem dL_law__1866 : decode cL_law_ 1866 = .ok (.iconst 0, 1) := dk_get kL_law__9_ok 33 rfl
theorem dL_law__1867 : decode cL_law_ 1867 = .ok (.ireturn, 1) := dk_get kL_law__9_ok 34 rfl
theorem dL_law__1868 : decode cL_law_ 1868 = .ok (.iload 5, 2) := dk_get kL_law__9_ok 35 rfl
theorem dL_law__1870 : decode cL_law_ 1870 = .ok (.ifCond .ne 15, 3) := dk_get kL_law__9_ok 36 rfl
theorem dL_law__1873 : decode cL_law_ 1873 = .ok (.aload_n 3, 1) := dk_get kL_law__9_ok 37 rfl
theorem dL_law__1874 : decode cL_law_ 1874 = .ok (.iconst 0, 1) := dk_get kL_law__9_ok 38 rfl
theorem dL_law__1875 : decode cL_law_ 1875 = .ok (.laload, 1) := dk_get kL_law__9_ok 39 rfl
theorem dL_law__1876 : decode cL_law_ 1876 = .ok (.iload 6, 2) := dk_get kL_law__9_ok 40 rfl
theorem dL_law__1878 : decode cL_law_ 1878 = .ok (.i2l, 1) := dk_get kL_law__9_ok 41 rfl
theorem dL_law__1879 : decode cL_law_ 1879 = .ok (.lcmp, 1) := dk_get kL_law__9_ok 42 rfl
theorem dL_law__1880 : decode cL_law_ 1880 = .ok (.ifCond .eq 5, 3) := dk_get kL_law__9_ok 43 rfl
theorem dL_law__1883 : decode cL_law_ 1883 = .ok (.iconst 0, 1) := dk_get kL_law__9_ok 44 rfl
theorem dL_law__1884 : decode cL_law_ 1884 = .ok (.ireturn, 1) := dk_get kL_law__9_ok 45 rfl
theorem dL_law__1885 : decode cL_law_ 1885 = .ok (.goto 599, 3) := dk_get kL_law__9_ok 46 rfl
theorem dL_law__1888 : decode cL_law_ 1888 = .ok (.aload_n 1, 1) := dk_get kL_law__9_ok 47 rfl
theorem dL_law__1889 : decode cL_law_ 1889 = .ok (.invokevirtual 219, 3) := dk_get kL_law__9_ok 48 rfl
theorem dL_law__1892 : decode cL_law_ 1892 = .ok (.aload_n 2, 1) := dk_get kL_law__9_ok 49 rfl
theorem dL_law__1893 : decode cL_law_ 1893 = .ok (.invokevirtual 222, 3) := dk_get kL_law__9_ok 50 rfl
theorem dL_law__1896 : decode cL_law_ 1896 = .ok (.lcmp, 1) := dk_get kL_law__9_ok 51 rfl
theorem dL_law__1897 : decode cL_law_ 1897 = .ok (.ifCond .eq 587, 3) := dk_get kL_law__9_ok 52 rfl
theorem dL_law__1900 : decode cL_law_ 1900 = .ok (.iconst 0, 1) := dk_get kL_law__9_ok 53 rfl
theorem dL_law__1901 : decode cL_law_ 1901 = .ok (.ireturn, 1) := dk_get kL_law__9_ok 54 rfl
theorem dL_law__1902 : decode cL_law_ 1902 = .ok (.aload_n 1, 1) := dk_get kL_law__9_ok 55 rfl
theorem dL_law__1903 : decode cL_law_ 1903 = .ok (.invokevirtual 223, 3) := dk_get kL_law__9_ok 56 rfl
theorem dL_law__1906 : decode cL_law_ 1906 = .ok (.aload_n 2, 1) := dk_get kL_law__9_ok 57 rfl
theorem dL_law__1907 : decode cL_law_ 1907 = .ok (.invokevirtual 226, 3) := dk_get kL_law__9_ok 58 rfl
theorem dL_law__1910 : decode cL_law_ 1910 = .ok (.if_icmp .eq 574, 3) := dk_get kL_law__9_ok 59 rfl
theorem dL_law__1913 : decode cL_law_ 1913 = .ok (.iconst 0, 1) := dk_get kL_law__9_ok 60 rfl
theorem dL_law__1914 : decode cL_law_ 1914 = .ok (.ireturn, 1) := dk_get kL_law__9_ok 61 rfl
theorem dL_law__1915 : decode cL_law_ 1915 = .ok (.aload_n 1, 1) := dk_get kL_law__9_ok 62 rfl
theorem dL_law__1916 : decode cL_law_ 1916 = .ok (.aload_n 0, 1) := dk_get kL_law__9_ok 63 rfl
theorem dL_law__1917 : decode cL_law_ 1917 = .ok (.iload 4, 2) := dk_get kL_law__9_ok 64 rfl
theorem dL_law__1919 : decode cL_law_ 1919 = .ok (.iconst 1, 1) := dk_get kL_law__9_ok 65 rfl
theorem dL_law__1920 : decode cL_law_ 1920 = .ok (.iadd, 1) := dk_get kL_law__9_ok 66 rfl
theorem dL_law__1921 : decode cL_law_ 1921 = .ok (.iaload, 1) := dk_get kL_law__9_ok 67 rfl
theorem dL_law__1922 : decode cL_law_ 1922 = .ok (.aload_n 0, 1) := dk_get kL_law__9_ok 68 rfl
theorem dL_law__1923 : decode cL_law_ 1923 = .ok (.iload 4, 2) := dk_get kL_law__9_ok 69 rfl
theorem dL_law__1925 : decode cL_law_ 1925 = .ok (.iconst 2, 1) := dk_get kL_law__9_ok 70 rfl
theorem dL_law__1926 : decode cL_law_ 1926 = .ok (.iadd, 1) := dk_get kL_law__9_ok 71 rfl
theorem dL_law__1927 : decode cL_law_ 1927 = .ok (.iaload, 1) := dk_get kL_law__9_ok 72 rfl
theorem dL_law__1928 : decode cL_law_ 1928 = .ok (.aload_n 3, 1) := dk_get kL_law__9_ok 73 rfl
theorem dL_law__1929 : decode cL_law_ 1929 = .ok (.invokestatic 227, 3) := dk_get kL_law__9_ok 74 rfl
theorem dL_law__1932 : decode cL_law_ 1932 = .ok (.istore 5, 2) := dk_get kL_law__9_ok 75 rfl
theorem dL_law__1934 : decode cL_law_ 1934 = .ok (.aload_n 2, 1) := dk_get kL_law__9_ok 76 rfl
theorem dL_law__1935 : decode cL_law_ 1935 = .ok (.aload_n 0, 1) := dk_get kL_law__9_ok 77 rfl
theorem dL_law__1936 : decode cL_law_ 1936 = .ok (.iload 4, 2) := dk_get kL_law__9_ok 78 rfl
theorem dL_law__1938 : decode cL_law_ 1938 = .ok (.iconst 1, 1) := dk_get kL_law__9_ok 79 rfl
theorem dL_law__1939 : decode cL_law_ 1939 = .ok (.iadd, 1) := dk_get kL_law__9_ok 80 rfl
theorem dL_law__1940 : decode cL_law_ 1940 = .ok (.iaload, 1) := dk_get kL_law__9_ok 81 rfl
theorem dL_law__1941 : decode cL_law_ 1941 = .ok (.aload_n 0, 1) := dk_get kL_law__9_ok 82 rfl
theorem dL_law__1942 : decode cL_law_ 1942 = .ok (.iload 4, 2) := dk_get kL_law__9_ok 83 rfl
theorem dL_law__1944 : decode cL_law_ 1944 = .ok (.iconst 2, 1) := dk_get kL_law__9_ok 84 rfl
theorem dL_law__1945 : decode cL_law_ 1945 = .ok (.iadd, 1) := dk_get kL_law__9_ok 85 rfl
theorem dL_law__1946 : decode cL_law_ 1946 = .ok (.iaload, 1) := dk_get kL_law__9_ok 86 rfl
theorem dL_law__1947 : decode cL_law_ 1947 = .ok (.invokevirtual 229, 3) := dk_get kL_law__9_ok 87 rfl
theorem dL_law__1950 : decode cL_law_ 1950 = .ok (.istore 6, 2) := dk_get kL_law__9_ok 88 rfl
theorem dL_law__1952 : decode cL_law_ 1952 = .ok (.aload_n 2, 1) := dk_get kL_law__9_ok 89 rfl
theorem dL_law__1953 : decode cL_law_ 1953 = .ok (.invokevirtual 122, 3) := dk_get kL_law__9_ok 90 rfl
theorem dL_law__1956 : decode cL_law_ 1956 = .ok (.iload 5, 2) := dk_get kL_law__9_ok 91 rfl
theorem dL_law__1958 : decode cL_law_ 1958 = .ok (.if_icmp .eq 5, 3) := dk_get kL_law__9_ok 92 rfl
theorem dL_law__1961 : decode cL_law_ 1961 = .ok (.iconst 0, 1) := dk_get kL_law__9_ok 93 rfl
theorem dL_law__1962 : decode cL_law_ 1962 = .ok (.ireturn, 1) := dk_get kL_law__9_ok 94 rfl
theorem dL_law__1963 : decode cL_law_ 1963 = .ok (.iload 5, 2) := dk_get kL_law__9_ok 95 rfl
theorem dL_law__1965 : decode cL_law_ 1965 = .ok (.ifCond .ne 15, 3) := dk_get kL_law__9_ok 96 rfl
theorem dL_law__1968 : decode cL_law_ 1968 = .ok (.aload_n 3, 1) := dk_get kL_law__9_ok 97 rfl
theorem dL_law__1969 : decode cL_law_ 1969 = .ok (.iconst 0, 1) := dk_get kL_law__9_ok 98 rfl
theorem dL_law__1970 : decode cL_law_ 1970 = .ok (.laload, 1) := dk_get kL_law__9_ok 99 rfl
theorem dL_law__1971 : decode cL_law_ 1971 = .ok (.iload 6, 2) := dk_get kL_law__9_ok 100 rfl
theorem dL_law__1973 : decode cL_law_ 1973 = .ok (.i2l, 1) := dk_get kL_law__9_ok 101 rfl
theorem dL_law__1974 : decode cL_law_ 1974 = .ok (.lcmp, 1) := dk_get kL_law__9_ok 102 rfl
theorem dL_law__1975 : decode cL_law_ 1975 = .ok (.ifCond .eq 5, 3) := dk_get kL_law__9_ok 103 rfl
theorem dL_law__1978 : decode cL_law_ 1978 = .ok (.iconst 0, 1) := dk_get kL_law__9_ok 104 rfl
theorem dL_law__1979 : decode cL_law_ 1979 = .ok (.ireturn, 1) := dk_get kL_law__9_ok 105 rfl
theorem dL_law__1980 : decode cL_law_ 1980 = .ok (.goto 504, 3) := dk_get kL_law__9_ok 106 rfl
theorem dL_law__1983 : decode cL_law_ 1983 = .ok (.aload_n 1, 1) := dk_get kL_law__9_ok 107 rfl
theorem dL_law__1984 : decode cL_law_ 1984 = .ok (.aload_n 0, 1) := dk_get kL_law__9_ok 108 rfl
theorem dL_law__1985 : decode cL_law_ 1985 = .ok (.iload 4, 2) := dk_get kL_law__9_ok 109 rfl
theorem dL_law__1987 : decode cL_law_ 1987 = .ok (.iconst 1, 1) := dk_get kL_law__9_ok 110 rfl
theorem dL_law__1988 : decode cL_law_ 1988 = .ok (.iadd, 1) := dk_get kL_law__9_ok 111 rfl
theorem dL_law__1989 : decode cL_law_ 1989 = .ok (.iaload, 1) := dk_get kL_law__9_ok 112 rfl
theorem dL_law__1990 : decode cL_law_ 1990 = .ok (.aload_n 0, 1) := dk_get kL_law__9_ok 113 rfl
theorem dL_law__1991 : decode cL_law_ 1991 = .ok (.iload 4, 2) := dk_get kL_law__9_ok 114 rfl
theorem dL_law__1993 : decode cL_law_ 1993 = .ok (.iconst 2, 1) := dk_get kL_law__9_ok 115 rfl
theorem dL_law__1994 : decode cL_law_ 1994 = .ok (.iadd, 1) := dk_get kL_law__9_ok 116 rfl
theorem dL_law__1995 : decode cL_law_ 1995 = .ok (.iaload, 1) := dk_get kL_law__9_ok 117 rfl
theorem dL_law__1996 : decode cL_law_ 1996 = .ok (.aload_n 3, 1) := dk_get kL_law__9_ok 118 rfl
theorem dL_law__1997 : decode cL_law_ 1997 = .ok (.invokestatic 230, 3) := dk_get kL_law__9_ok 119 rfl
def kL_law__10 : List (Nat × Instr × Nat) := [(2000, .istore 5, 2), (2002, .aload_n 2, 1), (2003, .aload_n 0, 1), (2004, .iload 4, 2), (2006, .iconst 1, 1), (2007, .iadd, 1), (2008, .iaload, 1), (2009, .aload_n 0, 1), (2010, .iload 4, 2), (2012, .iconst 2, 1), (2013, .iadd, 1), (2014, .iaload, 1), (2015, .invokevirtual 232, 3), (2018, .lstore 6, 2), (2020, .aload_n 2, 1), (2021, .invokevirtual 122, 3), (2024, .iload 5, 2), (2026, .if_icmp .eq 5, 3), (2029, .iconst 0, 1), (2030, .ireturn, 1), (2031, .iload 5, 2), (2033, .ifCond .ne 14, 3), (2036, .aload_n 3, 1), (2037, .iconst 0, 1), (2038, .laload, 1), (2039, .lload 6, 2), (2041, .lcmp, 1), (2042, .ifCond .eq 5, 3), (2045, .iconst 0, 1), (2046, .ireturn, 1), (2047, .goto 437, 3), (2050, .aload_n 1, 1), (2051, .aload_n 0, 1), (2052, .iload 4, 2), (2054, .iconst 1, 1), (2055, .iadd, 1), (2056, .iaload, 1), (2057, .aload_n 0, 1), (2058, .iload 4, 2), (2060, .iconst 2, 1), (2061, .iadd, 1), (2062, .iaload, 1), (2063, .aload_n 0, 1), (2064, .iload 4, 2), (2066, .iconst 3, 1), (2067, .iadd, 1), (2068, .iaload, 1), (2069, .aload_n 3, 1), (2070, .invokestatic 233, 3), (2073, .istore 5, 2), (2075, .aload_n 2, 1), (2076, .aload_n 0, 1), (2077, .iload 4, 2), (2079, .iconst 1, 1), (2080, .iadd, 1), (2081, .iaload, 1), (2082, .aload_n 0, 1), (2083, .iload 4, 2), (2085, .iconst 2, 1), (2086, .iadd, 1), (2087, .iaload, 1), (2088, .aload_n 0, 1), (2089, .iload 4, 2), (2091, .iconst 3, 1), (2092, .iadd, 1), (2093, .iaload, 1), (2094, .invokevirtual 235, 3), (2097, .istore 6, 2), (2099, .aload_n 2, 1), (2100, .invokevirtual 122, 3), (2103, .iload 5, 2), (2105, .if_icmp .eq 5, 3), (2108, .iconst 0, 1), (2109, .ireturn, 1), (2110, .iload 5, 2), (2112, .ifCond .ne 15, 3), (2115, .aload_n 3, 1), (2116, .iconst 0, 1), (2117, .laload, 1), (2118, .iload 6, 2), (2120, .i2l, 1), (2121, .lcmp, 1), (2122, .ifCond .eq 5, 3), (2125, .iconst 0, 1), (2126, .ireturn, 1), (2127, .goto 357, 3), (2130, .aload_n 1, 1), (2131, .aload_n 0, 1), (2132, .iload 4, 2), (2134, .iconst 1, 1), (2135, .iadd, 1), (2136, .iaload, 1), (2137, .aload_n 3, 1), (2138, .invokestatic 236, 3), (2141, .istore 5, 2), (2143, .aload_n 2, 1), (2144, .aload_n 0, 1), (2145, .iload 4, 2), (2147, .iconst 1, 1), (2148, .iadd, 1), (2149, .iaload, 1), (2150, .invokevirtual 238, 3), (2153, .istore 6, 2), (2155, .aload_n 2, 1), (2156, .invokevirtual 122, 3), (2159, .iload 5, 2), (2161, .if_icmp .eq 5, 3), (2164, .iconst 0, 1), (2165, .ireturn, 1), (2166, .iload 5, 2), (2168, .ifCond .ne 15, 3), (2171, .aload_n 3, 1), (2172, .iconst 0, 1), (2173, .laload, 1), (2174, .iload 6, 2), (2176, .i2l, 1), (2177, .lcmp, 1), (2178, .ifCond .eq 5, 3), (2181, .iconst 0, 1), (2182, .ireturn, 1)]
set_option maxRecDepth 100000 in
theorem kL_law__10_ok : kL_law__10.all (fun q => decide (decode cL_law_ q.1 = .ok q.2)) = true := by decide +kernel
theorem dL_law__2000 : decode cL_law_ 2000 = .ok (.istore 5, 2) := dk_get kL_law__10_ok 0 rfl
theorem dL_law__2002 : decode cL_law_ 2002 = .ok (.aload_n 2, 1) := dk_get kL_law__10_ok 1 rfl
theorem dL_law__2003 : decode cL_law_ 2003 = .ok (.aload_n 0, 1) := dk_get kL_law__10_ok 2 rfl
theorem dL_law__2004 : decode cL_law_ 2004 = .ok (.iload 4, 2) := dk_get kL_law__10_ok 3 rfl
theorem dL_law__2006 : decode cL_law_ 2006 = .ok (.iconst 1, 1) := dk_get kL_law__10_ok 4 rfl
theorem dL_law__2007 : decode cL_law_ 2007 = .ok (.iadd, 1) := dk_get kL_law__10_ok 5 rfl
theorem dL_law__2008 : decode cL_law_ 2008 = .ok (.iaload, 1) := dk_get kL_law__10_ok 6 rfl
theorem dL_law__2009 : decode cL_law_ 2009 = .ok (.aload_n 0, 1) := dk_get kL_law__10_ok 7 rfl
theorem dL_law__2010 : decode cL_law_ 2010 = .ok (.iload 4, 2) := dk_get kL_law__10_ok 8 rfl
theorem dL_law__2012 : decode cL_law_ 2012 = .ok (.iconst 2, 1) := dk_get kL_law__10_ok 9 rfl
theorem dL_law__2013 : decode cL_law_ 2013 = .ok (.iadd, 1) := dk_get kL_law__10_ok 10 rfl
theorem dL_law__2014 : decode cL_law_ 2014 = .ok (.iaload, 1) := dk_get kL_law__10_ok 11 rfl
theorem dL_law__2015 : decode cL_law_ 2015 = .ok (.invokevirtual 232, 3) := dk_get kL_law__10_ok 12 rfl
theorem dL_law__2018 : decode cL_law_ 2018 = .ok (.lstore 6, 2) := dk_get kL_law__10_ok 13 rfl
theorem dL_law__2020 : decode cL_law_ 2020 = .ok (.aload_n 2, 1) := dk_get kL_law__10_ok 14 rfl
theorem dL_law__2021 : decode cL_law_ 2021 = .ok (.invokevirtual 122, 3) := dk_get kL_law__10_ok 15 rfl
theorem dL_law__2024 : decode cL_law_ 2024 = .ok (.iload 5, 2) := dk_get kL_law__10_ok 16 rfl
theorem dL_law__2026 : decode cL_law_ 2026 = .ok (.if_icmp .eq 5, 3) := dk_get kL_law__10_ok 17 rfl
theorem dL_law__2029 : decode cL_law_ 2029 = .ok (.iconst 0, 1) := dk_get kL_law__10_ok 18 rfl
theorem dL_law__2030 : decode cL_law_ 2030 = .ok (.ireturn, 1) := dk_get kL_law__10_ok 19 rfl
theorem dL_law__2031 : decode cL_law_ 2031 = .ok (.iload 5, 2) := dk_get kL_law__10_ok 20 rfl
theorem dL_law__2033 : decode cL_law_ 2033 = .ok (.ifCond .ne 14, 3) := dk_get kL_law__10_ok 21 rfl
theorem dL_law__2036 : decode cL_law_ 2036 = .ok (.aload_n 3, 1) := dk_get kL_law__10_ok 22 rfl
theorem dL_law__2037 : decode cL_law_ 2037 = .ok (.iconst 0, 1) := dk_get kL_law__10_ok 23 rfl
theorem dL_law__2038 : decode cL_law_ 2038 = .ok (.laload, 1) := dk_get kL_law__10_ok 24 rfl
theorem dL_law__2039 : decode cL_law_ 2039 = .ok (.lload 6, 2) := dk_get kL_law__10_ok 25 rfl
theorem dL_law__2041 : decode cL_law_ 2041 = .ok (.lcmp, 1) := dk_get kL_law__10_ok 26 rfl
theorem dL_law__2042 : decode cL_law_ 2042 = .ok (.ifCond .eq 5, 3) := dk_get kL_law__10_ok 27 rfl
theorem dL_law__2045 : decode cL_law_ 2045 = .ok (.iconst 0, 1) := dk_get kL_law__10_ok 28 rfl
theorem dL_law__2046 : decode cL_law_ 2046 = .ok (.ireturn, 1) := dk_get kL_law__10_ok 29 rfl
theorem dL_law__2047 : decode cL_law_ 2047 = .ok (.goto 437, 3) := dk_get kL_law__10_ok 30 rfl
theorem dL_law__2050 : decode cL_law_ 2050 = .ok (.aload_n 1, 1) := dk_get kL_law__10_ok 31 rfl
theorem dL_law__2051 : decode cL_law_ 2051 = .ok (.aload_n 0, 1) := dk_get kL_law__10_ok 32 rfl
theorem dL_law__2052 : decode cL_law_ 2052 = .ok (.iload 4, 2) := dk_get kL_law__10_ok 33 rfl
theorem dL_law__2054 : decode cL_law_ 2054 = .ok (.iconst 1, 1) := dk_get kL_law__10_ok 34 rfl
theorem dL_law__2055 : decode cL_law_ 2055 = .ok (.iadd, 1) := dk_get kL_law__10_ok 35 rfl
theorem dL_law__2056 : decode cL_law_ 2056 = .ok (.iaload, 1) := dk_get kL_law__10_ok 36 rfl
theorem dL_law__2057 : decode cL_law_ 2057 = .ok (.aload_n 0, 1) := dk_get kL_law__10_ok 37 rfl
theorem dL_law__2058 : decode cL_law_ 2058 = .ok (.iload 4, 2) := dk_get kL_law__10_ok 38 rfl
theorem dL_law__2060 : decode cL_law_ 2060 = .ok (.iconst 2, 1) := dk_get kL_law__10_ok 39 rfl
theorem dL_law__2061 : decode cL_law_ 2061 = .ok (.iadd, 1) := dk_get kL_law__10_ok 40 rfl
theorem dL_law__2062 : decode cL_law_ 2062 = .ok (.iaload, 1) := dk_get kL_law__10_ok 41 rfl
theorem dL_law__2063 : decode cL_law_ 2063 = .ok (.aload_n 0, 1) := dk_get kL_law__10_ok 42 rfl
theorem dL_law__2064 : decode cL_law_ 2064 = .ok (.iload 4, 2) := dk_get kL_law__10_ok 43 rfl
theorem dL_law__2066 : decode cL_law_ 2066 = .ok (.iconst 3, 1) := dk_get kL_law__10_ok 44 rfl
theorem dL_law__2067 : decode cL_law_ 2067 = .ok (.iadd, 1) := dk_get kL_law__10_ok 45 rfl
theorem dL_law__2068 : decode cL_law_ 2068 = .ok (.iaload, 1) := dk_get kL_law__10_ok 46 rfl
theorem dL_law__2069 : decode cL_law_ 2069 = .ok (.aload_n 3, 1) := dk_get kL_law__10_ok 47 rfl
theorem dL_law__2070 : decode cL_law_ 2070 = .ok (.invokestatic 233, 3) := dk_get kL_law__10_ok 48 rfl
theorem dL_law__2073 : decode cL_law_ 2073 = .ok (.istore 5, 2) := dk_get kL_law__10_ok 49 rfl
theorem dL_law__2075 : decode cL_law_ 2075 = .ok (.aload_n 2, 1) := dk_get kL_law__10_ok 50 rfl
theorem dL_law__2076 : decode cL_law_ 2076 = .ok (.aload_n 0, 1) := dk_get kL_law__10_ok 51 rfl
theorem dL_law__2077 : decode cL_law_ 2077 = .ok (.iload 4, 2) := dk_get kL_law__10_ok 52 rfl
theorem dL_law__2079 : decode cL_law_ 2079 = .ok (.iconst 1, 1) := dk_get kL_law__10_ok 53 rfl
theorem dL_law__2080 : decode cL_law_ 2080 = .ok (.iadd, 1) := dk_get kL_law__10_ok 54 rfl
theorem dL_law__2081 : decode cL_law_ 2081 = .ok (.iaload, 1) := dk_get kL_law__10_ok 55 rfl
theorem dL_law__2082 : decode cL_law_ 2082 = .ok (.aload_n 0, 1) := dk_get kL_law__10_ok 56 rfl
theorem dL_law__2083 : decode cL_law_ 2083 = .ok (.iload 4, 2) := dk_get kL_law__10_ok 57 rfl
theorem dL_law__2085 : decode cL_law_ 2085 = .ok (.iconst 2, 1) := dk_get kL_law__10_ok 58 rfl
theorem dL_law__2086 : decode cL_law_ 2086 = .ok (.iadd, 1) := dk_get kL_law__10_ok 59 rfl
theorem dL_law__2087 : decode cL_law_ 2087 = .ok (.iaload, 1) := dk_get kL_law__10_ok 60 rfl
theorem dL_law__2088 : decode cL_law_ 2088 = .ok (.aload_n 0, 1) := dk_get kL_law__10_ok 61 rfl
theorem dL_law__2089 : decode cL_law_ 2089 = .ok (.iload 4, 2) := dk_get kL_law__10_ok 62 rfl
theorem dL_law__2091 : decode cL_law_ 2091 = .ok (.iconst 3, 1) := dk_get kL_law__10_ok 63 rfl
theorem dL_law__2092 : decode cL_law_ 2092 = .ok (.iadd, 1) := dk_get kL_law__10_ok 64 rfl
theorem dL_law__2093 : decode cL_law_ 2093 = .ok (.iaload, 1) := dk_get kL_law__10_ok 65 rfl
theorem dL_law__2094 : decode cL_law_ 2094 = .ok (.invokevirtual 235, 3) := dk_get kL_law__10_ok 66 rfl
theorem dL_law__2097 : decode cL_law_ 2097 = .ok (.istore 6, 2) := dk_get kL_law__10_ok 67 rfl
theorem dL_law__2099 : decode cL_law_ 2099 = .ok (.aload_n 2, 1) := dk_get kL_law__10_ok 68 rfl
theorem dL_law__2100 : decode cL_law_ 2100 = .ok (.invokevirtual 122, 3) := dk_get kL_law__10_ok 69 rfl
theorem dL_law__2103 : decode cL_law_ 2103 = .ok (.iload 5, 2) := dk_get kL_law__10_ok 70 rfl
theorem dL_law__2105 : decode cL_law_ 2105 = .ok (.if_icmp .eq 5, 3) := dk_get kL_law__10_ok 71 rfl
theorem dL_law__2108 : decode cL_law_ 2108 = .ok (.iconst 0, 1) := dk_get kL_law__10_ok 72 rfl
theorem dL_law__2109 : decode cL_law_ 2109 = .ok (.ireturn, 1) := dk_get kL_law__10_ok 73 rfl
theorem dL_law__2110 : decode cL_law_ 2110 = .ok (.iload 5, 2) := dk_get kL_law__10_ok 74 rfl
theorem dL_law__2112 : decode cL_law_ 2112 = .ok (.ifCond .ne 15, 3) := dk_get kL_law__10_ok 75 rfl
theorem dL_law__2115 : decode cL_law_ 2115 = .ok (.aload_n 3, 1) := dk_get kL_law__10_ok 76 rfl
theorem dL_law__2116 : decode cL_law_ 2116 = .ok (.iconst 0, 1) := dk_get kL_law__10_ok 77 rfl
theorem dL_law__2117 : decode cL_law_ 2117 = .ok (.laload, 1) := dk_get kL_law__10_ok 78 rfl
theorem dL_law__2118 : decode cL_law_ 2118 = .ok (.iload 6, 2) := dk_get kL_law__10_ok 79 rfl
theorem dL_law__2120 : decode cL_law_ 2120 = .ok (.i2l, 1) := dk_get kL_law__10_ok 80 rfl
theorem dL_law__2121 : decode cL_law_ 2121 = .ok (.lcmp, 1) := dk_get kL_law__10_ok 81 rfl
theorem dL_law__2122 : decode cL_law_ 2122 = .ok (.ifCond .eq 5, 3) := dk_get kL_law__10_ok 82 rfl
theorem dL_law__2125 : decode cL_law_ 2125 = .ok (.iconst 0, 1) := dk_get kL_law__10_ok 83 rfl
theorem dL_law__2126 : decode cL_law_ 2126 = .ok (.ireturn, 1) := dk_get kL_law__10_ok 84 rfl
theorem dL_law__2127 : decode cL_law_ 2127 = .ok (.goto 357, 3) := dk_get kL_law__10_ok 85 rfl
theorem dL_law__2130 : decode cL_law_ 2130 = .ok (.aload_n 1, 1) := dk_get kL_law__10_ok 86 rfl
theorem dL_law__2131 : decode cL_law_ 2131 = .ok (.aload_n 0, 1) := dk_get kL_law__10_ok 87 rfl
theorem dL_law__2132 : decode cL_law_ 2132 = .ok (.iload 4, 2) := dk_get kL_law__10_ok 88 rfl
theorem dL_law__2134 : decode cL_law_ 2134 = .ok (.iconst 1, 1) := dk_get kL_law__10_ok 89 rfl
theorem dL_law__2135 : decode cL_law_ 2135 = .ok (.iadd, 1) := dk_get kL_law__10_ok 90 rfl
theorem dL_law__2136 : decode cL_law_ 2136 = .ok (.iaload, 1) := dk_get kL_law__10_ok 91 rfl
theorem dL_law__2137 : decode cL_law_ 2137 = .ok (.aload_n 3, 1) := dk_get kL_law__10_ok 92 rfl
theorem dL_law__2138 : decode cL_law_ 2138 = .ok (.invokestatic 236, 3) := dk_get kL_law__10_ok 93 rfl
theorem dL_law__2141 : decode cL_law_ 2141 = .ok (.istore 5, 2) := dk_get kL_law__10_ok 94 rfl
theorem dL_law__2143 : decode cL_law_ 2143 = .ok (.aload_n 2, 1) := dk_get kL_law__10_ok 95 rfl
theorem dL_law__2144 : decode cL_law_ 2144 = .ok (.aload_n 0, 1) := dk_get kL_law__10_ok 96 rfl
theorem dL_law__2145 : decode cL_law_ 2145 = .ok (.iload 4, 2) := dk_get kL_law__10_ok 97 rfl
theorem dL_law__2147 : decode cL_law_ 2147 = .ok (.iconst 1, 1) := dk_get kL_law__10_ok 98 rfl
theorem dL_law__2148 : decode cL_law_ 2148 = .ok (.iadd, 1) := dk_get kL_law__10_ok 99 rfl
theorem dL_law__2149 : decode cL_law_ 2149 = .ok (.iaload, 1) := dk_get kL_law__10_ok 100 rfl
theorem dL_law__2150 : decode cL_law_ 2150 = .ok (.invokevirtual 238, 3) := dk_get kL_law__10_ok 101 rfl
theorem dL_law__2153 : decode cL_law_ 2153 = .ok (.istore 6, 2) := dk_get kL_law__10_ok 102 rfl
theorem dL_law__2155 : decode cL_law_ 2155 = .ok (.aload_n 2, 1) := dk_get kL_law__10_ok 103 rfl
theorem dL_law__2156 : decode cL_law_ 2156 = .ok (.invokevirtual 122, 3) := dk_get kL_law__10_ok 104 rfl
theorem dL_law__2159 : decode cL_law_ 2159 = .ok (.iload 5, 2) := dk_get kL_law__10_ok 105 rfl
theorem dL_law__2161 : decode cL_law_ 2161 = .ok (.if_icmp .eq 5, 3) := dk_get kL_law__10_ok 106 rfl
theorem dL_law__2164 : decode cL_law_ 2164 = .ok (.iconst 0, 1) := dk_get kL_law__10_ok 107 rfl
theorem dL_law__2165 : decode cL_law_ 2165 = .ok (.ireturn, 1) := dk_get kL_law__10_ok 108 rfl
theorem dL_law__2166 : decode cL_law_ 2166 = .ok (.iload 5, 2) := dk_get kL_law__10_ok 109 rfl
theorem dL_law__2168 : decode cL_law_ 2168 = .ok (.ifCond .ne 15, 3) := dk_get kL_law__10_ok 110 rfl
theorem dL_law__2171 : decode cL_law_ 2171 = .ok (.aload_n 3, 1) := dk_get kL_law__10_ok 111 rfl
theorem dL_law__2172 : decode cL_law_ 2172 = .ok (.iconst 0, 1) := dk_get kL_law__10_ok 112 rfl
theorem dL_law__2173 : decode cL_law_ 2173 = .ok (.laload, 1) := dk_get kL_law__10_ok 113 rfl
theorem dL_law__2174 : decode cL_law_ 2174 = .ok (.iload 6, 2) := dk_get kL_law__10_ok 114 rfl
theorem dL_law__2176 : decode cL_law_ 2176 = .ok (.i2l, 1) := dk_get kL_law__10_ok 115 rfl
theorem dL_law__2177 : decode cL_law_ 2177 = .ok (.lcmp, 1) := dk_get kL_law__10_ok 116 rfl
theorem dL_law__2178 : decode cL_law_ 2178 = .ok (.ifCond .eq 5, 3) := dk_get kL_law__10_ok 117 rfl
theorem dL_law__2181 : decode cL_law_ 2181 = .ok (.iconst 0, 1) := dk_get kL_law__10_ok 118 rfl
theorem dL_law__2182 : decode cL_law_ 2182 = .ok (.ireturn, 1) := dk_get kL_law__10_ok 119 rfl
def kL_law__11 : List (Nat × Instr × Nat) := [(2183, .goto 301, 3), (2186, .aload_n 1, 1), (2187, .aload_n 0, 1), (2188, .iload 4, 2), (2190, .iconst 1, 1), (2191, .iadd, 1), (2192, .iaload, 1), (2193, .aload_n 0, 1), (2194, .iload 4, 2), (2196, .iconst 2, 1), (2197, .iadd, 1), (2198, .iaload, 1), (2199, .aload_n 3, 1), (2200, .invokestatic 239, 3), (2203, .istore 5, 2), (2205, .aload_n 2, 1), (2206, .aload_n 0, 1), (2207, .iload 4, 2), (2209, .iconst 1, 1), (2210, .iadd, 1), (2211, .iaload, 1), (2212, .aload_n 0, 1), (2213, .iload 4, 2), (2215, .iconst 2, 1), (2216, .iadd, 1), (2217, .iaload, 1), (2218, .invokevirtual 241, 3), (2221, .istore 6, 2), (2223, .aload_n 2, 1), (2224, .invokevirtual 122, 3), (2227, .iload 5, 2), (2229, .if_icmp .eq 5, 3), (2232, .iconst 0, 1), (2233, .ireturn, 1), (2234, .iload 5, 2), (2236, .ifCond .ne 15, 3), (2239, .aload_n 3, 1), (2240, .iconst 0, 1), (2241, .laload, 1), (2242, .iload 6, 2), (2244, .i2l, 1), (2245, .lcmp, 1), (2246, .ifCond .eq 5, 3), (2249, .iconst 0, 1), (2250, .ireturn, 1), (2251, .goto 233, 3), (2254, .aload_n 1, 1), (2255, .aload_n 0, 1), (2256, .iload 4, 2), (2258, .iconst 1, 1), (2259, .iadd, 1), (2260, .iaload, 1), (2261, .aload_n 0, 1), (2262, .iload 4, 2), (2264, .iconst 2, 1), (2265, .iadd, 1), (2266, .iaload, 1), (2267, .aload_n 3, 1), (2268, .invokestatic 242, 3), (2271, .istore 5, 2), (2273, .aload_n 2, 1), (2274, .aload_n 0, 1), (2275, .iload 4, 2), (2277, .iconst 1, 1), (2278, .iadd, 1), (2279, .iaload, 1), (2280, .aload_n 0, 1), (2281, .iload 4, 2), (2283, .iconst 2, 1), (2284, .iadd, 1), (2285, .iaload, 1), (2286, .invokevirtual 244, 3), (2289, .istore 6, 2), (2291, .aload_n 2, 1), (2292, .invokevirtual 122, 3), (2295, .iload 5, 2), (2297, .if_icmp .eq 5, 3), (2300, .iconst 0, 1), (2301, .ireturn, 1), (2302, .iload 5, 2), (2304, .ifCond .ne 15, 3), (2307, .aload_n 3, 1), (2308, .iconst 0, 1), (2309, .laload, 1), (2310, .iload 6, 2), (2312, .i2l, 1), (2313, .lcmp, 1), (2314, .ifCond .eq 5, 3), (2317, .iconst 0, 1), (2318, .ireturn, 1), (2319, .goto 165, 3), (2322, .aload_n 1, 1), (2323, .aload_n 0, 1), (2324, .iload 4, 2), (2326, .iconst 1, 1), (2327, .iadd, 1), (2328, .iaload, 1), (2329, .aload_n 3, 1), (2330, .invokestatic 245, 3), (2333, .istore 5, 2), (2335, .aload_n 2, 1), (2336, .aload_n 0, 1), (2337, .iload 4, 2), (2339, .iconst 1, 1), (2340, .iadd, 1), (2341, .iaload, 1), (2342, .invokevirtual 247, 3), (2345, .lstore 6, 2), (2347, .aload_n 2, 1), (2348, .invokevirtual 122, 3), (2351, .iload 5, 2), (2353, .if_icmp .eq 5, 3), (2356, .iconst 0, 1), (2357, .ireturn, 1), (2358, .iload 5, 2), (2360, .ifCond .ne 14, 3), (2363, .aload_n 3, 1), (2364, .iconst 0, 1), (2365, .laload, 1), (2366, .lload 6, 2)]
set_option maxRecDepth 100000 in
theorem kL_law__11_ok : kL_law__11.all (fun q => decide (decode cL_law_ q.1 = .ok q.2)) = true := by decide +kernel
theorem dL_law__2183 : decode cL_law_ 2183 = .ok (.goto 301, 3) := dk_get kL_law__11_ok 0 rfl
theorem dL_law__2186 : decode cL_law_ 2186 = .ok (.aload_n 1, 1) := dk_get kL_law__11_ok 1 rfl
theorem dL_law__2187 : decode cL_law_ 2187 = .ok (.aload_n 0, 1) := dk_get kL_law__11_ok 2 rfl
theorem dL_law__2188 : decode cL_law_ 2188 = .ok (.iload 4, 2) := dk_get kL_law__11_ok 3 rfl
theorem dL_law__2190 : decode cL_law_ 2190 = .ok (.iconst 1, 1) := dk_get kL_law__11_ok 4 rfl
theorem dL_law__2191 : decode cL_law_ 2191 = .ok (.iadd, 1) := dk_get kL_law__11_ok 5 rfl
theorem dL_law__2192 : decode cL_law_ 2192 = .ok (.iaload, 1) := dk_get kL_law__11_ok 6 rfl
theorem dL_law__2193 : decode cL_law_ 2193 = .ok (.aload_n 0, 1) := dk_get kL_law__11_ok 7 rfl
theorem dL_law__2194 : decode cL_law_ 2194 = .ok (.iload 4, 2) := dk_get kL_law__11_ok 8 rfl
theorem dL_law__2196 : decode cL_law_ 2196 = .ok (.iconst 2, 1) := dk_get kL_law__11_ok 9 rfl
theorem dL_law__2197 : decode cL_law_ 2197 = .ok (.iadd, 1) := dk_get kL_law__11_ok 10 rfl
theorem dL_law__2198 : decode cL_law_ 2198 = .ok (.iaload, 1) := dk_get kL_law__11_ok 11 rfl
theorem dL_law__2199 : decode cL_law_ 2199 = .ok (.aload_n 3, 1) := dk_get kL_law__11_ok 12 rfl
theorem dL_law__2200 : decode cL_law_ 2200 = .ok (.invokestatic 239, 3) := dk_get kL_law__11_ok 13 rfl
theorem dL_law__2203 : decode cL_law_ 2203 = .ok (.istore 5, 2) := dk_get kL_law__11_ok 14 rfl
theorem dL_law__2205 : decode cL_law_ 2205 = .ok (.aload_n 2, 1) := dk_get kL_law__11_ok 15 rfl
theorem dL_law__2206 : decode cL_law_ 2206 = .ok (.aload_n 0, 1) := dk_get kL_law__11_ok 16 rfl
theorem dL_law__2207 : decode cL_law_ 2207 = .ok (.iload 4, 2) := dk_get kL_law__11_ok 17 rfl
theorem dL_law__2209 : decode cL_law_ 2209 = .ok (.iconst 1, 1) := dk_get kL_law__11_ok 18 rfl
theorem dL_law__2210 : decode cL_law_ 2210 = .ok (.iadd, 1) := dk_get kL_law__11_ok 19 rfl
theorem dL_law__2211 : decode cL_law_ 2211 = .ok (.iaload, 1) := dk_get kL_law__11_ok 20 rfl
theorem dL_law__2212 : decode cL_law_ 2212 = .ok (.aload_n 0, 1) := dk_get kL_law__11_ok 21 rfl
theorem dL_law__2213 : decode cL_law_ 2213 = .ok (.iload 4, 2) := dk_get kL_law__11_ok 22 rfl
theorem dL_law__2215 : decode cL_law_ 2215 = .ok (.iconst 2, 1) := dk_get kL_law__11_ok 23 rfl
theorem dL_law__2216 : decode cL_law_ 2216 = .ok (.iadd, 1) := dk_get kL_law__11_ok 24 rfl
theorem dL_law__2217 : decode cL_law_ 2217 = .ok (.iaload, 1) := dk_get kL_law__11_ok 25 rfl
theorem dL_law__2218 : decode cL_law_ 2218 = .ok (.invokevirtual 241, 3) := dk_get kL_law__11_ok 26 rfl
theorem dL_law__2221 : decode cL_law_ 2221 = .ok (.istore 6, 2) := dk_get kL_law__11_ok 27 rfl
theorem dL_law__2223 : decode cL_law_ 2223 = .ok (.aload_n 2, 1) := dk_get kL_law__11_ok 28 rfl
theorem dL_law__2224 : decode cL_law_ 2224 = .ok (.invokevirtual 122, 3) := dk_get kL_law__11_ok 29 rfl
theorem dL_law__2227 : decode cL_law_ 2227 = .ok (.iload 5, 2) := dk_get kL_law__11_ok 30 rfl
theorem dL_law__2229 : decode cL_law_ 2229 = .ok (.if_icmp .eq 5, 3) := dk_get kL_law__11_ok 31 rfl
theorem dL_law__2232 : decode cL_law_ 2232 = .ok (.iconst 0, 1) := dk_get kL_law__11_ok 32 rfl
theorem dL_law__2233 : decode cL_law_ 2233 = .ok (.ireturn, 1) := dk_get kL_law__11_ok 33 rfl
theorem dL_law__2234 : decode cL_law_ 2234 = .ok (.iload 5, 2) := dk_get kL_law__11_ok 34 rfl
theorem dL_law__2236 : decode cL_law_ 2236 = .ok (.ifCond .ne 15, 3) := dk_get kL_law__11_ok 35 rfl
theorem dL_law__2239 : decode cL_law_ 2239 = .ok (.aload_n 3, 1) := dk_get kL_law__11_ok 36 rfl
theorem dL_law__2240 : decode cL_law_ 2240 = .ok (.iconst 0, 1) := dk_get kL_law__11_ok 37 rfl
theorem dL_law__2241 : decode cL_law_ 2241 = .ok (.laload, 1) := dk_get kL_law__11_ok 38 rfl
theorem dL_law__2242 : decode cL_law_ 2242 = .ok (.iload 6, 2) := dk_get kL_law__11_ok 39 rfl
theorem dL_law__2244 : decode cL_law_ 2244 = .ok (.i2l, 1) := dk_get kL_law__11_ok 40 rfl
theorem dL_law__2245 : decode cL_law_ 2245 = .ok (.lcmp, 1) := dk_get kL_law__11_ok 41 rfl
theorem dL_law__2246 : decode cL_law_ 2246 = .ok (.ifCond .eq 5, 3) := dk_get kL_law__11_ok 42 rfl
theorem dL_law__2249 : decode cL_law_ 2249 = .ok (.iconst 0, 1) := dk_get kL_law__11_ok 43 rfl
theorem dL_law__2250 : decode cL_law_ 2250 = .ok (.ireturn, 1) := dk_get kL_law__11_ok 44 rfl
theorem dL_law__2251 : decode cL_law_ 2251 = .ok (.goto 233, 3) := dk_get kL_law__11_ok 45 rfl
theorem dL_law__2254 : decode cL_law_ 2254 = .ok (.aload_n 1, 1) := dk_get kL_law__11_ok 46 rfl
theorem dL_law__2255 : decode cL_law_ 2255 = .ok (.aload_n 0, 1) := dk_get kL_law__11_ok 47 rfl
theorem dL_law__2256 : decode cL_law_ 2256 = .ok (.iload 4, 2) := dk_get kL_law__11_ok 48 rfl
theorem dL_law__2258 : decode cL_law_ 2258 = .ok (.iconst 1, 1) := dk_get kL_law__11_ok 49 rfl
theorem dL_law__2259 : decode cL_law_ 2259 = .ok (.iadd, 1) := dk_get kL_law__11_ok 50 rfl
theorem dL_law__2260 : decode cL_law_ 2260 = .ok (.iaload, 1) := dk_get kL_law__11_ok 51 rfl
theorem dL_law__2261 : decode cL_law_ 2261 = .ok (.aload_n 0, 1) := dk_get kL_law__11_ok 52 rfl
theorem dL_law__2262 : decode cL_law_ 2262 = .ok (.iload 4, 2) := dk_get kL_law__11_ok 53 rfl
theorem dL_law__2264 : decode cL_law_ 2264 = .ok (.iconst 2, 1) := dk_get kL_law__11_ok 54 rfl
theorem dL_law__2265 : decode cL_law_ 2265 = .ok (.iadd, 1) := dk_get kL_law__11_ok 55 rfl
theorem dL_law__2266 : decode cL_law_ 2266 = .ok (.iaload, 1) := dk_get kL_law__11_ok 56 rfl
theorem dL_law__2267 : decode cL_law_ 2267 = .ok (.aload_n 3, 1) := dk_get kL_law__11_ok 57 rfl
theorem dL_law__2268 : decode cL_law_ 2268 = .ok (.invokestatic 242, 3) := dk_get kL_law__11_ok 58 rfl
theorem dL_law__2271 : decode cL_law_ 2271 = .ok (.istore 5, 2) := dk_get kL_law__11_ok 59 rfl
theorem dL_law__2273 : decode cL_law_ 2273 = .ok (.aload_n 2, 1) := dk_get kL_law__11_ok 60 rfl
theorem dL_law__2274 : decode cL_law_ 2274 = .ok (.aload_n 0, 1) := dk_get kL_law__11_ok 61 rfl
theorem dL_law__2275 : decode cL_law_ 2275 = .ok (.iload 4, 2) := dk_get kL_law__11_ok 62 rfl
theorem dL_law__2277 : decode cL_law_ 2277 = .ok (.iconst 1, 1) := dk_get kL_law__11_ok 63 rfl
theorem dL_law__2278 : decode cL_law_ 2278 = .ok (.iadd, 1) := dk_get kL_law__11_ok 64 rfl
theorem dL_law__2279 : decode cL_law_ 2279 = .ok (.iaload, 1) := dk_get kL_law__11_ok 65 rfl
theorem dL_law__2280 : decode cL_law_ 2280 = .ok (.aload_n 0, 1) := dk_get kL_law__11_ok 66 rfl
theorem dL_law__2281 : decode cL_law_ 2281 = .ok (.iload 4, 2) := dk_get kL_law__11_ok 67 rfl
theorem dL_law__2283 : decode cL_law_ 2283 = .ok (.iconst 2, 1) := dk_get kL_law__11_ok 68 rfl
theorem dL_law__2284 : decode cL_law_ 2284 = .ok (.iadd, 1) := dk_get kL_law__11_ok 69 rfl
theorem dL_law__2285 : decode cL_law_ 2285 = .ok (.iaload, 1) := dk_get kL_law__11_ok 70 rfl
theorem dL_law__2286 : decode cL_law_ 2286 = .ok (.invokevirtual 244, 3) := dk_get kL_law__11_ok 71 rfl
theorem dL_law__2289 : decode cL_law_ 2289 = .ok (.istore 6, 2) := dk_get kL_law__11_ok 72 rfl
theorem dL_law__2291 : decode cL_law_ 2291 = .ok (.aload_n 2, 1) := dk_get kL_law__11_ok 73 rfl
theorem dL_law__2292 : decode cL_law_ 2292 = .ok (.invokevirtual 122, 3) := dk_get kL_law__11_ok 74 rfl
theorem dL_law__2295 : decode cL_law_ 2295 = .ok (.iload 5, 2) := dk_get kL_law__11_ok 75 rfl
theorem dL_law__2297 : decode cL_law_ 2297 = .ok (.if_icmp .eq 5, 3) := dk_get kL_law__11_ok 76 rfl
theorem dL_law__2300 : decode cL_law_ 2300 = .ok (.iconst 0, 1) := dk_get kL_law__11_ok 77 rfl
theorem dL_law__2301 : decode cL_law_ 2301 = .ok (.ireturn, 1) := dk_get kL_law__11_ok 78 rfl
theorem dL_law__2302 : decode cL_law_ 2302 = .ok (.iload 5, 2) := dk_get kL_law__11_ok 79 rfl
theorem dL_law__2304 : decode cL_law_ 2304 = .ok (.ifCond .ne 15, 3) := dk_get kL_law__11_ok 80 rfl
theorem dL_law__2307 : decode cL_law_ 2307 = .ok (.aload_n 3, 1) := dk_get kL_law__11_ok 81 rfl
theorem dL_law__2308 : decode cL_law_ 2308 = .ok (.iconst 0, 1) := dk_get kL_law__11_ok 82 rfl
theorem dL_law__2309 : decode cL_law_ 2309 = .ok (.laload, 1) := dk_get kL_law__11_ok 83 rfl
theorem dL_law__2310 : decode cL_law_ 2310 = .ok (.iload 6, 2) := dk_get kL_law__11_ok 84 rfl
theorem dL_law__2312 : decode cL_law_ 2312 = .ok (.i2l, 1) := dk_get kL_law__11_ok 85 rfl
theorem dL_law__2313 : decode cL_law_ 2313 = .ok (.lcmp, 1) := dk_get kL_law__11_ok 86 rfl
theorem dL_law__2314 : decode cL_law_ 2314 = .ok (.ifCond .eq 5, 3) := dk_get kL_law__11_ok 87 rfl
theorem dL_law__2317 : decode cL_law_ 2317 = .ok (.iconst 0, 1) := dk_get kL_law__11_ok 88 rfl
theorem dL_law__2318 : decode cL_law_ 2318 = .ok (.ireturn, 1) := dk_get kL_law__11_ok 89 rfl
theorem dL_law__2319 : decode cL_law_ 2319 = .ok (.goto 165, 3) := dk_get kL_law__11_ok 90 rfl
theorem dL_law__2322 : decode cL_law_ 2322 = .ok (.aload_n 1, 1) := dk_get kL_law__11_ok 91 rfl
theorem dL_law__2323 : decode cL_law_ 2323 = .ok (.aload_n 0, 1) := dk_get kL_law__11_ok 92 rfl
theorem dL_law__2324 : decode cL_law_ 2324 = .ok (.iload 4, 2) := dk_get kL_law__11_ok 93 rfl
theorem dL_law__2326 : decode cL_law_ 2326 = .ok (.iconst 1, 1) := dk_get kL_law__11_ok 94 rfl
theorem dL_law__2327 : decode cL_law_ 2327 = .ok (.iadd, 1) := dk_get kL_law__11_ok 95 rfl
theorem dL_law__2328 : decode cL_law_ 2328 = .ok (.iaload, 1) := dk_get kL_law__11_ok 96 rfl
theorem dL_law__2329 : decode cL_law_ 2329 = .ok (.aload_n 3, 1) := dk_get kL_law__11_ok 97 rfl
theorem dL_law__2330 : decode cL_law_ 2330 = .ok (.invokestatic 245, 3) := dk_get kL_law__11_ok 98 rfl
theorem dL_law__2333 : decode cL_law_ 2333 = .ok (.istore 5, 2) := dk_get kL_law__11_ok 99 rfl
theorem dL_law__2335 : decode cL_law_ 2335 = .ok (.aload_n 2, 1) := dk_get kL_law__11_ok 100 rfl
theorem dL_law__2336 : decode cL_law_ 2336 = .ok (.aload_n 0, 1) := dk_get kL_law__11_ok 101 rfl
theorem dL_law__2337 : decode cL_law_ 2337 = .ok (.iload 4, 2) := dk_get kL_law__11_ok 102 rfl
theorem dL_law__2339 : decode cL_law_ 2339 = .ok (.iconst 1, 1) := dk_get kL_law__11_ok 103 rfl
theorem dL_law__2340 : decode cL_law_ 2340 = .ok (.iadd, 1) := dk_get kL_law__11_ok 104 rfl
theorem dL_law__2341 : decode cL_law_ 2341 = .ok (.iaload, 1) := dk_get kL_law__11_ok 105 rfl
theorem dL_law__2342 : decode cL_law_ 2342 = .ok (.invokevirtual 247, 3) := dk_get kL_law__11_ok 106 rfl
theorem dL_law__2345 : decode cL_law_ 2345 = .ok (.lstore 6, 2) := dk_get kL_law__11_ok 107 rfl
theorem dL_law__2347 : decode cL_law_ 2347 = .ok (.aload_n 2, 1) := dk_get kL_law__11_ok 108 rfl
theorem dL_law__2348 : decode cL_law_ 2348 = .ok (.invokevirtual 122, 3) := dk_get kL_law__11_ok 109 rfl
theorem dL_law__2351 : decode cL_law_ 2351 = .ok (.iload 5, 2) := dk_get kL_law__11_ok 110 rfl
theorem dL_law__2353 : decode cL_law_ 2353 = .ok (.if_icmp .eq 5, 3) := dk_get kL_law__11_ok 111 rfl
theorem dL_law__2356 : decode cL_law_ 2356 = .ok (.iconst 0, 1) := dk_get kL_law__11_ok 112 rfl
theorem dL_law__2357 : decode cL_law_ 2357 = .ok (.ireturn, 1) := dk_get kL_law__11_ok 113 rfl
theorem dL_law__2358 : decode cL_law_ 2358 = .ok (.iload 5, 2) := dk_get kL_law__11_ok 114 rfl
theorem dL_law__2360 : decode cL_law_ 2360 = .ok (.ifCond .ne 14, 3) := dk_get kL_law__11_ok 115 rfl
theorem dL_law__2363 : decode cL_law_ 2363 = .ok (.aload_n 3, 1) := dk_get kL_law__11_ok 116 rfl
theorem dL_law__2364 : decode cL_law_ 2364 = .ok (.iconst 0, 1) := dk_get kL_law__11_ok 117 rfl
theorem dL_law__2365 : decode cL_law_ 2365 = .ok (.laload, 1) := dk_get kL_law__11_ok 118 rfl
theorem dL_law__2366 : decode cL_law_ 2366 = .ok (.lload 6, 2) := dk_get kL_law__11_ok 119 rfl
def kL_law__12 : List (Nat × Instr × Nat) := [(2368, .lcmp, 1), (2369, .ifCond .eq 5, 3), (2372, .iconst 0, 1), (2373, .ireturn, 1), (2374, .goto 110, 3), (2377, .aload_n 1, 1), (2378, .aload_n 0, 1), (2379, .iload 4, 2), (2381, .iconst 1, 1), (2382, .iadd, 1), (2383, .iaload, 1), (2384, .aload_n 3, 1), (2385, .invokestatic 248, 3), (2388, .istore 5, 2), (2390, .aload_n 2, 1), (2391, .aload_n 0, 1), (2392, .iload 4, 2), (2394, .iconst 1, 1), (2395, .iadd, 1), (2396, .iaload, 1), (2397, .invokevirtual 250, 3), (2400, .istore 6, 2), (2402, .aload_n 2, 1), (2403, .invokevirtual 122, 3), (2406, .iload 5, 2), (2408, .if_icmp .eq 5, 3), (2411, .iconst 0, 1), (2412, .ireturn, 1), (2413, .iload 5, 2), (2415, .ifCond .ne 15, 3), (2418, .aload_n 3, 1), (2419, .iconst 0, 1), (2420, .laload, 1), (2421, .iload 6, 2), (2423, .i2l, 1), (2424, .lcmp, 1), (2425, .ifCond .eq 5, 3), (2428, .iconst 0, 1), (2429, .ireturn, 1), (2430, .goto 54, 3), (2433, .aload_n 1, 1), (2434, .invokevirtual 251, 3), (2437, .aload_n 2, 1), (2438, .invokevirtual 254, 3), (2441, .if_icmp .eq 43, 3), (2444, .iconst 0, 1), (2445, .ireturn, 1), (2446, .aload_n 1, 1), (2447, .invokevirtual 255, 3), (2450, .aload_n 2, 1), (2451, .invokevirtual 258, 3), (2454, .if_icmp .eq 30, 3), (2457, .iconst 0, 1), (2458, .ireturn, 1), (2459, .aload_n 1, 1), (2460, .aload_n 0, 1), (2461, .iload 4, 2), (2463, .iconst 1, 1), (2464, .iadd, 1), (2465, .iaload, 1), (2466, .invokevirtual 259, 3), (2469, .aload_n 2, 1), (2470, .aload_n 0, 1), (2471, .iload 4, 2), (2473, .iconst 1, 1), (2474, .iadd, 1), (2475, .iaload, 1), (2476, .invokevirtual 262, 3), (2479, .if_icmp .eq 5, 3), (2482, .iconst 0, 1), (2483, .ireturn, 1), (2484, .iinc 4 6, 3), (2487, .goto (-2464), 3), (2490, .iconst 1, 1), (2491, .ireturn, 1)]
set_option maxRecDepth 100000 in
theorem kL_law__12_ok : kL_law__12.all (fun q => decide (decode cL_law_ q.1 = .ok q.2)) = true := by decide +kernel
theorem dL_law__2368 : decode cL_law_ 2368 = .ok (.lcmp, 1) := dk_get kL_law__12_ok 0 rfl
theorem dL_law__2369 : decode cL_law_ 2369 = .ok (.ifCond .eq 5, 3) := dk_get kL_law__12_ok 1 rfl
theorem dL_law__2372 : decode cL_law_ 2372 = .ok (.iconst 0, 1) := dk_get kL_law__12_ok 2 rfl
theorem dL_law__2373 : decode cL_law_ 2373 = .ok (.ireturn, 1) := dk_get kL_law__12_ok 3 rfl
theorem dL_law__2374 : decode cL_law_ 2374 = .ok (.goto 110, 3) := dk_get kL_law__12_ok 4 rfl
theorem dL_law__2377 : decode cL_law_ 2377 = .ok (.aload_n 1, 1) := dk_get kL_law__12_ok 5 rfl
theorem dL_law__2378 : decode cL_law_ 2378 = .ok (.aload_n 0, 1) := dk_get kL_law__12_ok 6 rfl
theorem dL_law__2379 : decode cL_law_ 2379 = .ok (.iload 4, 2) := dk_get kL_law__12_ok 7 rfl
theorem dL_law__2381 : decode cL_law_ 2381 = .ok (.iconst 1, 1) := dk_get kL_law__12_ok 8 rfl
theorem dL_law__2382 : decode cL_law_ 2382 = .ok (.iadd, 1) := dk_get kL_law__12_ok 9 rfl
theorem dL_law__2383 : decode cL_law_ 2383 = .ok (.iaload, 1) := dk_get kL_law__12_ok 10 rfl
theorem dL_law__2384 : decode cL_law_ 2384 = .ok (.aload_n 3, 1) := dk_get kL_law__12_ok 11 rfl
theorem dL_law__2385 : decode cL_law_ 2385 = .ok (.invokestatic 248, 3) := dk_get kL_law__12_ok 12 rfl
theorem dL_law__2388 : decode cL_law_ 2388 = .ok (.istore 5, 2) := dk_get kL_law__12_ok 13 rfl
theorem dL_law__2390 : decode cL_law_ 2390 = .ok (.aload_n 2, 1) := dk_get kL_law__12_ok 14 rfl
theorem dL_law__2391 : decode cL_law_ 2391 = .ok (.aload_n 0, 1) := dk_get kL_law__12_ok 15 rfl
theorem dL_law__2392 : decode cL_law_ 2392 = .ok (.iload 4, 2) := dk_get kL_law__12_ok 16 rfl
theorem dL_law__2394 : decode cL_law_ 2394 = .ok (.iconst 1, 1) := dk_get kL_law__12_ok 17 rfl
theorem dL_law__2395 : decode cL_law_ 2395 = .ok (.iadd, 1) := dk_get kL_law__12_ok 18 rfl
theorem dL_law__2396 : decode cL_law_ 2396 = .ok (.iaload, 1) := dk_get kL_law__12_ok 19 rfl
theorem dL_law__2397 : decode cL_law_ 2397 = .ok (.invokevirtual 250, 3) := dk_get kL_law__12_ok 20 rfl
theorem dL_law__2400 : decode cL_law_ 2400 = .ok (.istore 6, 2) := dk_get kL_law__12_ok 21 rfl
theorem dL_law__2402 : decode cL_law_ 2402 = .ok (.aload_n 2, 1) := dk_get kL_law__12_ok 22 rfl
theorem dL_law__2403 : decode cL_law_ 2403 = .ok (.invokevirtual 122, 3) := dk_get kL_law__12_ok 23 rfl
theorem dL_law__2406 : decode cL_law_ 2406 = .ok (.iload 5, 2) := dk_get kL_law__12_ok 24 rfl
theorem dL_law__2408 : decode cL_law_ 2408 = .ok (.if_icmp .eq 5, 3) := dk_get kL_law__12_ok 25 rfl
theorem dL_law__2411 : decode cL_law_ 2411 = .ok (.iconst 0, 1) := dk_get kL_law__12_ok 26 rfl
theorem dL_law__2412 : decode cL_law_ 2412 = .ok (.ireturn, 1) := dk_get kL_law__12_ok 27 rfl
theorem dL_law__2413 : decode cL_law_ 2413 = .ok (.iload 5, 2) := dk_get kL_law__12_ok 28 rfl
theorem dL_law__2415 : decode cL_law_ 2415 = .ok (.ifCond .ne 15, 3) := dk_get kL_law__12_ok 29 rfl
theorem dL_law__2418 : decode cL_law_ 2418 = .ok (.aload_n 3, 1) := dk_get kL_law__12_ok 30 rfl
theorem dL_law__2419 : decode cL_law_ 2419 = .ok (.iconst 0, 1) := dk_get kL_law__12_ok 31 rfl
theorem dL_law__2420 : decode cL_law_ 2420 = .ok (.laload, 1) := dk_get kL_law__12_ok 32 rfl
theorem dL_law__2421 : decode cL_law_ 2421 = .ok (.iload 6, 2) := dk_get kL_law__12_ok 33 rfl
theorem dL_law__2423 : decode cL_law_ 2423 = .ok (.i2l, 1) := dk_get kL_law__12_ok 34 rfl
theorem dL_law__2424 : decode cL_law_ 2424 = .ok (.lcmp, 1) := dk_get kL_law__12_ok 35 rfl
theorem dL_law__2425 : decode cL_law_ 2425 = .ok (.ifCond .eq 5, 3) := dk_get kL_law__12_ok 36 rfl
theorem dL_law__2428 : decode cL_law_ 2428 = .ok (.iconst 0, 1) := dk_get kL_law__12_ok 37 rfl
theorem dL_law__2429 : decode cL_law_ 2429 = .ok (.ireturn, 1) := dk_get kL_law__12_ok 38 rfl
theorem dL_law__2430 : decode cL_law_ 2430 = .ok (.goto 54, 3) := dk_get kL_law__12_ok 39 rfl
theorem dL_law__2433 : decode cL_law_ 2433 = .ok (.aload_n 1, 1) := dk_get kL_law__12_ok 40 rfl
theorem dL_law__2434 : decode cL_law_ 2434 = .ok (.invokevirtual 251, 3) := dk_get kL_law__12_ok 41 rfl
theorem dL_law__2437 : decode cL_law_ 2437 = .ok (.aload_n 2, 1) := dk_get kL_law__12_ok 42 rfl
theorem dL_law__2438 : decode cL_law_ 2438 = .ok (.invokevirtual 254, 3) := dk_get kL_law__12_ok 43 rfl
theorem dL_law__2441 : decode cL_law_ 2441 = .ok (.if_icmp .eq 43, 3) := dk_get kL_law__12_ok 44 rfl
theorem dL_law__2444 : decode cL_law_ 2444 = .ok (.iconst 0, 1) := dk_get kL_law__12_ok 45 rfl
theorem dL_law__2445 : decode cL_law_ 2445 = .ok (.ireturn, 1) := dk_get kL_law__12_ok 46 rfl
theorem dL_law__2446 : decode cL_law_ 2446 = .ok (.aload_n 1, 1) := dk_get kL_law__12_ok 47 rfl
theorem dL_law__2447 : decode cL_law_ 2447 = .ok (.invokevirtual 255, 3) := dk_get kL_law__12_ok 48 rfl
theorem dL_law__2450 : decode cL_law_ 2450 = .ok (.aload_n 2, 1) := dk_get kL_law__12_ok 49 rfl
theorem dL_law__2451 : decode cL_law_ 2451 = .ok (.invokevirtual 258, 3) := dk_get kL_law__12_ok 50 rfl
theorem dL_law__2454 : decode cL_law_ 2454 = .ok (.if_icmp .eq 30, 3) := dk_get kL_law__12_ok 51 rfl
theorem dL_law__2457 : decode cL_law_ 2457 = .ok (.iconst 0, 1) := dk_get kL_law__12_ok 52 rfl
theorem dL_law__2458 : decode cL_law_ 2458 = .ok (.ireturn, 1) := dk_get kL_law__12_ok 53 rfl
theorem dL_law__2459 : decode cL_law_ 2459 = .ok (.aload_n 1, 1) := dk_get kL_law__12_ok 54 rfl
theorem dL_law__2460 : decode cL_law_ 2460 = .ok (.aload_n 0, 1) := dk_get kL_law__12_ok 55 rfl
theorem dL_law__2461 : decode cL_law_ 2461 = .ok (.iload 4, 2) := dk_get kL_law__12_ok 56 rfl
theorem dL_law__2463 : decode cL_law_ 2463 = .ok (.iconst 1, 1) := dk_get kL_law__12_ok 57 rfl
theorem dL_law__2464 : decode cL_law_ 2464 = .ok (.iadd, 1) := dk_get kL_law__12_ok 58 rfl
theorem dL_law__2465 : decode cL_law_ 2465 = .ok (.iaload, 1) := dk_get kL_law__12_ok 59 rfl
theorem dL_law__2466 : decode cL_law_ 2466 = .ok (.invokevirtual 259, 3) := dk_get kL_law__12_ok 60 rfl
theorem dL_law__2469 : decode cL_law_ 2469 = .ok (.aload_n 2, 1) := dk_get kL_law__12_ok 61 rfl
theorem dL_law__2470 : decode cL_law_ 2470 = .ok (.aload_n 0, 1) := dk_get kL_law__12_ok 62 rfl
theorem dL_law__2471 : decode cL_law_ 2471 = .ok (.iload 4, 2) := dk_get kL_law__12_ok 63 rfl
theorem dL_law__2473 : decode cL_law_ 2473 = .ok (.iconst 1, 1) := dk_get kL_law__12_ok 64 rfl
theorem dL_law__2474 : decode cL_law_ 2474 = .ok (.iadd, 1) := dk_get kL_law__12_ok 65 rfl
theorem dL_law__2475 : decode cL_law_ 2475 = .ok (.iaload, 1) := dk_get kL_law__12_ok 66 rfl
theorem dL_law__2476 : decode cL_law_ 2476 = .ok (.invokevirtual 262, 3) := dk_get kL_law__12_ok 67 rfl
theorem dL_law__2479 : decode cL_law_ 2479 = .ok (.if_icmp .eq 5, 3) := dk_get kL_law__12_ok 68 rfl
theorem dL_law__2482 : decode cL_law_ 2482 = .ok (.iconst 0, 1) := dk_get kL_law__12_ok 69 rfl
theorem dL_law__2483 : decode cL_law_ 2483 = .ok (.ireturn, 1) := dk_get kL_law__12_ok 70 rfl
theorem dL_law__2484 : decode cL_law_ 2484 = .ok (.iinc 4 6, 3) := dk_get kL_law__12_ok 71 rfl
theorem dL_law__2487 : decode cL_law_ 2487 = .ok (.goto (-2464), 3) := dk_get kL_law__12_ok 72 rfl
theorem dL_law__2490 : decode cL_law_ 2490 = .ok (.iconst 1, 1) := dk_get kL_law__12_ok 73 rfl
theorem dL_law__2491 : decode cL_law_ 2491 = .ok (.ireturn, 1) := dk_get kL_law__12_ok 74 rfl
