def kJ6_numberOfTrailingZeros_0f7a4 : List (Nat × Instr × Nat) := [(0, .iload_n 0, 1), (1, .iconst (-1), 1), (2, .ixor, 1), (3, .iload_n 0, 1), (4, .iconst 1, 1), (5, .isub, 1), (6, .iand, 1), (7, .istore_n 0, 1), (8, .iload_n 0, 1), (9, .ifCond .gt 8, 3), (12, .iload_n 0, 1), (13, .bipush 32, 2), (15, .iand, 1), (16, .ireturn, 1), (17, .iconst 1, 1), (18, .istore_n 1, 1), (19, .iload_n 0, 1), (20, .ldc_w 264, 3), (23, .if_icmp .le 11, 3), (26, .iinc 1 16, 3), (29, .iload_n 0, 1), (30, .bipush 16, 2), (32, .iushr, 1), (33, .istore_n 0, 1), (34, .iload_n 0, 1), (35, .sipush 256, 3), (38, .if_icmp .le 11, 3), (41, .iinc 1 8, 3), (44, .iload_n 0, 1), (45, .bipush 8, 2), (47, .iushr, 1), (48, .istore_n 0, 1), (49, .iload_n 0, 1), (50, .bipush 16, 2), (52, .if_icmp .le 10, 3), (55, .iinc 1 4, 3), (58, .iload_n 0, 1), (59, .iconst 4, 1), (60, .iushr, 1), (61, .istore_n 0, 1), (62, .iload_n 0, 1), (63, .iconst 4, 1), (64, .if_icmp .le 10, 3), (67, .iinc 1 2, 3), (70, .iload_n 0, 1), (71, .iconst 2, 1), (72, .iushr, 1), (73, .istore_n 0, 1), (74, .iload_n 1, 1), (75, .iload_n 0, 1), (76, .iconst 1, 1), (77, .iushr, 1), (78, .iadd, 1), (79, .ireturn, 1)]
set_option maxRecDepth 100000 in
theorem kJ6_numberOfTrailingZeros_0f7a4_ok : kJ6_numberOfTrailingZeros_0f7a4.all (fun q => decide (decode cJ6_numberOfTrailingZeros_0f7a4 q.1 = .ok q.2)) = true := by decide +kernel
theorem dJ6_numberOfTrailingZeros_0f7a4_0 : decode cJ6_numberOfTrailingZeros_0f7a4 0 = .ok (.iload_n 0, 1) := dk_get kJ6_numberOfTrailingZeros_0f7a4_ok 0 rfl
theorem dJ6_numberOfTrailingZeros_0f7a4_1 : decode cJ6_numberOfTrailingZeros_0f7a4 1 = .ok (.iconst (-1), 1) := dk_get kJ6_numberOfTrailingZeros_0f7a4_ok 1 rfl
theorem dJ6_numberOfTrailingZeros_0f7a4_2 : decode cJ6_numberOfTrailingZeros_0f7a4 2 = .ok (.ixor, 1) := dk_get kJ6_numberOfTrailingZeros_0f7a4_ok 2 rfl
theorem dJ6_numberOfTrailingZeros_0f7a4_3 : decode cJ6_numberOfTrailingZeros_0f7a4 3 = .ok (.iload_n 0, 1) := dk_get kJ6_numberOfTrailingZeros_0f7a4_ok 3 rfl
theorem dJ6_numberOfTrailingZeros_0f7a4_4 : decode cJ6_numberOfTrailingZeros_0f7a4 4 = .ok (.iconst 1, 1) := dk_get kJ6_numberOfTrailingZeros_0f7a4_ok 4 rfl
theorem dJ6_numberOfTrailingZeros_0f7a4_5 : decode cJ6_numberOfTrailingZeros_0f7a4 5 = .ok (.isub, 1) := dk_get kJ6_numberOfTrailingZeros_0f7a4_ok 5 rfl
theorem dJ6_numberOfTrailingZeros_0f7a4_6 : decode cJ6_numberOfTrailingZeros_0f7a4 6 = .ok (.iand, 1) := dk_get kJ6_numberOfTrailingZeros_0f7a4_ok 6 rfl
theorem dJ6_numberOfTrailingZeros_0f7a4_7 : decode cJ6_numberOfTrailingZeros_0f7a4 7 = .ok (.istore_n 0, 1) := dk_get kJ6_numberOfTrailingZeros_0f7a4_ok 7 rfl
theorem dJ6_numberOfTrailingZeros_0f7a4_8 : decode cJ6_numberOfTrailingZeros_0f7a4 8 = .ok (.iload_n 0, 1) := dk_get kJ6_numberOfTrailingZeros_0f7a4_ok 8 rfl
theorem dJ6_numberOfTrailingZeros_0f7a4_9 : decode cJ6_numberOfTrailingZeros_0f7a4 9 = .ok (.ifCond .gt 8, 3) := dk_get kJ6_numberOfTrailingZeros_0f7a4_ok 9 rfl
theorem dJ6_numberOfTrailingZeros_0f7a4_12 : decode cJ6_numberOfTrailingZeros_0f7a4 12 = .ok (.iload_n 0, 1) := dk_get kJ6_numberOfTrailingZeros_0f7a4_ok 10 rfl
theorem dJ6_numberOfTrailingZeros_0f7a4_13 : decode cJ6_numberOfTrailingZeros_0f7a4 13 = .ok (.bipush 32, 2) := dk_get kJ6_numberOfTrailingZeros_0f7a4_ok 11 rfl
theorem dJ6_numberOfTrailingZeros_0f7a4_15 : decode cJ6_numberOfTrailingZeros_0f7a4 15 = .ok (.iand, 1) := dk_get kJ6_numberOfTrailingZeros_0f7a4_ok 12 rfl
theorem dJ6_numberOfTrailingZeros_0f7a4_16 : decode cJ6_numberOfTrailingZeros_0f7a4 16 = .ok (.ireturn, 1) := dk_get kJ6_numberOfTrailingZeros_0f7a4_ok 13 rfl
theorem dJ6_numberOfTrailingZeros_0f7a4_17 : decode cJ6_numberOfTrailingZeros_0f7a4 17 = .ok (.iconst 1, 1) := dk_get kJ6_numberOfTrailingZeros_0f7a4_ok 14 rfl
theorem dJ6_numberOfTrailingZeros_0f7a4_18 : decode cJ6_numberOfTrailingZeros_0f7a4 18 = .ok (.istore_n 1, 1) := dk_get kJ6_numberOfTrailingZeros_0f7a4_ok 15 rfl
theorem dJ6_numberOfTrailingZeros_0f7a4_19 : decode cJ6_numberOfTrailingZeros_0f7a4 19 = .ok (.iload_n 0, 1) := dk_get kJ6_numberOfTrailingZeros_0f7a4_ok 16 rfl
theorem dJ6_numberOfTrailingZeros_0f7a4_20 : decode cJ6_numberOfTrailingZeros_0f7a4 20 = .ok (.ldc_w 264, 3) := dk_get kJ6_numberOfTrailingZeros_0f7a4_ok 17 rfl
theorem dJ6_numberOfTrailingZeros_0f7a4_23 : decode cJ6_numberOfTrailingZeros_0f7a4 23 = .ok (.if_icmp .le 11, 3) := dk_get kJ6_numberOfTrailingZeros_0f7a4_ok 18 rfl
theorem dJ6_numberOfTrailingZeros_0f7a4_26 : decode cJ6_numberOfTrailingZeros_0f7a4 26 = .ok (.iinc 1 16, 3) := dk_get kJ6_numberOfTrailingZeros_0f7a4_ok 19 rfl
theorem dJ6_numberOfTrailingZeros_0f7a4_29 : decode cJ6_numberOfTrailingZeros_0f7a4 29 = .ok (.iload_n 0, 1) := dk_get kJ6_numberOfTrailingZeros_0f7a4_ok 20 rfl
theorem dJ6_numberOfTrailingZeros_0f7a4_30 : decode cJ6_numberOfTrailingZeros_0f7a4 30 = .ok (.bipush 16, 2) := dk_get kJ6_numberOfTrailingZeros_0f7a4_ok 21 rfl
theorem dJ6_numberOfTrailingZeros_0f7a4_32 : decode cJ6_numberOfTrailingZeros_0f7a4 32 = .ok (.iushr, 1) := dk_get kJ6_numberOfTrailingZeros_0f7a4_ok 22 rfl
theorem dJ6_numberOfTrailingZeros_0f7a4_33 : decode cJ6_numberOfTrailingZeros_0f7a4 33 = .ok (.istore_n 0, 1) := dk_get kJ6_numberOfTrailingZeros_0f7a4_ok 23 rfl
theorem dJ6_numberOfTrailingZeros_0f7a4_34 : decode cJ6_numberOfTrailingZeros_0f7a4 34 = .ok (.iload_n 0, 1) := dk_get kJ6_numberOfTrailingZeros_0f7a4_ok 24 rfl
theorem dJ6_numberOfTrailingZeros_0f7a4_35 : decode cJ6_numberOfTrailingZeros_0f7a4 35 = .ok (.sipush 256, 3) := dk_get kJ6_numberOfTrailingZeros_0f7a4_ok 25 rfl
theorem dJ6_numberOfTrailingZeros_0f7a4_38 : decode cJ6_numberOfTrailingZeros_0f7a4 38 = .ok (.if_icmp .le 11, 3) := dk_get kJ6_numberOfTrailingZeros_0f7a4_ok 26 rfl
theorem dJ6_numberOfTrailingZeros_0f7a4_41 : decode cJ6_numberOfTrailingZeros_0f7a4 41 = .ok (.iinc 1 8, 3) := dk_get kJ6_numberOfTrailingZeros_0f7a4_ok 27 rfl
theorem dJ6_numberOfTrailingZeros_0f7a4_44 : decode cJ6_numberOfTrailingZeros_0f7a4 44 = .ok (.iload_n 0, 1) := dk_get kJ6_numberOfTrailingZeros_0f7a4_ok 28 rfl
theorem dJ6_numberOfTrailingZeros_0f7a4_45 : decode cJ6_numberOfTrailingZeros_0f7a4 45 = .ok (.bipush 8, 2) := dk_get kJ6_numberOfTrailingZeros_0f7a4_ok 29 rfl
theorem dJ6_numberOfTrailingZeros_0f7a4_47 : decode cJ6_numberOfTrailingZeros_0f7a4 47 = .ok (.iushr, 1) := dk_get kJ6_numberOfTrailingZeros_0f7a4_ok 30 rfl
theorem dJ6_numberOfTrailingZeros_0f7a4_48 : decode cJ6_numberOfTrailingZeros_0f7a4 48 = .ok (.istore_n 0, 1) := dk_get kJ6_numberOfTrailingZeros_0f7a4_ok 31 rfl
theorem dJ6_numberOfTrailingZeros_0f7a4_49 : decode cJ6_numberOfTrailingZeros_0f7a4 49 = .ok (.iload_n 0, 1) := dk_get kJ6_numberOfTrailingZeros_0f7a4_ok 32 rfl
theorem dJ6_numberOfTrailingZeros_0f7a4_50 : decode cJ6_numberOfTrailingZeros_0f7a4 50 = .ok (.bipush 16, 2) := dk_get kJ6_numberOfTrailingZeros_0f7a4_ok 33 rfl
theorem dJ6_numberOfTrailingZeros_0f7a4_52 : decode cJ6_numberOfTrailingZeros_0f7a4 52 = .ok (.if_icmp .le 10, 3) := dk_get kJ6_numberOfTrailingZeros_0f7a4_ok 34 rfl
theorem dJ6_numberOfTrailingZeros_0f7a4_55 : decode cJ6_numberOfTrailingZeros_0f7a4 55 = .ok (.iinc 1 4, 3) := dk_get kJ6_numberOfTrailingZeros_0f7a4_ok 35 rfl
theorem dJ6_numberOfTrailingZeros_0f7a4_58 : decode cJ6_numberOfTrailingZeros_0f7a4 58 = .ok (.iload_n 0, 1) := dk_get kJ6_numberOfTrailingZeros_0f7a4_ok 36 rfl
theorem dJ6_numberOfTrailingZeros_0f7a4_59 : decode cJ6_numberOfTrailingZeros_0f7a4 59 = .ok (.iconst 4, 1) := dk_get kJ6_numberOfTrailingZeros_0f7a4_ok 37 rfl
theorem dJ6_numberOfTrailingZeros_0f7a4_60 : decode cJ6_numberOfTrailingZeros_0f7a4 60 = .ok (.iushr, 1) := dk_get kJ6_numberOfTrailingZeros_0f7a4_ok 38 rfl
theorem dJ6_numberOfTrailingZeros_0f7a4_61 : decode cJ6_numberOfTrailingZeros_0f7a4 61 = .ok (.istore_n 0, 1) := dk_get kJ6_numberOfTrailingZeros_0f7a4_ok 39 rfl
theorem dJ6_numberOfTrailingZeros_0f7a4_62 : decode cJ6_numberOfTrailingZeros_0f7a4 62 = .ok (.iload_n 0, 1) := dk_get kJ6_numberOfTrailingZeros_0f7a4_ok 40 rfl
theorem dJ6_numberOfTrailingZeros_0f7a4_63 : decode cJ6_numberOfTrailingZeros_0f7a4 63 = .ok (.iconst 4, 1) := dk_get kJ6_numberOfTrailingZeros_0f7a4_ok 41 rfl
theorem dJ6_numberOfTrailingZeros_0f7a4_64 : decode cJ6_numberOfTrailingZeros_0f7a4 64 = .ok (.if_icmp .le 10, 3) := dk_get kJ6_numberOfTrailingZeros_0f7a4_ok 42 rfl
theorem dJ6_numberOfTrailingZeros_0f7a4_67 : decode cJ6_numberOfTrailingZeros_0f7a4 67 = .ok (.iinc 1 2, 3) := dk_get kJ6_numberOfTrailingZeros_0f7a4_ok 43 rfl
theorem dJ6_numberOfTrailingZeros_0f7a4_70 : decode cJ6_numberOfTrailingZeros_0f7a4 70 = .ok (.iload_n 0, 1) := dk_get kJ6_numberOfTrailingZeros_0f7a4_ok 44 rfl
theorem dJ6_numberOfTrailingZeros_0f7a4_71 : decode cJ6_numberOfTrailingZeros_0f7a4 71 = .ok (.iconst 2, 1) := dk_get kJ6_numberOfTrailingZeros_0f7a4_ok 45 rfl
theorem dJ6_numberOfTrailingZeros_0f7a4_72 : decode cJ6_numberOfTrailingZeros_0f7a4 72 = .ok (.iushr, 1) := dk_get kJ6_numberOfTrailingZeros_0f7a4_ok 46 rfl
theorem dJ6_numberOfTrailingZeros_0f7a4_73 : decode cJ6_numberOfTrailingZeros_0f7a4 73 = .ok (.istore_n 0, 1) := dk_get kJ6_numberOfTrailingZeros_0f7a4_ok 47 rfl
theorem dJ6_numberOfTrailingZeros_0f7a4_74 : decode cJ6_numberOfTrailingZeros_0f7a4 74 = .ok (.iload_n 1, 1) := dk_get kJ6_numberOfTrailingZeros_0f7a4_ok 48 rfl
theorem dJ6_numberOfTrailingZeros_0f7a4_75 : decode cJ6_numberOfTrailingZeros_0f7a4 75 = .ok (.iload_n 0, 1) := dk_get kJ6_numberOfTrailingZeros_0f7a4_ok 49 rfl
theorem dJ6_numberOfTrailingZeros_0f7a4_76 : decode cJ6_numberOfTrailingZeros_0f7a4 76 = .ok (.iconst 1, 1) := dk_get kJ6_numberOfTrailingZeros_0f7a4_ok 50 rfl
theorem dJ6_numberOfTrailingZeros_0f7a4_77 : decode cJ6_numberOfTrailingZeros_0f7a4 77 = .ok (.iushr, 1) := dk_get kJ6_numberOfTrailingZeros_0f7a4_ok 51 rfl
theorem dJ6_numberOfTrailingZeros_0f7a4_78 : decode cJ6_numberOfTrailingZeros_0f7a4 78 = .ok (.iadd, 1) := dk_get kJ6_numberOfTrailingZeros_0f7a4_ok 52 rfl
theorem dJ6_numberOfTrailingZeros_0f7a4_79 : decode cJ6_numberOfTrailingZeros_0f7a4 79 = .ok (.ireturn, 1) := dk_get kJ6_numberOfTrailingZeros_0f7a4_ok 53 rfl
def kJ6_bitCount_0f7a4 : List (Nat × Instr × Nat) := [(0, .iload_n 0, 1), (1, .iload_n 0, 1), (2, .iconst 1, 1), (3, .iushr, 1), (4, .ldc_w 265, 3), (7, .iand, 1), (8, .isub, 1), (9, .istore_n 0, 1), (10, .iload_n 0, 1), (11, .ldc_w 266, 3), (14, .iand, 1), (15, .iload_n 0, 1), (16, .iconst 2, 1), (17, .iushr, 1), (18, .ldc_w 266, 3), (21, .iand, 1), (22, .iadd, 1), (23, .istore_n 0, 1), (24, .iload_n 0, 1), (25, .iload_n 0, 1), (26, .iconst 4, 1), (27, .iushr, 1), (28, .iadd, 1), (29, .ldc_w 267, 3), (32, .iand, 1), (33, .istore_n 0, 1), (34, .iload_n 0, 1), (35, .iload_n 0, 1), (36, .bipush 8, 2), (38, .iushr, 1), (39, .iadd, 1), (40, .istore_n 0, 1), (41, .iload_n 0, 1), (42, .iload_n 0, 1), (43, .bipush 16, 2), (45, .iushr, 1), (46, .iadd, 1), (47, .istore_n 0, 1), (48, .iload_n 0, 1), (49, .bipush 63, 2), (51, .iand, 1), (52, .ireturn, 1)]
set_option maxRecDepth 100000 in
theorem kJ6_bitCount_0f7a4_ok : kJ6_bitCount_0f7a4.all (fun q => decide (decode cJ6_bitCount_0f7a4 q.1 = .ok q.2)) = true := by decide +kernel
theorem dJ6_bitCount_0f7a4_0 : decode cJ6_bitCount_0f7a4 0 = .ok (.iload_n 0, 1) := dk_get kJ6_bitCount_0f7a4_ok 0 rfl
theorem dJ6_bitCount_0f7a4_1 : decode cJ6_bitCount_0f7a4 1 = .ok (.iload_n 0, 1) := dk_get kJ6_bitCount_0f7a4_ok 1 rfl
theorem dJ6_bitCount_0f7a4_2 : decode cJ6_bitCount_0f7a4 2 = .ok (.iconst 1, 1) := dk_get kJ6_bitCount_0f7a4_ok 2 rfl
theorem dJ6_bitCount_0f7a4_3 : decode cJ6_bitCount_0f7a4 3 = .ok (.iushr, 1) := dk_get kJ6_bitCount_0f7a4_ok 3 rfl
theorem dJ6_bitCount_0f7a4_4 : decode cJ6_bitCount_0f7a4 4 = .ok (.ldc_w 265, 3) := dk_get kJ6_bitCount_0f7a4_ok 4 rfl
theorem dJ6_bitCount_0f7a4_7 : decode cJ6_bitCount_0f7a4 7 = .ok (.iand, 1) := dk_get kJ6_bitCount_0f7a4_ok 5 rfl
theorem dJ6_bitCount_0f7a4_8 : decode cJ6_bitCount_0f7a4 8 = .ok (.isub, 1) := dk_get kJ6_bitCount_0f7a4_ok 6 rfl
theorem dJ6_bitCount_0f7a4_9 : decode cJ6_bitCount_0f7a4 9 = .ok (.istore_n 0, 1) := dk_get kJ6_bitCount_0f7a4_ok 7 rfl
theorem dJ6_bitCount_0f7a4_10 : decode cJ6_bitCount_0f7a4 10 = .ok (.iload_n 0, 1) := dk_get kJ6_bitCount_0f7a4_ok 8 rfl
theorem dJ6_bitCount_0f7a4_11 : decode cJ6_bitCount_0f7a4 11 = .ok (.ldc_w 266, 3) := dk_get kJ6_bitCount_0f7a4_ok 9 rfl
theorem dJ6_bitCount_0f7a4_14 : decode cJ6_bitCount_0f7a4 14 = .ok (.iand, 1) := dk_get kJ6_bitCount_0f7a4_ok 10 rfl
theorem dJ6_bitCount_0f7a4_15 : decode cJ6_bitCount_0f7a4 15 = .ok (.iload_n 0, 1) := dk_get kJ6_bitCount_0f7a4_ok 11 rfl
theorem dJ6_bitCount_0f7a4_16 : decode cJ6_bitCount_0f7a4 16 = .ok (.iconst 2, 1) := dk_get kJ6_bitCount_0f7a4_ok 12 rfl
theorem dJ6_bitCount_0f7a4_17 : decode cJ6_bitCount_0f7a4 17 = .ok (.iushr, 1) := dk_get kJ6_bitCount_0f7a4_ok 13 rfl
theorem dJ6_bitCount_0f7a4_18 : decode cJ6_bitCount_0f7a4 18 = .ok (.ldc_w 266, 3) := dk_get kJ6_bitCount_0f7a4_ok 14 rfl
theorem dJ6_bitCount_0f7a4_21 : decode cJ6_bitCount_0f7a4 21 = .ok (.iand, 1) := dk_get kJ6_bitCount_0f7a4_ok 15 rfl
theorem dJ6_bitCount_0f7a4_22 : decode cJ6_bitCount_0f7a4 22 = .ok (.iadd, 1) := dk_get kJ6_bitCount_0f7a4_ok 16 rfl
theorem dJ6_bitCount_0f7a4_23 : decode cJ6_bitCount_0f7a4 23 = .ok (.istore_n 0, 1) := dk_get kJ6_bitCount_0f7a4_ok 17 rfl
theorem dJ6_bitCount_0f7a4_24 : decode cJ6_bitCount_0f7a4 24 = .ok (.iload_n 0, 1) := dk_get kJ6_bitCount_0f7a4_ok 18 rfl
theorem dJ6_bitCount_0f7a4_25 : decode cJ6_bitCount_0f7a4 25 = .ok (.iload_n 0, 1) := dk_get kJ6_bitCount_0f7a4_ok 19 rfl
theorem dJ6_bitCount_0f7a4_26 : decode cJ6_bitCount_0f7a4 26 = .ok (.iconst 4, 1) := dk_get kJ6_bitCount_0f7a4_ok 20 rfl
theorem dJ6_bitCount_0f7a4_27 : decode cJ6_bitCount_0f7a4 27 = .ok (.iushr, 1) := dk_get kJ6_bitCount_0f7a4_ok 21 rfl
theorem dJ6_bitCount_0f7a4_28 : decode cJ6_bitCount_0f7a4 28 = .ok (.iadd, 1) := dk_get kJ6_bitCount_0f7a4_ok 22 rfl
theorem dJ6_bitCount_0f7a4_29 : decode cJ6_bitCount_0f7a4 29 = .ok (.ldc_w 267, 3) := dk_get kJ6_bitCount_0f7a4_ok 23 rfl
theorem dJ6_bitCount_0f7a4_32 : decode cJ6_bitCount_0f7a4 32 = .ok (.iand, 1) := dk_get kJ6_bitCount_0f7a4_ok 24 rfl
theorem dJ6_bitCount_0f7a4_33 : decode cJ6_bitCount_0f7a4 33 = .ok (.istore_n 0, 1) := dk_get kJ6_bitCount_0f7a4_ok 25 rfl
theorem dJ6_bitCount_0f7a4_34 : decode cJ6_bitCount_0f7a4 34 = .ok (.iload_n 0, 1) := dk_get kJ6_bitCount_0f7a4_ok 26 rfl
theorem dJ6_bitCount_0f7a4_35 : decode cJ6_bitCount_0f7a4 35 = .ok (.iload_n 0, 1) := dk_get kJ6_bitCount_0f7a4_ok 27 rfl
theorem dJ6_bitCount_0f7a4_36 : decode cJ6_bitCount_0f7a4 36 = .ok (.bipush 8, 2) := dk_get kJ6_bitCount_0f7a4_ok 28 rfl
theorem dJ6_bitCount_0f7a4_38 : decode cJ6_bitCount_0f7a4 38 = .ok (.iushr, 1) := dk_get kJ6_bitCount_0f7a4_ok 29 rfl
theorem dJ6_bitCount_0f7a4_39 : decode cJ6_bitCount_0f7a4 39 = .ok (.iadd, 1) := dk_get kJ6_bitCount_0f7a4_ok 30 rfl
theorem dJ6_bitCount_0f7a4_40 : decode cJ6_bitCount_0f7a4 40 = .ok (.istore_n 0, 1) := dk_get kJ6_bitCount_0f7a4_ok 31 rfl
theorem dJ6_bitCount_0f7a4_41 : decode cJ6_bitCount_0f7a4 41 = .ok (.iload_n 0, 1) := dk_get kJ6_bitCount_0f7a4_ok 32 rfl
theorem dJ6_bitCount_0f7a4_42 : decode cJ6_bitCount_0f7a4 42 = .ok (.iload_n 0, 1) := dk_get kJ6_bitCount_0f7a4_ok 33 rfl
theorem dJ6_bitCount_0f7a4_43 : decode cJ6_bitCount_0f7a4 43 = .ok (.bipush 16, 2) := dk_get kJ6_bitCount_0f7a4_ok 34 rfl
theorem dJ6_bitCount_0f7a4_45 : decode cJ6_bitCount_0f7a4 45 = .ok (.iushr, 1) := dk_get kJ6_bitCount_0f7a4_ok 35 rfl
theorem dJ6_bitCount_0f7a4_46 : decode cJ6_bitCount_0f7a4 46 = .ok (.iadd, 1) := dk_get kJ6_bitCount_0f7a4_ok 36 rfl
theorem dJ6_bitCount_0f7a4_47 : decode cJ6_bitCount_0f7a4 47 = .ok (.istore_n 0, 1) := dk_get kJ6_bitCount_0f7a4_ok 37 rfl
theorem dJ6_bitCount_0f7a4_48 : decode cJ6_bitCount_0f7a4 48 = .ok (.iload_n 0, 1) := dk_get kJ6_bitCount_0f7a4_ok 38 rfl
theorem dJ6_bitCount_0f7a4_49 : decode cJ6_bitCount_0f7a4 49 = .ok (.bipush 63, 2) := dk_get kJ6_bitCount_0f7a4_ok 39 rfl
theorem dJ6_bitCount_0f7a4_51 : decode cJ6_bitCount_0f7a4 51 = .ok (.iand, 1) := dk_get kJ6_bitCount_0f7a4_ok 40 rfl
theorem dJ6_bitCount_0f7a4_52 : decode cJ6_bitCount_0f7a4 52 = .ok (.ireturn, 1) := dk_get kJ6_bitCount_0f7a4_ok 41 rfl
def kJ13_bitCount_95d88 : List (Nat × Instr × Nat) := [(0, .lload_n 0, 1), (1, .lload_n 0, 1), (2, .iconst 1, 1), (3, .lushr, 1), (4, .ldc2_w 314, 3), (7, .land, 1), (8, .lsub, 1), (9, .lstore_n 0, 1), (10, .lload_n 0, 1), (11, .ldc2_w 316, 3), (14, .land, 1), (15, .lload_n 0, 1), (16, .iconst 2, 1), (17, .lushr, 1), (18, .ldc2_w 316, 3), (21, .land, 1), (22, .ladd, 1), (23, .lstore_n 0, 1), (24, .lload_n 0, 1), (25, .lload_n 0, 1), (26, .iconst 4, 1), (27, .lushr, 1), (28, .ladd, 1), (29, .ldc2_w 318, 3), (32, .land, 1), (33, .lstore_n 0, 1), (34, .lload_n 0, 1), (35, .lload_n 0, 1), (36, .bipush 8, 2), (38, .lushr, 1), (39, .ladd, 1), (40, .lstore_n 0, 1), (41, .lload_n 0, 1), (42, .lload_n 0, 1), (43, .bipush 16, 2), (45, .lushr, 1), (46, .ladd, 1), (47, .lstore_n 0, 1), (48, .lload_n 0, 1), (49, .lload_n 0, 1), (50, .bipush 32, 2), (52, .lushr, 1), (53, .ladd, 1), (54, .lstore_n 0, 1), (55, .lload_n 0, 1), (56, .l2i, 1), (57, .bipush 127, 2), (59, .iand, 1), (60, .ireturn, 1)]
set_option maxRecDepth 100000 in
theorem kJ13_bitCount_95d88_ok : kJ13_bitCount_95d88.all (fun q => decide (decode cJ13_bitCount_95d88 q.1 = .ok q.2)) = true := by decide +kernel
theorem dJ13_bitCount_95d88_0 : decode cJ13_bitCount_95d88 0 = .ok (.lload_n 0, 1) := dk_get kJ13_bitCount_95d88_ok 0 rfl
theorem dJ13_bitCount_95d88_1 : decode cJ13_bitCount_95d88 1 = .ok (.lload_n 0, 1) := dk_get kJ13_bitCount_95d88_ok 1 rfl
theorem dJ13_bitCount_95d88_2 : decode cJ13_bitCount_95d88 2 = .ok (.iconst 1, 1) := dk_get kJ13_bitCount_95d88_ok 2 rfl
theorem dJ13_bitCount_95d88_3 : decode cJ13_bitCount_95d88 3 = .ok (.lushr, 1) := dk_get kJ13_bitCount_95d88_ok 3 rfl
theorem dJ13_bitCount_95d88_4 : decode cJ13_bitCount_95d88 4 = .ok (.ldc2_w 314, 3) := dk_get kJ13_bitCount_95d88_ok 4 rfl
theorem dJ13_bitCount_95d88_7 : decode cJ13_bitCount_95d88 7 = .ok (.land, 1) := dk_get kJ13_bitCount_95d88_ok 5 rfl
theorem dJ13_bitCount_95d88_8 : decode cJ13_bitCount_95d88 8 = .ok (.lsub, 1) := dk_get kJ13_bitCount_95d88_ok 6 rfl
theorem dJ13_bitCount_95d88_9 : decode cJ13_bitCount_95d88 9 = .ok (.lstore_n 0, 1) := dk_get kJ13_bitCount_95d88_ok 7 rfl
theorem dJ13_bitCount_95d88_10 : decode cJ13_bitCount_95d88 10 = .ok (.lload_n 0, 1) := dk_get kJ13_bitCount_95d88_ok 8 rfl
theorem dJ13_bitCount_95d88_11 : decode cJ13_bitCount_95d88 11 = .ok (.ldc2_w 316, 3) := dk_get kJ13_bitCount_95d88_ok 9 rfl
theorem dJ13_bitCount_95d88_14 : decode cJ13_bitCount_95d88 14 = .ok (.land, 1) := dk_get kJ13_bitCount_95d88_ok 10 rfl
theorem dJ13_bitCount_95d88_15 : decode cJ13_bitCount_95d88 15 = .ok (.lload_n 0, 1) := dk_get kJ13_bitCount_95d88_ok 11 rfl
theorem dJ13_bitCount_95d88_16 : decode cJ13_bitCount_95d88 16 = .ok (.iconst 2, 1) := dk_get kJ13_bitCount_95d88_ok 12 rfl
theorem dJ13_bitCount_95d88_17 : decode cJ13_bitCount_95d88 17 = .ok (.lushr, 1) := dk_get kJ13_bitCount_95d88_ok 13 rfl
theorem dJ13_bitCount_95d88_18 : decode cJ13_bitCount_95d88 18 = .ok (.ldc2_w 316, 3) := dk_get kJ13_bitCount_95d88_ok 14 rfl
theorem dJ13_bitCount_95d88_21 : decode cJ13_bitCount_95d88 21 = .ok (.land, 1) := dk_get kJ13_bitCount_95d88_ok 15 rfl
theorem dJ13_bitCount_95d88_22 : decode cJ13_bitCount_95d88 22 = .ok (.ladd, 1) := dk_get kJ13_bitCount_95d88_ok 16 rfl
theorem dJ13_bitCount_95d88_23 : decode cJ13_bitCount_95d88 23 = .ok (.lstore_n 0, 1) := dk_get kJ13_bitCount_95d88_ok 17 rfl
theorem dJ13_bitCount_95d88_24 : decode cJ13_bitCount_95d88 24 = .ok (.lload_n 0, 1) := dk_get kJ13_bitCount_95d88_ok 18 rfl
theorem dJ13_bitCount_95d88_25 : decode cJ13_bitCount_95d88 25 = .ok (.lload_n 0, 1) := dk_get kJ13_bitCount_95d88_ok 19 rfl
theorem dJ13_bitCount_95d88_26 : decode cJ13_bitCount_95d88 26 = .ok (.iconst 4, 1) := dk_get kJ13_bitCount_95d88_ok 20 rfl
theorem dJ13_bitCount_95d88_27 : decode cJ13_bitCount_95d88 27 = .ok (.lushr, 1) := dk_get kJ13_bitCount_95d88_ok 21 rfl
theorem dJ13_bitCount_95d88_28 : decode cJ13_bitCount_95d88 28 = .ok (.ladd, 1) := dk_get kJ13_bitCount_95d88_ok 22 rfl
theorem dJ13_bitCount_95d88_29 : decode cJ13_bitCount_95d88 29 = .ok (.ldc2_w 318, 3) := dk_get kJ13_bitCount_95d88_ok 23 rfl
theorem dJ13_bitCount_95d88_32 : decode cJ13_bitCount_95d88 32 = .ok (.land, 1) := dk_get kJ13_bitCount_95d88_ok 24 rfl
theorem dJ13_bitCount_95d88_33 : decode cJ13_bitCount_95d88 33 = .ok (.lstore_n 0, 1) := dk_get kJ13_bitCount_95d88_ok 25 rfl
theorem dJ13_bitCount_95d88_34 : decode cJ13_bitCount_95d88 34 = .ok (.lload_n 0, 1) := dk_get kJ13_bitCount_95d88_ok 26 rfl
theorem dJ13_bitCount_95d88_35 : decode cJ13_bitCount_95d88 35 = .ok (.lload_n 0, 1) := dk_get kJ13_bitCount_95d88_ok 27 rfl
theorem dJ13_bitCount_95d88_36 : decode cJ13_bitCount_95d88 36 = .ok (.bipush 8, 2) := dk_get kJ13_bitCount_95d88_ok 28 rfl
theorem dJ13_bitCount_95d88_38 : decode cJ13_bitCount_95d88 38 = .ok (.lushr, 1) := dk_get kJ13_bitCount_95d88_ok 29 rfl
theorem dJ13_bitCount_95d88_39 : decode cJ13_bitCount_95d88 39 = .ok (.ladd, 1) := dk_get kJ13_bitCount_95d88_ok 30 rfl
theorem dJ13_bitCount_95d88_40 : decode cJ13_bitCount_95d88 40 = .ok (.lstore_n 0, 1) := dk_get kJ13_bitCount_95d88_ok 31 rfl
theorem dJ13_bitCount_95d88_41 : decode cJ13_bitCount_95d88 41 = .ok (.lload_n 0, 1) := dk_get kJ13_bitCount_95d88_ok 32 rfl
theorem dJ13_bitCount_95d88_42 : decode cJ13_bitCount_95d88 42 = .ok (.lload_n 0, 1) := dk_get kJ13_bitCount_95d88_ok 33 rfl
theorem dJ13_bitCount_95d88_43 : decode cJ13_bitCount_95d88 43 = .ok (.bipush 16, 2) := dk_get kJ13_bitCount_95d88_ok 34 rfl
theorem dJ13_bitCount_95d88_45 : decode cJ13_bitCount_95d88 45 = .ok (.lushr, 1) := dk_get kJ13_bitCount_95d88_ok 35 rfl
theorem dJ13_bitCount_95d88_46 : decode cJ13_bitCount_95d88 46 = .ok (.ladd, 1) := dk_get kJ13_bitCount_95d88_ok 36 rfl
theorem dJ13_bitCount_95d88_47 : decode cJ13_bitCount_95d88 47 = .ok (.lstore_n 0, 1) := dk_get kJ13_bitCount_95d88_ok 37 rfl
theorem dJ13_bitCount_95d88_48 : decode cJ13_bitCount_95d88 48 = .ok (.lload_n 0, 1) := dk_get kJ13_bitCount_95d88_ok 38 rfl
theorem dJ13_bitCount_95d88_49 : decode cJ13_bitCount_95d88 49 = .ok (.lload_n 0, 1) := dk_get kJ13_bitCount_95d88_ok 39 rfl
theorem dJ13_bitCount_95d88_50 : decode cJ13_bitCount_95d88 50 = .ok (.bipush 32, 2) := dk_get kJ13_bitCount_95d88_ok 40 rfl
theorem dJ13_bitCount_95d88_52 : decode cJ13_bitCount_95d88 52 = .ok (.lushr, 1) := dk_get kJ13_bitCount_95d88_ok 41 rfl
theorem dJ13_bitCount_95d88_53 : decode cJ13_bitCount_95d88 53 = .ok (.ladd, 1) := dk_get kJ13_bitCount_95d88_ok 42 rfl
theorem dJ13_bitCount_95d88_54 : decode cJ13_bitCount_95d88 54 = .ok (.lstore_n 0, 1) := dk_get kJ13_bitCount_95d88_ok 43 rfl
theorem dJ13_bitCount_95d88_55 : decode cJ13_bitCount_95d88 55 = .ok (.lload_n 0, 1) := dk_get kJ13_bitCount_95d88_ok 44 rfl
theorem dJ13_bitCount_95d88_56 : decode cJ13_bitCount_95d88 56 = .ok (.l2i, 1) := dk_get kJ13_bitCount_95d88_ok 45 rfl
theorem dJ13_bitCount_95d88_57 : decode cJ13_bitCount_95d88 57 = .ok (.bipush 127, 2) := dk_get kJ13_bitCount_95d88_ok 46 rfl
theorem dJ13_bitCount_95d88_59 : decode cJ13_bitCount_95d88 59 = .ok (.iand, 1) := dk_get kJ13_bitCount_95d88_ok 47 rfl
theorem dJ13_bitCount_95d88_60 : decode cJ13_bitCount_95d88 60 = .ok (.ireturn, 1) := dk_get kJ13_bitCount_95d88_ok 48 rfl
def kJ9_abs_0f7a4 : List (Nat × Instr × Nat) := [(0, .iload_n 0, 1), (1, .ifCond .ge 8, 3), (4, .iload_n 0, 1), (5, .ineg, 1), (6, .goto 4, 3), (9, .iload_n 0, 1), (10, .ireturn, 1)]
set_option maxRecDepth 100000 in
theorem kJ9_abs_0f7a4_ok : kJ9_abs_0f7a4.all (fun q => decide (decode cJ9_abs_0f7a4 q.1 = .ok q.2)) = true := by decide +kernel
theorem dJ9_abs_0f7a4_0 : decode cJ9_abs_0f7a4 0 = .ok (.iload_n 0, 1) := dk_get kJ9_abs_0f7a4_ok 0 rfl
theorem dJ9_abs_0f7a4_1 : decode cJ9_abs_0f7a4 1 = .ok (.ifCond .ge 8, 3) := dk_get kJ9_abs_0f7a4_ok 1 rfl
theorem dJ9_abs_0f7a4_4 : decode cJ9_abs_0f7a4 4 = .ok (.iload_n 0, 1) := dk_get kJ9_abs_0f7a4_ok 2 rfl
theorem dJ9_abs_0f7a4_5 : decode cJ9_abs_0f7a4 5 = .ok (.ineg, 1) := dk_get kJ9_abs_0f7a4_ok 3 rfl
theorem dJ9_abs_0f7a4_6 : decode cJ9_abs_0f7a4 6 = .ok (.goto 4, 3) := dk_get kJ9_abs_0f7a4_ok 4 rfl
theorem dJ9_abs_0f7a4_9 : decode cJ9_abs_0f7a4 9 = .ok (.iload_n 0, 1) := dk_get kJ9_abs_0f7a4_ok 5 rfl
theorem dJ9_abs_0f7a4_10 : decode cJ9_abs_0f7a4 10 = .ok (.ireturn, 1) := dk_get kJ9_abs_0f7a4_ok 6 rfl
def kJ9_max_7cf53 : List (Nat × Instr × Nat) := [(0, .iload_n 0, 1), (1, .iload_n 1, 1), (2, .if_icmp .lt 7, 3), (5, .iload_n 0, 1), (6, .goto 4, 3), (9, .iload_n 1, 1), (10, .ireturn, 1)]
set_option maxRecDepth 100000 in
theorem kJ9_max_7cf53_ok : kJ9_max_7cf53.all (fun q => decide (decode cJ9_max_7cf53 q.1 = .ok q.2)) = true := by decide +kernel
theorem dJ9_max_7cf53_0 : decode cJ9_max_7cf53 0 = .ok (.iload_n 0, 1) := dk_get kJ9_max_7cf53_ok 0 rfl
theorem dJ9_max_7cf53_1 : decode cJ9_max_7cf53 1 = .ok (.iload_n 1, 1) := dk_get kJ9_max_7cf53_ok 1 rfl
theorem dJ9_max_7cf53_2 : decode cJ9_max_7cf53 2 = .ok (.if_icmp .lt 7, 3) := dk_get kJ9_max_7cf53_ok 2 rfl
theorem dJ9_max_7cf53_5 : decode cJ9_max_7cf53 5 = .ok (.iload_n 0, 1) := dk_get kJ9_max_7cf53_ok 3 rfl
theorem dJ9_max_7cf53_6 : decode cJ9_max_7cf53 6 = .ok (.goto 4, 3) := dk_get kJ9_max_7cf53_ok 4 rfl
theorem dJ9_max_7cf53_9 : decode cJ9_max_7cf53 9 = .ok (.iload_n 1, 1) := dk_get kJ9_max_7cf53_ok 5 rfl
theorem dJ9_max_7cf53_10 : decode cJ9_max_7cf53 10 = .ok (.ireturn, 1) := dk_get kJ9_max_7cf53_ok 6 rfl
def kJ9_min_7cf53 : List (Nat × Instr × Nat) := [(0, .iload_n 0, 1), (1, .iload_n 1, 1), (2, .if_icmp .gt 7, 3), (5, .iload_n 0, 1), (6, .goto 4, 3), (9, .iload_n 1, 1), (10, .ireturn, 1)]
set_option maxRecDepth 100000 in
theorem kJ9_min_7cf53_ok : kJ9_min_7cf53.all (fun q => decide (decode cJ9_min_7cf53 q.1 = .ok q.2)) = true := by decide +kernel
theorem dJ9_min_7cf53_0 : decode cJ9_min_7cf53 0 = .ok (.iload_n 0, 1) := dk_get kJ9_min_7cf53_ok 0 rfl
theorem dJ9_min_7cf53_1 : decode cJ9_min_7cf53 1 = .ok (.iload_n 1, 1) := dk_get kJ9_min_7cf53_ok 1 rfl
theorem dJ9_min_7cf53_2 : decode cJ9_min_7cf53 2 = .ok (.if_icmp .gt 7, 3) := dk_get kJ9_min_7cf53_ok 2 rfl
theorem dJ9_min_7cf53_5 : decode cJ9_min_7cf53 5 = .ok (.iload_n 0, 1) := dk_get kJ9_min_7cf53_ok 3 rfl
theorem dJ9_min_7cf53_6 : decode cJ9_min_7cf53 6 = .ok (.goto 4, 3) := dk_get kJ9_min_7cf53_ok 4 rfl
theorem dJ9_min_7cf53_9 : decode cJ9_min_7cf53 9 = .ok (.iload_n 1, 1) := dk_get kJ9_min_7cf53_ok 5 rfl
theorem dJ9_min_7cf53_10 : decode cJ9_min_7cf53 10 = .ok (.ireturn, 1) := dk_get kJ9_min_7cf53_ok 6 rfl
def kJ0_length_8abf5 : List (Nat × Instr × Nat) := [(0, .aload_n 0, 1), (1, .getfield 9, 3), (4, .arraylength, 1), (5, .aload_n 0, 1), (6, .invokevirtual 335, 3), (9, .ishr, 1), (10, .ireturn, 1)]
set_option maxRecDepth 100000 in
theorem kJ0_length_8abf5_ok : kJ0_length_8abf5.all (fun q => decide (decode cJ0_length_8abf5 q.1 = .ok q.2)) = true := by decide +kernel
theorem dJ0_length_8abf5_0 : decode cJ0_length_8abf5 0 = .ok (.aload_n 0, 1) := dk_get kJ0_length_8abf5_ok 0 rfl
theorem dJ0_length_8abf5_1 : decode cJ0_length_8abf5 1 = .ok (.getfield 9, 3) := dk_get kJ0_length_8abf5_ok 1 rfl
theorem dJ0_length_8abf5_4 : decode cJ0_length_8abf5 4 = .ok (.arraylength, 1) := dk_get kJ0_length_8abf5_ok 2 rfl
theorem dJ0_length_8abf5_5 : decode cJ0_length_8abf5 5 = .ok (.aload_n 0, 1) := dk_get kJ0_length_8abf5_ok 3 rfl
theorem dJ0_length_8abf5_6 : decode cJ0_length_8abf5 6 = .ok (.invokevirtual 335, 3) := dk_get kJ0_length_8abf5_ok 4 rfl
theorem dJ0_length_8abf5_9 : decode cJ0_length_8abf5 9 = .ok (.ishr, 1) := dk_get kJ0_length_8abf5_ok 5 rfl
theorem dJ0_length_8abf5_10 : decode cJ0_length_8abf5 10 = .ok (.ireturn, 1) := dk_get kJ0_length_8abf5_ok 6 rfl
def kJ0_charAt_5068e : List (Nat × Instr × Nat) := [(0, .aload_n 0, 1), (1, .invokevirtual 492, 3), (4, .ifCond .eq 12, 3), (7, .aload_n 0, 1), (8, .getfield 9, 3), (11, .iload_n 1, 1), (12, .invokestatic 495, 3), (15, .ireturn, 1), (16, .aload_n 0, 1), (17, .getfield 9, 3), (20, .iload_n 1, 1), (21, .invokestatic 498, 3), (24, .ireturn, 1)]
set_option maxRecDepth 100000 in
theorem kJ0_charAt_5068e_ok : kJ0_charAt_5068e.all (fun q => decide (decode cJ0_charAt_5068e q.1 = .ok q.2)) = true := by decide +kernel
theorem dJ0_charAt_5068e_0 : decode cJ0_charAt_5068e 0 = .ok (.aload_n 0, 1) := dk_get kJ0_charAt_5068e_ok 0 rfl
theorem dJ0_charAt_5068e_1 : decode cJ0_charAt_5068e 1 = .ok (.invokevirtual 492, 3) := dk_get kJ0_charAt_5068e_ok 1 rfl
theorem dJ0_charAt_5068e_4 : decode cJ0_charAt_5068e 4 = .ok (.ifCond .eq 12, 3) := dk_get kJ0_charAt_5068e_ok 2 rfl
theorem dJ0_charAt_5068e_7 : decode cJ0_charAt_5068e 7 = .ok (.aload_n 0, 1) := dk_get kJ0_charAt_5068e_ok 3 rfl
theorem dJ0_charAt_5068e_8 : decode cJ0_charAt_5068e 8 = .ok (.getfield 9, 3) := dk_get kJ0_charAt_5068e_ok 4 rfl
theorem dJ0_charAt_5068e_11 : decode cJ0_charAt_5068e 11 = .ok (.iload_n 1, 1) := dk_get kJ0_charAt_5068e_ok 5 rfl
theorem dJ0_charAt_5068e_12 : decode cJ0_charAt_5068e 12 = .ok (.invokestatic 495, 3) := dk_get kJ0_charAt_5068e_ok 6 rfl
theorem dJ0_charAt_5068e_15 : decode cJ0_charAt_5068e 15 = .ok (.ireturn, 1) := dk_get kJ0_charAt_5068e_ok 7 rfl
theorem dJ0_charAt_5068e_16 : decode cJ0_charAt_5068e 16 = .ok (.aload_n 0, 1) := dk_get kJ0_charAt_5068e_ok 8 rfl
theorem dJ0_charAt_5068e_17 : decode cJ0_charAt_5068e 17 = .ok (.getfield 9, 3) := dk_get kJ0_charAt_5068e_ok 9 rfl
theorem dJ0_charAt_5068e_20 : decode cJ0_charAt_5068e 20 = .ok (.iload_n 1, 1) := dk_get kJ0_charAt_5068e_ok 10 rfl
theorem dJ0_charAt_5068e_21 : decode cJ0_charAt_5068e 21 = .ok (.invokestatic 498, 3) := dk_get kJ0_charAt_5068e_ok 11 rfl
theorem dJ0_charAt_5068e_24 : decode cJ0_charAt_5068e 24 = .ok (.ireturn, 1) := dk_get kJ0_charAt_5068e_ok 12 rfl
def kJ0_coder_7d493 : List (Nat × Instr × Nat) := [(0, .getstatic 38, 3), (3, .ifCond .eq 10, 3), (6, .aload_n 0, 1), (7, .getfield 15, 3), (10, .goto 4, 3), (13, .iconst 1, 1), (14, .ireturn, 1)]
set_option maxRecDepth 100000 in
theorem kJ0_coder_7d493_ok : kJ0_coder_7d493.all (fun q => decide (decode cJ0_coder_7d493 q.1 = .ok q.2)) = true := by decide +kernel
theorem dJ0_coder_7d493_0 : decode cJ0_coder_7d493 0 = .ok (.getstatic 38, 3) := dk_get kJ0_coder_7d493_ok 0 rfl
theorem dJ0_coder_7d493_3 : decode cJ0_coder_7d493 3 = .ok (.ifCond .eq 10, 3) := dk_get kJ0_coder_7d493_ok 1 rfl
theorem dJ0_coder_7d493_6 : decode cJ0_coder_7d493 6 = .ok (.aload_n 0, 1) := dk_get kJ0_coder_7d493_ok 2 rfl
theorem dJ0_coder_7d493_7 : decode cJ0_coder_7d493 7 = .ok (.getfield 15, 3) := dk_get kJ0_coder_7d493_ok 3 rfl
theorem dJ0_coder_7d493_10 : decode cJ0_coder_7d493 10 = .ok (.goto 4, 3) := dk_get kJ0_coder_7d493_ok 4 rfl
theorem dJ0_coder_7d493_13 : decode cJ0_coder_7d493 13 = .ok (.iconst 1, 1) := dk_get kJ0_coder_7d493_ok 5 rfl
theorem dJ0_coder_7d493_14 : decode cJ0_coder_7d493 14 = .ok (.ireturn, 1) := dk_get kJ0_coder_7d493_ok 6 rfl
def kJ0_isLatin1_aae02 : List (Nat × Instr × Nat) := [(0, .getstatic 38, 3), (3, .ifCond .eq 14, 3), (6, .aload_n 0, 1), (7, .getfield 15, 3), (10, .ifCond .ne 7, 3), (13, .iconst 1, 1), (14, .goto 4, 3), (17, .iconst 0, 1), (18, .ireturn, 1)]
set_option maxRecDepth 100000 in
theorem kJ0_isLatin1_aae02_ok : kJ0_isLatin1_aae02.all (fun q => decide (decode cJ0_isLatin1_aae02 q.1 = .ok q.2)) = true := by decide +kernel
theorem dJ0_isLatin1_aae02_0 : decode cJ0_isLatin1_aae02 0 = .ok (.getstatic 38, 3) := dk_get kJ0_isLatin1_aae02_ok 0 rfl
theorem dJ0_isLatin1_aae02_3 : decode cJ0_isLatin1_aae02 3 = .ok (.ifCond .eq 14, 3) := dk_get kJ0_isLatin1_aae02_ok 1 rfl
theorem dJ0_isLatin1_aae02_6 : decode cJ0_isLatin1_aae02 6 = .ok (.aload_n 0, 1) := dk_get kJ0_isLatin1_aae02_ok 2 rfl
theorem dJ0_isLatin1_aae02_7 : decode cJ0_isLatin1_aae02 7 = .ok (.getfield 15, 3) := dk_get kJ0_isLatin1_aae02_ok 3 rfl
theorem dJ0_isLatin1_aae02_10 : decode cJ0_isLatin1_aae02 10 = .ok (.ifCond .ne 7, 3) := dk_get kJ0_isLatin1_aae02_ok 4 rfl
theorem dJ0_isLatin1_aae02_13 : decode cJ0_isLatin1_aae02 13 = .ok (.iconst 1, 1) := dk_get kJ0_isLatin1_aae02_ok 5 rfl
theorem dJ0_isLatin1_aae02_14 : decode cJ0_isLatin1_aae02 14 = .ok (.goto 4, 3) := dk_get kJ0_isLatin1_aae02_ok 6 rfl
theorem dJ0_isLatin1_aae02_17 : decode cJ0_isLatin1_aae02 17 = .ok (.iconst 0, 1) := dk_get kJ0_isLatin1_aae02_ok 7 rfl
theorem dJ0_isLatin1_aae02_18 : decode cJ0_isLatin1_aae02 18 = .ok (.ireturn, 1) := dk_get kJ0_isLatin1_aae02_ok 8 rfl
def kJ0_checkIndex_df160 : List (Nat × Instr × Nat) := [(0, .iload_n 0, 1), (1, .iload_n 1, 1), (2, .getstatic 1053, 3), (5, .invokestatic 1059, 3), (8, .pop, 1), (9, .return_, 1)]
set_option maxRecDepth 100000 in
theorem kJ0_checkIndex_df160_ok : kJ0_checkIndex_df160.all (fun q => decide (decode cJ0_checkIndex_df160 q.1 = .ok q.2)) = true := by decide +kernel
theorem dJ0_checkIndex_df160_0 : decode cJ0_checkIndex_df160 0 = .ok (.iload_n 0, 1) := dk_get kJ0_checkIndex_df160_ok 0 rfl
theorem dJ0_checkIndex_df160_1 : decode cJ0_checkIndex_df160 1 = .ok (.iload_n 1, 1) := dk_get kJ0_checkIndex_df160_ok 1 rfl
theorem dJ0_checkIndex_df160_2 : decode cJ0_checkIndex_df160 2 = .ok (.getstatic 1053, 3) := dk_get kJ0_checkIndex_df160_ok 2 rfl
theorem dJ0_checkIndex_df160_5 : decode cJ0_checkIndex_df160 5 = .ok (.invokestatic 1059, 3) := dk_get kJ0_checkIndex_df160_ok 3 rfl
theorem dJ0_checkIndex_df160_8 : decode cJ0_checkIndex_df160 8 = .ok (.pop, 1) := dk_get kJ0_checkIndex_df160_ok 4 rfl
theorem dJ0_checkIndex_df160_9 : decode cJ0_checkIndex_df160 9 = .ok (.return_, 1) := dk_get kJ0_checkIndex_df160_ok 5 rfl
def kJ1_charAt_3b067 : List (Nat × Instr × Nat) := [(0, .iload_n 1, 1), (1, .aload_n 0, 1), (2, .arraylength, 1), (3, .invokestatic 9, 3), (6, .aload_n 0, 1), (7, .iload_n 1, 1), (8, .baload, 1), (9, .sipush 255, 3), (12, .iand, 1), (13, .i2c, 1), (14, .ireturn, 1)]
set_option maxRecDepth 100000 in
theorem kJ1_charAt_3b067_ok : kJ1_charAt_3b067.all (fun q => decide (decode cJ1_charAt_3b067 q.1 = .ok q.2)) = true := by decide +kernel
theorem dJ1_charAt_3b067_0 : decode cJ1_charAt_3b067 0 = .ok (.iload_n 1, 1) := dk_get kJ1_charAt_3b067_ok 0 rfl
theorem dJ1_charAt_3b067_1 : decode cJ1_charAt_3b067 1 = .ok (.aload_n 0, 1) := dk_get kJ1_charAt_3b067_ok 1 rfl
theorem dJ1_charAt_3b067_2 : decode cJ1_charAt_3b067 2 = .ok (.arraylength, 1) := dk_get kJ1_charAt_3b067_ok 2 rfl
theorem dJ1_charAt_3b067_3 : decode cJ1_charAt_3b067 3 = .ok (.invokestatic 9, 3) := dk_get kJ1_charAt_3b067_ok 3 rfl
theorem dJ1_charAt_3b067_6 : decode cJ1_charAt_3b067 6 = .ok (.aload_n 0, 1) := dk_get kJ1_charAt_3b067_ok 4 rfl
theorem dJ1_charAt_3b067_7 : decode cJ1_charAt_3b067 7 = .ok (.iload_n 1, 1) := dk_get kJ1_charAt_3b067_ok 5 rfl
theorem dJ1_charAt_3b067_8 : decode cJ1_charAt_3b067 8 = .ok (.baload, 1) := dk_get kJ1_charAt_3b067_ok 6 rfl
theorem dJ1_charAt_3b067_9 : decode cJ1_charAt_3b067 9 = .ok (.sipush 255, 3) := dk_get kJ1_charAt_3b067_ok 7 rfl
theorem dJ1_charAt_3b067_12 : decode cJ1_charAt_3b067 12 = .ok (.iand, 1) := dk_get kJ1_charAt_3b067_ok 8 rfl
theorem dJ1_charAt_3b067_13 : decode cJ1_charAt_3b067 13 = .ok (.i2c, 1) := dk_get kJ1_charAt_3b067_ok 9 rfl
theorem dJ1_charAt_3b067_14 : decode cJ1_charAt_3b067 14 = .ok (.ireturn, 1) := dk_get kJ1_charAt_3b067_ok 10 rfl
def kJ2_getChar_3b067 : List (Nat × Instr × Nat) := [(0, .getstatic 44, 3), (3, .ifCond .ne 25, 3), (6, .iload_n 1, 1), (7, .ifCond .lt 11, 3), (10, .iload_n 1, 1), (11, .aload_n 0, 1), (12, .invokestatic 48, 3), (15, .if_icmp .lt 13, 3), (18, .new 52, 3), (21, .dup, 1), (22, .ldc 54, 2), (24, .invokespecial 56, 3), (27, .athrow, 1), (28, .iload_n 1, 1), (29, .iconst 1, 1), (30, .ishl, 1), (31, .istore_n 1, 1), (32, .aload_n 0, 1), (33, .iload_n 1, 1), (34, .iinc 1 1, 3), (37, .baload, 1), (38, .sipush 255, 3), (41, .iand, 1), (42, .getstatic 59, 3), (45, .ishl, 1), (46, .aload_n 0, 1), (47, .iload_n 1, 1), (48, .baload, 1), (49, .sipush 255, 3), (52, .iand, 1), (53, .getstatic 63, 3), (56, .ishl, 1), (57, .ior, 1), (58, .i2c, 1), (59, .ireturn, 1)]
set_option maxRecDepth 100000 in
theorem kJ2_getChar_3b067_ok : kJ2_getChar_3b067.all (fun q => decide (decode cJ2_getChar_3b067 q.1 = .ok q.2)) = true := by decide +kernel
theorem dJ2_getChar_3b067_0 : decode cJ2_getChar_3b067 0 = .ok (.getstatic 44, 3) := dk_get kJ2_getChar_3b067_ok 0 rfl
theorem dJ2_getChar_3b067_3 : decode cJ2_getChar_3b067 3 = .ok (.ifCond .ne 25, 3) := dk_get kJ2_getChar_3b067_ok 1 rfl
theorem dJ2_getChar_3b067_6 : decode cJ2_getChar_3b067 6 = .ok (.iload_n 1, 1) := dk_get kJ2_getChar_3b067_ok 2 rfl
theorem dJ2_getChar_3b067_7 : decode cJ2_getChar_3b067 7 = .ok (.ifCond .lt 11, 3) := dk_get kJ2_getChar_3b067_ok 3 rfl
theorem dJ2_getChar_3b067_10 : decode cJ2_getChar_3b067 10 = .ok (.iload_n 1, 1) := dk_get kJ2_getChar_3b067_ok 4 rfl
theorem dJ2_getChar_3b067_11 : decode cJ2_getChar_3b067 11 = .ok (.aload_n 0, 1) := dk_get kJ2_getChar_3b067_ok 5 rfl
theorem dJ2_getChar_3b067_12 : decode cJ2_getChar_3b067 12 = .ok (.invokestatic 48, 3) := dk_get kJ2_getChar_3b067_ok 6 rfl
theorem dJ2_getChar_3b067_15 : decode cJ2_getChar_3b067 15 = .ok (.if_icmp .lt 13, 3) := dk_get kJ2_getChar_3b067_ok 7 rfl
theorem dJ2_getChar_3b067_18 : decode cJ2_getChar_3b067 18 = .ok (.new 52, 3) := dk_get kJ2_getChar_3b067_ok 8 rfl
theorem dJ2_getChar_3b067_21 : decode cJ2_getChar_3b067 21 = .ok (.dup, 1) := dk_get kJ2_getChar_3b067_ok 9 rfl
theorem dJ2_getChar_3b067_22 : decode cJ2_getChar_3b067 22 = .ok (.ldc 54, 2) := dk_get kJ2_getChar_3b067_ok 10 rfl
theorem dJ2_getChar_3b067_24 : decode cJ2_getChar_3b067 24 = .ok (.invokespecial 56, 3) := dk_get kJ2_getChar_3b067_ok 11 rfl
theorem dJ2_getChar_3b067_27 : decode cJ2_getChar_3b067 27 = .ok (.athrow, 1) := dk_get kJ2_getChar_3b067_ok 12 rfl
theorem dJ2_getChar_3b067_28 : decode cJ2_getChar_3b067 28 = .ok (.iload_n 1, 1) := dk_get kJ2_getChar_3b067_ok 13 rfl
theorem dJ2_getChar_3b067_29 : decode cJ2_getChar_3b067 29 = .ok (.iconst 1, 1) := dk_get kJ2_getChar_3b067_ok 14 rfl
theorem dJ2_getChar_3b067_30 : decode cJ2_getChar_3b067 30 = .ok (.ishl, 1) := dk_get kJ2_getChar_3b067_ok 15 rfl
theorem dJ2_getChar_3b067_31 : decode cJ2_getChar_3b067 31 = .ok (.istore_n 1, 1) := dk_get kJ2_getChar_3b067_ok 16 rfl
theorem dJ2_getChar_3b067_32 : decode cJ2_getChar_3b067 32 = .ok (.aload_n 0, 1) := dk_get kJ2_getChar_3b067_ok 17 rfl
theorem dJ2_getChar_3b067_33 : decode cJ2_getChar_3b067 33 = .ok (.iload_n 1, 1) := dk_get kJ2_getChar_3b067_ok 18 rfl
theorem dJ2_getChar_3b067_34 : decode cJ2_getChar_3b067 34 = .ok (.iinc 1 1, 3) := dk_get kJ2_getChar_3b067_ok 19 rfl
theorem dJ2_getChar_3b067_37 : decode cJ2_getChar_3b067 37 = .ok (.baload, 1) := dk_get kJ2_getChar_3b067_ok 20 rfl
theorem dJ2_getChar_3b067_38 : decode cJ2_getChar_3b067 38 = .ok (.sipush 255, 3) := dk_get kJ2_getChar_3b067_ok 21 rfl
theorem dJ2_getChar_3b067_41 : decode cJ2_getChar_3b067 41 = .ok (.iand, 1) := dk_get kJ2_getChar_3b067_ok 22 rfl
theorem dJ2_getChar_3b067_42 : decode cJ2_getChar_3b067 42 = .ok (.getstatic 59, 3) := dk_get kJ2_getChar_3b067_ok 23 rfl
theorem dJ2_getChar_3b067_45 : decode cJ2_getChar_3b067 45 = .ok (.ishl, 1) := dk_get kJ2_getChar_3b067_ok 24 rfl
theorem dJ2_getChar_3b067_46 : decode cJ2_getChar_3b067 46 = .ok (.aload_n 0, 1) := dk_get kJ2_getChar_3b067_ok 25 rfl
theorem dJ2_getChar_3b067_47 : decode cJ2_getChar_3b067 47 = .ok (.iload_n 1, 1) := dk_get kJ2_getChar_3b067_ok 26 rfl
theorem dJ2_getChar_3b067_48 : decode cJ2_getChar_3b067 48 = .ok (.baload, 1) := dk_get kJ2_getChar_3b067_ok 27 rfl
theorem dJ2_getChar_3b067_49 : decode cJ2_getChar_3b067 49 = .ok (.sipush 255, 3) := dk_get kJ2_getChar_3b067_ok 28 rfl
theorem dJ2_getChar_3b067_52 : decode cJ2_getChar_3b067 52 = .ok (.iand, 1) := dk_get kJ2_getChar_3b067_ok 29 rfl
theorem dJ2_getChar_3b067_53 : decode cJ2_getChar_3b067 53 = .ok (.getstatic 63, 3) := dk_get kJ2_getChar_3b067_ok 30 rfl
theorem dJ2_getChar_3b067_56 : decode cJ2_getChar_3b067 56 = .ok (.ishl, 1) := dk_get kJ2_getChar_3b067_ok 31 rfl
theorem dJ2_getChar_3b067_57 : decode cJ2_getChar_3b067 57 = .ok (.ior, 1) := dk_get kJ2_getChar_3b067_ok 32 rfl
theorem dJ2_getChar_3b067_58 : decode cJ2_getChar_3b067 58 = .ok (.i2c, 1) := dk_get kJ2_getChar_3b067_ok 33 rfl
theorem dJ2_getChar_3b067_59 : decode cJ2_getChar_3b067 59 = .ok (.ireturn, 1) := dk_get kJ2_getChar_3b067_ok 34 rfl
def kJ2_length_9d52b : List (Nat × Instr × Nat) := [(0, .aload_n 0, 1), (1, .arraylength, 1), (2, .iconst 1, 1), (3, .ishr, 1), (4, .ireturn, 1)]
set_option maxRecDepth 100000 in
theorem kJ2_length_9d52b_ok : kJ2_length_9d52b.all (fun q => decide (decode cJ2_length_9d52b q.1 = .ok q.2)) = true := by decide +kernel
theorem dJ2_length_9d52b_0 : decode cJ2_length_9d52b 0 = .ok (.aload_n 0, 1) := dk_get kJ2_length_9d52b_ok 0 rfl
theorem dJ2_length_9d52b_1 : decode cJ2_length_9d52b 1 = .ok (.arraylength, 1) := dk_get kJ2_length_9d52b_ok 1 rfl
theorem dJ2_length_9d52b_2 : decode cJ2_length_9d52b 2 = .ok (.iconst 1, 1) := dk_get kJ2_length_9d52b_ok 2 rfl
theorem dJ2_length_9d52b_3 : decode cJ2_length_9d52b 3 = .ok (.ishr, 1) := dk_get kJ2_length_9d52b_ok 3 rfl
theorem dJ2_length_9d52b_4 : decode cJ2_length_9d52b 4 = .ok (.ireturn, 1) := dk_get kJ2_length_9d52b_ok 4 rfl
def kJ2_charAt_3b067 : List (Nat × Instr × Nat) := [(0, .iload_n 1, 1), (1, .aload_n 0, 1), (2, .invokestatic 67, 3), (5, .aload_n 0, 1), (6, .iload_n 1, 1), (7, .invokestatic 71, 3), (10, .ireturn, 1)]
set_option maxRecDepth 100000 in
theorem kJ2_charAt_3b067_ok : kJ2_charAt_3b067.all (fun q => decide (decode cJ2_charAt_3b067 q.1 = .ok q.2)) = true := by decide +kernel
theorem dJ2_charAt_3b067_0 : decode cJ2_charAt_3b067 0 = .ok (.iload_n 1, 1) := dk_get kJ2_charAt_3b067_ok 0 rfl
theorem dJ2_charAt_3b067_1 : decode cJ2_charAt_3b067 1 = .ok (.aload_n 0, 1) := dk_get kJ2_charAt_3b067_ok 1 rfl
theorem dJ2_charAt_3b067_2 : decode cJ2_charAt_3b067 2 = .ok (.invokestatic 67, 3) := dk_get kJ2_charAt_3b067_ok 2 rfl
theorem dJ2_charAt_3b067_5 : decode cJ2_charAt_3b067 5 = .ok (.aload_n 0, 1) := dk_get kJ2_charAt_3b067_ok 3 rfl
theorem dJ2_charAt_3b067_6 : decode cJ2_charAt_3b067 6 = .ok (.iload_n 1, 1) := dk_get kJ2_charAt_3b067_ok 4 rfl
theorem dJ2_charAt_3b067_7 : decode cJ2_charAt_3b067 7 = .ok (.invokestatic 71, 3) := dk_get kJ2_charAt_3b067_ok 5 rfl
theorem dJ2_charAt_3b067_10 : decode cJ2_charAt_3b067 10 = .ok (.ireturn, 1) := dk_get kJ2_charAt_3b067_ok 6 rfl
def kJ2_checkIndex_2214a : List (Nat × Instr × Nat) := [(0, .iload_n 0, 1), (1, .aload_n 1, 1), (2, .invokestatic 48, 3), (5, .invokestatic 414, 3), (8, .return_, 1)]
set_option maxRecDepth 100000 in
theorem kJ2_checkIndex_2214a_ok : kJ2_checkIndex_2214a.all (fun q => decide (decode cJ2_checkIndex_2214a q.1 = .ok q.2)) = true := by decide +kernel
theorem dJ2_checkIndex_2214a_0 : decode cJ2_checkIndex_2214a 0 = .ok (.iload_n 0, 1) := dk_get kJ2_checkIndex_2214a_ok 0 rfl
theorem dJ2_checkIndex_2214a_1 : decode cJ2_checkIndex_2214a 1 = .ok (.aload_n 1, 1) := dk_get kJ2_checkIndex_2214a_ok 1 rfl
theorem dJ2_checkIndex_2214a_2 : decode cJ2_checkIndex_2214a 2 = .ok (.invokestatic 48, 3) := dk_get kJ2_checkIndex_2214a_ok 2 rfl
theorem dJ2_checkIndex_2214a_5 : decode cJ2_checkIndex_2214a 5 = .ok (.invokestatic 414, 3) := dk_get kJ2_checkIndex_2214a_ok 3 rfl
theorem dJ2_checkIndex_2214a_8 : decode cJ2_checkIndex_2214a 8 = .ok (.return_, 1) := dk_get kJ2_checkIndex_2214a_ok 4 rfl
def kJ7_fill_53178 : List (Nat × Instr × Nat) := [(0, .iconst 0, 1), (1, .istore_n 2, 1), (2, .aload_n 0, 1), (3, .arraylength, 1), (4, .istore_n 3, 1), (5, .iload_n 2, 1), (6, .iload_n 3, 1), (7, .if_icmp .ge 13, 3), (10, .aload_n 0, 1), (11, .iload_n 2, 1), (12, .iload_n 1, 1), (13, .iastore, 1), (14, .iinc 2 1, 3), (17, .goto (-12), 3), (20, .return_, 1)]
set_option maxRecDepth 100000 in
theorem kJ7_fill_53178_ok : kJ7_fill_53178.all (fun q => decide (decode cJ7_fill_53178 q.1 = .ok q.2)) = true := by decide +kernel
theorem dJ7_fill_53178_0 : decode cJ7_fill_53178 0 = .ok (.iconst 0, 1) := dk_get kJ7_fill_53178_ok 0 rfl
theorem dJ7_fill_53178_1 : decode cJ7_fill_53178 1 = .ok (.istore_n 2, 1) := dk_get kJ7_fill_53178_ok 1 rfl
theorem dJ7_fill_53178_2 : decode cJ7_fill_53178 2 = .ok (.aload_n 0, 1) := dk_get kJ7_fill_53178_ok 2 rfl
theorem dJ7_fill_53178_3 : decode cJ7_fill_53178 3 = .ok (.arraylength, 1) := dk_get kJ7_fill_53178_ok 3 rfl
theorem dJ7_fill_53178_4 : decode cJ7_fill_53178 4 = .ok (.istore_n 3, 1) := dk_get kJ7_fill_53178_ok 4 rfl
theorem dJ7_fill_53178_5 : decode cJ7_fill_53178 5 = .ok (.iload_n 2, 1) := dk_get kJ7_fill_53178_ok 5 rfl
theorem dJ7_fill_53178_6 : decode cJ7_fill_53178 6 = .ok (.iload_n 3, 1) := dk_get kJ7_fill_53178_ok 6 rfl
theorem dJ7_fill_53178_7 : decode cJ7_fill_53178 7 = .ok (.if_icmp .ge 13, 3) := dk_get kJ7_fill_53178_ok 7 rfl
theorem dJ7_fill_53178_10 : decode cJ7_fill_53178 10 = .ok (.aload_n 0, 1) := dk_get kJ7_fill_53178_ok 8 rfl
theorem dJ7_fill_53178_11 : decode cJ7_fill_53178 11 = .ok (.iload_n 2, 1) := dk_get kJ7_fill_53178_ok 9 rfl
theorem dJ7_fill_53178_12 : decode cJ7_fill_53178 12 = .ok (.iload_n 1, 1) := dk_get kJ7_fill_53178_ok 10 rfl
theorem dJ7_fill_53178_13 : decode cJ7_fill_53178 13 = .ok (.iastore, 1) := dk_get kJ7_fill_53178_ok 11 rfl
theorem dJ7_fill_53178_14 : decode cJ7_fill_53178 14 = .ok (.iinc 2 1, 3) := dk_get kJ7_fill_53178_ok 12 rfl
theorem dJ7_fill_53178_17 : decode cJ7_fill_53178 17 = .ok (.goto (-12), 3) := dk_get kJ7_fill_53178_ok 13 rfl
theorem dJ7_fill_53178_20 : decode cJ7_fill_53178 20 = .ok (.return_, 1) := dk_get kJ7_fill_53178_ok 14 rfl
def kJ3_checkIndex_8e157 : List (Nat × Instr × Nat) := [(0, .iload_n 0, 1), (1, .ifCond .lt 8, 3), (4, .iload_n 0, 1), (5, .iload_n 1, 1), (6, .if_icmp .lt 10, 3), (9, .aload_n 2, 1), (10, .iload_n 0, 1), (11, .iload_n 1, 1), (12, .invokestatic 95, 3), (15, .athrow, 1), (16, .iload_n 0, 1), (17, .ireturn, 1)]
set_option maxRecDepth 100000 in
theorem kJ3_checkIndex_8e157_ok : kJ3_checkIndex_8e157.all (fun q => decide (decode cJ3_checkIndex_8e157 q.1 = .ok q.2)) = true := by decide +kernel
theorem dJ3_checkIndex_8e157_0 : decode cJ3_checkIndex_8e157 0 = .ok (.iload_n 0, 1) := dk_get kJ3_checkIndex_8e157_ok 0 rfl
theorem dJ3_checkIndex_8e157_1 : decode cJ3_checkIndex_8e157 1 = .ok (.ifCond .lt 8, 3) := dk_get kJ3_checkIndex_8e157_ok 1 rfl
theorem dJ3_checkIndex_8e157_4 : decode cJ3_checkIndex_8e157 4 = .ok (.iload_n 0, 1) := dk_get kJ3_checkIndex_8e157_ok 2 rfl
theorem dJ3_checkIndex_8e157_5 : decode cJ3_checkIndex_8e157 5 = .ok (.iload_n 1, 1) := dk_get kJ3_checkIndex_8e157_ok 3 rfl
theorem dJ3_checkIndex_8e157_6 : decode cJ3_checkIndex_8e157 6 = .ok (.if_icmp .lt 10, 3) := dk_get kJ3_checkIndex_8e157_ok 4 rfl
theorem dJ3_checkIndex_8e157_9 : decode cJ3_checkIndex_8e157 9 = .ok (.aload_n 2, 1) := dk_get kJ3_checkIndex_8e157_ok 5 rfl
theorem dJ3_checkIndex_8e157_10 : decode cJ3_checkIndex_8e157 10 = .ok (.iload_n 0, 1) := dk_get kJ3_checkIndex_8e157_ok 6 rfl
theorem dJ3_checkIndex_8e157_11 : decode cJ3_checkIndex_8e157 11 = .ok (.iload_n 1, 1) := dk_get kJ3_checkIndex_8e157_ok 7 rfl
theorem dJ3_checkIndex_8e157_12 : decode cJ3_checkIndex_8e157 12 = .ok (.invokestatic 95, 3) := dk_get kJ3_checkIndex_8e157_ok 8 rfl
theorem dJ3_checkIndex_8e157_15 : decode cJ3_checkIndex_8e157 15 = .ok (.athrow, 1) := dk_get kJ3_checkIndex_8e157_ok 9 rfl
theorem dJ3_checkIndex_8e157_16 : decode cJ3_checkIndex_8e157 16 = .ok (.iload_n 0, 1) := dk_get kJ3_checkIndex_8e157_ok 10 rfl
theorem dJ3_checkIndex_8e157_17 : decode cJ3_checkIndex_8e157 17 = .ok (.ireturn, 1) := dk_get kJ3_checkIndex_8e157_ok 11 rfl
def kL_entry : List (Nat × Instr × Nat) := [(0, .aload 6, 2), (2, .iconst 0, 1), (3, .aload_n 0, 1), (4, .iload_n 1, 1), (5, .iload_n 2, 1), (6, .iload_n 3, 1), (7, .iload 4, 2), (9, .iload 5, 2), (11, .invokevirtual 7, 3), (14, .i2l, 1), (15, .lastore, 1), (16, .goto 7, 3), (19, .astore 7, 2), (21, .iconst 1, 1), (22, .ireturn, 1), (23, .iconst 0, 1), (24, .ireturn, 1)]
set_option maxRecDepth 100000 in
theorem kL_entry_ok : kL_entry.all (fun q => decide (decode cL_entry q.1 = .ok q.2)) = true := by decide +kernel
theorem dL_entry_0 : decode cL_entry 0 = .ok (.aload 6, 2) := dk_get kL_entry_ok 0 rfl
theorem dL_entry_2 : decode cL_entry 2 = .ok (.iconst 0, 1) := dk_get kL_entry_ok 1 rfl
theorem dL_entry_3 : decode cL_entry 3 = .ok (.aload_n 0, 1) := dk_get kL_entry_ok 2 rfl
theorem dL_entry_4 : decode cL_entry 4 = .ok (.iload_n 1, 1) := dk_get kL_entry_ok 3 rfl
theorem dL_entry_5 : decode cL_entry 5 = .ok (.iload_n 2, 1) := dk_get kL_entry_ok 4 rfl
theorem dL_entry_6 : decode cL_entry 6 = .ok (.iload_n 3, 1) := dk_get kL_entry_ok 5 rfl
theorem dL_entry_7 : decode cL_entry 7 = .ok (.iload 4, 2) := dk_get kL_entry_ok 6 rfl
theorem dL_entry_9 : decode cL_entry 9 = .ok (.iload 5, 2) := dk_get kL_entry_ok 7 rfl
theorem dL_entry_11 : decode cL_entry 11 = .ok (.invokevirtual 7, 3) := dk_get kL_entry_ok 8 rfl
theorem dL_entry_14 : decode cL_entry 14 = .ok (.i2l, 1) := dk_get kL_entry_ok 9 rfl
theorem dL_entry_15 : decode cL_entry 15 = .ok (.lastore, 1) := dk_get kL_entry_ok 10 rfl
theorem dL_entry_16 : decode cL_entry 16 = .ok (.goto 7, 3) := dk_get kL_entry_ok 11 rfl
theorem dL_entry_19 : decode cL_entry 19 = .ok (.astore 7, 2) := dk_get kL_entry_ok 12 rfl
theorem dL_entry_21 : decode cL_entry 21 = .ok (.iconst 1, 1) := dk_get kL_entry_ok 13 rfl
theorem dL_entry_22 : decode cL_entry 22 = .ok (.ireturn, 1) := dk_get kL_entry_ok 14 rfl
theorem dL_entry_23 : decode cL_entry 23 = .ok (.iconst 0, 1) := dk_get kL_entry_ok 15 rfl
theorem dL_entry_24 : decode cL_entry 24 = .ok (.ireturn, 1) := dk_get kL_entry_ok 16 rfl
def kL_of : List (Nat × Instr × Nat) := [(0, .aload_n 3, 1), (1, .iconst 0, 1), (2, .aload_n 0, 1), (3, .iload_n 1, 1), (4, .iload_n 2, 1), (5, .invokevirtual 15, 3), (8, .i2l, 1), (9, .lastore, 1), (10, .goto 11, 3), (13, .astore 4, 2), (15, .iconst 1, 1), (16, .ireturn, 1), (17, .astore 4, 2), (19, .iconst 2, 1), (20, .ireturn, 1), (21, .iconst 0, 1), (22, .ireturn, 1)]
set_option maxRecDepth 100000 in
theorem kL_of_ok : kL_of.all (fun q => decide (decode cL_of q.1 = .ok q.2)) = true := by decide +kernel
theorem dL_of_0 : decode cL_of 0 = .ok (.aload_n 3, 1) := dk_get kL_of_ok 0 rfl
theorem dL_of_1 : decode cL_of 1 = .ok (.iconst 0, 1) := dk_get kL_of_ok 1 rfl
theorem dL_of_2 : decode cL_of 2 = .ok (.aload_n 0, 1) := dk_get kL_of_ok 2 rfl
theorem dL_of_3 : decode cL_of 3 = .ok (.iload_n 1, 1) := dk_get kL_of_ok 3 rfl
theorem dL_of_4 : decode cL_of 4 = .ok (.iload_n 2, 1) := dk_get kL_of_ok 4 rfl
theorem dL_of_5 : decode cL_of 5 = .ok (.invokevirtual 15, 3) := dk_get kL_of_ok 5 rfl
theorem dL_of_8 : decode cL_of 8 = .ok (.i2l, 1) := dk_get kL_of_ok 6 rfl
theorem dL_of_9 : decode cL_of 9 = .ok (.lastore, 1) := dk_get kL_of_ok 7 rfl
theorem dL_of_10 : decode cL_of 10 = .ok (.goto 11, 3) := dk_get kL_of_ok 8 rfl
theorem dL_of_13 : decode cL_of 13 = .ok (.astore 4, 2) := dk_get kL_of_ok 9 rfl
theorem dL_of_15 : decode cL_of 15 = .ok (.iconst 1, 1) := dk_get kL_of_ok 10 rfl
theorem dL_of_16 : decode cL_of 16 = .ok (.ireturn, 1) := dk_get kL_of_ok 11 rfl
theorem dL_of_17 : decode cL_of 17 = .ok (.astore 4, 2) := dk_get kL_of_ok 12 rfl
theorem dL_of_19 : decode cL_of 19 = .ok (.iconst 2, 1) := dk_get kL_of_ok 13 rfl
theorem dL_of_20 : decode cL_of 20 = .ok (.ireturn, 1) := dk_get kL_of_ok 14 rfl
theorem dL_of_21 : decode cL_of 21 = .ok (.iconst 0, 1) := dk_get kL_of_ok 15 rfl
theorem dL_of_22 : decode cL_of 22 = .ok (.ireturn, 1) := dk_get kL_of_ok 16 rfl
def kL_like : List (Nat × Instr × Nat) := [(0, .aload 4, 2), (2, .iconst 0, 1), (3, .aload_n 0, 1), (4, .iload_n 1, 1), (5, .iload_n 2, 1), (6, .iload_n 3, 1), (7, .invokevirtual 21, 3), (10, .i2l, 1), (11, .lastore, 1), (12, .goto 7, 3), (15, .astore 5, 2), (17, .iconst 1, 1), (18, .ireturn, 1), (19, .iconst 0, 1), (20, .ireturn, 1)]
set_option maxRecDepth 100000 in
theorem kL_like_ok : kL_like.all (fun q => decide (decode cL_like q.1 = .ok q.2)) = true := by decide +kernel
theorem dL_like_0 : decode cL_like 0 = .ok (.aload 4, 2) := dk_get kL_like_ok 0 rfl
theorem dL_like_2 : decode cL_like 2 = .ok (.iconst 0, 1) := dk_get kL_like_ok 1 rfl
theorem dL_like_3 : decode cL_like 3 = .ok (.aload_n 0, 1) := dk_get kL_like_ok 2 rfl
theorem dL_like_4 : decode cL_like 4 = .ok (.iload_n 1, 1) := dk_get kL_like_ok 3 rfl
theorem dL_like_5 : decode cL_like 5 = .ok (.iload_n 2, 1) := dk_get kL_like_ok 4 rfl
theorem dL_like_6 : decode cL_like 6 = .ok (.iload_n 3, 1) := dk_get kL_like_ok 5 rfl
theorem dL_like_7 : decode cL_like 7 = .ok (.invokevirtual 21, 3) := dk_get kL_like_ok 6 rfl
theorem dL_like_10 : decode cL_like 10 = .ok (.i2l, 1) := dk_get kL_like_ok 7 rfl
theorem dL_like_11 : decode cL_like 11 = .ok (.lastore, 1) := dk_get kL_like_ok 8 rfl
theorem dL_like_12 : decode cL_like 12 = .ok (.goto 7, 3) := dk_get kL_like_ok 9 rfl
theorem dL_like_15 : decode cL_like 15 = .ok (.astore 5, 2) := dk_get kL_like_ok 10 rfl
theorem dL_like_17 : decode cL_like 17 = .ok (.iconst 1, 1) := dk_get kL_like_ok 11 rfl
theorem dL_like_18 : decode cL_like 18 = .ok (.ireturn, 1) := dk_get kL_like_ok 12 rfl
theorem dL_like_19 : decode cL_like 19 = .ok (.iconst 0, 1) := dk_get kL_like_ok 13 rfl
theorem dL_like_20 : decode cL_like 20 = .ok (.ireturn, 1) := dk_get kL_like_ok 14 rfl
def kL_rules : List (Nat × Instr × Nat) := [(0, .aload_n 2, 1), (1, .iconst 0, 1), (2, .aload_n 0, 1), (3, .iload_n 1, 1), (4, .invokevirtual 25, 3), (7, .i2l, 1), (8, .lastore, 1), (9, .goto 6, 3), (12, .astore_n 3, 1), (13, .iconst 1, 1), (14, .ireturn, 1), (15, .iconst 0, 1), (16, .ireturn, 1)]
set_option maxRecDepth 100000 in
theorem kL_rules_ok : kL_rules.all (fun q => decide (decode cL_rules q.1 = .ok q.2)) = true := by decide +kernel
theorem dL_rules_0 : decode cL_rules 0 = .ok (.aload_n 2, 1) := dk_get kL_rules_ok 0 rfl
theorem dL_rules_1 : decode cL_rules 1 = .ok (.iconst 0, 1) := dk_get kL_rules_ok 1 rfl
theorem dL_rules_2 : decode cL_rules 2 = .ok (.aload_n 0, 1) := dk_get kL_rules_ok 2 rfl
theorem dL_rules_3 : decode cL_rules 3 = .ok (.iload_n 1, 1) := dk_get kL_rules_ok 3 rfl
theorem dL_rules_4 : decode cL_rules 4 = .ok (.invokevirtual 25, 3) := dk_get kL_rules_ok 4 rfl
theorem dL_rules_7 : decode cL_rules 7 = .ok (.i2l, 1) := dk_get kL_rules_ok 5 rfl
theorem dL_rules_8 : decode cL_rules 8 = .ok (.lastore, 1) := dk_get kL_rules_ok 6 rfl
theorem dL_rules_9 : decode cL_rules 9 = .ok (.goto 6, 3) := dk_get kL_rules_ok 7 rfl
theorem dL_rules_12 : decode cL_rules 12 = .ok (.astore_n 3, 1) := dk_get kL_rules_ok 8 rfl
theorem dL_rules_13 : decode cL_rules 13 = .ok (.iconst 1, 1) := dk_get kL_rules_ok 9 rfl
theorem dL_rules_14 : decode cL_rules 14 = .ok (.ireturn, 1) := dk_get kL_rules_ok 10 rfl
theorem dL_rules_15 : decode cL_rules 15 = .ok (.iconst 0, 1) := dk_get kL_rules_ok 11 rfl
theorem dL_rules_16 : decode cL_rules 16 = .ok (.ireturn, 1) := dk_get kL_rules_ok 12 rfl
def kL_weight : List (Nat × Instr × Nat) := [(0, .aload_n 3, 1), (1, .iconst 0, 1), (2, .aload_n 0, 1), (3, .iload_n 1, 1), (4, .iload_n 2, 1), (5, .invokevirtual 29, 3), (8, .i2l, 1), (9, .lastore, 1), (10, .goto 11, 3), (13, .astore 4, 2), (15, .iconst 1, 1), (16, .ireturn, 1), (17, .astore 4, 2), (19, .iconst 2, 1), (20, .ireturn, 1), (21, .iconst 0, 1), (22, .ireturn, 1)]
set_option maxRecDepth 100000 in
theorem kL_weight_ok : kL_weight.all (fun q => decide (decode cL_weight q.1 = .ok q.2)) = true := by decide +kernel
theorem dL_weight_0 : decode cL_weight 0 = .ok (.aload_n 3, 1) := dk_get kL_weight_ok 0 rfl
theorem dL_weight_1 : decode cL_weight 1 = .ok (.iconst 0, 1) := dk_get kL_weight_ok 1 rfl
theorem dL_weight_2 : decode cL_weight 2 = .ok (.aload_n 0, 1) := dk_get kL_weight_ok 2 rfl
theorem dL_weight_3 : decode cL_weight 3 = .ok (.iload_n 1, 1) := dk_get kL_weight_ok 3 rfl
theorem dL_weight_4 : decode cL_weight 4 = .ok (.iload_n 2, 1) := dk_get kL_weight_ok 4 rfl
theorem dL_weight_5 : decode cL_weight 5 = .ok (.invokevirtual 29, 3) := dk_get kL_weight_ok 5 rfl
theorem dL_weight_8 : decode cL_weight 8 = .ok (.i2l, 1) := dk_get kL_weight_ok 6 rfl
theorem dL_weight_9 : decode cL_weight 9 = .ok (.lastore, 1) := dk_get kL_weight_ok 7 rfl
theorem dL_weight_10 : decode cL_weight 10 = .ok (.goto 11, 3) := dk_get kL_weight_ok 8 rfl
theorem dL_weight_13 : decode cL_weight 13 = .ok (.astore 4, 2) := dk_get kL_weight_ok 9 rfl
theorem dL_weight_15 : decode cL_weight 15 = .ok (.iconst 1, 1) := dk_get kL_weight_ok 10 rfl
theorem dL_weight_16 : decode cL_weight 16 = .ok (.ireturn, 1) := dk_get kL_weight_ok 11 rfl
theorem dL_weight_17 : decode cL_weight 17 = .ok (.astore 4, 2) := dk_get kL_weight_ok 12 rfl
theorem dL_weight_19 : decode cL_weight 19 = .ok (.iconst 2, 1) := dk_get kL_weight_ok 13 rfl
theorem dL_weight_20 : decode cL_weight 20 = .ok (.ireturn, 1) := dk_get kL_weight_ok 14 rfl
theorem dL_weight_21 : decode cL_weight 21 = .ok (.iconst 0, 1) := dk_get kL_weight_ok 15 rfl
theorem dL_weight_22 : decode cL_weight 22 = .ok (.ireturn, 1) := dk_get kL_weight_ok 16 rfl
def kL_why : List (Nat × Instr × Nat) := [(0, .aload_n 3, 1), (1, .iconst 0, 1), (2, .aload_n 0, 1), (3, .iload_n 1, 1), (4, .iload_n 2, 1), (5, .invokevirtual 32, 3), (8, .i2l, 1), (9, .lastore, 1), (10, .goto 11, 3), (13, .astore 4, 2), (15, .iconst 1, 1), (16, .ireturn, 1), (17, .astore 4, 2), (19, .iconst 2, 1), (20, .ireturn, 1), (21, .iconst 0, 1), (22, .ireturn, 1)]
set_option maxRecDepth 100000 in
theorem kL_why_ok : kL_why.all (fun q => decide (decode cL_why q.1 = .ok q.2)) = true := by decide +kernel
theorem dL_why_0 : decode cL_why 0 = .ok (.aload_n 3, 1) := dk_get kL_why_ok 0 rfl
theorem dL_why_1 : decode cL_why 1 = .ok (.iconst 0, 1) := dk_get kL_why_ok 1 rfl
theorem dL_why_2 : decode cL_why 2 = .ok (.aload_n 0, 1) := dk_get kL_why_ok 2 rfl
theorem dL_why_3 : decode cL_why 3 = .ok (.iload_n 1, 1) := dk_get kL_why_ok 3 rfl
theorem dL_why_4 : decode cL_why 4 = .ok (.iload_n 2, 1) := dk_get kL_why_ok 4 rfl
theorem dL_why_5 : decode cL_why 5 = .ok (.invokevirtual 32, 3) := dk_get kL_why_ok 5 rfl
theorem dL_why_8 : decode cL_why 8 = .ok (.i2l, 1) := dk_get kL_why_ok 6 rfl
theorem dL_why_9 : decode cL_why 9 = .ok (.lastore, 1) := dk_get kL_why_ok 7 rfl
theorem dL_why_10 : decode cL_why 10 = .ok (.goto 11, 3) := dk_get kL_why_ok 8 rfl
theorem dL_why_13 : decode cL_why 13 = .ok (.astore 4, 2) := dk_get kL_why_ok 9 rfl
theorem dL_why_15 : decode cL_why 15 = .ok (.iconst 1, 1) := dk_get kL_why_ok 10 rfl
theorem dL_why_16 : decode cL_why 16 = .ok (.ireturn, 1) := dk_get kL_why_ok 11 rfl
theorem dL_why_17 : decode cL_why 17 = .ok (.astore 4, 2) := dk_get kL_why_ok 12 rfl
theorem dL_why_19 : decode cL_why 19 = .ok (.iconst 2, 1) := dk_get kL_why_ok 13 rfl
theorem dL_why_20 : decode cL_why 20 = .ok (.ireturn, 1) := dk_get kL_why_ok 14 rfl
theorem dL_why_21 : decode cL_why 21 = .ok (.iconst 0, 1) := dk_get kL_why_ok 15 rfl
theorem dL_why_22 : decode cL_why 22 = .ok (.ireturn, 1) := dk_get kL_why_ok 16 rfl
def kL_weigh : List (Nat × Instr × Nat) := [(0, .aload 4, 2), (2, .iconst 0, 1), (3, .aload_n 0, 1), (4, .iload_n 1, 1), (5, .iload_n 2, 1), (6, .iload_n 3, 1), (7, .invokevirtual 35, 3), (10, .i2l, 1), (11, .lastore, 1), (12, .goto 11, 3), (15, .astore 5, 2), (17, .iconst 1, 1), (18, .ireturn, 1), (19, .astore 5, 2), (21, .iconst 2, 1), (22, .ireturn, 1), (23, .iconst 0, 1), (24, .ireturn, 1)]
set_option maxRecDepth 100000 in
theorem kL_weigh_ok : kL_weigh.all (fun q => decide (decode cL_weigh q.1 = .ok q.2)) = true := by decide +kernel
theorem dL_weigh_0 : decode cL_weigh 0 = .ok (.aload 4, 2) := dk_get kL_weigh_ok 0 rfl
theorem dL_weigh_2 : decode cL_weigh 2 = .ok (.iconst 0, 1) := dk_get kL_weigh_ok 1 rfl
theorem dL_weigh_3 : decode cL_weigh 3 = .ok (.aload_n 0, 1) := dk_get kL_weigh_ok 2 rfl
theorem dL_weigh_4 : decode cL_weigh 4 = .ok (.iload_n 1, 1) := dk_get kL_weigh_ok 3 rfl
theorem dL_weigh_5 : decode cL_weigh 5 = .ok (.iload_n 2, 1) := dk_get kL_weigh_ok 4 rfl
theorem dL_weigh_6 : decode cL_weigh 6 = .ok (.iload_n 3, 1) := dk_get kL_weigh_ok 5 rfl
theorem dL_weigh_7 : decode cL_weigh 7 = .ok (.invokevirtual 35, 3) := dk_get kL_weigh_ok 6 rfl
theorem dL_weigh_10 : decode cL_weigh 10 = .ok (.i2l, 1) := dk_get kL_weigh_ok 7 rfl
theorem dL_weigh_11 : decode cL_weigh 11 = .ok (.lastore, 1) := dk_get kL_weigh_ok 8 rfl
theorem dL_weigh_12 : decode cL_weigh 12 = .ok (.goto 11, 3) := dk_get kL_weigh_ok 9 rfl
theorem dL_weigh_15 : decode cL_weigh 15 = .ok (.astore 5, 2) := dk_get kL_weigh_ok 10 rfl
theorem dL_weigh_17 : decode cL_weigh 17 = .ok (.iconst 1, 1) := dk_get kL_weigh_ok 11 rfl
theorem dL_weigh_18 : decode cL_weigh 18 = .ok (.ireturn, 1) := dk_get kL_weigh_ok 12 rfl
theorem dL_weigh_19 : decode cL_weigh 19 = .ok (.astore 5, 2) := dk_get kL_weigh_ok 13 rfl
theorem dL_weigh_21 : decode cL_weigh 21 = .ok (.iconst 2, 1) := dk_get kL_weigh_ok 14 rfl
theorem dL_weigh_22 : decode cL_weigh 22 = .ok (.ireturn, 1) := dk_get kL_weigh_ok 15 rfl
theorem dL_weigh_23 : decode cL_weigh 23 = .ok (.iconst 0, 1) := dk_get kL_weigh_ok 16 rfl
theorem dL_weigh_24 : decode cL_weigh 24 = .ok (.ireturn, 1) := dk_get kL_weigh_ok 17 rfl
def kL_forget : List (Nat × Instr × Nat) := [(0, .aload_n 3, 1), (1, .iconst 0, 1), (2, .aload_n 0, 1), (3, .iload_n 1, 1), (4, .iload_n 2, 1), (5, .invokevirtual 38, 3), (8, .i2l, 1), (9, .lastore, 1), (10, .goto 11, 3), (13, .astore 4, 2), (15, .iconst 1, 1), (16, .ireturn, 1), (17, .astore 4, 2), (19, .iconst 2, 1), (20, .ireturn, 1), (21, .iconst 0, 1), (22, .ireturn, 1)]
set_option maxRecDepth 100000 in
theorem kL_forget_ok : kL_forget.all (fun q => decide (decode cL_forget q.1 = .ok q.2)) = true := by decide +kernel
theorem dL_forget_0 : decode cL_forget 0 = .ok (.aload_n 3, 1) := dk_get kL_forget_ok 0 rfl
theorem dL_forget_1 : decode cL_forget 1 = .ok (.iconst 0, 1) := dk_get kL_forget_ok 1 rfl
theorem dL_forget_2 : decode cL_forget 2 = .ok (.aload_n 0, 1) := dk_get kL_forget_ok 2 rfl
theorem dL_forget_3 : decode cL_forget 3 = .ok (.iload_n 1, 1) := dk_get kL_forget_ok 3 rfl
theorem dL_forget_4 : decode cL_forget 4 = .ok (.iload_n 2, 1) := dk_get kL_forget_ok 4 rfl
theorem dL_forget_5 : decode cL_forget 5 = .ok (.invokevirtual 38, 3) := dk_get kL_forget_ok 5 rfl
theorem dL_forget_8 : decode cL_forget 8 = .ok (.i2l, 1) := dk_get kL_forget_ok 6 rfl
theorem dL_forget_9 : decode cL_forget 9 = .ok (.lastore, 1) := dk_get kL_forget_ok 7 rfl
theorem dL_forget_10 : decode cL_forget 10 = .ok (.goto 11, 3) := dk_get kL_forget_ok 8 rfl
theorem dL_forget_13 : decode cL_forget 13 = .ok (.astore 4, 2) := dk_get kL_forget_ok 9 rfl
theorem dL_forget_15 : decode cL_forget 15 = .ok (.iconst 1, 1) := dk_get kL_forget_ok 10 rfl
theorem dL_forget_16 : decode cL_forget 16 = .ok (.ireturn, 1) := dk_get kL_forget_ok 11 rfl
theorem dL_forget_17 : decode cL_forget 17 = .ok (.astore 4, 2) := dk_get kL_forget_ok 12 rfl
theorem dL_forget_19 : decode cL_forget 19 = .ok (.iconst 2, 1) := dk_get kL_forget_ok 13 rfl
theorem dL_forget_20 : decode cL_forget 20 = .ok (.ireturn, 1) := dk_get kL_forget_ok 14 rfl
theorem dL_forget_21 : decode cL_forget 21 = .ok (.iconst 0, 1) := dk_get kL_forget_ok 15 rfl
theorem dL_forget_22 : decode cL_forget 22 = .ok (.ireturn, 1) := dk_get kL_forget_ok 16 rfl
def kL_law : List (Nat × Instr × Nat) := [(0, .aload_n 3, 1), (1, .iconst 0, 1), (2, .aload_n 0, 1), (3, .iload_n 1, 1), (4, .iload_n 2, 1), (5, .invokevirtual 41, 3), (8, .i2l, 1), (9, .lastore, 1), (10, .goto 7, 3), (13, .astore 4, 2), (15, .iconst 1, 1), (16, .ireturn, 1), (17, .iconst 0, 1), (18, .ireturn, 1)]
set_option maxRecDepth 100000 in
theorem kL_law_ok : kL_law.all (fun q => decide (decode cL_law q.1 = .ok q.2)) = true := by decide +kernel
theorem dL_law_0 : decode cL_law 0 = .ok (.aload_n 3, 1) := dk_get kL_law_ok 0 rfl
theorem dL_law_1 : decode cL_law 1 = .ok (.iconst 0, 1) := dk_get kL_law_ok 1 rfl
theorem dL_law_2 : decode cL_law 2 = .ok (.aload_n 0, 1) := dk_get kL_law_ok 2 rfl
theorem dL_law_3 : decode cL_law 3 = .ok (.iload_n 1, 1) := dk_get kL_law_ok 3 rfl
theorem dL_law_4 : decode cL_law 4 = .ok (.iload_n 2, 1) := dk_get kL_law_ok 4 rfl
theorem dL_law_5 : decode cL_law 5 = .ok (.invokevirtual 41, 3) := dk_get kL_law_ok 5 rfl
theorem dL_law_8 : decode cL_law 8 = .ok (.i2l, 1) := dk_get kL_law_ok 6 rfl
theorem dL_law_9 : decode cL_law 9 = .ok (.lastore, 1) := dk_get kL_law_ok 7 rfl
theorem dL_law_10 : decode cL_law 10 = .ok (.goto 7, 3) := dk_get kL_law_ok 8 rfl
theorem dL_law_13 : decode cL_law 13 = .ok (.astore 4, 2) := dk_get kL_law_ok 9 rfl
theorem dL_law_15 : decode cL_law 15 = .ok (.iconst 1, 1) := dk_get kL_law_ok 10 rfl
theorem dL_law_16 : decode cL_law 16 = .ok (.ireturn, 1) := dk_get kL_law_ok 11 rfl
theorem dL_law_17 : decode cL_law 17 = .ok (.iconst 0, 1) := dk_get kL_law_ok 12 rfl
theorem dL_law_18 : decode cL_law 18 = .ok (.ireturn, 1) := dk_get kL_law_ok 13 rfl
def kL_fix : List (Nat × Instr × Nat) := [(0, .aload 4, 2), (2, .iconst 0, 1), (3, .aload_n 0, 1), (4, .iload_n 1, 1), (5, .iload_n 2, 1), (6, .iload_n 3, 1), (7, .invokevirtual 44, 3), (10, .i2l, 1), (11, .lastore, 1), (12, .goto 11, 3), (15, .astore 5, 2), (17, .iconst 1, 1), (18, .ireturn, 1), (19, .astore 5, 2), (21, .iconst 2, 1), (22, .ireturn, 1), (23, .iconst 0, 1), (24, .ireturn, 1)]
set_option maxRecDepth 100000 in
theorem kL_fix_ok : kL_fix.all (fun q => decide (decode cL_fix q.1 = .ok q.2)) = true := by decide +kernel
theorem dL_fix_0 : decode cL_fix 0 = .ok (.aload 4, 2) := dk_get kL_fix_ok 0 rfl
theorem dL_fix_2 : decode cL_fix 2 = .ok (.iconst 0, 1) := dk_get kL_fix_ok 1 rfl
theorem dL_fix_3 : decode cL_fix 3 = .ok (.aload_n 0, 1) := dk_get kL_fix_ok 2 rfl
theorem dL_fix_4 : decode cL_fix 4 = .ok (.iload_n 1, 1) := dk_get kL_fix_ok 3 rfl
theorem dL_fix_5 : decode cL_fix 5 = .ok (.iload_n 2, 1) := dk_get kL_fix_ok 4 rfl
theorem dL_fix_6 : decode cL_fix 6 = .ok (.iload_n 3, 1) := dk_get kL_fix_ok 5 rfl
theorem dL_fix_7 : decode cL_fix 7 = .ok (.invokevirtual 44, 3) := dk_get kL_fix_ok 6 rfl
theorem dL_fix_10 : decode cL_fix 10 = .ok (.i2l, 1) := dk_get kL_fix_ok 7 rfl
theorem dL_fix_11 : decode cL_fix 11 = .ok (.lastore, 1) := dk_get kL_fix_ok 8 rfl
theorem dL_fix_12 : decode cL_fix 12 = .ok (.goto 11, 3) := dk_get kL_fix_ok 9 rfl
theorem dL_fix_15 : decode cL_fix 15 = .ok (.astore 5, 2) := dk_get kL_fix_ok 10 rfl
theorem dL_fix_17 : decode cL_fix 17 = .ok (.iconst 1, 1) := dk_get kL_fix_ok 11 rfl
theorem dL_fix_18 : decode cL_fix 18 = .ok (.ireturn, 1) := dk_get kL_fix_ok 12 rfl
theorem dL_fix_19 : decode cL_fix 19 = .ok (.astore 5, 2) := dk_get kL_fix_ok 13 rfl
theorem dL_fix_21 : decode cL_fix 21 = .ok (.iconst 2, 1) := dk_get kL_fix_ok 14 rfl
theorem dL_fix_22 : decode cL_fix 22 = .ok (.ireturn, 1) := dk_get kL_fix_ok 15 rfl
theorem dL_fix_23 : decode cL_fix 23 = .ok (.iconst 0, 1) := dk_get kL_fix_ok 16 rfl
theorem dL_fix_24 : decode cL_fix 24 = .ok (.ireturn, 1) := dk_get kL_fix_ok 17 rfl
def kL_loose : List (Nat × Instr × Nat) := [(0, .aload_n 3, 1), (1, .iconst 0, 1), (2, .aload_n 0, 1), (3, .iload_n 1, 1), (4, .iload_n 2, 1), (5, .invokevirtual 48, 3), (8, .i2l, 1), (9, .lastore, 1), (10, .goto 11, 3), (13, .astore 4, 2), (15, .iconst 1, 1), (16, .ireturn, 1), (17, .astore 4, 2), (19, .iconst 2, 1), (20, .ireturn, 1), (21, .iconst 0, 1), (22, .ireturn, 1)]
set_option maxRecDepth 100000 in
theorem kL_loose_ok : kL_loose.all (fun q => decide (decode cL_loose q.1 = .ok q.2)) = true := by decide +kernel
theorem dL_loose_0 : decode cL_loose 0 = .ok (.aload_n 3, 1) := dk_get kL_loose_ok 0 rfl
theorem dL_loose_1 : decode cL_loose 1 = .ok (.iconst 0, 1) := dk_get kL_loose_ok 1 rfl
theorem dL_loose_2 : decode cL_loose 2 = .ok (.aload_n 0, 1) := dk_get kL_loose_ok 2 rfl
theorem dL_loose_3 : decode cL_loose 3 = .ok (.iload_n 1, 1) := dk_get kL_loose_ok 3 rfl
theorem dL_loose_4 : decode cL_loose 4 = .ok (.iload_n 2, 1) := dk_get kL_loose_ok 4 rfl
theorem dL_loose_5 : decode cL_loose 5 = .ok (.invokevirtual 48, 3) := dk_get kL_loose_ok 5 rfl
theorem dL_loose_8 : decode cL_loose 8 = .ok (.i2l, 1) := dk_get kL_loose_ok 6 rfl
theorem dL_loose_9 : decode cL_loose 9 = .ok (.lastore, 1) := dk_get kL_loose_ok 7 rfl
theorem dL_loose_10 : decode cL_loose 10 = .ok (.goto 11, 3) := dk_get kL_loose_ok 8 rfl
theorem dL_loose_13 : decode cL_loose 13 = .ok (.astore 4, 2) := dk_get kL_loose_ok 9 rfl
theorem dL_loose_15 : decode cL_loose 15 = .ok (.iconst 1, 1) := dk_get kL_loose_ok 10 rfl
theorem dL_loose_16 : decode cL_loose 16 = .ok (.ireturn, 1) := dk_get kL_loose_ok 11 rfl
theorem dL_loose_17 : decode cL_loose 17 = .ok (.astore 4, 2) := dk_get kL_loose_ok 12 rfl
theorem dL_loose_19 : decode cL_loose 19 = .ok (.iconst 2, 1) := dk_get kL_loose_ok 13 rfl
theorem dL_loose_20 : decode cL_loose 20 = .ok (.ireturn, 1) := dk_get kL_loose_ok 14 rfl
theorem dL_loose_21 : decode cL_loose 21 = .ok (.iconst 0, 1) := dk_get kL_loose_ok 15 rfl
theorem dL_loose_22 : decode cL_loose 22 = .ok (.ireturn, 1) := dk_get kL_loose_ok 16 rfl
def kL_put : List (Nat × Instr × Nat) := [(0, .aload_n 3, 1), (1, .iconst 0, 1), (2, .aload_n 0, 1), (3, .iload_n 1, 1), (4, .iload_n 2, 1), (5, .invokevirtual 51, 3), (8, .i2l, 1), (9, .lastore, 1), (10, .goto 11, 3), (13, .astore 4, 2), (15, .iconst 1, 1), (16, .ireturn, 1), (17, .astore 4, 2), (19, .iconst 2, 1), (20, .ireturn, 1), (21, .iconst 0, 1), (22, .ireturn, 1)]
set_option maxRecDepth 100000 in
theorem kL_put_ok : kL_put.all (fun q => decide (decode cL_put q.1 = .ok q.2)) = true := by decide +kernel
theorem dL_put_0 : decode cL_put 0 = .ok (.aload_n 3, 1) := dk_get kL_put_ok 0 rfl
theorem dL_put_1 : decode cL_put 1 = .ok (.iconst 0, 1) := dk_get kL_put_ok 1 rfl
theorem dL_put_2 : decode cL_put 2 = .ok (.aload_n 0, 1) := dk_get kL_put_ok 2 rfl
theorem dL_put_3 : decode cL_put 3 = .ok (.iload_n 1, 1) := dk_get kL_put_ok 3 rfl
theorem dL_put_4 : decode cL_put 4 = .ok (.iload_n 2, 1) := dk_get kL_put_ok 4 rfl
theorem dL_put_5 : decode cL_put 5 = .ok (.invokevirtual 51, 3) := dk_get kL_put_ok 5 rfl
theorem dL_put_8 : decode cL_put 8 = .ok (.i2l, 1) := dk_get kL_put_ok 6 rfl
theorem dL_put_9 : decode cL_put 9 = .ok (.lastore, 1) := dk_get kL_put_ok 7 rfl
theorem dL_put_10 : decode cL_put 10 = .ok (.goto 11, 3) := dk_get kL_put_ok 8 rfl
theorem dL_put_13 : decode cL_put 13 = .ok (.astore 4, 2) := dk_get kL_put_ok 9 rfl
theorem dL_put_15 : decode cL_put 15 = .ok (.iconst 1, 1) := dk_get kL_put_ok 10 rfl
theorem dL_put_16 : decode cL_put 16 = .ok (.ireturn, 1) := dk_get kL_put_ok 11 rfl
theorem dL_put_17 : decode cL_put 17 = .ok (.astore 4, 2) := dk_get kL_put_ok 12 rfl
theorem dL_put_19 : decode cL_put 19 = .ok (.iconst 2, 1) := dk_get kL_put_ok 13 rfl
theorem dL_put_20 : decode cL_put 20 = .ok (.ireturn, 1) := dk_get kL_put_ok 14 rfl
theorem dL_put_21 : decode cL_put 21 = .ok (.iconst 0, 1) := dk_get kL_put_ok 15 rfl
theorem dL_put_22 : decode cL_put 22 = .ok (.ireturn, 1) := dk_get kL_put_ok 16 rfl
def kL_alone : List (Nat × Instr × Nat) := [(0, .aload_n 2, 1), (1, .iconst 0, 1), (2, .aload_n 0, 1), (3, .iload_n 1, 1), (4, .invokevirtual 54, 3), (7, .ifCond .eq 7, 3), (10, .lconst 1, 1), (11, .goto 4, 3), (14, .lconst 0, 1), (15, .lastore, 1), (16, .goto 6, 3), (19, .astore_n 3, 1), (20, .iconst 1, 1), (21, .ireturn, 1), (22, .iconst 0, 1), (23, .ireturn, 1)]
set_option maxRecDepth 100000 in
theorem kL_alone_ok : kL_alone.all (fun q => decide (decode cL_alone q.1 = .ok q.2)) = true := by decide +kernel
theorem dL_alone_0 : decode cL_alone 0 = .ok (.aload_n 2, 1) := dk_get kL_alone_ok 0 rfl
theorem dL_alone_1 : decode cL_alone 1 = .ok (.iconst 0, 1) := dk_get kL_alone_ok 1 rfl
theorem dL_alone_2 : decode cL_alone 2 = .ok (.aload_n 0, 1) := dk_get kL_alone_ok 2 rfl
theorem dL_alone_3 : decode cL_alone 3 = .ok (.iload_n 1, 1) := dk_get kL_alone_ok 3 rfl
theorem dL_alone_4 : decode cL_alone 4 = .ok (.invokevirtual 54, 3) := dk_get kL_alone_ok 4 rfl
theorem dL_alone_7 : decode cL_alone 7 = .ok (.ifCond .eq 7, 3) := dk_get kL_alone_ok 5 rfl
theorem dL_alone_10 : decode cL_alone 10 = .ok (.lconst 1, 1) := dk_get kL_alone_ok 6 rfl
theorem dL_alone_11 : decode cL_alone 11 = .ok (.goto 4, 3) := dk_get kL_alone_ok 7 rfl
theorem dL_alone_14 : decode cL_alone 14 = .ok (.lconst 0, 1) := dk_get kL_alone_ok 8 rfl
theorem dL_alone_15 : decode cL_alone 15 = .ok (.lastore, 1) := dk_get kL_alone_ok 9 rfl
theorem dL_alone_16 : decode cL_alone 16 = .ok (.goto 6, 3) := dk_get kL_alone_ok 10 rfl
theorem dL_alone_19 : decode cL_alone 19 = .ok (.astore_n 3, 1) := dk_get kL_alone_ok 11 rfl
theorem dL_alone_20 : decode cL_alone 20 = .ok (.iconst 1, 1) := dk_get kL_alone_ok 12 rfl
theorem dL_alone_21 : decode cL_alone 21 = .ok (.ireturn, 1) := dk_get kL_alone_ok 13 rfl
theorem dL_alone_22 : decode cL_alone 22 = .ok (.iconst 0, 1) := dk_get kL_alone_ok 14 rfl
theorem dL_alone_23 : decode cL_alone 23 = .ok (.ireturn, 1) := dk_get kL_alone_ok 15 rfl
def kL_join : List (Nat × Instr × Nat) := [(0, .aload_n 3, 1), (1, .iconst 0, 1), (2, .aload_n 0, 1), (3, .iload_n 1, 1), (4, .iload_n 2, 1), (5, .invokevirtual 58, 3), (8, .i2l, 1), (9, .lastore, 1), (10, .goto 7, 3), (13, .astore 4, 2), (15, .iconst 1, 1), (16, .ireturn, 1), (17, .iconst 0, 1), (18, .ireturn, 1)]
set_option maxRecDepth 100000 in
theorem kL_join_ok : kL_join.all (fun q => decide (decode cL_join q.1 = .ok q.2)) = true := by decide +kernel
theorem dL_join_0 : decode cL_join 0 = .ok (.aload_n 3, 1) := dk_get kL_join_ok 0 rfl
theorem dL_join_1 : decode cL_join 1 = .ok (.iconst 0, 1) := dk_get kL_join_ok 1 rfl
theorem dL_join_2 : decode cL_join 2 = .ok (.aload_n 0, 1) := dk_get kL_join_ok 2 rfl
theorem dL_join_3 : decode cL_join 3 = .ok (.iload_n 1, 1) := dk_get kL_join_ok 3 rfl
theorem dL_join_4 : decode cL_join 4 = .ok (.iload_n 2, 1) := dk_get kL_join_ok 4 rfl
theorem dL_join_5 : decode cL_join 5 = .ok (.invokevirtual 58, 3) := dk_get kL_join_ok 5 rfl
theorem dL_join_8 : decode cL_join 8 = .ok (.i2l, 1) := dk_get kL_join_ok 6 rfl
theorem dL_join_9 : decode cL_join 9 = .ok (.lastore, 1) := dk_get kL_join_ok 7 rfl
theorem dL_join_10 : decode cL_join 10 = .ok (.goto 7, 3) := dk_get kL_join_ok 8 rfl
theorem dL_join_13 : decode cL_join 13 = .ok (.astore 4, 2) := dk_get kL_join_ok 9 rfl
theorem dL_join_15 : decode cL_join 15 = .ok (.iconst 1, 1) := dk_get kL_join_ok 10 rfl
theorem dL_join_16 : decode cL_join 16 = .ok (.ireturn, 1) := dk_get kL_join_ok 11 rfl
theorem dL_join_17 : decode cL_join 17 = .ok (.iconst 0, 1) := dk_get kL_join_ok 12 rfl
theorem dL_join_18 : decode cL_join 18 = .ok (.ireturn, 1) := dk_get kL_join_ok 13 rfl
def kL_swap : List (Nat × Instr × Nat) := [(0, .aload_n 3, 1), (1, .iconst 0, 1), (2, .aload_n 0, 1), (3, .iload_n 1, 1), (4, .iload_n 2, 1), (5, .invokevirtual 61, 3), (8, .i2l, 1), (9, .lastore, 1), (10, .goto 7, 3), (13, .astore 4, 2), (15, .iconst 1, 1), (16, .ireturn, 1), (17, .iconst 0, 1), (18, .ireturn, 1)]
set_option maxRecDepth 100000 in
theorem kL_swap_ok : kL_swap.all (fun q => decide (decode cL_swap q.1 = .ok q.2)) = true := by decide +kernel
theorem dL_swap_0 : decode cL_swap 0 = .ok (.aload_n 3, 1) := dk_get kL_swap_ok 0 rfl
theorem dL_swap_1 : decode cL_swap 1 = .ok (.iconst 0, 1) := dk_get kL_swap_ok 1 rfl
theorem dL_swap_2 : decode cL_swap 2 = .ok (.aload_n 0, 1) := dk_get kL_swap_ok 2 rfl
theorem dL_swap_3 : decode cL_swap 3 = .ok (.iload_n 1, 1) := dk_get kL_swap_ok 3 rfl
theorem dL_swap_4 : decode cL_swap 4 = .ok (.iload_n 2, 1) := dk_get kL_swap_ok 4 rfl
theorem dL_swap_5 : decode cL_swap 5 = .ok (.invokevirtual 61, 3) := dk_get kL_swap_ok 5 rfl
theorem dL_swap_8 : decode cL_swap 8 = .ok (.i2l, 1) := dk_get kL_swap_ok 6 rfl
theorem dL_swap_9 : decode cL_swap 9 = .ok (.lastore, 1) := dk_get kL_swap_ok 7 rfl
theorem dL_swap_10 : decode cL_swap 10 = .ok (.goto 7, 3) := dk_get kL_swap_ok 8 rfl
theorem dL_swap_13 : decode cL_swap 13 = .ok (.astore 4, 2) := dk_get kL_swap_ok 9 rfl
theorem dL_swap_15 : decode cL_swap 15 = .ok (.iconst 1, 1) := dk_get kL_swap_ok 10 rfl
theorem dL_swap_16 : decode cL_swap 16 = .ok (.ireturn, 1) := dk_get kL_swap_ok 11 rfl
theorem dL_swap_17 : decode cL_swap 17 = .ok (.iconst 0, 1) := dk_get kL_swap_ok 12 rfl
theorem dL_swap_18 : decode cL_swap 18 = .ok (.ireturn, 1) := dk_get kL_swap_ok 13 rfl
def kL_better : List (Nat × Instr × Nat) := [(0, .aload_n 2, 1), (1, .iconst 0, 1), (2, .aload_n 0, 1), (3, .iload_n 1, 1), (4, .invokevirtual 64, 3), (7, .lastore, 1), (8, .goto 6, 3), (11, .astore_n 3, 1), (12, .iconst 1, 1), (13, .ireturn, 1), (14, .iconst 0, 1), (15, .ireturn, 1)]
set_option maxRecDepth 100000 in
theorem kL_better_ok : kL_better.all (fun q => decide (decode cL_better q.1 = .ok q.2)) = true := by decide +kernel
theorem dL_better_0 : decode cL_better 0 = .ok (.aload_n 2, 1) := dk_get kL_better_ok 0 rfl
theorem dL_better_1 : decode cL_better 1 = .ok (.iconst 0, 1) := dk_get kL_better_ok 1 rfl
theorem dL_better_2 : decode cL_better 2 = .ok (.aload_n 0, 1) := dk_get kL_better_ok 2 rfl
theorem dL_better_3 : decode cL_better 3 = .ok (.iload_n 1, 1) := dk_get kL_better_ok 3 rfl
theorem dL_better_4 : decode cL_better 4 = .ok (.invokevirtual 64, 3) := dk_get kL_better_ok 4 rfl
theorem dL_better_7 : decode cL_better 7 = .ok (.lastore, 1) := dk_get kL_better_ok 5 rfl
theorem dL_better_8 : decode cL_better 8 = .ok (.goto 6, 3) := dk_get kL_better_ok 6 rfl
theorem dL_better_11 : decode cL_better 11 = .ok (.astore_n 3, 1) := dk_get kL_better_ok 7 rfl
theorem dL_better_12 : decode cL_better 12 = .ok (.iconst 1, 1) := dk_get kL_better_ok 8 rfl
theorem dL_better_13 : decode cL_better 13 = .ok (.ireturn, 1) := dk_get kL_better_ok 9 rfl
theorem dL_better_14 : decode cL_better 14 = .ok (.iconst 0, 1) := dk_get kL_better_ok 10 rfl
theorem dL_better_15 : decode cL_better 15 = .ok (.ireturn, 1) := dk_get kL_better_ok 11 rfl
def kL_grow : List (Nat × Instr × Nat) := [(0, .aload_n 2, 1), (1, .iconst 0, 1), (2, .aload_n 0, 1), (3, .iload_n 1, 1), (4, .invokevirtual 68, 3), (7, .i2l, 1), (8, .lastore, 1), (9, .goto 6, 3), (12, .astore_n 3, 1), (13, .iconst 1, 1), (14, .ireturn, 1), (15, .iconst 0, 1), (16, .ireturn, 1)]
set_option maxRecDepth 100000 in
theorem kL_grow_ok : kL_grow.all (fun q => decide (decode cL_grow q.1 = .ok q.2)) = true := by decide +kernel
theorem dL_grow_0 : decode cL_grow 0 = .ok (.aload_n 2, 1) := dk_get kL_grow_ok 0 rfl
theorem dL_grow_1 : decode cL_grow 1 = .ok (.iconst 0, 1) := dk_get kL_grow_ok 1 rfl
theorem dL_grow_2 : decode cL_grow 2 = .ok (.aload_n 0, 1) := dk_get kL_grow_ok 2 rfl
theorem dL_grow_3 : decode cL_grow 3 = .ok (.iload_n 1, 1) := dk_get kL_grow_ok 3 rfl
theorem dL_grow_4 : decode cL_grow 4 = .ok (.invokevirtual 68, 3) := dk_get kL_grow_ok 4 rfl
theorem dL_grow_7 : decode cL_grow 7 = .ok (.i2l, 1) := dk_get kL_grow_ok 5 rfl
theorem dL_grow_8 : decode cL_grow 8 = .ok (.lastore, 1) := dk_get kL_grow_ok 6 rfl
theorem dL_grow_9 : decode cL_grow 9 = .ok (.goto 6, 3) := dk_get kL_grow_ok 7 rfl
theorem dL_grow_12 : decode cL_grow 12 = .ok (.astore_n 3, 1) := dk_get kL_grow_ok 8 rfl
theorem dL_grow_13 : decode cL_grow 13 = .ok (.iconst 1, 1) := dk_get kL_grow_ok 9 rfl
theorem dL_grow_14 : decode cL_grow 14 = .ok (.ireturn, 1) := dk_get kL_grow_ok 10 rfl
theorem dL_grow_15 : decode cL_grow 15 = .ok (.iconst 0, 1) := dk_get kL_grow_ok 11 rfl
theorem dL_grow_16 : decode cL_grow 16 = .ok (.ireturn, 1) := dk_get kL_grow_ok 12 rfl
def kL_ring : List (Nat × Instr × Nat) := [(0, .aload_n 3, 1), (1, .iconst 0, 1), (2, .aload_n 0, 1), (3, .iload_n 1, 1), (4, .iload_n 2, 1), (5, .invokevirtual 71, 3), (8, .i2l, 1), (9, .lastore, 1), (10, .goto 7, 3), (13, .astore 4, 2), (15, .iconst 1, 1), (16, .ireturn, 1), (17, .iconst 0, 1), (18, .ireturn, 1)]
set_option maxRecDepth 100000 in
theorem kL_ring_ok : kL_ring.all (fun q => decide (decode cL_ring q.1 = .ok q.2)) = true := by decide +kernel
theorem dL_ring_0 : decode cL_ring 0 = .ok (.aload_n 3, 1) := dk_get kL_ring_ok 0 rfl
theorem dL_ring_1 : decode cL_ring 1 = .ok (.iconst 0, 1) := dk_get kL_ring_ok 1 rfl
theorem dL_ring_2 : decode cL_ring 2 = .ok (.aload_n 0, 1) := dk_get kL_ring_ok 2 rfl
theorem dL_ring_3 : decode cL_ring 3 = .ok (.iload_n 1, 1) := dk_get kL_ring_ok 3 rfl
theorem dL_ring_4 : decode cL_ring 4 = .ok (.iload_n 2, 1) := dk_get kL_ring_ok 4 rfl
theorem dL_ring_5 : decode cL_ring 5 = .ok (.invokevirtual 71, 3) := dk_get kL_ring_ok 5 rfl
theorem dL_ring_8 : decode cL_ring 8 = .ok (.i2l, 1) := dk_get kL_ring_ok 6 rfl
theorem dL_ring_9 : decode cL_ring 9 = .ok (.lastore, 1) := dk_get kL_ring_ok 7 rfl
theorem dL_ring_10 : decode cL_ring 10 = .ok (.goto 7, 3) := dk_get kL_ring_ok 8 rfl
theorem dL_ring_13 : decode cL_ring 13 = .ok (.astore 4, 2) := dk_get kL_ring_ok 9 rfl
theorem dL_ring_15 : decode cL_ring 15 = .ok (.iconst 1, 1) := dk_get kL_ring_ok 10 rfl
theorem dL_ring_16 : decode cL_ring 16 = .ok (.ireturn, 1) := dk_get kL_ring_ok 11 rfl
theorem dL_ring_17 : decode cL_ring 17 = .ok (.iconst 0, 1) := dk_get kL_ring_ok 12 rfl
theorem dL_ring_18 : decode cL_ring 18 = .ok (.ireturn, 1) := dk_get kL_ring_ok 13 rfl
def kL_told : List (Nat × Instr × Nat) := [(0, .aload 5, 2), (2, .iconst 0, 1), (3, .aload_n 0, 1), (4, .iload_n 1, 1), (5, .iload_n 2, 1), (6, .iload_n 3, 1), (7, .iload 4, 2), (9, .invokevirtual 74, 3), (12, .lastore, 1), (13, .goto 11, 3), (16, .astore 6, 2), (18, .iconst 1, 1), (19, .ireturn, 1), (20, .astore 6, 2), (22, .iconst 2, 1), (23, .ireturn, 1), (24, .iconst 0, 1), (25, .ireturn, 1)]
set_option maxRecDepth 100000 in
theorem kL_told_ok : kL_told.all (fun q => decide (decode cL_told q.1 = .ok q.2)) = true := by decide +kernel
theorem dL_told_0 : decode cL_told 0 = .ok (.aload 5, 2) := dk_get kL_told_ok 0 rfl
theorem dL_told_2 : decode cL_told 2 = .ok (.iconst 0, 1) := dk_get kL_told_ok 1 rfl
theorem dL_told_3 : decode cL_told 3 = .ok (.aload_n 0, 1) := dk_get kL_told_ok 2 rfl
theorem dL_told_4 : decode cL_told 4 = .ok (.iload_n 1, 1) := dk_get kL_told_ok 3 rfl
theorem dL_told_5 : decode cL_told 5 = .ok (.iload_n 2, 1) := dk_get kL_told_ok 4 rfl
theorem dL_told_6 : decode cL_told 6 = .ok (.iload_n 3, 1) := dk_get kL_told_ok 5 rfl
theorem dL_told_7 : decode cL_told 7 = .ok (.iload 4, 2) := dk_get kL_told_ok 6 rfl
theorem dL_told_9 : decode cL_told 9 = .ok (.invokevirtual 74, 3) := dk_get kL_told_ok 7 rfl
theorem dL_told_12 : decode cL_told 12 = .ok (.lastore, 1) := dk_get kL_told_ok 8 rfl
theorem dL_told_13 : decode cL_told 13 = .ok (.goto 11, 3) := dk_get kL_told_ok 9 rfl
theorem dL_told_16 : decode cL_told 16 = .ok (.astore 6, 2) := dk_get kL_told_ok 10 rfl
theorem dL_told_18 : decode cL_told 18 = .ok (.iconst 1, 1) := dk_get kL_told_ok 11 rfl
theorem dL_told_19 : decode cL_told 19 = .ok (.ireturn, 1) := dk_get kL_told_ok 12 rfl
theorem dL_told_20 : decode cL_told 20 = .ok (.astore 6, 2) := dk_get kL_told_ok 13 rfl
theorem dL_told_22 : decode cL_told 22 = .ok (.iconst 2, 1) := dk_get kL_told_ok 14 rfl
theorem dL_told_23 : decode cL_told 23 = .ok (.ireturn, 1) := dk_get kL_told_ok 15 rfl
theorem dL_told_24 : decode cL_told 24 = .ok (.iconst 0, 1) := dk_get kL_told_ok 16 rfl
theorem dL_told_25 : decode cL_told 25 = .ok (.ireturn, 1) := dk_get kL_told_ok 17 rfl
def kL_best : List (Nat × Instr × Nat) := [(0, .aload_n 2, 1), (1, .iconst 0, 1), (2, .aload_n 0, 1), (3, .iload_n 1, 1), (4, .invokevirtual 78, 3), (7, .lastore, 1), (8, .goto 6, 3), (11, .astore_n 3, 1), (12, .iconst 1, 1), (13, .ireturn, 1), (14, .iconst 0, 1), (15, .ireturn, 1)]
set_option maxRecDepth 100000 in
theorem kL_best_ok : kL_best.all (fun q => decide (decode cL_best q.1 = .ok q.2)) = true := by decide +kernel
theorem dL_best_0 : decode cL_best 0 = .ok (.aload_n 2, 1) := dk_get kL_best_ok 0 rfl
theorem dL_best_1 : decode cL_best 1 = .ok (.iconst 0, 1) := dk_get kL_best_ok 1 rfl
theorem dL_best_2 : decode cL_best 2 = .ok (.aload_n 0, 1) := dk_get kL_best_ok 2 rfl
theorem dL_best_3 : decode cL_best 3 = .ok (.iload_n 1, 1) := dk_get kL_best_ok 3 rfl
theorem dL_best_4 : decode cL_best 4 = .ok (.invokevirtual 78, 3) := dk_get kL_best_ok 4 rfl
theorem dL_best_7 : decode cL_best 7 = .ok (.lastore, 1) := dk_get kL_best_ok 5 rfl
theorem dL_best_8 : decode cL_best 8 = .ok (.goto 6, 3) := dk_get kL_best_ok 6 rfl
theorem dL_best_11 : decode cL_best 11 = .ok (.astore_n 3, 1) := dk_get kL_best_ok 7 rfl
theorem dL_best_12 : decode cL_best 12 = .ok (.iconst 1, 1) := dk_get kL_best_ok 8 rfl
theorem dL_best_13 : decode cL_best 13 = .ok (.ireturn, 1) := dk_get kL_best_ok 9 rfl
theorem dL_best_14 : decode cL_best 14 = .ok (.iconst 0, 1) := dk_get kL_best_ok 10 rfl
theorem dL_best_15 : decode cL_best 15 = .ok (.ireturn, 1) := dk_get kL_best_ok 11 rfl
def kL_many : List (Nat × Instr × Nat) := [(0, .aload_n 2, 1), (1, .iconst 0, 1), (2, .aload_n 0, 1), (3, .iload_n 1, 1), (4, .invokevirtual 81, 3), (7, .i2l, 1), (8, .lastore, 1), (9, .goto 6, 3), (12, .astore_n 3, 1), (13, .iconst 1, 1), (14, .ireturn, 1), (15, .iconst 0, 1), (16, .ireturn, 1)]
set_option maxRecDepth 100000 in
theorem kL_many_ok : kL_many.all (fun q => decide (decode cL_many q.1 = .ok q.2)) = true := by decide +kernel
theorem dL_many_0 : decode cL_many 0 = .ok (.aload_n 2, 1) := dk_get kL_many_ok 0 rfl
theorem dL_many_1 : decode cL_many 1 = .ok (.iconst 0, 1) := dk_get kL_many_ok 1 rfl
theorem dL_many_2 : decode cL_many 2 = .ok (.aload_n 0, 1) := dk_get kL_many_ok 2 rfl
theorem dL_many_3 : decode cL_many 3 = .ok (.iload_n 1, 1) := dk_get kL_many_ok 3 rfl
theorem dL_many_4 : decode cL_many 4 = .ok (.invokevirtual 81, 3) := dk_get kL_many_ok 4 rfl
theorem dL_many_7 : decode cL_many 7 = .ok (.i2l, 1) := dk_get kL_many_ok 5 rfl
theorem dL_many_8 : decode cL_many 8 = .ok (.lastore, 1) := dk_get kL_many_ok 6 rfl
theorem dL_many_9 : decode cL_many 9 = .ok (.goto 6, 3) := dk_get kL_many_ok 7 rfl
theorem dL_many_12 : decode cL_many 12 = .ok (.astore_n 3, 1) := dk_get kL_many_ok 8 rfl
theorem dL_many_13 : decode cL_many 13 = .ok (.iconst 1, 1) := dk_get kL_many_ok 9 rfl
theorem dL_many_14 : decode cL_many 14 = .ok (.ireturn, 1) := dk_get kL_many_ok 10 rfl
theorem dL_many_15 : decode cL_many 15 = .ok (.iconst 0, 1) := dk_get kL_many_ok 11 rfl
theorem dL_many_16 : decode cL_many 16 = .ok (.ireturn, 1) := dk_get kL_many_ok 12 rfl
def kL_first : List (Nat × Instr × Nat) := [(0, .aload_n 2, 1), (1, .iconst 0, 1), (2, .aload_n 0, 1), (3, .iload_n 1, 1), (4, .invokevirtual 84, 3), (7, .i2l, 1), (8, .lastore, 1), (9, .goto 6, 3), (12, .astore_n 3, 1), (13, .iconst 1, 1), (14, .ireturn, 1), (15, .iconst 0, 1), (16, .ireturn, 1)]
set_option maxRecDepth 100000 in
theorem kL_first_ok : kL_first.all (fun q => decide (decode cL_first q.1 = .ok q.2)) = true := by decide +kernel
theorem dL_first_0 : decode cL_first 0 = .ok (.aload_n 2, 1) := dk_get kL_first_ok 0 rfl
theorem dL_first_1 : decode cL_first 1 = .ok (.iconst 0, 1) := dk_get kL_first_ok 1 rfl
theorem dL_first_2 : decode cL_first 2 = .ok (.aload_n 0, 1) := dk_get kL_first_ok 2 rfl
theorem dL_first_3 : decode cL_first 3 = .ok (.iload_n 1, 1) := dk_get kL_first_ok 3 rfl
theorem dL_first_4 : decode cL_first 4 = .ok (.invokevirtual 84, 3) := dk_get kL_first_ok 4 rfl
theorem dL_first_7 : decode cL_first 7 = .ok (.i2l, 1) := dk_get kL_first_ok 5 rfl
theorem dL_first_8 : decode cL_first 8 = .ok (.lastore, 1) := dk_get kL_first_ok 6 rfl
theorem dL_first_9 : decode cL_first 9 = .ok (.goto 6, 3) := dk_get kL_first_ok 7 rfl
theorem dL_first_12 : decode cL_first 12 = .ok (.astore_n 3, 1) := dk_get kL_first_ok 8 rfl
theorem dL_first_13 : decode cL_first 13 = .ok (.iconst 1, 1) := dk_get kL_first_ok 9 rfl
theorem dL_first_14 : decode cL_first 14 = .ok (.ireturn, 1) := dk_get kL_first_ok 10 rfl
theorem dL_first_15 : decode cL_first 15 = .ok (.iconst 0, 1) := dk_get kL_first_ok 11 rfl
theorem dL_first_16 : decode cL_first 16 = .ok (.ireturn, 1) := dk_get kL_first_ok 12 rfl
def kL_always : List (Nat × Instr × Nat) := [(0, .aload_n 3, 1), (1, .iconst 0, 1), (2, .aload_n 0, 1), (3, .iload_n 1, 1), (4, .iload_n 2, 1), (5, .invokevirtual 87, 3), (8, .i2l, 1), (9, .lastore, 1), (10, .goto 11, 3), (13, .astore 4, 2), (15, .iconst 1, 1), (16, .ireturn, 1), (17, .astore 4, 2), (19, .iconst 2, 1), (20, .ireturn, 1), (21, .iconst 0, 1), (22, .ireturn, 1)]
set_option maxRecDepth 100000 in
theorem kL_always_ok : kL_always.all (fun q => decide (decode cL_always q.1 = .ok q.2)) = true := by decide +kernel
theorem dL_always_0 : decode cL_always 0 = .ok (.aload_n 3, 1) := dk_get kL_always_ok 0 rfl
theorem dL_always_1 : decode cL_always 1 = .ok (.iconst 0, 1) := dk_get kL_always_ok 1 rfl
theorem dL_always_2 : decode cL_always 2 = .ok (.aload_n 0, 1) := dk_get kL_always_ok 2 rfl
theorem dL_always_3 : decode cL_always 3 = .ok (.iload_n 1, 1) := dk_get kL_always_ok 3 rfl
theorem dL_always_4 : decode cL_always 4 = .ok (.iload_n 2, 1) := dk_get kL_always_ok 4 rfl
theorem dL_always_5 : decode cL_always 5 = .ok (.invokevirtual 87, 3) := dk_get kL_always_ok 5 rfl
theorem dL_always_8 : decode cL_always 8 = .ok (.i2l, 1) := dk_get kL_always_ok 6 rfl
theorem dL_always_9 : decode cL_always 9 = .ok (.lastore, 1) := dk_get kL_always_ok 7 rfl
theorem dL_always_10 : decode cL_always 10 = .ok (.goto 11, 3) := dk_get kL_always_ok 8 rfl
theorem dL_always_13 : decode cL_always 13 = .ok (.astore 4, 2) := dk_get kL_always_ok 9 rfl
theorem dL_always_15 : decode cL_always 15 = .ok (.iconst 1, 1) := dk_get kL_always_ok 10 rfl
theorem dL_always_16 : decode cL_always 16 = .ok (.ireturn, 1) := dk_get kL_always_ok 11 rfl
theorem dL_always_17 : decode cL_always 17 = .ok (.astore 4, 2) := dk_get kL_always_ok 12 rfl
theorem dL_always_19 : decode cL_always 19 = .ok (.iconst 2, 1) := dk_get kL_always_ok 13 rfl
theorem dL_always_20 : decode cL_always 20 = .ok (.ireturn, 1) := dk_get kL_always_ok 14 rfl
theorem dL_always_21 : decode cL_always 21 = .ok (.iconst 0, 1) := dk_get kL_always_ok 15 rfl
theorem dL_always_22 : decode cL_always 22 = .ok (.ireturn, 1) := dk_get kL_always_ok 16 rfl
def kL_edge : List (Nat × Instr × Nat) := [(0, .aload_n 3, 1), (1, .iconst 0, 1), (2, .aload_n 0, 1), (3, .iload_n 1, 1), (4, .iload_n 2, 1), (5, .invokevirtual 90, 3), (8, .lastore, 1), (9, .goto 11, 3), (12, .astore 4, 2), (14, .iconst 1, 1), (15, .ireturn, 1), (16, .astore 4, 2), (18, .iconst 2, 1), (19, .ireturn, 1), (20, .iconst 0, 1), (21, .ireturn, 1)]
set_option maxRecDepth 100000 in
theorem kL_edge_ok : kL_edge.all (fun q => decide (decode cL_edge q.1 = .ok q.2)) = true := by decide +kernel
theorem dL_edge_0 : decode cL_edge 0 = .ok (.aload_n 3, 1) := dk_get kL_edge_ok 0 rfl
theorem dL_edge_1 : decode cL_edge 1 = .ok (.iconst 0, 1) := dk_get kL_edge_ok 1 rfl
theorem dL_edge_2 : decode cL_edge 2 = .ok (.aload_n 0, 1) := dk_get kL_edge_ok 2 rfl
theorem dL_edge_3 : decode cL_edge 3 = .ok (.iload_n 1, 1) := dk_get kL_edge_ok 3 rfl
theorem dL_edge_4 : decode cL_edge 4 = .ok (.iload_n 2, 1) := dk_get kL_edge_ok 4 rfl
theorem dL_edge_5 : decode cL_edge 5 = .ok (.invokevirtual 90, 3) := dk_get kL_edge_ok 5 rfl
theorem dL_edge_8 : decode cL_edge 8 = .ok (.lastore, 1) := dk_get kL_edge_ok 6 rfl
theorem dL_edge_9 : decode cL_edge 9 = .ok (.goto 11, 3) := dk_get kL_edge_ok 7 rfl
theorem dL_edge_12 : decode cL_edge 12 = .ok (.astore 4, 2) := dk_get kL_edge_ok 8 rfl
theorem dL_edge_14 : decode cL_edge 14 = .ok (.iconst 1, 1) := dk_get kL_edge_ok 9 rfl
theorem dL_edge_15 : decode cL_edge 15 = .ok (.ireturn, 1) := dk_get kL_edge_ok 10 rfl
theorem dL_edge_16 : decode cL_edge 16 = .ok (.astore 4, 2) := dk_get kL_edge_ok 11 rfl
theorem dL_edge_18 : decode cL_edge 18 = .ok (.iconst 2, 1) := dk_get kL_edge_ok 12 rfl
theorem dL_edge_19 : decode cL_edge 19 = .ok (.ireturn, 1) := dk_get kL_edge_ok 13 rfl
theorem dL_edge_20 : decode cL_edge 20 = .ok (.iconst 0, 1) := dk_get kL_edge_ok 14 rfl
theorem dL_edge_21 : decode cL_edge 21 = .ok (.ireturn, 1) := dk_get kL_edge_ok 15 rfl
def kL_holds : List (Nat × Instr × Nat) := [(0, .aload 4, 2), (2, .iconst 0, 1), (3, .aload_n 0, 1), (4, .iload_n 1, 1), (5, .iload_n 2, 1), (6, .iload_n 3, 1), (7, .invokevirtual 94, 3), (10, .i2l, 1), (11, .lastore, 1), (12, .goto 11, 3), (15, .astore 5, 2), (17, .iconst 1, 1), (18, .ireturn, 1), (19, .astore 5, 2), (21, .iconst 2, 1), (22, .ireturn, 1), (23, .iconst 0, 1), (24, .ireturn, 1)]
set_option maxRecDepth 100000 in
theorem kL_holds_ok : kL_holds.all (fun q => decide (decode cL_holds q.1 = .ok q.2)) = true := by decide +kernel
theorem dL_holds_0 : decode cL_holds 0 = .ok (.aload 4, 2) := dk_get kL_holds_ok 0 rfl
theorem dL_holds_2 : decode cL_holds 2 = .ok (.iconst 0, 1) := dk_get kL_holds_ok 1 rfl
theorem dL_holds_3 : decode cL_holds 3 = .ok (.aload_n 0, 1) := dk_get kL_holds_ok 2 rfl
theorem dL_holds_4 : decode cL_holds 4 = .ok (.iload_n 1, 1) := dk_get kL_holds_ok 3 rfl
theorem dL_holds_5 : decode cL_holds 5 = .ok (.iload_n 2, 1) := dk_get kL_holds_ok 4 rfl
theorem dL_holds_6 : decode cL_holds 6 = .ok (.iload_n 3, 1) := dk_get kL_holds_ok 5 rfl
theorem dL_holds_7 : decode cL_holds 7 = .ok (.invokevirtual 94, 3) := dk_get kL_holds_ok 6 rfl
theorem dL_holds_10 : decode cL_holds 10 = .ok (.i2l, 1) := dk_get kL_holds_ok 7 rfl
theorem dL_holds_11 : decode cL_holds 11 = .ok (.lastore, 1) := dk_get kL_holds_ok 8 rfl
theorem dL_holds_12 : decode cL_holds 12 = .ok (.goto 11, 3) := dk_get kL_holds_ok 9 rfl
theorem dL_holds_15 : decode cL_holds 15 = .ok (.astore 5, 2) := dk_get kL_holds_ok 10 rfl
theorem dL_holds_17 : decode cL_holds 17 = .ok (.iconst 1, 1) := dk_get kL_holds_ok 11 rfl
theorem dL_holds_18 : decode cL_holds 18 = .ok (.ireturn, 1) := dk_get kL_holds_ok 12 rfl
theorem dL_holds_19 : decode cL_holds 19 = .ok (.astore 5, 2) := dk_get kL_holds_ok 13 rfl
theorem dL_holds_21 : decode cL_holds 21 = .ok (.iconst 2, 1) := dk_get kL_holds_ok 14 rfl
theorem dL_holds_22 : decode cL_holds 22 = .ok (.ireturn, 1) := dk_get kL_holds_ok 15 rfl
theorem dL_holds_23 : decode cL_holds 23 = .ok (.iconst 0, 1) := dk_get kL_holds_ok 16 rfl
theorem dL_holds_24 : decode cL_holds 24 = .ok (.ireturn, 1) := dk_get kL_holds_ok 17 rfl
def kL_asked : List (Nat × Instr × Nat) := [(0, .aload_n 2, 1), (1, .iconst 0, 1), (2, .aload_n 0, 1), (3, .iload_n 1, 1), (4, .invokevirtual 97, 3), (7, .i2l, 1), (8, .lastore, 1), (9, .goto 6, 3), (12, .astore_n 3, 1), (13, .iconst 1, 1), (14, .ireturn, 1), (15, .iconst 0, 1), (16, .ireturn, 1)]
set_option maxRecDepth 100000 in
theorem kL_asked_ok : kL_asked.all (fun q => decide (decode cL_asked q.1 = .ok q.2)) = true := by decide +kernel
theorem dL_asked_0 : decode cL_asked 0 = .ok (.aload_n 2, 1) := dk_get kL_asked_ok 0 rfl
theorem dL_asked_1 : decode cL_asked 1 = .ok (.iconst 0, 1) := dk_get kL_asked_ok 1 rfl
theorem dL_asked_2 : decode cL_asked 2 = .ok (.aload_n 0, 1) := dk_get kL_asked_ok 2 rfl
theorem dL_asked_3 : decode cL_asked 3 = .ok (.iload_n 1, 1) := dk_get kL_asked_ok 3 rfl
theorem dL_asked_4 : decode cL_asked 4 = .ok (.invokevirtual 97, 3) := dk_get kL_asked_ok 4 rfl
theorem dL_asked_7 : decode cL_asked 7 = .ok (.i2l, 1) := dk_get kL_asked_ok 5 rfl
theorem dL_asked_8 : decode cL_asked 8 = .ok (.lastore, 1) := dk_get kL_asked_ok 6 rfl
theorem dL_asked_9 : decode cL_asked 9 = .ok (.goto 6, 3) := dk_get kL_asked_ok 7 rfl
theorem dL_asked_12 : decode cL_asked 12 = .ok (.astore_n 3, 1) := dk_get kL_asked_ok 8 rfl
theorem dL_asked_13 : decode cL_asked 13 = .ok (.iconst 1, 1) := dk_get kL_asked_ok 9 rfl
theorem dL_asked_14 : decode cL_asked 14 = .ok (.ireturn, 1) := dk_get kL_asked_ok 10 rfl
theorem dL_asked_15 : decode cL_asked 15 = .ok (.iconst 0, 1) := dk_get kL_asked_ok 11 rfl
theorem dL_asked_16 : decode cL_asked 16 = .ok (.ireturn, 1) := dk_get kL_asked_ok 12 rfl
def kL_near : List (Nat × Instr × Nat) := [(0, .aload_n 3, 1), (1, .iconst 0, 1), (2, .aload_n 0, 1), (3, .iload_n 1, 1), (4, .iload_n 2, 1), (5, .invokevirtual 100, 3), (8, .i2l, 1), (9, .lastore, 1), (10, .goto 11, 3), (13, .astore 4, 2), (15, .iconst 1, 1), (16, .ireturn, 1), (17, .astore 4, 2), (19, .iconst 2, 1), (20, .ireturn, 1), (21, .iconst 0, 1), (22, .ireturn, 1)]
set_option maxRecDepth 100000 in
theorem kL_near_ok : kL_near.all (fun q => decide (decode cL_near q.1 = .ok q.2)) = true := by decide +kernel
theorem dL_near_0 : decode cL_near 0 = .ok (.aload_n 3, 1) := dk_get kL_near_ok 0 rfl
theorem dL_near_1 : decode cL_near 1 = .ok (.iconst 0, 1) := dk_get kL_near_ok 1 rfl
theorem dL_near_2 : decode cL_near 2 = .ok (.aload_n 0, 1) := dk_get kL_near_ok 2 rfl
theorem dL_near_3 : decode cL_near 3 = .ok (.iload_n 1, 1) := dk_get kL_near_ok 3 rfl
theorem dL_near_4 : decode cL_near 4 = .ok (.iload_n 2, 1) := dk_get kL_near_ok 4 rfl
theorem dL_near_5 : decode cL_near 5 = .ok (.invokevirtual 100, 3) := dk_get kL_near_ok 5 rfl
theorem dL_near_8 : decode cL_near 8 = .ok (.i2l, 1) := dk_get kL_near_ok 6 rfl
theorem dL_near_9 : decode cL_near 9 = .ok (.lastore, 1) := dk_get kL_near_ok 7 rfl
theorem dL_near_10 : decode cL_near 10 = .ok (.goto 11, 3) := dk_get kL_near_ok 8 rfl
theorem dL_near_13 : decode cL_near 13 = .ok (.astore 4, 2) := dk_get kL_near_ok 9 rfl
theorem dL_near_15 : decode cL_near 15 = .ok (.iconst 1, 1) := dk_get kL_near_ok 10 rfl
theorem dL_near_16 : decode cL_near 16 = .ok (.ireturn, 1) := dk_get kL_near_ok 11 rfl
theorem dL_near_17 : decode cL_near 17 = .ok (.astore 4, 2) := dk_get kL_near_ok 12 rfl
theorem dL_near_19 : decode cL_near 19 = .ok (.iconst 2, 1) := dk_get kL_near_ok 13 rfl
theorem dL_near_20 : decode cL_near 20 = .ok (.ireturn, 1) := dk_get kL_near_ok 14 rfl
theorem dL_near_21 : decode cL_near 21 = .ok (.iconst 0, 1) := dk_get kL_near_ok 15 rfl
theorem dL_near_22 : decode cL_near 22 = .ok (.ireturn, 1) := dk_get kL_near_ok 16 rfl
def kL_nearest : List (Nat × Instr × Nat) := [(0, .aload_n 3, 1), (1, .iconst 0, 1), (2, .aload_n 0, 1), (3, .iload_n 1, 1), (4, .iload_n 2, 1), (5, .invokevirtual 103, 3), (8, .i2l, 1), (9, .lastore, 1), (10, .goto 11, 3), (13, .astore 4, 2), (15, .iconst 1, 1), (16, .ireturn, 1), (17, .astore 4, 2), (19, .iconst 2, 1), (20, .ireturn, 1), (21, .iconst 0, 1), (22, .ireturn, 1)]
set_option maxRecDepth 100000 in
theorem kL_nearest_ok : kL_nearest.all (fun q => decide (decode cL_nearest q.1 = .ok q.2)) = true := by decide +kernel
theorem dL_nearest_0 : decode cL_nearest 0 = .ok (.aload_n 3, 1) := dk_get kL_nearest_ok 0 rfl
theorem dL_nearest_1 : decode cL_nearest 1 = .ok (.iconst 0, 1) := dk_get kL_nearest_ok 1 rfl
theorem dL_nearest_2 : decode cL_nearest 2 = .ok (.aload_n 0, 1) := dk_get kL_nearest_ok 2 rfl
theorem dL_nearest_3 : decode cL_nearest 3 = .ok (.iload_n 1, 1) := dk_get kL_nearest_ok 3 rfl
theorem dL_nearest_4 : decode cL_nearest 4 = .ok (.iload_n 2, 1) := dk_get kL_nearest_ok 4 rfl
theorem dL_nearest_5 : decode cL_nearest 5 = .ok (.invokevirtual 103, 3) := dk_get kL_nearest_ok 5 rfl
theorem dL_nearest_8 : decode cL_nearest 8 = .ok (.i2l, 1) := dk_get kL_nearest_ok 6 rfl
theorem dL_nearest_9 : decode cL_nearest 9 = .ok (.lastore, 1) := dk_get kL_nearest_ok 7 rfl
theorem dL_nearest_10 : decode cL_nearest 10 = .ok (.goto 11, 3) := dk_get kL_nearest_ok 8 rfl
theorem dL_nearest_13 : decode cL_nearest 13 = .ok (.astore 4, 2) := dk_get kL_nearest_ok 9 rfl
theorem dL_nearest_15 : decode cL_nearest 15 = .ok (.iconst 1, 1) := dk_get kL_nearest_ok 10 rfl
theorem dL_nearest_16 : decode cL_nearest 16 = .ok (.ireturn, 1) := dk_get kL_nearest_ok 11 rfl
theorem dL_nearest_17 : decode cL_nearest 17 = .ok (.astore 4, 2) := dk_get kL_nearest_ok 12 rfl
theorem dL_nearest_19 : decode cL_nearest 19 = .ok (.iconst 2, 1) := dk_get kL_nearest_ok 13 rfl
theorem dL_nearest_20 : decode cL_nearest 20 = .ok (.ireturn, 1) := dk_get kL_nearest_ok 14 rfl
theorem dL_nearest_21 : decode cL_nearest 21 = .ok (.iconst 0, 1) := dk_get kL_nearest_ok 15 rfl
theorem dL_nearest_22 : decode cL_nearest 22 = .ok (.ireturn, 1) := dk_get kL_nearest_ok 16 rfl
def kL_without : List (Nat × Instr × Nat) := [(0, .aload_n 2, 1), (1, .iconst 0, 1), (2, .aload_n 0, 1), (3, .iload_n 1, 1), (4, .invokevirtual 106, 3), (7, .lastore, 1), (8, .goto 6, 3), (11, .astore_n 3, 1), (12, .iconst 1, 1), (13, .ireturn, 1), (14, .iconst 0, 1), (15, .ireturn, 1)]
set_option maxRecDepth 100000 in
theorem kL_without_ok : kL_without.all (fun q => decide (decode cL_without q.1 = .ok q.2)) = true := by decide +kernel
theorem dL_without_0 : decode cL_without 0 = .ok (.aload_n 2, 1) := dk_get kL_without_ok 0 rfl
theorem dL_without_1 : decode cL_without 1 = .ok (.iconst 0, 1) := dk_get kL_without_ok 1 rfl
theorem dL_without_2 : decode cL_without 2 = .ok (.aload_n 0, 1) := dk_get kL_without_ok 2 rfl
theorem dL_without_3 : decode cL_without 3 = .ok (.iload_n 1, 1) := dk_get kL_without_ok 3 rfl
theorem dL_without_4 : decode cL_without 4 = .ok (.invokevirtual 106, 3) := dk_get kL_without_ok 4 rfl
theorem dL_without_7 : decode cL_without 7 = .ok (.lastore, 1) := dk_get kL_without_ok 5 rfl
theorem dL_without_8 : decode cL_without 8 = .ok (.goto 6, 3) := dk_get kL_without_ok 6 rfl
theorem dL_without_11 : decode cL_without 11 = .ok (.astore_n 3, 1) := dk_get kL_without_ok 7 rfl
theorem dL_without_12 : decode cL_without 12 = .ok (.iconst 1, 1) := dk_get kL_without_ok 8 rfl
theorem dL_without_13 : decode cL_without 13 = .ok (.ireturn, 1) := dk_get kL_without_ok 9 rfl
theorem dL_without_14 : decode cL_without 14 = .ok (.iconst 0, 1) := dk_get kL_without_ok 10 rfl
theorem dL_without_15 : decode cL_without 15 = .ok (.ireturn, 1) := dk_get kL_without_ok 11 rfl
def kL_stands : List (Nat × Instr × Nat) := [(0, .aload_n 2, 1), (1, .iconst 0, 1), (2, .aload_n 0, 1), (3, .iload_n 1, 1), (4, .invokevirtual 109, 3), (7, .i2l, 1), (8, .lastore, 1), (9, .goto 6, 3), (12, .astore_n 3, 1), (13, .iconst 1, 1), (14, .ireturn, 1), (15, .iconst 0, 1), (16, .ireturn, 1)]
set_option maxRecDepth 100000 in
theorem kL_stands_ok : kL_stands.all (fun q => decide (decode cL_stands q.1 = .ok q.2)) = true := by decide +kernel
theorem dL_stands_0 : decode cL_stands 0 = .ok (.aload_n 2, 1) := dk_get kL_stands_ok 0 rfl
theorem dL_stands_1 : decode cL_stands 1 = .ok (.iconst 0, 1) := dk_get kL_stands_ok 1 rfl
theorem dL_stands_2 : decode cL_stands 2 = .ok (.aload_n 0, 1) := dk_get kL_stands_ok 2 rfl
theorem dL_stands_3 : decode cL_stands 3 = .ok (.iload_n 1, 1) := dk_get kL_stands_ok 3 rfl
theorem dL_stands_4 : decode cL_stands 4 = .ok (.invokevirtual 109, 3) := dk_get kL_stands_ok 4 rfl
theorem dL_stands_7 : decode cL_stands 7 = .ok (.i2l, 1) := dk_get kL_stands_ok 5 rfl
theorem dL_stands_8 : decode cL_stands 8 = .ok (.lastore, 1) := dk_get kL_stands_ok 6 rfl
theorem dL_stands_9 : decode cL_stands 9 = .ok (.goto 6, 3) := dk_get kL_stands_ok 7 rfl
theorem dL_stands_12 : decode cL_stands 12 = .ok (.astore_n 3, 1) := dk_get kL_stands_ok 8 rfl
theorem dL_stands_13 : decode cL_stands 13 = .ok (.iconst 1, 1) := dk_get kL_stands_ok 9 rfl
theorem dL_stands_14 : decode cL_stands 14 = .ok (.ireturn, 1) := dk_get kL_stands_ok 10 rfl
theorem dL_stands_15 : decode cL_stands 15 = .ok (.iconst 0, 1) := dk_get kL_stands_ok 11 rfl
theorem dL_stands_16 : decode cL_stands 16 = .ok (.ireturn, 1) := dk_get kL_stands_ok 12 rfl
