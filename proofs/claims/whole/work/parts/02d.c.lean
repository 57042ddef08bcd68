def kX12_thrown : List (Nat × Instr × Nat) := [(0, .aload_n 0, 1), (1, .getfield 1, 3), (4, .ireturn, 1)]
set_option maxRecDepth 100000 in
theorem kX12_thrown_ok : kX12_thrown.all (fun q => decide (decode cX12_thrown q.1 = .ok q.2)) = true := by decide +kernel
theorem dX12_thrown_0 : decode cX12_thrown 0 = .ok (.aload_n 0, 1) := dk_get kX12_thrown_ok 0 rfl
theorem dX12_thrown_1 : decode cX12_thrown 1 = .ok (.getfield 1, 3) := dk_get kX12_thrown_ok 1 rfl
theorem dX12_thrown_4 : decode cX12_thrown 4 = .ok (.ireturn, 1) := dk_get kX12_thrown_ok 2 rfl
def kX12_may : List (Nat × Instr × Nat) := [(0, .iload_n 1, 1), (1, .ifCond .ne 15, 3), (4, .aload_n 0, 1), (5, .getfield 1, 3), (8, .ifCond .ne 8, 3), (11, .aload_n 0, 1), (12, .iload_n 2, 1), (13, .putfield 1, 3), (16, .aload_n 0, 1), (17, .getfield 1, 3), (20, .ifCond .ne 7, 3), (23, .iconst 1, 1), (24, .goto 4, 3), (27, .iconst 0, 1), (28, .ireturn, 1)]
set_option maxRecDepth 100000 in
theorem kX12_may_ok : kX12_may.all (fun q => decide (decode cX12_may q.1 = .ok q.2)) = true := by decide +kernel
theorem dX12_may_0 : decode cX12_may 0 = .ok (.iload_n 1, 1) := dk_get kX12_may_ok 0 rfl
theorem dX12_may_1 : decode cX12_may 1 = .ok (.ifCond .ne 15, 3) := dk_get kX12_may_ok 1 rfl
theorem dX12_may_4 : decode cX12_may 4 = .ok (.aload_n 0, 1) := dk_get kX12_may_ok 2 rfl
theorem dX12_may_5 : decode cX12_may 5 = .ok (.getfield 1, 3) := dk_get kX12_may_ok 3 rfl
theorem dX12_may_8 : decode cX12_may 8 = .ok (.ifCond .ne 8, 3) := dk_get kX12_may_ok 4 rfl
theorem dX12_may_11 : decode cX12_may 11 = .ok (.aload_n 0, 1) := dk_get kX12_may_ok 5 rfl
theorem dX12_may_12 : decode cX12_may 12 = .ok (.iload_n 2, 1) := dk_get kX12_may_ok 6 rfl
theorem dX12_may_13 : decode cX12_may 13 = .ok (.putfield 1, 3) := dk_get kX12_may_ok 7 rfl
theorem dX12_may_16 : decode cX12_may 16 = .ok (.aload_n 0, 1) := dk_get kX12_may_ok 8 rfl
theorem dX12_may_17 : decode cX12_may 17 = .ok (.getfield 1, 3) := dk_get kX12_may_ok 9 rfl
theorem dX12_may_20 : decode cX12_may 20 = .ok (.ifCond .ne 7, 3) := dk_get kX12_may_ok 10 rfl
theorem dX12_may_23 : decode cX12_may 23 = .ok (.iconst 1, 1) := dk_get kX12_may_ok 11 rfl
theorem dX12_may_24 : decode cX12_may 24 = .ok (.goto 4, 3) := dk_get kX12_may_ok 12 rfl
theorem dX12_may_27 : decode cX12_may 27 = .ok (.iconst 0, 1) := dk_get kX12_may_ok 13 rfl
theorem dX12_may_28 : decode cX12_may 28 = .ok (.ireturn, 1) := dk_get kX12_may_ok 14 rfl
def kX12_within : List (Nat × Instr × Nat) := [(0, .iload_n 0, 1), (1, .iload_n 1, 1), (2, .if_icmp .lt 12, 3), (5, .iload_n 0, 1), (6, .iload_n 2, 1), (7, .if_icmp .gt 7, 3), (10, .iconst 1, 1), (11, .goto 4, 3), (14, .iconst 0, 1), (15, .ireturn, 1)]
set_option maxRecDepth 100000 in
theorem kX12_within_ok : kX12_within.all (fun q => decide (decode cX12_within q.1 = .ok q.2)) = true := by decide +kernel
theorem dX12_within_0 : decode cX12_within 0 = .ok (.iload_n 0, 1) := dk_get kX12_within_ok 0 rfl
theorem dX12_within_1 : decode cX12_within 1 = .ok (.iload_n 1, 1) := dk_get kX12_within_ok 1 rfl
theorem dX12_within_2 : decode cX12_within 2 = .ok (.if_icmp .lt 12, 3) := dk_get kX12_within_ok 2 rfl
theorem dX12_within_5 : decode cX12_within 5 = .ok (.iload_n 0, 1) := dk_get kX12_within_ok 3 rfl
theorem dX12_within_6 : decode cX12_within 6 = .ok (.iload_n 2, 1) := dk_get kX12_within_ok 4 rfl
theorem dX12_within_7 : decode cX12_within 7 = .ok (.if_icmp .gt 7, 3) := dk_get kX12_within_ok 5 rfl
theorem dX12_within_10 : decode cX12_within 10 = .ok (.iconst 1, 1) := dk_get kX12_within_ok 6 rfl
theorem dX12_within_11 : decode cX12_within 11 = .ok (.goto 4, 3) := dk_get kX12_within_ok 7 rfl
theorem dX12_within_14 : decode cX12_within 14 = .ok (.iconst 0, 1) := dk_get kX12_within_ok 8 rfl
theorem dX12_within_15 : decode cX12_within 15 = .ok (.ireturn, 1) := dk_get kX12_within_ok 9 rfl
def kX12_off : List (Nat × Instr × Nat) := [(0, .iload_n 0, 1), (1, .ifCond .ge 8, 3), (4, .iload_n 0, 1), (5, .ineg, 1), (6, .goto 4, 3), (9, .iload_n 0, 1), (10, .ireturn, 1)]
set_option maxRecDepth 100000 in
theorem kX12_off_ok : kX12_off.all (fun q => decide (decode cX12_off q.1 = .ok q.2)) = true := by decide +kernel
theorem dX12_off_0 : decode cX12_off 0 = .ok (.iload_n 0, 1) := dk_get kX12_off_ok 0 rfl
theorem dX12_off_1 : decode cX12_off 1 = .ok (.ifCond .ge 8, 3) := dk_get kX12_off_ok 1 rfl
theorem dX12_off_4 : decode cX12_off 4 = .ok (.iload_n 0, 1) := dk_get kX12_off_ok 2 rfl
theorem dX12_off_5 : decode cX12_off 5 = .ok (.ineg, 1) := dk_get kX12_off_ok 3 rfl
theorem dX12_off_6 : decode cX12_off 6 = .ok (.goto 4, 3) := dk_get kX12_off_ok 4 rfl
theorem dX12_off_9 : decode cX12_off 9 = .ok (.iload_n 0, 1) := dk_get kX12_off_ok 5 rfl
theorem dX12_off_10 : decode cX12_off 10 = .ok (.ireturn, 1) := dk_get kX12_off_ok 6 rfl
def kX12_init_0 : List (Nat × Instr × Nat) := [(0, .aload_n 0, 1), (1, .invokespecial 7, 3), (4, .aload_n 0, 1), (5, .bipush 30, 2), (7, .newarray .int, 2), (9, .putfield 13, 3), (12, .aload_n 0, 1), (13, .bipush 30, 2), (15, .newarray .int, 2), (17, .putfield 17, 3), (20, .aload_n 0, 1), (21, .bipush 30, 2), (23, .newarray .int, 2), (25, .putfield 20, 3), (28, .aload_n 0, 1), (29, .bipush 30, 2), (31, .newarray .int, 2), (33, .putfield 23, 3), (36, .aload_n 0, 1), (37, .bipush 30, 2), (39, .newarray .int, 2), (41, .putfield 26, 3), (44, .aload_n 0, 1), (45, .bipush 30, 2), (47, .newarray .int, 2), (49, .putfield 29, 3), (52, .aload_n 0, 1), (53, .sipush 256, 3), (56, .newarray .int, 2), (58, .putfield 32, 3), (61, .aload_n 0, 1), (62, .iconst (-1), 1), (63, .putfield 35, 3), (66, .aload_n 0, 1), (67, .sipush 400, 3), (70, .newarray .int, 2), (72, .putfield 38, 3), (75, .aload_n 0, 1), (76, .bipush 16, 2), (78, .newarray .int, 2), (80, .putfield 41, 3), (83, .aload_n 0, 1), (84, .bipush 16, 2), (86, .newarray .int, 2), (88, .putfield 44, 3), (91, .aload_n 0, 1), (92, .bipush 16, 2), (94, .newarray .int, 2), (96, .putfield 47, 3), (99, .aload_n 0, 1), (100, .bipush 16, 2), (102, .newarray .int, 2), (104, .putfield 50, 3), (107, .aload_n 0, 1), (108, .sipush 400, 3), (111, .newarray .int, 2), (113, .putfield 53, 3), (116, .aload_n 0, 1), (117, .sipush 400, 3), (120, .newarray .int, 2), (122, .putfield 56, 3), (125, .aload_n 0, 1), (126, .bipush 16, 2), (128, .newarray .int, 2), (130, .putfield 59, 3), (133, .aload_n 0, 1), (134, .bipush 16, 2), (136, .newarray .int, 2), (138, .putfield 62, 3), (141, .aload_n 0, 1), (142, .bipush 16, 2), (144, .newarray .int, 2), (146, .putfield 65, 3), (149, .aload_n 0, 1), (150, .bipush 16, 2), (152, .newarray .int, 2), (154, .putfield 68, 3), (157, .aload_n 0, 1), (158, .sipush 400, 3), (161, .newarray .int, 2), (163, .putfield 71, 3), (166, .aload_n 0, 1), (167, .sipush 400, 3), (170, .newarray .int, 2), (172, .putfield 74, 3), (175, .aload_n 0, 1), (176, .sipush 220, 3), (179, .newarray .int, 2), (181, .putfield 77, 3), (184, .aload_n 0, 1), (185, .bipush 60, 2), (187, .newarray .int, 2), (189, .putfield 80, 3), (192, .aload_n 0, 1), (193, .bipush 60, 2), (195, .newarray .int, 2), (197, .putfield 83, 3), (200, .aload_n 0, 1), (201, .bipush 60, 2), (203, .newarray .int, 2), (205, .putfield 86, 3), (208, .aload_n 0, 1), (209, .sipush 900, 3), (212, .newarray .int, 2), (214, .putfield 89, 3), (217, .aload_n 0, 1), (218, .sipush 900, 3), (221, .newarray .boolean, 2), (223, .putfield 92, 3), (226, .aload_n 0, 1), (227, .sipush 900, 3), (230, .newarray .boolean, 2), (232, .putfield 96, 3), (235, .aload_n 0, 1), (236, .sipush 900, 3), (239, .newarray .boolean, 2), (241, .putfield 99, 3), (244, .aload_n 0, 1), (245, .iconst (-1), 1), (246, .putfield 102, 3)]
set_option maxRecDepth 100000 in
theorem kX12_init_0_ok : kX12_init_0.all (fun q => decide (decode cX12_init q.1 = .ok q.2)) = true := by decide +kernel
theorem dX12_init_0 : decode cX12_init 0 = .ok (.aload_n 0, 1) := dk_get kX12_init_0_ok 0 rfl
theorem dX12_init_1 : decode cX12_init 1 = .ok (.invokespecial 7, 3) := dk_get kX12_init_0_ok 1 rfl
theorem dX12_init_4 : decode cX12_init 4 = .ok (.aload_n 0, 1) := dk_get kX12_init_0_ok 2 rfl
theorem dX12_init_5 : decode cX12_init 5 = .ok (.bipush 30, 2) := dk_get kX12_init_0_ok 3 rfl
theorem dX12_init_7 : decode cX12_init 7 = .ok (.newarray .int, 2) := dk_get kX12_init_0_ok 4 rfl
theorem dX12_init_9 : decode cX12_init 9 = .ok (.putfield 13, 3) := dk_get kX12_init_0_ok 5 rfl
theorem dX12_init_12 : decode cX12_init 12 = .ok (.aload_n 0, 1) := dk_get kX12_init_0_ok 6 rfl
theorem dX12_init_13 : decode cX12_init 13 = .ok (.bipush 30, 2) := dk_get kX12_init_0_ok 7 rfl
theorem dX12_init_15 : decode cX12_init 15 = .ok (.newarray .int, 2) := dk_get kX12_init_0_ok 8 rfl
theorem dX12_init_17 : decode cX12_init 17 = .ok (.putfield 17, 3) := dk_get kX12_init_0_ok 9 rfl
theorem dX12_init_20 : decode cX12_init 20 = .ok (.aload_n 0, 1) := dk_get kX12_init_0_ok 10 rfl
theorem dX12_init_21 : decode cX12_init 21 = .ok (.bipush 30, 2) := dk_get kX12_init_0_ok 11 rfl
theorem dX12_init_23 : decode cX12_init 23 = .ok (.newarray .int, 2) := dk_get kX12_init_0_ok 12 rfl
theorem dX12_init_25 : decode cX12_init 25 = .ok (.putfield 20, 3) := dk_get kX12_init_0_ok 13 rfl
theorem dX12_init_28 : decode cX12_init 28 = .ok (.aload_n 0, 1) := dk_get kX12_init_0_ok 14 rfl
theorem dX12_init_29 : decode cX12_init 29 = .ok (.bipush 30, 2) := dk_get kX12_init_0_ok 15 rfl
theorem dX12_init_31 : decode cX12_init 31 = .ok (.newarray .int, 2) := dk_get kX12_init_0_ok 16 rfl
theorem dX12_init_33 : decode cX12_init 33 = .ok (.putfield 23, 3) := dk_get kX12_init_0_ok 17 rfl
theorem dX12_init_36 : decode cX12_init 36 = .ok (.aload_n 0, 1) := dk_get kX12_init_0_ok 18 rfl
theorem dX12_init_37 : decode cX12_init 37 = .ok (.bipush 30, 2) := dk_get kX12_init_0_ok 19 rfl
theorem dX12_init_39 : decode cX12_init 39 = .ok (.newarray .int, 2) := dk_get kX12_init_0_ok 20 rfl
theorem dX12_init_41 : decode cX12_init 41 = .ok (.putfield 26, 3) := dk_get kX12_init_0_ok 21 rfl
theorem dX12_init_44 : decode cX12_init 44 = .ok (.aload_n 0, 1) := dk_get kX12_init_0_ok 22 rfl
theorem dX12_init_45 : decode cX12_init 45 = .ok (.bipush 30, 2) := dk_get kX12_init_0_ok 23 rfl
theorem dX12_init_47 : decode cX12_init 47 = .ok (.newarray .int, 2) := dk_get kX12_init_0_ok 24 rfl
theorem dX12_init_49 : decode cX12_init 49 = .ok (.putfield 29, 3) := dk_get kX12_init_0_ok 25 rfl
theorem dX12_init_52 : decode cX12_init 52 = .ok (.aload_n 0, 1) := dk_get kX12_init_0_ok 26 rfl
theorem dX12_init_53 : decode cX12_init 53 = .ok (.sipush 256, 3) := dk_get kX12_init_0_ok 27 rfl
theorem dX12_init_56 : decode cX12_init 56 = .ok (.newarray .int, 2) := dk_get kX12_init_0_ok 28 rfl
theorem dX12_init_58 : decode cX12_init 58 = .ok (.putfield 32, 3) := dk_get kX12_init_0_ok 29 rfl
theorem dX12_init_61 : decode cX12_init 61 = .ok (.aload_n 0, 1) := dk_get kX12_init_0_ok 30 rfl
theorem dX12_init_62 : decode cX12_init 62 = .ok (.iconst (-1), 1) := dk_get kX12_init_0_ok 31 rfl
theorem dX12_init_63 : decode cX12_init 63 = .ok (.putfield 35, 3) := dk_get kX12_init_0_ok 32 rfl
theorem dX12_init_66 : decode cX12_init 66 = .ok (.aload_n 0, 1) := dk_get kX12_init_0_ok 33 rfl
theorem dX12_init_67 : decode cX12_init 67 = .ok (.sipush 400, 3) := dk_get kX12_init_0_ok 34 rfl
theorem dX12_init_70 : decode cX12_init 70 = .ok (.newarray .int, 2) := dk_get kX12_init_0_ok 35 rfl
theorem dX12_init_72 : decode cX12_init 72 = .ok (.putfield 38, 3) := dk_get kX12_init_0_ok 36 rfl
theorem dX12_init_75 : decode cX12_init 75 = .ok (.aload_n 0, 1) := dk_get kX12_init_0_ok 37 rfl
theorem dX12_init_76 : decode cX12_init 76 = .ok (.bipush 16, 2) := dk_get kX12_init_0_ok 38 rfl
theorem dX12_init_78 : decode cX12_init 78 = .ok (.newarray .int, 2) := dk_get kX12_init_0_ok 39 rfl
theorem dX12_init_80 : decode cX12_init 80 = .ok (.putfield 41, 3) := dk_get kX12_init_0_ok 40 rfl
theorem dX12_init_83 : decode cX12_init 83 = .ok (.aload_n 0, 1) := dk_get kX12_init_0_ok 41 rfl
theorem dX12_init_84 : decode cX12_init 84 = .ok (.bipush 16, 2) := dk_get kX12_init_0_ok 42 rfl
theorem dX12_init_86 : decode cX12_init 86 = .ok (.newarray .int, 2) := dk_get kX12_init_0_ok 43 rfl
theorem dX12_init_88 : decode cX12_init 88 = .ok (.putfield 44, 3) := dk_get kX12_init_0_ok 44 rfl
theorem dX12_init_91 : decode cX12_init 91 = .ok (.aload_n 0, 1) := dk_get kX12_init_0_ok 45 rfl
theorem dX12_init_92 : decode cX12_init 92 = .ok (.bipush 16, 2) := dk_get kX12_init_0_ok 46 rfl
theorem dX12_init_94 : decode cX12_init 94 = .ok (.newarray .int, 2) := dk_get kX12_init_0_ok 47 rfl
theorem dX12_init_96 : decode cX12_init 96 = .ok (.putfield 47, 3) := dk_get kX12_init_0_ok 48 rfl
theorem dX12_init_99 : decode cX12_init 99 = .ok (.aload_n 0, 1) := dk_get kX12_init_0_ok 49 rfl
theorem dX12_init_100 : decode cX12_init 100 = .ok (.bipush 16, 2) := dk_get kX12_init_0_ok 50 rfl
theorem dX12_init_102 : decode cX12_init 102 = .ok (.newarray .int, 2) := dk_get kX12_init_0_ok 51 rfl
theorem dX12_init_104 : decode cX12_init 104 = .ok (.putfield 50, 3) := dk_get kX12_init_0_ok 52 rfl
theorem dX12_init_107 : decode cX12_init 107 = .ok (.aload_n 0, 1) := dk_get kX12_init_0_ok 53 rfl
theorem dX12_init_108 : decode cX12_init 108 = .ok (.sipush 400, 3) := dk_get kX12_init_0_ok 54 rfl
theorem dX12_init_111 : decode cX12_init 111 = .ok (.newarray .int, 2) := dk_get kX12_init_0_ok 55 rfl
theorem dX12_init_113 : decode cX12_init 113 = .ok (.putfield 53, 3) := dk_get kX12_init_0_ok 56 rfl
theorem dX12_init_116 : decode cX12_init 116 = .ok (.aload_n 0, 1) := dk_get kX12_init_0_ok 57 rfl
theorem dX12_init_117 : decode cX12_init 117 = .ok (.sipush 400, 3) := dk_get kX12_init_0_ok 58 rfl
theorem dX12_init_120 : decode cX12_init 120 = .ok (.newarray .int, 2) := dk_get kX12_init_0_ok 59 rfl
theorem dX12_init_122 : decode cX12_init 122 = .ok (.putfield 56, 3) := dk_get kX12_init_0_ok 60 rfl
theorem dX12_init_125 : decode cX12_init 125 = .ok (.aload_n 0, 1) := dk_get kX12_init_0_ok 61 rfl
theorem dX12_init_126 : decode cX12_init 126 = .ok (.bipush 16, 2) := dk_get kX12_init_0_ok 62 rfl
theorem dX12_init_128 : decode cX12_init 128 = .ok (.newarray .int, 2) := dk_get kX12_init_0_ok 63 rfl
theorem dX12_init_130 : decode cX12_init 130 = .ok (.putfield 59, 3) := dk_get kX12_init_0_ok 64 rfl
theorem dX12_init_133 : decode cX12_init 133 = .ok (.aload_n 0, 1) := dk_get kX12_init_0_ok 65 rfl
theorem dX12_init_134 : decode cX12_init 134 = .ok (.bipush 16, 2) := dk_get kX12_init_0_ok 66 rfl
theorem dX12_init_136 : decode cX12_init 136 = .ok (.newarray .int, 2) := dk_get kX12_init_0_ok 67 rfl
theorem dX12_init_138 : decode cX12_init 138 = .ok (.putfield 62, 3) := dk_get kX12_init_0_ok 68 rfl
theorem dX12_init_141 : decode cX12_init 141 = .ok (.aload_n 0, 1) := dk_get kX12_init_0_ok 69 rfl
theorem dX12_init_142 : decode cX12_init 142 = .ok (.bipush 16, 2) := dk_get kX12_init_0_ok 70 rfl
theorem dX12_init_144 : decode cX12_init 144 = .ok (.newarray .int, 2) := dk_get kX12_init_0_ok 71 rfl
theorem dX12_init_146 : decode cX12_init 146 = .ok (.putfield 65, 3) := dk_get kX12_init_0_ok 72 rfl
theorem dX12_init_149 : decode cX12_init 149 = .ok (.aload_n 0, 1) := dk_get kX12_init_0_ok 73 rfl
theorem dX12_init_150 : decode cX12_init 150 = .ok (.bipush 16, 2) := dk_get kX12_init_0_ok 74 rfl
theorem dX12_init_152 : decode cX12_init 152 = .ok (.newarray .int, 2) := dk_get kX12_init_0_ok 75 rfl
theorem dX12_init_154 : decode cX12_init 154 = .ok (.putfield 68, 3) := dk_get kX12_init_0_ok 76 rfl
theorem dX12_init_157 : decode cX12_init 157 = .ok (.aload_n 0, 1) := dk_get kX12_init_0_ok 77 rfl
theorem dX12_init_158 : decode cX12_init 158 = .ok (.sipush 400, 3) := dk_get kX12_init_0_ok 78 rfl
theorem dX12_init_161 : decode cX12_init 161 = .ok (.newarray .int, 2) := dk_get kX12_init_0_ok 79 rfl
theorem dX12_init_163 : decode cX12_init 163 = .ok (.putfield 71, 3) := dk_get kX12_init_0_ok 80 rfl
theorem dX12_init_166 : decode cX12_init 166 = .ok (.aload_n 0, 1) := dk_get kX12_init_0_ok 81 rfl
theorem dX12_init_167 : decode cX12_init 167 = .ok (.sipush 400, 3) := dk_get kX12_init_0_ok 82 rfl
theorem dX12_init_170 : decode cX12_init 170 = .ok (.newarray .int, 2) := dk_get kX12_init_0_ok 83 rfl
theorem dX12_init_172 : decode cX12_init 172 = .ok (.putfield 74, 3) := dk_get kX12_init_0_ok 84 rfl
theorem dX12_init_175 : decode cX12_init 175 = .ok (.aload_n 0, 1) := dk_get kX12_init_0_ok 85 rfl
theorem dX12_init_176 : decode cX12_init 176 = .ok (.sipush 220, 3) := dk_get kX12_init_0_ok 86 rfl
theorem dX12_init_179 : decode cX12_init 179 = .ok (.newarray .int, 2) := dk_get kX12_init_0_ok 87 rfl
theorem dX12_init_181 : decode cX12_init 181 = .ok (.putfield 77, 3) := dk_get kX12_init_0_ok 88 rfl
theorem dX12_init_184 : decode cX12_init 184 = .ok (.aload_n 0, 1) := dk_get kX12_init_0_ok 89 rfl
theorem dX12_init_185 : decode cX12_init 185 = .ok (.bipush 60, 2) := dk_get kX12_init_0_ok 90 rfl
theorem dX12_init_187 : decode cX12_init 187 = .ok (.newarray .int, 2) := dk_get kX12_init_0_ok 91 rfl
theorem dX12_init_189 : decode cX12_init 189 = .ok (.putfield 80, 3) := dk_get kX12_init_0_ok 92 rfl
theorem dX12_init_192 : decode cX12_init 192 = .ok (.aload_n 0, 1) := dk_get kX12_init_0_ok 93 rfl
theorem dX12_init_193 : decode cX12_init 193 = .ok (.bipush 60, 2) := dk_get kX12_init_0_ok 94 rfl
theorem dX12_init_195 : decode cX12_init 195 = .ok (.newarray .int, 2) := dk_get kX12_init_0_ok 95 rfl
theorem dX12_init_197 : decode cX12_init 197 = .ok (.putfield 83, 3) := dk_get kX12_init_0_ok 96 rfl
theorem dX12_init_200 : decode cX12_init 200 = .ok (.aload_n 0, 1) := dk_get kX12_init_0_ok 97 rfl
theorem dX12_init_201 : decode cX12_init 201 = .ok (.bipush 60, 2) := dk_get kX12_init_0_ok 98 rfl
theorem dX12_init_203 : decode cX12_init 203 = .ok (.newarray .int, 2) := dk_get kX12_init_0_ok 99 rfl
theorem dX12_init_205 : decode cX12_init 205 = .ok (.putfield 86, 3) := dk_get kX12_init_0_ok 100 rfl
theorem dX12_init_208 : decode cX12_init 208 = .ok (.aload_n 0, 1) := dk_get kX12_init_0_ok 101 rfl
theorem dX12_init_209 : decode cX12_init 209 = .ok (.sipush 900, 3) := dk_get kX12_init_0_ok 102 rfl
theorem dX12_init_212 : decode cX12_init 212 = .ok (.newarray .int, 2) := dk_get kX12_init_0_ok 103 rfl
theorem dX12_init_214 : decode cX12_init 214 = .ok (.putfield 89, 3) := dk_get kX12_init_0_ok 104 rfl
theorem dX12_init_217 : decode cX12_init 217 = .ok (.aload_n 0, 1) := dk_get kX12_init_0_ok 105 rfl
theorem dX12_init_218 : decode cX12_init 218 = .ok (.sipush 900, 3) := dk_get kX12_init_0_ok 106 rfl
theorem dX12_init_221 : decode cX12_init 221 = .ok (.newarray .boolean, 2) := dk_get kX12_init_0_ok 107 rfl
theorem dX12_init_223 : decode cX12_init 223 = .ok (.putfield 92, 3) := dk_get kX12_init_0_ok 108 rfl
theorem dX12_init_226 : decode cX12_init 226 = .ok (.aload_n 0, 1) := dk_get kX12_init_0_ok 109 rfl
theorem dX12_init_227 : decode cX12_init 227 = .ok (.sipush 900, 3) := dk_get kX12_init_0_ok 110 rfl
theorem dX12_init_230 : decode cX12_init 230 = .ok (.newarray .boolean, 2) := dk_get kX12_init_0_ok 111 rfl
theorem dX12_init_232 : decode cX12_init 232 = .ok (.putfield 96, 3) := dk_get kX12_init_0_ok 112 rfl
theorem dX12_init_235 : decode cX12_init 235 = .ok (.aload_n 0, 1) := dk_get kX12_init_0_ok 113 rfl
theorem dX12_init_236 : decode cX12_init 236 = .ok (.sipush 900, 3) := dk_get kX12_init_0_ok 114 rfl
theorem dX12_init_239 : decode cX12_init 239 = .ok (.newarray .boolean, 2) := dk_get kX12_init_0_ok 115 rfl
theorem dX12_init_241 : decode cX12_init 241 = .ok (.putfield 99, 3) := dk_get kX12_init_0_ok 116 rfl
theorem dX12_init_244 : decode cX12_init 244 = .ok (.aload_n 0, 1) := dk_get kX12_init_0_ok 117 rfl
theorem dX12_init_245 : decode cX12_init 245 = .ok (.iconst (-1), 1) := dk_get kX12_init_0_ok 118 rfl
theorem dX12_init_246 : decode cX12_init 246 = .ok (.putfield 102, 3) := dk_get kX12_init_0_ok 119 rfl
def kX12_init_1 : List (Nat × Instr × Nat) := [(249, .aload_n 0, 1), (250, .bipush 20, 2), (252, .newarray .int, 2), (254, .putfield 105, 3), (257, .aload_n 0, 1), (258, .bipush 20, 2), (260, .newarray .int, 2), (262, .putfield 108, 3), (265, .aload_n 0, 1), (266, .bipush 20, 2), (268, .newarray .boolean, 2), (270, .putfield 111, 3), (273, .aload_n 0, 1), (274, .bipush 30, 2), (276, .newarray .int, 2), (278, .putfield 114, 3), (281, .aload_n 0, 1), (282, .bipush 30, 2), (284, .newarray .int, 2), (286, .putfield 117, 3), (289, .aload_n 0, 1), (290, .bipush 30, 2), (292, .newarray .int, 2), (294, .putfield 120, 3), (297, .aload_n 0, 1), (298, .sipush 900, 3), (301, .newarray .int, 2), (303, .putfield 123, 3), (306, .aload_n 0, 1), (307, .sipush 900, 3), (310, .newarray .int, 2), (312, .putfield 126, 3), (315, .aload_n 0, 1), (316, .iconst 4, 1), (317, .newarray .int, 2), (319, .putfield 129, 3), (322, .aload_n 0, 1), (323, .bipush 30, 2), (325, .newarray .boolean, 2), (327, .putfield 132, 3), (330, .aload_n 0, 1), (331, .bipush 30, 2), (333, .newarray .boolean, 2), (335, .putfield 135, 3), (338, .aload_n 0, 1), (339, .bipush 30, 2), (341, .newarray .int, 2), (343, .putfield 138, 3), (346, .aload_n 0, 1), (347, .bipush 10, 2), (349, .newarray .int, 2), (351, .putfield 141, 3), (354, .aload_n 0, 1), (355, .bipush 10, 2), (357, .newarray .int, 2), (359, .putfield 144, 3), (362, .aload_n 0, 1), (363, .bipush 10, 2), (365, .newarray .int, 2), (367, .putfield 147, 3), (370, .aload_n 0, 1), (371, .bipush 10, 2), (373, .newarray .int, 2), (375, .putfield 150, 3), (378, .aload_n 0, 1), (379, .sipush 200, 3), (382, .newarray .long, 2), (384, .putfield 153, 3), (387, .aload_n 0, 1), (388, .bipush 30, 2), (390, .newarray .int, 2), (392, .putfield 157, 3), (395, .aload_n 0, 1), (396, .bipush 30, 2), (398, .newarray .int, 2), (400, .putfield 160, 3), (403, .aload_n 0, 1), (404, .bipush 6, 2), (406, .newarray .int, 2), (408, .putfield 163, 3), (411, .aload_n 0, 1), (412, .sipush 180, 3), (415, .newarray .int, 2), (417, .putfield 166, 3), (420, .iconst 0, 1), (421, .istore_n 1, 1), (422, .iload_n 1, 1), (423, .bipush 16, 2), (425, .if_icmp .ge 20, 3), (428, .aload_n 0, 1), (429, .getfield 32, 3), (432, .bipush 17, 2), (434, .iload_n 1, 1), (435, .imul, 1), (436, .bipush 100, 2), (438, .iastore, 1), (439, .iinc 1 1, 3), (442, .goto (-20), 3), (445, .return_, 1)]
set_option maxRecDepth 100000 in
theorem kX12_init_1_ok : kX12_init_1.all (fun q => decide (decode cX12_init q.1 = .ok q.2)) = true := by decide +kernel
theorem dX12_init_249 : decode cX12_init 249 = .ok (.aload_n 0, 1) := dk_get kX12_init_1_ok 0 rfl
theorem dX12_init_250 : decode cX12_init 250 = .ok (.bipush 20, 2) := dk_get kX12_init_1_ok 1 rfl
theorem dX12_init_252 : decode cX12_init 252 = .ok (.newarray .int, 2) := dk_get kX12_init_1_ok 2 rfl
theorem dX12_init_254 : decode cX12_init 254 = .ok (.putfield 105, 3) := dk_get kX12_init_1_ok 3 rfl
theorem dX12_init_257 : decode cX12_init 257 = .ok (.aload_n 0, 1) := dk_get kX12_init_1_ok 4 rfl
theorem dX12_init_258 : decode cX12_init 258 = .ok (.bipush 20, 2) := dk_get kX12_init_1_ok 5 rfl
theorem dX12_init_260 : decode cX12_init 260 = .ok (.newarray .int, 2) := dk_get kX12_init_1_ok 6 rfl
theorem dX12_init_262 : decode cX12_init 262 = .ok (.putfield 108, 3) := dk_get kX12_init_1_ok 7 rfl
theorem dX12_init_265 : decode cX12_init 265 = .ok (.aload_n 0, 1) := dk_get kX12_init_1_ok 8 rfl
theorem dX12_init_266 : decode cX12_init 266 = .ok (.bipush 20, 2) := dk_get kX12_init_1_ok 9 rfl
theorem dX12_init_268 : decode cX12_init 268 = .ok (.newarray .boolean, 2) := dk_get kX12_init_1_ok 10 rfl
theorem dX12_init_270 : decode cX12_init 270 = .ok (.putfield 111, 3) := dk_get kX12_init_1_ok 11 rfl
theorem dX12_init_273 : decode cX12_init 273 = .ok (.aload_n 0, 1) := dk_get kX12_init_1_ok 12 rfl
theorem dX12_init_274 : decode cX12_init 274 = .ok (.bipush 30, 2) := dk_get kX12_init_1_ok 13 rfl
theorem dX12_init_276 : decode cX12_init 276 = .ok (.newarray .int, 2) := dk_get kX12_init_1_ok 14 rfl
theorem dX12_init_278 : decode cX12_init 278 = .ok (.putfield 114, 3) := dk_get kX12_init_1_ok 15 rfl
theorem dX12_init_281 : decode cX12_init 281 = .ok (.aload_n 0, 1) := dk_get kX12_init_1_ok 16 rfl
theorem dX12_init_282 : decode cX12_init 282 = .ok (.bipush 30, 2) := dk_get kX12_init_1_ok 17 rfl
theorem dX12_init_284 : decode cX12_init 284 = .ok (.newarray .int, 2) := dk_get kX12_init_1_ok 18 rfl
theorem dX12_init_286 : decode cX12_init 286 = .ok (.putfield 117, 3) := dk_get kX12_init_1_ok 19 rfl
theorem dX12_init_289 : decode cX12_init 289 = .ok (.aload_n 0, 1) := dk_get kX12_init_1_ok 20 rfl
theorem dX12_init_290 : decode cX12_init 290 = .ok (.bipush 30, 2) := dk_get kX12_init_1_ok 21 rfl
theorem dX12_init_292 : decode cX12_init 292 = .ok (.newarray .int, 2) := dk_get kX12_init_1_ok 22 rfl
theorem dX12_init_294 : decode cX12_init 294 = .ok (.putfield 120, 3) := dk_get kX12_init_1_ok 23 rfl
theorem dX12_init_297 : decode cX12_init 297 = .ok (.aload_n 0, 1) := dk_get kX12_init_1_ok 24 rfl
theorem dX12_init_298 : decode cX12_init 298 = .ok (.sipush 900, 3) := dk_get kX12_init_1_ok 25 rfl
theorem dX12_init_301 : decode cX12_init 301 = .ok (.newarray .int, 2) := dk_get kX12_init_1_ok 26 rfl
theorem dX12_init_303 : decode cX12_init 303 = .ok (.putfield 123, 3) := dk_get kX12_init_1_ok 27 rfl
theorem dX12_init_306 : decode cX12_init 306 = .ok (.aload_n 0, 1) := dk_get kX12_init_1_ok 28 rfl
theorem dX12_init_307 : decode cX12_init 307 = .ok (.sipush 900, 3) := dk_get kX12_init_1_ok 29 rfl
theorem dX12_init_310 : decode cX12_init 310 = .ok (.newarray .int, 2) := dk_get kX12_init_1_ok 30 rfl
theorem dX12_init_312 : decode cX12_init 312 = .ok (.putfield 126, 3) := dk_get kX12_init_1_ok 31 rfl
theorem dX12_init_315 : decode cX12_init 315 = .ok (.aload_n 0, 1) := dk_get kX12_init_1_ok 32 rfl
theorem dX12_init_316 : decode cX12_init 316 = .ok (.iconst 4, 1) := dk_get kX12_init_1_ok 33 rfl
theorem dX12_init_317 : decode cX12_init 317 = .ok (.newarray .int, 2) := dk_get kX12_init_1_ok 34 rfl
theorem dX12_init_319 : decode cX12_init 319 = .ok (.putfield 129, 3) := dk_get kX12_init_1_ok 35 rfl
theorem dX12_init_322 : decode cX12_init 322 = .ok (.aload_n 0, 1) := dk_get kX12_init_1_ok 36 rfl
theorem dX12_init_323 : decode cX12_init 323 = .ok (.bipush 30, 2) := dk_get kX12_init_1_ok 37 rfl
theorem dX12_init_325 : decode cX12_init 325 = .ok (.newarray .boolean, 2) := dk_get kX12_init_1_ok 38 rfl
theorem dX12_init_327 : decode cX12_init 327 = .ok (.putfield 132, 3) := dk_get kX12_init_1_ok 39 rfl
theorem dX12_init_330 : decode cX12_init 330 = .ok (.aload_n 0, 1) := dk_get kX12_init_1_ok 40 rfl
theorem dX12_init_331 : decode cX12_init 331 = .ok (.bipush 30, 2) := dk_get kX12_init_1_ok 41 rfl
theorem dX12_init_333 : decode cX12_init 333 = .ok (.newarray .boolean, 2) := dk_get kX12_init_1_ok 42 rfl
theorem dX12_init_335 : decode cX12_init 335 = .ok (.putfield 135, 3) := dk_get kX12_init_1_ok 43 rfl
theorem dX12_init_338 : decode cX12_init 338 = .ok (.aload_n 0, 1) := dk_get kX12_init_1_ok 44 rfl
theorem dX12_init_339 : decode cX12_init 339 = .ok (.bipush 30, 2) := dk_get kX12_init_1_ok 45 rfl
theorem dX12_init_341 : decode cX12_init 341 = .ok (.newarray .int, 2) := dk_get kX12_init_1_ok 46 rfl
theorem dX12_init_343 : decode cX12_init 343 = .ok (.putfield 138, 3) := dk_get kX12_init_1_ok 47 rfl
theorem dX12_init_346 : decode cX12_init 346 = .ok (.aload_n 0, 1) := dk_get kX12_init_1_ok 48 rfl
theorem dX12_init_347 : decode cX12_init 347 = .ok (.bipush 10, 2) := dk_get kX12_init_1_ok 49 rfl
theorem dX12_init_349 : decode cX12_init 349 = .ok (.newarray .int, 2) := dk_get kX12_init_1_ok 50 rfl
theorem dX12_init_351 : decode cX12_init 351 = .ok (.putfield 141, 3) := dk_get kX12_init_1_ok 51 rfl
theorem dX12_init_354 : decode cX12_init 354 = .ok (.aload_n 0, 1) := dk_get kX12_init_1_ok 52 rfl
theorem dX12_init_355 : decode cX12_init 355 = .ok (.bipush 10, 2) := dk_get kX12_init_1_ok 53 rfl
theorem dX12_init_357 : decode cX12_init 357 = .ok (.newarray .int, 2) := dk_get kX12_init_1_ok 54 rfl
theorem dX12_init_359 : decode cX12_init 359 = .ok (.putfield 144, 3) := dk_get kX12_init_1_ok 55 rfl
theorem dX12_init_362 : decode cX12_init 362 = .ok (.aload_n 0, 1) := dk_get kX12_init_1_ok 56 rfl
theorem dX12_init_363 : decode cX12_init 363 = .ok (.bipush 10, 2) := dk_get kX12_init_1_ok 57 rfl
theorem dX12_init_365 : decode cX12_init 365 = .ok (.newarray .int, 2) := dk_get kX12_init_1_ok 58 rfl
theorem dX12_init_367 : decode cX12_init 367 = .ok (.putfield 147, 3) := dk_get kX12_init_1_ok 59 rfl
theorem dX12_init_370 : decode cX12_init 370 = .ok (.aload_n 0, 1) := dk_get kX12_init_1_ok 60 rfl
theorem dX12_init_371 : decode cX12_init 371 = .ok (.bipush 10, 2) := dk_get kX12_init_1_ok 61 rfl
theorem dX12_init_373 : decode cX12_init 373 = .ok (.newarray .int, 2) := dk_get kX12_init_1_ok 62 rfl
theorem dX12_init_375 : decode cX12_init 375 = .ok (.putfield 150, 3) := dk_get kX12_init_1_ok 63 rfl
theorem dX12_init_378 : decode cX12_init 378 = .ok (.aload_n 0, 1) := dk_get kX12_init_1_ok 64 rfl
theorem dX12_init_379 : decode cX12_init 379 = .ok (.sipush 200, 3) := dk_get kX12_init_1_ok 65 rfl
theorem dX12_init_382 : decode cX12_init 382 = .ok (.newarray .long, 2) := dk_get kX12_init_1_ok 66 rfl
theorem dX12_init_384 : decode cX12_init 384 = .ok (.putfield 153, 3) := dk_get kX12_init_1_ok 67 rfl
theorem dX12_init_387 : decode cX12_init 387 = .ok (.aload_n 0, 1) := dk_get kX12_init_1_ok 68 rfl
theorem dX12_init_388 : decode cX12_init 388 = .ok (.bipush 30, 2) := dk_get kX12_init_1_ok 69 rfl
theorem dX12_init_390 : decode cX12_init 390 = .ok (.newarray .int, 2) := dk_get kX12_init_1_ok 70 rfl
theorem dX12_init_392 : decode cX12_init 392 = .ok (.putfield 157, 3) := dk_get kX12_init_1_ok 71 rfl
theorem dX12_init_395 : decode cX12_init 395 = .ok (.aload_n 0, 1) := dk_get kX12_init_1_ok 72 rfl
theorem dX12_init_396 : decode cX12_init 396 = .ok (.bipush 30, 2) := dk_get kX12_init_1_ok 73 rfl
theorem dX12_init_398 : decode cX12_init 398 = .ok (.newarray .int, 2) := dk_get kX12_init_1_ok 74 rfl
theorem dX12_init_400 : decode cX12_init 400 = .ok (.putfield 160, 3) := dk_get kX12_init_1_ok 75 rfl
theorem dX12_init_403 : decode cX12_init 403 = .ok (.aload_n 0, 1) := dk_get kX12_init_1_ok 76 rfl
theorem dX12_init_404 : decode cX12_init 404 = .ok (.bipush 6, 2) := dk_get kX12_init_1_ok 77 rfl
theorem dX12_init_406 : decode cX12_init 406 = .ok (.newarray .int, 2) := dk_get kX12_init_1_ok 78 rfl
theorem dX12_init_408 : decode cX12_init 408 = .ok (.putfield 163, 3) := dk_get kX12_init_1_ok 79 rfl
theorem dX12_init_411 : decode cX12_init 411 = .ok (.aload_n 0, 1) := dk_get kX12_init_1_ok 80 rfl
theorem dX12_init_412 : decode cX12_init 412 = .ok (.sipush 180, 3) := dk_get kX12_init_1_ok 81 rfl
theorem dX12_init_415 : decode cX12_init 415 = .ok (.newarray .int, 2) := dk_get kX12_init_1_ok 82 rfl
theorem dX12_init_417 : decode cX12_init 417 = .ok (.putfield 166, 3) := dk_get kX12_init_1_ok 83 rfl
theorem dX12_init_420 : decode cX12_init 420 = .ok (.iconst 0, 1) := dk_get kX12_init_1_ok 84 rfl
theorem dX12_init_421 : decode cX12_init 421 = .ok (.istore_n 1, 1) := dk_get kX12_init_1_ok 85 rfl
theorem dX12_init_422 : decode cX12_init 422 = .ok (.iload_n 1, 1) := dk_get kX12_init_1_ok 86 rfl
theorem dX12_init_423 : decode cX12_init 423 = .ok (.bipush 16, 2) := dk_get kX12_init_1_ok 87 rfl
theorem dX12_init_425 : decode cX12_init 425 = .ok (.if_icmp .ge 20, 3) := dk_get kX12_init_1_ok 88 rfl
theorem dX12_init_428 : decode cX12_init 428 = .ok (.aload_n 0, 1) := dk_get kX12_init_1_ok 89 rfl
theorem dX12_init_429 : decode cX12_init 429 = .ok (.getfield 32, 3) := dk_get kX12_init_1_ok 90 rfl
theorem dX12_init_432 : decode cX12_init 432 = .ok (.bipush 17, 2) := dk_get kX12_init_1_ok 91 rfl
theorem dX12_init_434 : decode cX12_init 434 = .ok (.iload_n 1, 1) := dk_get kX12_init_1_ok 92 rfl
theorem dX12_init_435 : decode cX12_init 435 = .ok (.imul, 1) := dk_get kX12_init_1_ok 93 rfl
theorem dX12_init_436 : decode cX12_init 436 = .ok (.bipush 100, 2) := dk_get kX12_init_1_ok 94 rfl
theorem dX12_init_438 : decode cX12_init 438 = .ok (.iastore, 1) := dk_get kX12_init_1_ok 95 rfl
theorem dX12_init_439 : decode cX12_init 439 = .ok (.iinc 1 1, 3) := dk_get kX12_init_1_ok 96 rfl
theorem dX12_init_442 : decode cX12_init 442 = .ok (.goto (-20), 3) := dk_get kX12_init_1_ok 97 rfl
theorem dX12_init_445 : decode cX12_init 445 = .ok (.return_, 1) := dk_get kX12_init_1_ok 98 rfl
def kX12_entry : List (Nat × Instr × Nat) := [(0, .aload_n 0, 1), (1, .iconst 0, 1), (2, .putfield 1, 3), (5, .aload_n 0, 1), (6, .iload_n 1, 1), (7, .iconst 0, 1), (8, .bipush 7, 2), (10, .invokestatic 169, 3), (13, .ifCond .eq 50, 3), (16, .iload_n 2, 1), (17, .iconst 0, 1), (18, .bipush 15, 2), (20, .invokestatic 169, 3), (23, .ifCond .eq 40, 3), (26, .iload_n 3, 1), (27, .iconst 0, 1), (28, .bipush 7, 2), (30, .invokestatic 169, 3), (33, .ifCond .eq 30, 3), (36, .iload 4, 2), (38, .iconst 0, 1), (39, .sipush 199, 3), (42, .invokestatic 169, 3), (45, .ifCond .eq 18, 3), (48, .iload 5, 2), (50, .iconst (-1), 1), (51, .bipush 15, 2), (53, .invokestatic 169, 3), (56, .ifCond .eq 7, 3), (59, .iconst 1, 1), (60, .goto 4, 3), (63, .iconst 0, 1), (64, .iconst 1, 1), (65, .invokevirtual 173, 3), (68, .ifCond .ne 5, 3), (71, .iconst 0, 1), (72, .ireturn, 1), (73, .aload_n 0, 1), (74, .getfield 177, 3), (77, .bipush 30, 2), (79, .if_icmp .ne 5, 3), (82, .iconst (-1), 1), (83, .ireturn, 1), (84, .aload_n 0, 1), (85, .getfield 13, 3), (88, .aload_n 0, 1), (89, .getfield 177, 3), (92, .iload_n 1, 1), (93, .iastore, 1), (94, .aload_n 0, 1), (95, .getfield 17, 3), (98, .aload_n 0, 1), (99, .getfield 177, 3), (102, .iload_n 2, 1), (103, .iastore, 1), (104, .aload_n 0, 1), (105, .getfield 20, 3), (108, .aload_n 0, 1), (109, .getfield 177, 3), (112, .iload_n 3, 1), (113, .iastore, 1), (114, .aload_n 0, 1), (115, .getfield 23, 3), (118, .aload_n 0, 1), (119, .getfield 177, 3), (122, .iload 4, 2), (124, .iastore, 1), (125, .aload_n 0, 1), (126, .getfield 26, 3), (129, .aload_n 0, 1), (130, .getfield 177, 3), (133, .iload 5, 2), (135, .iastore, 1), (136, .aload_n 0, 1), (137, .getfield 29, 3), (140, .aload_n 0, 1), (141, .getfield 177, 3), (144, .aload_n 0, 1), (145, .getfield 177, 3), (148, .iastore, 1), (149, .aload_n 0, 1), (150, .dup, 1), (151, .getfield 177, 3), (154, .iconst 1, 1), (155, .iadd, 1), (156, .putfield 177, 3), (159, .aload_n 0, 1), (160, .invokevirtual 180, 3), (163, .aload_n 0, 1), (164, .getfield 177, 3), (167, .iconst 1, 1), (168, .isub, 1), (169, .ireturn, 1)]
set_option maxRecDepth 100000 in
theorem kX12_entry_ok : kX12_entry.all (fun q => decide (decode cX12_entry q.1 = .ok q.2)) = true := by decide +kernel
theorem dX12_entry_0 : decode cX12_entry 0 = .ok (.aload_n 0, 1) := dk_get kX12_entry_ok 0 rfl
theorem dX12_entry_1 : decode cX12_entry 1 = .ok (.iconst 0, 1) := dk_get kX12_entry_ok 1 rfl
theorem dX12_entry_2 : decode cX12_entry 2 = .ok (.putfield 1, 3) := dk_get kX12_entry_ok 2 rfl
theorem dX12_entry_5 : decode cX12_entry 5 = .ok (.aload_n 0, 1) := dk_get kX12_entry_ok 3 rfl
theorem dX12_entry_6 : decode cX12_entry 6 = .ok (.iload_n 1, 1) := dk_get kX12_entry_ok 4 rfl
theorem dX12_entry_7 : decode cX12_entry 7 = .ok (.iconst 0, 1) := dk_get kX12_entry_ok 5 rfl
theorem dX12_entry_8 : decode cX12_entry 8 = .ok (.bipush 7, 2) := dk_get kX12_entry_ok 6 rfl
theorem dX12_entry_10 : decode cX12_entry 10 = .ok (.invokestatic 169, 3) := dk_get kX12_entry_ok 7 rfl
theorem dX12_entry_13 : decode cX12_entry 13 = .ok (.ifCond .eq 50, 3) := dk_get kX12_entry_ok 8 rfl
theorem dX12_entry_16 : decode cX12_entry 16 = .ok (.iload_n 2, 1) := dk_get kX12_entry_ok 9 rfl
theorem dX12_entry_17 : decode cX12_entry 17 = .ok (.iconst 0, 1) := dk_get kX12_entry_ok 10 rfl
theorem dX12_entry_18 : decode cX12_entry 18 = .ok (.bipush 15, 2) := dk_get kX12_entry_ok 11 rfl
theorem dX12_entry_20 : decode cX12_entry 20 = .ok (.invokestatic 169, 3) := dk_get kX12_entry_ok 12 rfl
theorem dX12_entry_23 : decode cX12_entry 23 = .ok (.ifCond .eq 40, 3) := dk_get kX12_entry_ok 13 rfl
theorem dX12_entry_26 : decode cX12_entry 26 = .ok (.iload_n 3, 1) := dk_get kX12_entry_ok 14 rfl
theorem dX12_entry_27 : decode cX12_entry 27 = .ok (.iconst 0, 1) := dk_get kX12_entry_ok 15 rfl
theorem dX12_entry_28 : decode cX12_entry 28 = .ok (.bipush 7, 2) := dk_get kX12_entry_ok 16 rfl
theorem dX12_entry_30 : decode cX12_entry 30 = .ok (.invokestatic 169, 3) := dk_get kX12_entry_ok 17 rfl
theorem dX12_entry_33 : decode cX12_entry 33 = .ok (.ifCond .eq 30, 3) := dk_get kX12_entry_ok 18 rfl
theorem dX12_entry_36 : decode cX12_entry 36 = .ok (.iload 4, 2) := dk_get kX12_entry_ok 19 rfl
theorem dX12_entry_38 : decode cX12_entry 38 = .ok (.iconst 0, 1) := dk_get kX12_entry_ok 20 rfl
theorem dX12_entry_39 : decode cX12_entry 39 = .ok (.sipush 199, 3) := dk_get kX12_entry_ok 21 rfl
theorem dX12_entry_42 : decode cX12_entry 42 = .ok (.invokestatic 169, 3) := dk_get kX12_entry_ok 22 rfl
theorem dX12_entry_45 : decode cX12_entry 45 = .ok (.ifCond .eq 18, 3) := dk_get kX12_entry_ok 23 rfl
theorem dX12_entry_48 : decode cX12_entry 48 = .ok (.iload 5, 2) := dk_get kX12_entry_ok 24 rfl
theorem dX12_entry_50 : decode cX12_entry 50 = .ok (.iconst (-1), 1) := dk_get kX12_entry_ok 25 rfl
theorem dX12_entry_51 : decode cX12_entry 51 = .ok (.bipush 15, 2) := dk_get kX12_entry_ok 26 rfl
theorem dX12_entry_53 : decode cX12_entry 53 = .ok (.invokestatic 169, 3) := dk_get kX12_entry_ok 27 rfl
theorem dX12_entry_56 : decode cX12_entry 56 = .ok (.ifCond .eq 7, 3) := dk_get kX12_entry_ok 28 rfl
theorem dX12_entry_59 : decode cX12_entry 59 = .ok (.iconst 1, 1) := dk_get kX12_entry_ok 29 rfl
theorem dX12_entry_60 : decode cX12_entry 60 = .ok (.goto 4, 3) := dk_get kX12_entry_ok 30 rfl
theorem dX12_entry_63 : decode cX12_entry 63 = .ok (.iconst 0, 1) := dk_get kX12_entry_ok 31 rfl
theorem dX12_entry_64 : decode cX12_entry 64 = .ok (.iconst 1, 1) := dk_get kX12_entry_ok 32 rfl
theorem dX12_entry_65 : decode cX12_entry 65 = .ok (.invokevirtual 173, 3) := dk_get kX12_entry_ok 33 rfl
theorem dX12_entry_68 : decode cX12_entry 68 = .ok (.ifCond .ne 5, 3) := dk_get kX12_entry_ok 34 rfl
theorem dX12_entry_71 : decode cX12_entry 71 = .ok (.iconst 0, 1) := dk_get kX12_entry_ok 35 rfl
theorem dX12_entry_72 : decode cX12_entry 72 = .ok (.ireturn, 1) := dk_get kX12_entry_ok 36 rfl
theorem dX12_entry_73 : decode cX12_entry 73 = .ok (.aload_n 0, 1) := dk_get kX12_entry_ok 37 rfl
theorem dX12_entry_74 : decode cX12_entry 74 = .ok (.getfield 177, 3) := dk_get kX12_entry_ok 38 rfl
theorem dX12_entry_77 : decode cX12_entry 77 = .ok (.bipush 30, 2) := dk_get kX12_entry_ok 39 rfl
theorem dX12_entry_79 : decode cX12_entry 79 = .ok (.if_icmp .ne 5, 3) := dk_get kX12_entry_ok 40 rfl
theorem dX12_entry_82 : decode cX12_entry 82 = .ok (.iconst (-1), 1) := dk_get kX12_entry_ok 41 rfl
theorem dX12_entry_83 : decode cX12_entry 83 = .ok (.ireturn, 1) := dk_get kX12_entry_ok 42 rfl
theorem dX12_entry_84 : decode cX12_entry 84 = .ok (.aload_n 0, 1) := dk_get kX12_entry_ok 43 rfl
theorem dX12_entry_85 : decode cX12_entry 85 = .ok (.getfield 13, 3) := dk_get kX12_entry_ok 44 rfl
theorem dX12_entry_88 : decode cX12_entry 88 = .ok (.aload_n 0, 1) := dk_get kX12_entry_ok 45 rfl
theorem dX12_entry_89 : decode cX12_entry 89 = .ok (.getfield 177, 3) := dk_get kX12_entry_ok 46 rfl
theorem dX12_entry_92 : decode cX12_entry 92 = .ok (.iload_n 1, 1) := dk_get kX12_entry_ok 47 rfl
theorem dX12_entry_93 : decode cX12_entry 93 = .ok (.iastore, 1) := dk_get kX12_entry_ok 48 rfl
theorem dX12_entry_94 : decode cX12_entry 94 = .ok (.aload_n 0, 1) := dk_get kX12_entry_ok 49 rfl
theorem dX12_entry_95 : decode cX12_entry 95 = .ok (.getfield 17, 3) := dk_get kX12_entry_ok 50 rfl
theorem dX12_entry_98 : decode cX12_entry 98 = .ok (.aload_n 0, 1) := dk_get kX12_entry_ok 51 rfl
theorem dX12_entry_99 : decode cX12_entry 99 = .ok (.getfield 177, 3) := dk_get kX12_entry_ok 52 rfl
theorem dX12_entry_102 : decode cX12_entry 102 = .ok (.iload_n 2, 1) := dk_get kX12_entry_ok 53 rfl
theorem dX12_entry_103 : decode cX12_entry 103 = .ok (.iastore, 1) := dk_get kX12_entry_ok 54 rfl
theorem dX12_entry_104 : decode cX12_entry 104 = .ok (.aload_n 0, 1) := dk_get kX12_entry_ok 55 rfl
theorem dX12_entry_105 : decode cX12_entry 105 = .ok (.getfield 20, 3) := dk_get kX12_entry_ok 56 rfl
theorem dX12_entry_108 : decode cX12_entry 108 = .ok (.aload_n 0, 1) := dk_get kX12_entry_ok 57 rfl
theorem dX12_entry_109 : decode cX12_entry 109 = .ok (.getfield 177, 3) := dk_get kX12_entry_ok 58 rfl
theorem dX12_entry_112 : decode cX12_entry 112 = .ok (.iload_n 3, 1) := dk_get kX12_entry_ok 59 rfl
theorem dX12_entry_113 : decode cX12_entry 113 = .ok (.iastore, 1) := dk_get kX12_entry_ok 60 rfl
theorem dX12_entry_114 : decode cX12_entry 114 = .ok (.aload_n 0, 1) := dk_get kX12_entry_ok 61 rfl
theorem dX12_entry_115 : decode cX12_entry 115 = .ok (.getfield 23, 3) := dk_get kX12_entry_ok 62 rfl
theorem dX12_entry_118 : decode cX12_entry 118 = .ok (.aload_n 0, 1) := dk_get kX12_entry_ok 63 rfl
theorem dX12_entry_119 : decode cX12_entry 119 = .ok (.getfield 177, 3) := dk_get kX12_entry_ok 64 rfl
theorem dX12_entry_122 : decode cX12_entry 122 = .ok (.iload 4, 2) := dk_get kX12_entry_ok 65 rfl
theorem dX12_entry_124 : decode cX12_entry 124 = .ok (.iastore, 1) := dk_get kX12_entry_ok 66 rfl
theorem dX12_entry_125 : decode cX12_entry 125 = .ok (.aload_n 0, 1) := dk_get kX12_entry_ok 67 rfl
theorem dX12_entry_126 : decode cX12_entry 126 = .ok (.getfield 26, 3) := dk_get kX12_entry_ok 68 rfl
theorem dX12_entry_129 : decode cX12_entry 129 = .ok (.aload_n 0, 1) := dk_get kX12_entry_ok 69 rfl
theorem dX12_entry_130 : decode cX12_entry 130 = .ok (.getfield 177, 3) := dk_get kX12_entry_ok 70 rfl
theorem dX12_entry_133 : decode cX12_entry 133 = .ok (.iload 5, 2) := dk_get kX12_entry_ok 71 rfl
theorem dX12_entry_135 : decode cX12_entry 135 = .ok (.iastore, 1) := dk_get kX12_entry_ok 72 rfl
theorem dX12_entry_136 : decode cX12_entry 136 = .ok (.aload_n 0, 1) := dk_get kX12_entry_ok 73 rfl
theorem dX12_entry_137 : decode cX12_entry 137 = .ok (.getfield 29, 3) := dk_get kX12_entry_ok 74 rfl
theorem dX12_entry_140 : decode cX12_entry 140 = .ok (.aload_n 0, 1) := dk_get kX12_entry_ok 75 rfl
theorem dX12_entry_141 : decode cX12_entry 141 = .ok (.getfield 177, 3) := dk_get kX12_entry_ok 76 rfl
theorem dX12_entry_144 : decode cX12_entry 144 = .ok (.aload_n 0, 1) := dk_get kX12_entry_ok 77 rfl
theorem dX12_entry_145 : decode cX12_entry 145 = .ok (.getfield 177, 3) := dk_get kX12_entry_ok 78 rfl
theorem dX12_entry_148 : decode cX12_entry 148 = .ok (.iastore, 1) := dk_get kX12_entry_ok 79 rfl
theorem dX12_entry_149 : decode cX12_entry 149 = .ok (.aload_n 0, 1) := dk_get kX12_entry_ok 80 rfl
theorem dX12_entry_150 : decode cX12_entry 150 = .ok (.dup, 1) := dk_get kX12_entry_ok 81 rfl
theorem dX12_entry_151 : decode cX12_entry 151 = .ok (.getfield 177, 3) := dk_get kX12_entry_ok 82 rfl
theorem dX12_entry_154 : decode cX12_entry 154 = .ok (.iconst 1, 1) := dk_get kX12_entry_ok 83 rfl
theorem dX12_entry_155 : decode cX12_entry 155 = .ok (.iadd, 1) := dk_get kX12_entry_ok 84 rfl
theorem dX12_entry_156 : decode cX12_entry 156 = .ok (.putfield 177, 3) := dk_get kX12_entry_ok 85 rfl
theorem dX12_entry_159 : decode cX12_entry 159 = .ok (.aload_n 0, 1) := dk_get kX12_entry_ok 86 rfl
theorem dX12_entry_160 : decode cX12_entry 160 = .ok (.invokevirtual 180, 3) := dk_get kX12_entry_ok 87 rfl
theorem dX12_entry_163 : decode cX12_entry 163 = .ok (.aload_n 0, 1) := dk_get kX12_entry_ok 88 rfl
theorem dX12_entry_164 : decode cX12_entry 164 = .ok (.getfield 177, 3) := dk_get kX12_entry_ok 89 rfl
theorem dX12_entry_167 : decode cX12_entry 167 = .ok (.iconst 1, 1) := dk_get kX12_entry_ok 90 rfl
theorem dX12_entry_168 : decode cX12_entry 168 = .ok (.isub, 1) := dk_get kX12_entry_ok 91 rfl
theorem dX12_entry_169 : decode cX12_entry 169 = .ok (.ireturn, 1) := dk_get kX12_entry_ok 92 rfl
def kX12_isEntry : List (Nat × Instr × Nat) := [(0, .aload_n 0, 1), (1, .iload_n 1, 1), (2, .iconst 0, 1), (3, .aload_n 0, 1), (4, .getfield 177, 3), (7, .iconst 1, 1), (8, .isub, 1), (9, .invokestatic 169, 3), (12, .iconst 1, 1), (13, .invokevirtual 173, 3), (16, .ireturn, 1)]
set_option maxRecDepth 100000 in
theorem kX12_isEntry_ok : kX12_isEntry.all (fun q => decide (decode cX12_isEntry q.1 = .ok q.2)) = true := by decide +kernel
theorem dX12_isEntry_0 : decode cX12_isEntry 0 = .ok (.aload_n 0, 1) := dk_get kX12_isEntry_ok 0 rfl
theorem dX12_isEntry_1 : decode cX12_isEntry 1 = .ok (.iload_n 1, 1) := dk_get kX12_isEntry_ok 1 rfl
theorem dX12_isEntry_2 : decode cX12_isEntry 2 = .ok (.iconst 0, 1) := dk_get kX12_isEntry_ok 2 rfl
theorem dX12_isEntry_3 : decode cX12_isEntry 3 = .ok (.aload_n 0, 1) := dk_get kX12_isEntry_ok 3 rfl
theorem dX12_isEntry_4 : decode cX12_isEntry 4 = .ok (.getfield 177, 3) := dk_get kX12_isEntry_ok 4 rfl
theorem dX12_isEntry_7 : decode cX12_isEntry 7 = .ok (.iconst 1, 1) := dk_get kX12_isEntry_ok 5 rfl
theorem dX12_isEntry_8 : decode cX12_isEntry 8 = .ok (.isub, 1) := dk_get kX12_isEntry_ok 6 rfl
theorem dX12_isEntry_9 : decode cX12_isEntry 9 = .ok (.invokestatic 169, 3) := dk_get kX12_isEntry_ok 7 rfl
theorem dX12_isEntry_12 : decode cX12_isEntry 12 = .ok (.iconst 1, 1) := dk_get kX12_isEntry_ok 8 rfl
theorem dX12_isEntry_13 : decode cX12_isEntry 13 = .ok (.invokevirtual 173, 3) := dk_get kX12_isEntry_ok 9 rfl
theorem dX12_isEntry_16 : decode cX12_isEntry 16 = .ok (.ireturn, 1) := dk_get kX12_isEntry_ok 10 rfl
def kX12_isPair : List (Nat × Instr × Nat) := [(0, .aload_n 0, 1), (1, .iload_n 1, 1), (2, .invokevirtual 183, 3), (5, .ifCond .eq 33, 3), (8, .aload_n 0, 1), (9, .iload_n 2, 1), (10, .invokevirtual 183, 3), (13, .ifCond .eq 25, 3), (16, .aload_n 0, 1), (17, .iload_n 1, 1), (18, .iload_n 2, 1), (19, .if_icmp .eq 7, 3), (22, .iconst 1, 1), (23, .goto 4, 3), (26, .iconst 0, 1), (27, .iconst 2, 1), (28, .invokevirtual 173, 3), (31, .ifCond .eq 7, 3), (34, .iconst 1, 1), (35, .goto 4, 3), (38, .iconst 0, 1), (39, .ireturn, 1)]
set_option maxRecDepth 100000 in
theorem kX12_isPair_ok : kX12_isPair.all (fun q => decide (decode cX12_isPair q.1 = .ok q.2)) = true := by decide +kernel
theorem dX12_isPair_0 : decode cX12_isPair 0 = .ok (.aload_n 0, 1) := dk_get kX12_isPair_ok 0 rfl
theorem dX12_isPair_1 : decode cX12_isPair 1 = .ok (.iload_n 1, 1) := dk_get kX12_isPair_ok 1 rfl
theorem dX12_isPair_2 : decode cX12_isPair 2 = .ok (.invokevirtual 183, 3) := dk_get kX12_isPair_ok 2 rfl
theorem dX12_isPair_5 : decode cX12_isPair 5 = .ok (.ifCond .eq 33, 3) := dk_get kX12_isPair_ok 3 rfl
theorem dX12_isPair_8 : decode cX12_isPair 8 = .ok (.aload_n 0, 1) := dk_get kX12_isPair_ok 4 rfl
theorem dX12_isPair_9 : decode cX12_isPair 9 = .ok (.iload_n 2, 1) := dk_get kX12_isPair_ok 5 rfl
theorem dX12_isPair_10 : decode cX12_isPair 10 = .ok (.invokevirtual 183, 3) := dk_get kX12_isPair_ok 6 rfl
theorem dX12_isPair_13 : decode cX12_isPair 13 = .ok (.ifCond .eq 25, 3) := dk_get kX12_isPair_ok 7 rfl
theorem dX12_isPair_16 : decode cX12_isPair 16 = .ok (.aload_n 0, 1) := dk_get kX12_isPair_ok 8 rfl
theorem dX12_isPair_17 : decode cX12_isPair 17 = .ok (.iload_n 1, 1) := dk_get kX12_isPair_ok 9 rfl
theorem dX12_isPair_18 : decode cX12_isPair 18 = .ok (.iload_n 2, 1) := dk_get kX12_isPair_ok 10 rfl
theorem dX12_isPair_19 : decode cX12_isPair 19 = .ok (.if_icmp .eq 7, 3) := dk_get kX12_isPair_ok 11 rfl
theorem dX12_isPair_22 : decode cX12_isPair 22 = .ok (.iconst 1, 1) := dk_get kX12_isPair_ok 12 rfl
theorem dX12_isPair_23 : decode cX12_isPair 23 = .ok (.goto 4, 3) := dk_get kX12_isPair_ok 13 rfl
theorem dX12_isPair_26 : decode cX12_isPair 26 = .ok (.iconst 0, 1) := dk_get kX12_isPair_ok 14 rfl
theorem dX12_isPair_27 : decode cX12_isPair 27 = .ok (.iconst 2, 1) := dk_get kX12_isPair_ok 15 rfl
theorem dX12_isPair_28 : decode cX12_isPair 28 = .ok (.invokevirtual 173, 3) := dk_get kX12_isPair_ok 16 rfl
theorem dX12_isPair_31 : decode cX12_isPair 31 = .ok (.ifCond .eq 7, 3) := dk_get kX12_isPair_ok 17 rfl
theorem dX12_isPair_34 : decode cX12_isPair 34 = .ok (.iconst 1, 1) := dk_get kX12_isPair_ok 18 rfl
theorem dX12_isPair_35 : decode cX12_isPair 35 = .ok (.goto 4, 3) := dk_get kX12_isPair_ok 19 rfl
theorem dX12_isPair_38 : decode cX12_isPair 38 = .ok (.iconst 0, 1) := dk_get kX12_isPair_ok 20 rfl
theorem dX12_isPair_39 : decode cX12_isPair 39 = .ok (.ireturn, 1) := dk_get kX12_isPair_ok 21 rfl
def kX12_of : List (Nat × Instr × Nat) := [(0, .aload_n 0, 1), (1, .iconst 0, 1), (2, .putfield 1, 3), (5, .aload_n 0, 1), (6, .iload_n 1, 1), (7, .invokevirtual 183, 3), (10, .ifCond .eq 18, 3), (13, .aload_n 0, 1), (14, .iload_n 2, 1), (15, .iconst 0, 1), (16, .bipush 7, 2), (18, .invokestatic 169, 3), (21, .iconst 2, 1), (22, .invokevirtual 173, 3), (25, .ifCond .ne 5, 3), (28, .iconst 0, 1), (29, .ireturn, 1), (30, .iload_n 2, 1), (31, .tableswitch 79 0 5 #[37, 44, 51, 58, 65, 72], 37), (68, .aload_n 0, 1), (69, .getfield 13, 3), (72, .iload_n 1, 1), (73, .iaload, 1), (74, .ireturn, 1), (75, .aload_n 0, 1), (76, .getfield 17, 3), (79, .iload_n 1, 1), (80, .iaload, 1), (81, .ireturn, 1), (82, .aload_n 0, 1), (83, .getfield 20, 3), (86, .iload_n 1, 1), (87, .iaload, 1), (88, .ireturn, 1), (89, .aload_n 0, 1), (90, .getfield 23, 3), (93, .iload_n 1, 1), (94, .iaload, 1), (95, .ireturn, 1), (96, .aload_n 0, 1), (97, .getfield 26, 3), (100, .iload_n 1, 1), (101, .iaload, 1), (102, .ireturn, 1), (103, .aload_n 0, 1), (104, .getfield 29, 3), (107, .iload_n 1, 1), (108, .iaload, 1), (109, .ireturn, 1), (110, .aload_n 0, 1), (111, .invokevirtual 187, 3), (114, .aload_n 0, 1), (115, .iload_n 1, 1), (116, .invokevirtual 190, 3), (119, .iload_n 2, 1), (120, .bipush 6, 2), (122, .if_icmp .ne 12, 3), (125, .aload_n 0, 1), (126, .getfield 138, 3), (129, .iconst 0, 1), (130, .iaload, 1), (131, .goto 7, 3), (134, .aload_n 0, 1), (135, .getfield 194, 3), (138, .ireturn, 1)]
set_option maxRecDepth 100000 in
theorem kX12_of_ok : kX12_of.all (fun q => decide (decode cX12_of q.1 = .ok q.2)) = true := by decide +kernel
theorem dX12_of_0 : decode cX12_of 0 = .ok (.aload_n 0, 1) := dk_get kX12_of_ok 0 rfl
theorem dX12_of_1 : decode cX12_of 1 = .ok (.iconst 0, 1) := dk_get kX12_of_ok 1 rfl
theorem dX12_of_2 : decode cX12_of 2 = .ok (.putfield 1, 3) := dk_get kX12_of_ok 2 rfl
theorem dX12_of_5 : decode cX12_of 5 = .ok (.aload_n 0, 1) := dk_get kX12_of_ok 3 rfl
theorem dX12_of_6 : decode cX12_of 6 = .ok (.iload_n 1, 1) := dk_get kX12_of_ok 4 rfl
theorem dX12_of_7 : decode cX12_of 7 = .ok (.invokevirtual 183, 3) := dk_get kX12_of_ok 5 rfl
theorem dX12_of_10 : decode cX12_of 10 = .ok (.ifCond .eq 18, 3) := dk_get kX12_of_ok 6 rfl
theorem dX12_of_13 : decode cX12_of 13 = .ok (.aload_n 0, 1) := dk_get kX12_of_ok 7 rfl
theorem dX12_of_14 : decode cX12_of 14 = .ok (.iload_n 2, 1) := dk_get kX12_of_ok 8 rfl
theorem dX12_of_15 : decode cX12_of 15 = .ok (.iconst 0, 1) := dk_get kX12_of_ok 9 rfl
theorem dX12_of_16 : decode cX12_of 16 = .ok (.bipush 7, 2) := dk_get kX12_of_ok 10 rfl
theorem dX12_of_18 : decode cX12_of 18 = .ok (.invokestatic 169, 3) := dk_get kX12_of_ok 11 rfl
theorem dX12_of_21 : decode cX12_of 21 = .ok (.iconst 2, 1) := dk_get kX12_of_ok 12 rfl
theorem dX12_of_22 : decode cX12_of 22 = .ok (.invokevirtual 173, 3) := dk_get kX12_of_ok 13 rfl
theorem dX12_of_25 : decode cX12_of 25 = .ok (.ifCond .ne 5, 3) := dk_get kX12_of_ok 14 rfl
theorem dX12_of_28 : decode cX12_of 28 = .ok (.iconst 0, 1) := dk_get kX12_of_ok 15 rfl
theorem dX12_of_29 : decode cX12_of 29 = .ok (.ireturn, 1) := dk_get kX12_of_ok 16 rfl
theorem dX12_of_30 : decode cX12_of 30 = .ok (.iload_n 2, 1) := dk_get kX12_of_ok 17 rfl
theorem dX12_of_31 : decode cX12_of 31 = .ok (.tableswitch 79 0 5 #[37, 44, 51, 58, 65, 72], 37) := dk_get kX12_of_ok 18 rfl
theorem dX12_of_68 : decode cX12_of 68 = .ok (.aload_n 0, 1) := dk_get kX12_of_ok 19 rfl
theorem dX12_of_69 : decode cX12_of 69 = .ok (.getfield 13, 3) := dk_get kX12_of_ok 20 rfl
theorem dX12_of_72 : decode cX12_of 72 = .ok (.iload_n 1, 1) := dk_get kX12_of_ok 21 rfl
theorem dX12_of_73 : decode cX12_of 73 = .ok (.iaload, 1) := dk_get kX12_of_ok 22 rfl
theorem dX12_of_74 : decode cX12_of 74 = .ok (.ireturn, 1) := dk_get kX12_of_ok 23 rfl
theorem dX12_of_75 : decode cX12_of 75 = .ok (.aload_n 0, 1) := dk_get kX12_of_ok 24 rfl
theorem dX12_of_76 : decode cX12_of 76 = .ok (.getfield 17, 3) := dk_get kX12_of_ok 25 rfl
theorem dX12_of_79 : decode cX12_of 79 = .ok (.iload_n 1, 1) := dk_get kX12_of_ok 26 rfl
theorem dX12_of_80 : decode cX12_of 80 = .ok (.iaload, 1) := dk_get kX12_of_ok 27 rfl
theorem dX12_of_81 : decode cX12_of 81 = .ok (.ireturn, 1) := dk_get kX12_of_ok 28 rfl
theorem dX12_of_82 : decode cX12_of 82 = .ok (.aload_n 0, 1) := dk_get kX12_of_ok 29 rfl
theorem dX12_of_83 : decode cX12_of 83 = .ok (.getfield 20, 3) := dk_get kX12_of_ok 30 rfl
theorem dX12_of_86 : decode cX12_of 86 = .ok (.iload_n 1, 1) := dk_get kX12_of_ok 31 rfl
theorem dX12_of_87 : decode cX12_of 87 = .ok (.iaload, 1) := dk_get kX12_of_ok 32 rfl
theorem dX12_of_88 : decode cX12_of 88 = .ok (.ireturn, 1) := dk_get kX12_of_ok 33 rfl
theorem dX12_of_89 : decode cX12_of 89 = .ok (.aload_n 0, 1) := dk_get kX12_of_ok 34 rfl
theorem dX12_of_90 : decode cX12_of 90 = .ok (.getfield 23, 3) := dk_get kX12_of_ok 35 rfl
theorem dX12_of_93 : decode cX12_of 93 = .ok (.iload_n 1, 1) := dk_get kX12_of_ok 36 rfl
theorem dX12_of_94 : decode cX12_of 94 = .ok (.iaload, 1) := dk_get kX12_of_ok 37 rfl
theorem dX12_of_95 : decode cX12_of 95 = .ok (.ireturn, 1) := dk_get kX12_of_ok 38 rfl
theorem dX12_of_96 : decode cX12_of 96 = .ok (.aload_n 0, 1) := dk_get kX12_of_ok 39 rfl
theorem dX12_of_97 : decode cX12_of 97 = .ok (.getfield 26, 3) := dk_get kX12_of_ok 40 rfl
theorem dX12_of_100 : decode cX12_of 100 = .ok (.iload_n 1, 1) := dk_get kX12_of_ok 41 rfl
theorem dX12_of_101 : decode cX12_of 101 = .ok (.iaload, 1) := dk_get kX12_of_ok 42 rfl
theorem dX12_of_102 : decode cX12_of 102 = .ok (.ireturn, 1) := dk_get kX12_of_ok 43 rfl
theorem dX12_of_103 : decode cX12_of 103 = .ok (.aload_n 0, 1) := dk_get kX12_of_ok 44 rfl
theorem dX12_of_104 : decode cX12_of 104 = .ok (.getfield 29, 3) := dk_get kX12_of_ok 45 rfl
theorem dX12_of_107 : decode cX12_of 107 = .ok (.iload_n 1, 1) := dk_get kX12_of_ok 46 rfl
theorem dX12_of_108 : decode cX12_of 108 = .ok (.iaload, 1) := dk_get kX12_of_ok 47 rfl
theorem dX12_of_109 : decode cX12_of 109 = .ok (.ireturn, 1) := dk_get kX12_of_ok 48 rfl
theorem dX12_of_110 : decode cX12_of 110 = .ok (.aload_n 0, 1) := dk_get kX12_of_ok 49 rfl
theorem dX12_of_111 : decode cX12_of 111 = .ok (.invokevirtual 187, 3) := dk_get kX12_of_ok 50 rfl
theorem dX12_of_114 : decode cX12_of 114 = .ok (.aload_n 0, 1) := dk_get kX12_of_ok 51 rfl
theorem dX12_of_115 : decode cX12_of 115 = .ok (.iload_n 1, 1) := dk_get kX12_of_ok 52 rfl
theorem dX12_of_116 : decode cX12_of 116 = .ok (.invokevirtual 190, 3) := dk_get kX12_of_ok 53 rfl
theorem dX12_of_119 : decode cX12_of 119 = .ok (.iload_n 2, 1) := dk_get kX12_of_ok 54 rfl
theorem dX12_of_120 : decode cX12_of 120 = .ok (.bipush 6, 2) := dk_get kX12_of_ok 55 rfl
theorem dX12_of_122 : decode cX12_of 122 = .ok (.if_icmp .ne 12, 3) := dk_get kX12_of_ok 56 rfl
theorem dX12_of_125 : decode cX12_of 125 = .ok (.aload_n 0, 1) := dk_get kX12_of_ok 57 rfl
theorem dX12_of_126 : decode cX12_of 126 = .ok (.getfield 138, 3) := dk_get kX12_of_ok 58 rfl
theorem dX12_of_129 : decode cX12_of 129 = .ok (.iconst 0, 1) := dk_get kX12_of_ok 59 rfl
theorem dX12_of_130 : decode cX12_of 130 = .ok (.iaload, 1) := dk_get kX12_of_ok 60 rfl
theorem dX12_of_131 : decode cX12_of 131 = .ok (.goto 7, 3) := dk_get kX12_of_ok 61 rfl
theorem dX12_of_134 : decode cX12_of 134 = .ok (.aload_n 0, 1) := dk_get kX12_of_ok 62 rfl
theorem dX12_of_135 : decode cX12_of 135 = .ok (.getfield 194, 3) := dk_get kX12_of_ok 63 rfl
theorem dX12_of_138 : decode cX12_of 138 = .ok (.ireturn, 1) := dk_get kX12_of_ok 64 rfl
def kX12_like : List (Nat × Instr × Nat) := [(0, .aload_n 0, 1), (1, .iconst 0, 1), (2, .putfield 1, 3), (5, .aload_n 0, 1), (6, .iload_n 1, 1), (7, .iconst 0, 1), (8, .bipush 15, 2), (10, .invokestatic 169, 3), (13, .ifCond .eq 27, 3), (16, .iload_n 2, 1), (17, .iconst 0, 1), (18, .bipush 15, 2), (20, .invokestatic 169, 3), (23, .ifCond .eq 17, 3), (26, .iload_n 3, 1), (27, .iconst 0, 1), (28, .bipush 100, 2), (30, .invokestatic 169, 3), (33, .ifCond .eq 7, 3), (36, .iconst 1, 1), (37, .goto 4, 3), (40, .iconst 0, 1), (41, .iconst 1, 1), (42, .invokevirtual 173, 3), (45, .ifCond .ne 5, 3), (48, .iconst 0, 1), (49, .ireturn, 1), (50, .iload_n 1, 1), (51, .iload_n 2, 1), (52, .if_icmp .ne 5, 3), (55, .iconst (-1), 1), (56, .ireturn, 1), (57, .aload_n 0, 1), (58, .getfield 32, 3), (61, .bipush 16, 2), (63, .iload_n 1, 1), (64, .imul, 1), (65, .iload_n 2, 1), (66, .iadd, 1), (67, .iaload, 1), (68, .istore 4, 2), (70, .aload_n 0, 1), (71, .getfield 32, 3), (74, .bipush 16, 2), (76, .iload_n 1, 1), (77, .imul, 1), (78, .iload_n 2, 1), (79, .iadd, 1), (80, .iload_n 3, 1), (81, .iastore, 1), (82, .aload_n 0, 1), (83, .getfield 32, 3), (86, .bipush 16, 2), (88, .iload_n 2, 1), (89, .imul, 1), (90, .iload_n 1, 1), (91, .iadd, 1), (92, .iload_n 3, 1), (93, .iastore, 1), (94, .aload_n 0, 1), (95, .invokevirtual 180, 3), (98, .iload 4, 2), (100, .ireturn, 1)]
set_option maxRecDepth 100000 in
theorem kX12_like_ok : kX12_like.all (fun q => decide (decode cX12_like q.1 = .ok q.2)) = true := by decide +kernel
theorem dX12_like_0 : decode cX12_like 0 = .ok (.aload_n 0, 1) := dk_get kX12_like_ok 0 rfl
theorem dX12_like_1 : decode cX12_like 1 = .ok (.iconst 0, 1) := dk_get kX12_like_ok 1 rfl
theorem dX12_like_2 : decode cX12_like 2 = .ok (.putfield 1, 3) := dk_get kX12_like_ok 2 rfl
theorem dX12_like_5 : decode cX12_like 5 = .ok (.aload_n 0, 1) := dk_get kX12_like_ok 3 rfl
theorem dX12_like_6 : decode cX12_like 6 = .ok (.iload_n 1, 1) := dk_get kX12_like_ok 4 rfl
theorem dX12_like_7 : decode cX12_like 7 = .ok (.iconst 0, 1) := dk_get kX12_like_ok 5 rfl
theorem dX12_like_8 : decode cX12_like 8 = .ok (.bipush 15, 2) := dk_get kX12_like_ok 6 rfl
theorem dX12_like_10 : decode cX12_like 10 = .ok (.invokestatic 169, 3) := dk_get kX12_like_ok 7 rfl
theorem dX12_like_13 : decode cX12_like 13 = .ok (.ifCond .eq 27, 3) := dk_get kX12_like_ok 8 rfl
theorem dX12_like_16 : decode cX12_like 16 = .ok (.iload_n 2, 1) := dk_get kX12_like_ok 9 rfl
theorem dX12_like_17 : decode cX12_like 17 = .ok (.iconst 0, 1) := dk_get kX12_like_ok 10 rfl
theorem dX12_like_18 : decode cX12_like 18 = .ok (.bipush 15, 2) := dk_get kX12_like_ok 11 rfl
theorem dX12_like_20 : decode cX12_like 20 = .ok (.invokestatic 169, 3) := dk_get kX12_like_ok 12 rfl
theorem dX12_like_23 : decode cX12_like 23 = .ok (.ifCond .eq 17, 3) := dk_get kX12_like_ok 13 rfl
theorem dX12_like_26 : decode cX12_like 26 = .ok (.iload_n 3, 1) := dk_get kX12_like_ok 14 rfl
theorem dX12_like_27 : decode cX12_like 27 = .ok (.iconst 0, 1) := dk_get kX12_like_ok 15 rfl
theorem dX12_like_28 : decode cX12_like 28 = .ok (.bipush 100, 2) := dk_get kX12_like_ok 16 rfl
theorem dX12_like_30 : decode cX12_like 30 = .ok (.invokestatic 169, 3) := dk_get kX12_like_ok 17 rfl
theorem dX12_like_33 : decode cX12_like 33 = .ok (.ifCond .eq 7, 3) := dk_get kX12_like_ok 18 rfl
theorem dX12_like_36 : decode cX12_like 36 = .ok (.iconst 1, 1) := dk_get kX12_like_ok 19 rfl
theorem dX12_like_37 : decode cX12_like 37 = .ok (.goto 4, 3) := dk_get kX12_like_ok 20 rfl
theorem dX12_like_40 : decode cX12_like 40 = .ok (.iconst 0, 1) := dk_get kX12_like_ok 21 rfl
theorem dX12_like_41 : decode cX12_like 41 = .ok (.iconst 1, 1) := dk_get kX12_like_ok 22 rfl
theorem dX12_like_42 : decode cX12_like 42 = .ok (.invokevirtual 173, 3) := dk_get kX12_like_ok 23 rfl
theorem dX12_like_45 : decode cX12_like 45 = .ok (.ifCond .ne 5, 3) := dk_get kX12_like_ok 24 rfl
theorem dX12_like_48 : decode cX12_like 48 = .ok (.iconst 0, 1) := dk_get kX12_like_ok 25 rfl
theorem dX12_like_49 : decode cX12_like 49 = .ok (.ireturn, 1) := dk_get kX12_like_ok 26 rfl
theorem dX12_like_50 : decode cX12_like 50 = .ok (.iload_n 1, 1) := dk_get kX12_like_ok 27 rfl
theorem dX12_like_51 : decode cX12_like 51 = .ok (.iload_n 2, 1) := dk_get kX12_like_ok 28 rfl
theorem dX12_like_52 : decode cX12_like 52 = .ok (.if_icmp .ne 5, 3) := dk_get kX12_like_ok 29 rfl
theorem dX12_like_55 : decode cX12_like 55 = .ok (.iconst (-1), 1) := dk_get kX12_like_ok 30 rfl
theorem dX12_like_56 : decode cX12_like 56 = .ok (.ireturn, 1) := dk_get kX12_like_ok 31 rfl
theorem dX12_like_57 : decode cX12_like 57 = .ok (.aload_n 0, 1) := dk_get kX12_like_ok 32 rfl
theorem dX12_like_58 : decode cX12_like 58 = .ok (.getfield 32, 3) := dk_get kX12_like_ok 33 rfl
theorem dX12_like_61 : decode cX12_like 61 = .ok (.bipush 16, 2) := dk_get kX12_like_ok 34 rfl
theorem dX12_like_63 : decode cX12_like 63 = .ok (.iload_n 1, 1) := dk_get kX12_like_ok 35 rfl
theorem dX12_like_64 : decode cX12_like 64 = .ok (.imul, 1) := dk_get kX12_like_ok 36 rfl
theorem dX12_like_65 : decode cX12_like 65 = .ok (.iload_n 2, 1) := dk_get kX12_like_ok 37 rfl
theorem dX12_like_66 : decode cX12_like 66 = .ok (.iadd, 1) := dk_get kX12_like_ok 38 rfl
theorem dX12_like_67 : decode cX12_like 67 = .ok (.iaload, 1) := dk_get kX12_like_ok 39 rfl
theorem dX12_like_68 : decode cX12_like 68 = .ok (.istore 4, 2) := dk_get kX12_like_ok 40 rfl
theorem dX12_like_70 : decode cX12_like 70 = .ok (.aload_n 0, 1) := dk_get kX12_like_ok 41 rfl
theorem dX12_like_71 : decode cX12_like 71 = .ok (.getfield 32, 3) := dk_get kX12_like_ok 42 rfl
theorem dX12_like_74 : decode cX12_like 74 = .ok (.bipush 16, 2) := dk_get kX12_like_ok 43 rfl
theorem dX12_like_76 : decode cX12_like 76 = .ok (.iload_n 1, 1) := dk_get kX12_like_ok 44 rfl
theorem dX12_like_77 : decode cX12_like 77 = .ok (.imul, 1) := dk_get kX12_like_ok 45 rfl
theorem dX12_like_78 : decode cX12_like 78 = .ok (.iload_n 2, 1) := dk_get kX12_like_ok 46 rfl
theorem dX12_like_79 : decode cX12_like 79 = .ok (.iadd, 1) := dk_get kX12_like_ok 47 rfl
theorem dX12_like_80 : decode cX12_like 80 = .ok (.iload_n 3, 1) := dk_get kX12_like_ok 48 rfl
theorem dX12_like_81 : decode cX12_like 81 = .ok (.iastore, 1) := dk_get kX12_like_ok 49 rfl
theorem dX12_like_82 : decode cX12_like 82 = .ok (.aload_n 0, 1) := dk_get kX12_like_ok 50 rfl
theorem dX12_like_83 : decode cX12_like 83 = .ok (.getfield 32, 3) := dk_get kX12_like_ok 51 rfl
theorem dX12_like_86 : decode cX12_like 86 = .ok (.bipush 16, 2) := dk_get kX12_like_ok 52 rfl
theorem dX12_like_88 : decode cX12_like 88 = .ok (.iload_n 2, 1) := dk_get kX12_like_ok 53 rfl
theorem dX12_like_89 : decode cX12_like 89 = .ok (.imul, 1) := dk_get kX12_like_ok 54 rfl
theorem dX12_like_90 : decode cX12_like 90 = .ok (.iload_n 1, 1) := dk_get kX12_like_ok 55 rfl
theorem dX12_like_91 : decode cX12_like 91 = .ok (.iadd, 1) := dk_get kX12_like_ok 56 rfl
theorem dX12_like_92 : decode cX12_like 92 = .ok (.iload_n 3, 1) := dk_get kX12_like_ok 57 rfl
theorem dX12_like_93 : decode cX12_like 93 = .ok (.iastore, 1) := dk_get kX12_like_ok 58 rfl
theorem dX12_like_94 : decode cX12_like 94 = .ok (.aload_n 0, 1) := dk_get kX12_like_ok 59 rfl
theorem dX12_like_95 : decode cX12_like 95 = .ok (.invokevirtual 180, 3) := dk_get kX12_like_ok 60 rfl
theorem dX12_like_98 : decode cX12_like 98 = .ok (.iload 4, 2) := dk_get kX12_like_ok 61 rfl
theorem dX12_like_100 : decode cX12_like 100 = .ok (.ireturn, 1) := dk_get kX12_like_ok 62 rfl
def kX12_feed : List (Nat × Instr × Nat) := [(0, .aload_n 0, 1), (1, .iconst 0, 1), (2, .putfield 1, 3), (5, .aload_n 0, 1), (6, .getfield 197, 3), (9, .bipush 20, 2), (11, .iadd, 1), (12, .sipush 400, 3), (15, .if_icmp .le 5, 3), (18, .iconst (-1), 1), (19, .ireturn, 1), (20, .iconst 0, 1), (21, .istore 6, 2), (23, .iload 6, 2), (25, .bipush 20, 2), (27, .if_icmp .ge 93, 3), (30, .iload 6, 2), (32, .iconst 4, 1), (33, .if_icmp .ge 7, 3), (36, .iload_n 1, 1), (37, .goto 39, 3), (40, .iload 6, 2), (42, .bipush 8, 2), (44, .if_icmp .ge 7, 3), (47, .iload_n 2, 1), (48, .goto 28, 3), (51, .iload 6, 2), (53, .bipush 12, 2), (55, .if_icmp .ge 7, 3), (58, .iload_n 3, 1), (59, .goto 17, 3), (62, .iload 6, 2), (64, .bipush 16, 2), (66, .if_icmp .ge 8, 3), (69, .iload 4, 2), (71, .goto 5, 3), (74, .iload 5, 2), (76, .istore 7, 2), (78, .aload_n 0, 1), (79, .getfield 38, 3), (82, .aload_n 0, 1), (83, .getfield 197, 3), (86, .iload 7, 2), (88, .bipush 24, 2), (90, .bipush 8, 2), (92, .iload 6, 2), (94, .iconst 4, 1), (95, .irem, 1), (96, .imul, 1), (97, .isub, 1), (98, .ishr, 1), (99, .sipush 255, 3), (102, .iand, 1), (103, .iastore, 1), (104, .aload_n 0, 1), (105, .dup, 1), (106, .getfield 197, 3), (109, .iconst 1, 1), (110, .iadd, 1), (111, .putfield 197, 3), (114, .iinc 6 1, 3), (117, .goto (-94), 3), (120, .aload_n 0, 1), (121, .getfield 197, 3), (124, .ireturn, 1)]
set_option maxRecDepth 100000 in
theorem kX12_feed_ok : kX12_feed.all (fun q => decide (decode cX12_feed q.1 = .ok q.2)) = true := by decide +kernel
theorem dX12_feed_0 : decode cX12_feed 0 = .ok (.aload_n 0, 1) := dk_get kX12_feed_ok 0 rfl
theorem dX12_feed_1 : decode cX12_feed 1 = .ok (.iconst 0, 1) := dk_get kX12_feed_ok 1 rfl
theorem dX12_feed_2 : decode cX12_feed 2 = .ok (.putfield 1, 3) := dk_get kX12_feed_ok 2 rfl
theorem dX12_feed_5 : decode cX12_feed 5 = .ok (.aload_n 0, 1) := dk_get kX12_feed_ok 3 rfl
theorem dX12_feed_6 : decode cX12_feed 6 = .ok (.getfield 197, 3) := dk_get kX12_feed_ok 4 rfl
theorem dX12_feed_9 : decode cX12_feed 9 = .ok (.bipush 20, 2) := dk_get kX12_feed_ok 5 rfl
theorem dX12_feed_11 : decode cX12_feed 11 = .ok (.iadd, 1) := dk_get kX12_feed_ok 6 rfl
theorem dX12_feed_12 : decode cX12_feed 12 = .ok (.sipush 400, 3) := dk_get kX12_feed_ok 7 rfl
theorem dX12_feed_15 : decode cX12_feed 15 = .ok (.if_icmp .le 5, 3) := dk_get kX12_feed_ok 8 rfl
theorem dX12_feed_18 : decode cX12_feed 18 = .ok (.iconst (-1), 1) := dk_get kX12_feed_ok 9 rfl
theorem dX12_feed_19 : decode cX12_feed 19 = .ok (.ireturn, 1) := dk_get kX12_feed_ok 10 rfl
theorem dX12_feed_20 : decode cX12_feed 20 = .ok (.iconst 0, 1) := dk_get kX12_feed_ok 11 rfl
theorem dX12_feed_21 : decode cX12_feed 21 = .ok (.istore 6, 2) := dk_get kX12_feed_ok 12 rfl
theorem dX12_feed_23 : decode cX12_feed 23 = .ok (.iload 6, 2) := dk_get kX12_feed_ok 13 rfl
theorem dX12_feed_25 : decode cX12_feed 25 = .ok (.bipush 20, 2) := dk_get kX12_feed_ok 14 rfl
theorem dX12_feed_27 : decode cX12_feed 27 = .ok (.if_icmp .ge 93, 3) := dk_get kX12_feed_ok 15 rfl
theorem dX12_feed_30 : decode cX12_feed 30 = .ok (.iload 6, 2) := dk_get kX12_feed_ok 16 rfl
theorem dX12_feed_32 : decode cX12_feed 32 = .ok (.iconst 4, 1) := dk_get kX12_feed_ok 17 rfl
theorem dX12_feed_33 : decode cX12_feed 33 = .ok (.if_icmp .ge 7, 3) := dk_get kX12_feed_ok 18 rfl
theorem dX12_feed_36 : decode cX12_feed 36 = .ok (.iload_n 1, 1) := dk_get kX12_feed_ok 19 rfl
theorem dX12_feed_37 : decode cX12_feed 37 = .ok (.goto 39, 3) := dk_get kX12_feed_ok 20 rfl
theorem dX12_feed_40 : decode cX12_feed 40 = .ok (.iload 6, 2) := dk_get kX12_feed_ok 21 rfl
theorem dX12_feed_42 : decode cX12_feed 42 = .ok (.bipush 8, 2) := dk_get kX12_feed_ok 22 rfl
theorem dX12_feed_44 : decode cX12_feed 44 = .ok (.if_icmp .ge 7, 3) := dk_get kX12_feed_ok 23 rfl
theorem dX12_feed_47 : decode cX12_feed 47 = .ok (.iload_n 2, 1) := dk_get kX12_feed_ok 24 rfl
theorem dX12_feed_48 : decode cX12_feed 48 = .ok (.goto 28, 3) := dk_get kX12_feed_ok 25 rfl
theorem dX12_feed_51 : decode cX12_feed 51 = .ok (.iload 6, 2) := dk_get kX12_feed_ok 26 rfl
theorem dX12_feed_53 : decode cX12_feed 53 = .ok (.bipush 12, 2) := dk_get kX12_feed_ok 27 rfl
theorem dX12_feed_55 : decode cX12_feed 55 = .ok (.if_icmp .ge 7, 3) := dk_get kX12_feed_ok 28 rfl
theorem dX12_feed_58 : decode cX12_feed 58 = .ok (.iload_n 3, 1) := dk_get kX12_feed_ok 29 rfl
theorem dX12_feed_59 : decode cX12_feed 59 = .ok (.goto 17, 3) := dk_get kX12_feed_ok 30 rfl
theorem dX12_feed_62 : decode cX12_feed 62 = .ok (.iload 6, 2) := dk_get kX12_feed_ok 31 rfl
theorem dX12_feed_64 : decode cX12_feed 64 = .ok (.bipush 16, 2) := dk_get kX12_feed_ok 32 rfl
theorem dX12_feed_66 : decode cX12_feed 66 = .ok (.if_icmp .ge 8, 3) := dk_get kX12_feed_ok 33 rfl
theorem dX12_feed_69 : decode cX12_feed 69 = .ok (.iload 4, 2) := dk_get kX12_feed_ok 34 rfl
theorem dX12_feed_71 : decode cX12_feed 71 = .ok (.goto 5, 3) := dk_get kX12_feed_ok 35 rfl
theorem dX12_feed_74 : decode cX12_feed 74 = .ok (.iload 5, 2) := dk_get kX12_feed_ok 36 rfl
theorem dX12_feed_76 : decode cX12_feed 76 = .ok (.istore 7, 2) := dk_get kX12_feed_ok 37 rfl
theorem dX12_feed_78 : decode cX12_feed 78 = .ok (.aload_n 0, 1) := dk_get kX12_feed_ok 38 rfl
theorem dX12_feed_79 : decode cX12_feed 79 = .ok (.getfield 38, 3) := dk_get kX12_feed_ok 39 rfl
theorem dX12_feed_82 : decode cX12_feed 82 = .ok (.aload_n 0, 1) := dk_get kX12_feed_ok 40 rfl
theorem dX12_feed_83 : decode cX12_feed 83 = .ok (.getfield 197, 3) := dk_get kX12_feed_ok 41 rfl
theorem dX12_feed_86 : decode cX12_feed 86 = .ok (.iload 7, 2) := dk_get kX12_feed_ok 42 rfl
theorem dX12_feed_88 : decode cX12_feed 88 = .ok (.bipush 24, 2) := dk_get kX12_feed_ok 43 rfl
theorem dX12_feed_90 : decode cX12_feed 90 = .ok (.bipush 8, 2) := dk_get kX12_feed_ok 44 rfl
theorem dX12_feed_92 : decode cX12_feed 92 = .ok (.iload 6, 2) := dk_get kX12_feed_ok 45 rfl
theorem dX12_feed_94 : decode cX12_feed 94 = .ok (.iconst 4, 1) := dk_get kX12_feed_ok 46 rfl
theorem dX12_feed_95 : decode cX12_feed 95 = .ok (.irem, 1) := dk_get kX12_feed_ok 47 rfl
theorem dX12_feed_96 : decode cX12_feed 96 = .ok (.imul, 1) := dk_get kX12_feed_ok 48 rfl
theorem dX12_feed_97 : decode cX12_feed 97 = .ok (.isub, 1) := dk_get kX12_feed_ok 49 rfl
theorem dX12_feed_98 : decode cX12_feed 98 = .ok (.ishr, 1) := dk_get kX12_feed_ok 50 rfl
theorem dX12_feed_99 : decode cX12_feed 99 = .ok (.sipush 255, 3) := dk_get kX12_feed_ok 51 rfl
theorem dX12_feed_102 : decode cX12_feed 102 = .ok (.iand, 1) := dk_get kX12_feed_ok 52 rfl
theorem dX12_feed_103 : decode cX12_feed 103 = .ok (.iastore, 1) := dk_get kX12_feed_ok 53 rfl
theorem dX12_feed_104 : decode cX12_feed 104 = .ok (.aload_n 0, 1) := dk_get kX12_feed_ok 54 rfl
theorem dX12_feed_105 : decode cX12_feed 105 = .ok (.dup, 1) := dk_get kX12_feed_ok 55 rfl
theorem dX12_feed_106 : decode cX12_feed 106 = .ok (.getfield 197, 3) := dk_get kX12_feed_ok 56 rfl
theorem dX12_feed_109 : decode cX12_feed 109 = .ok (.iconst 1, 1) := dk_get kX12_feed_ok 57 rfl
theorem dX12_feed_110 : decode cX12_feed 110 = .ok (.iadd, 1) := dk_get kX12_feed_ok 58 rfl
theorem dX12_feed_111 : decode cX12_feed 111 = .ok (.putfield 197, 3) := dk_get kX12_feed_ok 59 rfl
theorem dX12_feed_114 : decode cX12_feed 114 = .ok (.iinc 6 1, 3) := dk_get kX12_feed_ok 60 rfl
theorem dX12_feed_117 : decode cX12_feed 117 = .ok (.goto (-94), 3) := dk_get kX12_feed_ok 61 rfl
theorem dX12_feed_120 : decode cX12_feed 120 = .ok (.aload_n 0, 1) := dk_get kX12_feed_ok 62 rfl
theorem dX12_feed_121 : decode cX12_feed 121 = .ok (.getfield 197, 3) := dk_get kX12_feed_ok 63 rfl
theorem dX12_feed_124 : decode cX12_feed 124 = .ok (.ireturn, 1) := dk_get kX12_feed_ok 64 rfl
def kX12_fine : List (Nat × Instr × Nat) := [(0, .aload_n 0, 1), (1, .getfield 200, 3), (4, .iconst (-1), 1), (5, .if_icmp .ne 7, 3), (8, .iconst 1, 1), (9, .goto 4, 3), (12, .iconst 0, 1), (13, .ireturn, 1)]
set_option maxRecDepth 100000 in
theorem kX12_fine_ok : kX12_fine.all (fun q => decide (decode cX12_fine q.1 = .ok q.2)) = true := by decide +kernel
theorem dX12_fine_0 : decode cX12_fine 0 = .ok (.aload_n 0, 1) := dk_get kX12_fine_ok 0 rfl
theorem dX12_fine_1 : decode cX12_fine 1 = .ok (.getfield 200, 3) := dk_get kX12_fine_ok 1 rfl
theorem dX12_fine_4 : decode cX12_fine 4 = .ok (.iconst (-1), 1) := dk_get kX12_fine_ok 2 rfl
theorem dX12_fine_5 : decode cX12_fine 5 = .ok (.if_icmp .ne 7, 3) := dk_get kX12_fine_ok 3 rfl
theorem dX12_fine_8 : decode cX12_fine 8 = .ok (.iconst 1, 1) := dk_get kX12_fine_ok 4 rfl
theorem dX12_fine_9 : decode cX12_fine 9 = .ok (.goto 4, 3) := dk_get kX12_fine_ok 5 rfl
theorem dX12_fine_12 : decode cX12_fine 12 = .ok (.iconst 0, 1) := dk_get kX12_fine_ok 6 rfl
theorem dX12_fine_13 : decode cX12_fine 13 = .ok (.ireturn, 1) := dk_get kX12_fine_ok 7 rfl
def kX12_wrong : List (Nat × Instr × Nat) := [(0, .aload_n 0, 1), (1, .getfield 200, 3), (4, .iconst (-1), 1), (5, .if_icmp .eq 4, 3), (8, .return_, 1), (9, .aload_n 0, 1), (10, .iload_n 2, 1), (11, .putfield 200, 3), (14, .aload_n 0, 1), (15, .iload_n 1, 1), (16, .putfield 203, 3), (19, .return_, 1)]
set_option maxRecDepth 100000 in
theorem kX12_wrong_ok : kX12_wrong.all (fun q => decide (decode cX12_wrong q.1 = .ok q.2)) = true := by decide +kernel
theorem dX12_wrong_0 : decode cX12_wrong 0 = .ok (.aload_n 0, 1) := dk_get kX12_wrong_ok 0 rfl
theorem dX12_wrong_1 : decode cX12_wrong 1 = .ok (.getfield 200, 3) := dk_get kX12_wrong_ok 1 rfl
theorem dX12_wrong_4 : decode cX12_wrong 4 = .ok (.iconst (-1), 1) := dk_get kX12_wrong_ok 2 rfl
theorem dX12_wrong_5 : decode cX12_wrong 5 = .ok (.if_icmp .eq 4, 3) := dk_get kX12_wrong_ok 3 rfl
theorem dX12_wrong_8 : decode cX12_wrong 8 = .ok (.return_, 1) := dk_get kX12_wrong_ok 4 rfl
theorem dX12_wrong_9 : decode cX12_wrong 9 = .ok (.aload_n 0, 1) := dk_get kX12_wrong_ok 5 rfl
theorem dX12_wrong_10 : decode cX12_wrong 10 = .ok (.iload_n 2, 1) := dk_get kX12_wrong_ok 6 rfl
theorem dX12_wrong_11 : decode cX12_wrong 11 = .ok (.putfield 200, 3) := dk_get kX12_wrong_ok 7 rfl
theorem dX12_wrong_14 : decode cX12_wrong 14 = .ok (.aload_n 0, 1) := dk_get kX12_wrong_ok 8 rfl
theorem dX12_wrong_15 : decode cX12_wrong 15 = .ok (.iload_n 1, 1) := dk_get kX12_wrong_ok 9 rfl
theorem dX12_wrong_16 : decode cX12_wrong 16 = .ok (.putfield 203, 3) := dk_get kX12_wrong_ok 10 rfl
theorem dX12_wrong_19 : decode cX12_wrong 19 = .ok (.return_, 1) := dk_get kX12_wrong_ok 11 rfl
def kX12_here : List (Nat × Instr × Nat) := [(0, .aload_n 0, 1), (1, .getfield 206, 3), (4, .aload_n 0, 1), (5, .getfield 209, 3), (8, .if_icmp .ge 30, 3), (11, .aload_n 0, 1), (12, .getfield 38, 3), (15, .aload_n 0, 1), (16, .getfield 206, 3), (19, .iaload, 1), (20, .bipush 32, 2), (22, .if_icmp .ne 16, 3), (25, .aload_n 0, 1), (26, .dup, 1), (27, .getfield 206, 3), (30, .iconst 1, 1), (31, .iadd, 1), (32, .putfield 206, 3), (35, .goto (-35), 3), (38, .aload_n 0, 1), (39, .getfield 206, 3), (42, .aload_n 0, 1), (43, .getfield 209, 3), (46, .if_icmp .ge 15, 3), (49, .aload_n 0, 1), (50, .getfield 38, 3), (53, .aload_n 0, 1), (54, .getfield 206, 3), (57, .iaload, 1), (58, .goto 4, 3), (61, .iconst 0, 1), (62, .ireturn, 1)]
set_option maxRecDepth 100000 in
theorem kX12_here_ok : kX12_here.all (fun q => decide (decode cX12_here q.1 = .ok q.2)) = true := by decide +kernel
theorem dX12_here_0 : decode cX12_here 0 = .ok (.aload_n 0, 1) := dk_get kX12_here_ok 0 rfl
theorem dX12_here_1 : decode cX12_here 1 = .ok (.getfield 206, 3) := dk_get kX12_here_ok 1 rfl
theorem dX12_here_4 : decode cX12_here 4 = .ok (.aload_n 0, 1) := dk_get kX12_here_ok 2 rfl
theorem dX12_here_5 : decode cX12_here 5 = .ok (.getfield 209, 3) := dk_get kX12_here_ok 3 rfl
theorem dX12_here_8 : decode cX12_here 8 = .ok (.if_icmp .ge 30, 3) := dk_get kX12_here_ok 4 rfl
theorem dX12_here_11 : decode cX12_here 11 = .ok (.aload_n 0, 1) := dk_get kX12_here_ok 5 rfl
theorem dX12_here_12 : decode cX12_here 12 = .ok (.getfield 38, 3) := dk_get kX12_here_ok 6 rfl
theorem dX12_here_15 : decode cX12_here 15 = .ok (.aload_n 0, 1) := dk_get kX12_here_ok 7 rfl
theorem dX12_here_16 : decode cX12_here 16 = .ok (.getfield 206, 3) := dk_get kX12_here_ok 8 rfl
theorem dX12_here_19 : decode cX12_here 19 = .ok (.iaload, 1) := dk_get kX12_here_ok 9 rfl
theorem dX12_here_20 : decode cX12_here 20 = .ok (.bipush 32, 2) := dk_get kX12_here_ok 10 rfl
theorem dX12_here_22 : decode cX12_here 22 = .ok (.if_icmp .ne 16, 3) := dk_get kX12_here_ok 11 rfl
theorem dX12_here_25 : decode cX12_here 25 = .ok (.aload_n 0, 1) := dk_get kX12_here_ok 12 rfl
theorem dX12_here_26 : decode cX12_here 26 = .ok (.dup, 1) := dk_get kX12_here_ok 13 rfl
theorem dX12_here_27 : decode cX12_here 27 = .ok (.getfield 206, 3) := dk_get kX12_here_ok 14 rfl
theorem dX12_here_30 : decode cX12_here 30 = .ok (.iconst 1, 1) := dk_get kX12_here_ok 15 rfl
theorem dX12_here_31 : decode cX12_here 31 = .ok (.iadd, 1) := dk_get kX12_here_ok 16 rfl
theorem dX12_here_32 : decode cX12_here 32 = .ok (.putfield 206, 3) := dk_get kX12_here_ok 17 rfl
theorem dX12_here_35 : decode cX12_here 35 = .ok (.goto (-35), 3) := dk_get kX12_here_ok 18 rfl
theorem dX12_here_38 : decode cX12_here 38 = .ok (.aload_n 0, 1) := dk_get kX12_here_ok 19 rfl
theorem dX12_here_39 : decode cX12_here 39 = .ok (.getfield 206, 3) := dk_get kX12_here_ok 20 rfl
theorem dX12_here_42 : decode cX12_here 42 = .ok (.aload_n 0, 1) := dk_get kX12_here_ok 21 rfl
theorem dX12_here_43 : decode cX12_here 43 = .ok (.getfield 209, 3) := dk_get kX12_here_ok 22 rfl
theorem dX12_here_46 : decode cX12_here 46 = .ok (.if_icmp .ge 15, 3) := dk_get kX12_here_ok 23 rfl
theorem dX12_here_49 : decode cX12_here 49 = .ok (.aload_n 0, 1) := dk_get kX12_here_ok 24 rfl
theorem dX12_here_50 : decode cX12_here 50 = .ok (.getfield 38, 3) := dk_get kX12_here_ok 25 rfl
theorem dX12_here_53 : decode cX12_here 53 = .ok (.aload_n 0, 1) := dk_get kX12_here_ok 26 rfl
theorem dX12_here_54 : decode cX12_here 54 = .ok (.getfield 206, 3) := dk_get kX12_here_ok 27 rfl
theorem dX12_here_57 : decode cX12_here 57 = .ok (.iaload, 1) := dk_get kX12_here_ok 28 rfl
theorem dX12_here_58 : decode cX12_here 58 = .ok (.goto 4, 3) := dk_get kX12_here_ok 29 rfl
theorem dX12_here_61 : decode cX12_here 61 = .ok (.iconst 0, 1) := dk_get kX12_here_ok 30 rfl
theorem dX12_here_62 : decode cX12_here 62 = .ok (.ireturn, 1) := dk_get kX12_here_ok 31 rfl
def kX12_isSmall : List (Nat × Instr × Nat) := [(0, .iload_n 0, 1), (1, .bipush 97, 2), (3, .if_icmp .lt 13, 3), (6, .iload_n 0, 1), (7, .bipush 122, 2), (9, .if_icmp .gt 7, 3), (12, .iconst 1, 1), (13, .goto 4, 3), (16, .iconst 0, 1), (17, .ireturn, 1)]
set_option maxRecDepth 100000 in
theorem kX12_isSmall_ok : kX12_isSmall.all (fun q => decide (decode cX12_isSmall q.1 = .ok q.2)) = true := by decide +kernel
theorem dX12_isSmall_0 : decode cX12_isSmall 0 = .ok (.iload_n 0, 1) := dk_get kX12_isSmall_ok 0 rfl
theorem dX12_isSmall_1 : decode cX12_isSmall 1 = .ok (.bipush 97, 2) := dk_get kX12_isSmall_ok 1 rfl
theorem dX12_isSmall_3 : decode cX12_isSmall 3 = .ok (.if_icmp .lt 13, 3) := dk_get kX12_isSmall_ok 2 rfl
theorem dX12_isSmall_6 : decode cX12_isSmall 6 = .ok (.iload_n 0, 1) := dk_get kX12_isSmall_ok 3 rfl
theorem dX12_isSmall_7 : decode cX12_isSmall 7 = .ok (.bipush 122, 2) := dk_get kX12_isSmall_ok 4 rfl
theorem dX12_isSmall_9 : decode cX12_isSmall 9 = .ok (.if_icmp .gt 7, 3) := dk_get kX12_isSmall_ok 5 rfl
theorem dX12_isSmall_12 : decode cX12_isSmall 12 = .ok (.iconst 1, 1) := dk_get kX12_isSmall_ok 6 rfl
theorem dX12_isSmall_13 : decode cX12_isSmall 13 = .ok (.goto 4, 3) := dk_get kX12_isSmall_ok 7 rfl
theorem dX12_isSmall_16 : decode cX12_isSmall 16 = .ok (.iconst 0, 1) := dk_get kX12_isSmall_ok 8 rfl
theorem dX12_isSmall_17 : decode cX12_isSmall 17 = .ok (.ireturn, 1) := dk_get kX12_isSmall_ok 9 rfl
def kX12_isDigit : List (Nat × Instr × Nat) := [(0, .iload_n 0, 1), (1, .bipush 48, 2), (3, .if_icmp .lt 13, 3), (6, .iload_n 0, 1), (7, .bipush 57, 2), (9, .if_icmp .gt 7, 3), (12, .iconst 1, 1), (13, .goto 4, 3), (16, .iconst 0, 1), (17, .ireturn, 1)]
set_option maxRecDepth 100000 in
theorem kX12_isDigit_ok : kX12_isDigit.all (fun q => decide (decode cX12_isDigit q.1 = .ok q.2)) = true := by decide +kernel
theorem dX12_isDigit_0 : decode cX12_isDigit 0 = .ok (.iload_n 0, 1) := dk_get kX12_isDigit_ok 0 rfl
theorem dX12_isDigit_1 : decode cX12_isDigit 1 = .ok (.bipush 48, 2) := dk_get kX12_isDigit_ok 1 rfl
theorem dX12_isDigit_3 : decode cX12_isDigit 3 = .ok (.if_icmp .lt 13, 3) := dk_get kX12_isDigit_ok 2 rfl
theorem dX12_isDigit_6 : decode cX12_isDigit 6 = .ok (.iload_n 0, 1) := dk_get kX12_isDigit_ok 3 rfl
theorem dX12_isDigit_7 : decode cX12_isDigit 7 = .ok (.bipush 57, 2) := dk_get kX12_isDigit_ok 4 rfl
theorem dX12_isDigit_9 : decode cX12_isDigit 9 = .ok (.if_icmp .gt 7, 3) := dk_get kX12_isDigit_ok 5 rfl
theorem dX12_isDigit_12 : decode cX12_isDigit 12 = .ok (.iconst 1, 1) := dk_get kX12_isDigit_ok 6 rfl
theorem dX12_isDigit_13 : decode cX12_isDigit 13 = .ok (.goto 4, 3) := dk_get kX12_isDigit_ok 7 rfl
theorem dX12_isDigit_16 : decode cX12_isDigit 16 = .ok (.iconst 0, 1) := dk_get kX12_isDigit_ok 8 rfl
theorem dX12_isDigit_17 : decode cX12_isDigit 17 = .ok (.ireturn, 1) := dk_get kX12_isDigit_ok 9 rfl
def kX12_word : List (Nat × Instr × Nat) := [(0, .aload_n 0, 1), (1, .invokevirtual 212, 3), (4, .pop, 1), (5, .lconst 0, 1), (6, .lstore_n 1, 1), (7, .iconst 0, 1), (8, .istore_n 3, 1), (9, .aload_n 0, 1), (10, .getfield 206, 3), (13, .istore 4, 2), (15, .iload 4, 2), (17, .aload_n 0, 1), (18, .getfield 209, 3), (21, .if_icmp .ge 51, 3), (24, .aload_n 0, 1), (25, .getfield 38, 3), (28, .iload 4, 2), (30, .iaload, 1), (31, .invokestatic 216, 3), (34, .ifCond .eq 38, 3), (37, .iload_n 3, 1), (38, .bipush 7, 2), (40, .if_icmp .ge 21, 3), (43, .lload_n 1, 1), (44, .iconst 5, 1), (45, .lshl, 1), (46, .aload_n 0, 1), (47, .getfield 38, 3), (50, .iload 4, 2), (52, .iaload, 1), (53, .bipush 96, 2), (55, .isub, 1), (56, .i2l, 1), (57, .lor, 1), (58, .goto 4, 3), (61, .lconst 0, 1), (62, .lstore_n 1, 1), (63, .iinc 3 1, 3), (66, .iinc 4 1, 3), (69, .goto (-54), 3), (72, .iload_n 3, 1), (73, .bipush 7, 2), (75, .if_icmp .le 7, 3), (78, .lconst 0, 1), (79, .goto 4, 3), (82, .lload_n 1, 1), (83, .lreturn, 1)]
set_option maxRecDepth 100000 in
theorem kX12_word_ok : kX12_word.all (fun q => decide (decode cX12_word q.1 = .ok q.2)) = true := by decide +kernel
theorem dX12_word_0 : decode cX12_word 0 = .ok (.aload_n 0, 1) := dk_get kX12_word_ok 0 rfl
theorem dX12_word_1 : decode cX12_word 1 = .ok (.invokevirtual 212, 3) := dk_get kX12_word_ok 1 rfl
theorem dX12_word_4 : decode cX12_word 4 = .ok (.pop, 1) := dk_get kX12_word_ok 2 rfl
theorem dX12_word_5 : decode cX12_word 5 = .ok (.lconst 0, 1) := dk_get kX12_word_ok 3 rfl
theorem dX12_word_6 : decode cX12_word 6 = .ok (.lstore_n 1, 1) := dk_get kX12_word_ok 4 rfl
theorem dX12_word_7 : decode cX12_word 7 = .ok (.iconst 0, 1) := dk_get kX12_word_ok 5 rfl
theorem dX12_word_8 : decode cX12_word 8 = .ok (.istore_n 3, 1) := dk_get kX12_word_ok 6 rfl
theorem dX12_word_9 : decode cX12_word 9 = .ok (.aload_n 0, 1) := dk_get kX12_word_ok 7 rfl
theorem dX12_word_10 : decode cX12_word 10 = .ok (.getfield 206, 3) := dk_get kX12_word_ok 8 rfl
theorem dX12_word_13 : decode cX12_word 13 = .ok (.istore 4, 2) := dk_get kX12_word_ok 9 rfl
theorem dX12_word_15 : decode cX12_word 15 = .ok (.iload 4, 2) := dk_get kX12_word_ok 10 rfl
theorem dX12_word_17 : decode cX12_word 17 = .ok (.aload_n 0, 1) := dk_get kX12_word_ok 11 rfl
theorem dX12_word_18 : decode cX12_word 18 = .ok (.getfield 209, 3) := dk_get kX12_word_ok 12 rfl
theorem dX12_word_21 : decode cX12_word 21 = .ok (.if_icmp .ge 51, 3) := dk_get kX12_word_ok 13 rfl
theorem dX12_word_24 : decode cX12_word 24 = .ok (.aload_n 0, 1) := dk_get kX12_word_ok 14 rfl
theorem dX12_word_25 : decode cX12_word 25 = .ok (.getfield 38, 3) := dk_get kX12_word_ok 15 rfl
theorem dX12_word_28 : decode cX12_word 28 = .ok (.iload 4, 2) := dk_get kX12_word_ok 16 rfl
theorem dX12_word_30 : decode cX12_word 30 = .ok (.iaload, 1) := dk_get kX12_word_ok 17 rfl
theorem dX12_word_31 : decode cX12_word 31 = .ok (.invokestatic 216, 3) := dk_get kX12_word_ok 18 rfl
theorem dX12_word_34 : decode cX12_word 34 = .ok (.ifCond .eq 38, 3) := dk_get kX12_word_ok 19 rfl
theorem dX12_word_37 : decode cX12_word 37 = .ok (.iload_n 3, 1) := dk_get kX12_word_ok 20 rfl
theorem dX12_word_38 : decode cX12_word 38 = .ok (.bipush 7, 2) := dk_get kX12_word_ok 21 rfl
theorem dX12_word_40 : decode cX12_word 40 = .ok (.if_icmp .ge 21, 3) := dk_get kX12_word_ok 22 rfl
theorem dX12_word_43 : decode cX12_word 43 = .ok (.lload_n 1, 1) := dk_get kX12_word_ok 23 rfl
theorem dX12_word_44 : decode cX12_word 44 = .ok (.iconst 5, 1) := dk_get kX12_word_ok 24 rfl
theorem dX12_word_45 : decode cX12_word 45 = .ok (.lshl, 1) := dk_get kX12_word_ok 25 rfl
theorem dX12_word_46 : decode cX12_word 46 = .ok (.aload_n 0, 1) := dk_get kX12_word_ok 26 rfl
theorem dX12_word_47 : decode cX12_word 47 = .ok (.getfield 38, 3) := dk_get kX12_word_ok 27 rfl
theorem dX12_word_50 : decode cX12_word 50 = .ok (.iload 4, 2) := dk_get kX12_word_ok 28 rfl
theorem dX12_word_52 : decode cX12_word 52 = .ok (.iaload, 1) := dk_get kX12_word_ok 29 rfl
theorem dX12_word_53 : decode cX12_word 53 = .ok (.bipush 96, 2) := dk_get kX12_word_ok 30 rfl
theorem dX12_word_55 : decode cX12_word 55 = .ok (.isub, 1) := dk_get kX12_word_ok 31 rfl
theorem dX12_word_56 : decode cX12_word 56 = .ok (.i2l, 1) := dk_get kX12_word_ok 32 rfl
theorem dX12_word_57 : decode cX12_word 57 = .ok (.lor, 1) := dk_get kX12_word_ok 33 rfl
theorem dX12_word_58 : decode cX12_word 58 = .ok (.goto 4, 3) := dk_get kX12_word_ok 34 rfl
theorem dX12_word_61 : decode cX12_word 61 = .ok (.lconst 0, 1) := dk_get kX12_word_ok 35 rfl
theorem dX12_word_62 : decode cX12_word 62 = .ok (.lstore_n 1, 1) := dk_get kX12_word_ok 36 rfl
theorem dX12_word_63 : decode cX12_word 63 = .ok (.iinc 3 1, 3) := dk_get kX12_word_ok 37 rfl
theorem dX12_word_66 : decode cX12_word 66 = .ok (.iinc 4 1, 3) := dk_get kX12_word_ok 38 rfl
theorem dX12_word_69 : decode cX12_word 69 = .ok (.goto (-54), 3) := dk_get kX12_word_ok 39 rfl
theorem dX12_word_72 : decode cX12_word 72 = .ok (.iload_n 3, 1) := dk_get kX12_word_ok 40 rfl
theorem dX12_word_73 : decode cX12_word 73 = .ok (.bipush 7, 2) := dk_get kX12_word_ok 41 rfl
theorem dX12_word_75 : decode cX12_word 75 = .ok (.if_icmp .le 7, 3) := dk_get kX12_word_ok 42 rfl
theorem dX12_word_78 : decode cX12_word 78 = .ok (.lconst 0, 1) := dk_get kX12_word_ok 43 rfl
theorem dX12_word_79 : decode cX12_word 79 = .ok (.goto 4, 3) := dk_get kX12_word_ok 44 rfl
theorem dX12_word_82 : decode cX12_word 82 = .ok (.lload_n 1, 1) := dk_get kX12_word_ok 45 rfl
theorem dX12_word_83 : decode cX12_word 83 = .ok (.lreturn, 1) := dk_get kX12_word_ok 46 rfl
def kX12_pass : List (Nat × Instr × Nat) := [(0, .aload_n 0, 1), (1, .getfield 206, 3), (4, .aload_n 0, 1), (5, .getfield 209, 3), (8, .if_icmp .ge 31, 3), (11, .aload_n 0, 1), (12, .getfield 38, 3), (15, .aload_n 0, 1), (16, .getfield 206, 3), (19, .iaload, 1), (20, .invokestatic 216, 3), (23, .ifCond .eq 16, 3), (26, .aload_n 0, 1), (27, .dup, 1), (28, .getfield 206, 3), (31, .iconst 1, 1), (32, .iadd, 1), (33, .putfield 206, 3), (36, .goto (-36), 3), (39, .return_, 1)]
set_option maxRecDepth 100000 in
theorem kX12_pass_ok : kX12_pass.all (fun q => decide (decode cX12_pass q.1 = .ok q.2)) = true := by decide +kernel
theorem dX12_pass_0 : decode cX12_pass 0 = .ok (.aload_n 0, 1) := dk_get kX12_pass_ok 0 rfl
theorem dX12_pass_1 : decode cX12_pass 1 = .ok (.getfield 206, 3) := dk_get kX12_pass_ok 1 rfl
theorem dX12_pass_4 : decode cX12_pass 4 = .ok (.aload_n 0, 1) := dk_get kX12_pass_ok 2 rfl
theorem dX12_pass_5 : decode cX12_pass 5 = .ok (.getfield 209, 3) := dk_get kX12_pass_ok 3 rfl
theorem dX12_pass_8 : decode cX12_pass 8 = .ok (.if_icmp .ge 31, 3) := dk_get kX12_pass_ok 4 rfl
theorem dX12_pass_11 : decode cX12_pass 11 = .ok (.aload_n 0, 1) := dk_get kX12_pass_ok 5 rfl
theorem dX12_pass_12 : decode cX12_pass 12 = .ok (.getfield 38, 3) := dk_get kX12_pass_ok 6 rfl
theorem dX12_pass_15 : decode cX12_pass 15 = .ok (.aload_n 0, 1) := dk_get kX12_pass_ok 7 rfl
theorem dX12_pass_16 : decode cX12_pass 16 = .ok (.getfield 206, 3) := dk_get kX12_pass_ok 8 rfl
theorem dX12_pass_19 : decode cX12_pass 19 = .ok (.iaload, 1) := dk_get kX12_pass_ok 9 rfl
theorem dX12_pass_20 : decode cX12_pass 20 = .ok (.invokestatic 216, 3) := dk_get kX12_pass_ok 10 rfl
theorem dX12_pass_23 : decode cX12_pass 23 = .ok (.ifCond .eq 16, 3) := dk_get kX12_pass_ok 11 rfl
theorem dX12_pass_26 : decode cX12_pass 26 = .ok (.aload_n 0, 1) := dk_get kX12_pass_ok 12 rfl
theorem dX12_pass_27 : decode cX12_pass 27 = .ok (.dup, 1) := dk_get kX12_pass_ok 13 rfl
theorem dX12_pass_28 : decode cX12_pass 28 = .ok (.getfield 206, 3) := dk_get kX12_pass_ok 14 rfl
theorem dX12_pass_31 : decode cX12_pass 31 = .ok (.iconst 1, 1) := dk_get kX12_pass_ok 15 rfl
theorem dX12_pass_32 : decode cX12_pass 32 = .ok (.iadd, 1) := dk_get kX12_pass_ok 16 rfl
theorem dX12_pass_33 : decode cX12_pass 33 = .ok (.putfield 206, 3) := dk_get kX12_pass_ok 17 rfl
theorem dX12_pass_36 : decode cX12_pass 36 = .ok (.goto (-36), 3) := dk_get kX12_pass_ok 18 rfl
theorem dX12_pass_39 : decode cX12_pass 39 = .ok (.return_, 1) := dk_get kX12_pass_ok 19 rfl
def kX12_readNumber : List (Nat × Instr × Nat) := [(0, .aload_n 0, 1), (1, .getfield 206, 3), (4, .istore_n 1, 1), (5, .iconst 0, 1), (6, .istore_n 2, 1), (7, .aload_n 0, 1), (8, .getfield 206, 3), (11, .aload_n 0, 1), (12, .getfield 209, 3), (15, .if_icmp .ge 62, 3), (18, .aload_n 0, 1), (19, .getfield 38, 3), (22, .aload_n 0, 1), (23, .getfield 206, 3), (26, .iaload, 1), (27, .invokestatic 219, 3), (30, .ifCond .eq 47, 3), (33, .iload_n 2, 1), (34, .sipush 9999, 3), (37, .if_icmp .le 9, 3), (40, .sipush 10000, 3), (43, .goto 20, 3), (46, .bipush 10, 2), (48, .iload_n 2, 1), (49, .imul, 1), (50, .aload_n 0, 1), (51, .getfield 38, 3), (54, .aload_n 0, 1), (55, .getfield 206, 3), (58, .iaload, 1), (59, .iadd, 1), (60, .bipush 48, 2), (62, .isub, 1), (63, .istore_n 2, 1), (64, .aload_n 0, 1), (65, .dup, 1), (66, .getfield 206, 3), (69, .iconst 1, 1), (70, .iadd, 1), (71, .putfield 206, 3), (74, .goto (-67), 3), (77, .iload_n 2, 1), (78, .sipush 9999, 3), (81, .if_icmp .le 9, 3), (84, .aload_n 0, 1), (85, .iconst 2, 1), (86, .iload_n 1, 1), (87, .invokevirtual 222, 3), (90, .iload_n 2, 1), (91, .ireturn, 1)]
set_option maxRecDepth 100000 in
theorem kX12_readNumber_ok : kX12_readNumber.all (fun q => decide (decode cX12_readNumber q.1 = .ok q.2)) = true := by decide +kernel
theorem dX12_readNumber_0 : decode cX12_readNumber 0 = .ok (.aload_n 0, 1) := dk_get kX12_readNumber_ok 0 rfl
theorem dX12_readNumber_1 : decode cX12_readNumber 1 = .ok (.getfield 206, 3) := dk_get kX12_readNumber_ok 1 rfl
theorem dX12_readNumber_4 : decode cX12_readNumber 4 = .ok (.istore_n 1, 1) := dk_get kX12_readNumber_ok 2 rfl
theorem dX12_readNumber_5 : decode cX12_readNumber 5 = .ok (.iconst 0, 1) := dk_get kX12_readNumber_ok 3 rfl
theorem dX12_readNumber_6 : decode cX12_readNumber 6 = .ok (.istore_n 2, 1) := dk_get kX12_readNumber_ok 4 rfl
theorem dX12_readNumber_7 : decode cX12_readNumber 7 = .ok (.aload_n 0, 1) := dk_get kX12_readNumber_ok 5 rfl
theorem dX12_readNumber_8 : decode cX12_readNumber 8 = .ok (.getfield 206, 3) := dk_get kX12_readNumber_ok 6 rfl
theorem dX12_readNumber_11 : decode cX12_readNumber 11 = .ok (.aload_n 0, 1) := dk_get kX12_readNumber_ok 7 rfl
theorem dX12_readNumber_12 : decode cX12_readNumber 12 = .ok (.getfield 209, 3) := dk_get kX12_readNumber_ok 8 rfl
theorem dX12_readNumber_15 : decode cX12_readNumber 15 = .ok (.if_icmp .ge 62, 3) := dk_get kX12_readNumber_ok 9 rfl
theorem dX12_readNumber_18 : decode cX12_readNumber 18 = .ok (.aload_n 0, 1) := dk_get kX12_readNumber_ok 10 rfl
theorem dX12_readNumber_19 : decode cX12_readNumber 19 = .ok (.getfield 38, 3) := dk_get kX12_readNumber_ok 11 rfl
theorem dX12_readNumber_22 : decode cX12_readNumber 22 = .ok (.aload_n 0, 1) := dk_get kX12_readNumber_ok 12 rfl
theorem dX12_readNumber_23 : decode cX12_readNumber 23 = .ok (.getfield 206, 3) := dk_get kX12_readNumber_ok 13 rfl
theorem dX12_readNumber_26 : decode cX12_readNumber 26 = .ok (.iaload, 1) := dk_get kX12_readNumber_ok 14 rfl
theorem dX12_readNumber_27 : decode cX12_readNumber 27 = .ok (.invokestatic 219, 3) := dk_get kX12_readNumber_ok 15 rfl
theorem dX12_readNumber_30 : decode cX12_readNumber 30 = .ok (.ifCond .eq 47, 3) := dk_get kX12_readNumber_ok 16 rfl
theorem dX12_readNumber_33 : decode cX12_readNumber 33 = .ok (.iload_n 2, 1) := dk_get kX12_readNumber_ok 17 rfl
theorem dX12_readNumber_34 : decode cX12_readNumber 34 = .ok (.sipush 9999, 3) := dk_get kX12_readNumber_ok 18 rfl
theorem dX12_readNumber_37 : decode cX12_readNumber 37 = .ok (.if_icmp .le 9, 3) := dk_get kX12_readNumber_ok 19 rfl
theorem dX12_readNumber_40 : decode cX12_readNumber 40 = .ok (.sipush 10000, 3) := dk_get kX12_readNumber_ok 20 rfl
theorem dX12_readNumber_43 : decode cX12_readNumber 43 = .ok (.goto 20, 3) := dk_get kX12_readNumber_ok 21 rfl
theorem dX12_readNumber_46 : decode cX12_readNumber 46 = .ok (.bipush 10, 2) := dk_get kX12_readNumber_ok 22 rfl
theorem dX12_readNumber_48 : decode cX12_readNumber 48 = .ok (.iload_n 2, 1) := dk_get kX12_readNumber_ok 23 rfl
theorem dX12_readNumber_49 : decode cX12_readNumber 49 = .ok (.imul, 1) := dk_get kX12_readNumber_ok 24 rfl
theorem dX12_readNumber_50 : decode cX12_readNumber 50 = .ok (.aload_n 0, 1) := dk_get kX12_readNumber_ok 25 rfl
theorem dX12_readNumber_51 : decode cX12_readNumber 51 = .ok (.getfield 38, 3) := dk_get kX12_readNumber_ok 26 rfl
theorem dX12_readNumber_54 : decode cX12_readNumber 54 = .ok (.aload_n 0, 1) := dk_get kX12_readNumber_ok 27 rfl
theorem dX12_readNumber_55 : decode cX12_readNumber 55 = .ok (.getfield 206, 3) := dk_get kX12_readNumber_ok 28 rfl
theorem dX12_readNumber_58 : decode cX12_readNumber 58 = .ok (.iaload, 1) := dk_get kX12_readNumber_ok 29 rfl
theorem dX12_readNumber_59 : decode cX12_readNumber 59 = .ok (.iadd, 1) := dk_get kX12_readNumber_ok 30 rfl
theorem dX12_readNumber_60 : decode cX12_readNumber 60 = .ok (.bipush 48, 2) := dk_get kX12_readNumber_ok 31 rfl
theorem dX12_readNumber_62 : decode cX12_readNumber 62 = .ok (.isub, 1) := dk_get kX12_readNumber_ok 32 rfl
theorem dX12_readNumber_63 : decode cX12_readNumber 63 = .ok (.istore_n 2, 1) := dk_get kX12_readNumber_ok 33 rfl
theorem dX12_readNumber_64 : decode cX12_readNumber 64 = .ok (.aload_n 0, 1) := dk_get kX12_readNumber_ok 34 rfl
theorem dX12_readNumber_65 : decode cX12_readNumber 65 = .ok (.dup, 1) := dk_get kX12_readNumber_ok 35 rfl
theorem dX12_readNumber_66 : decode cX12_readNumber 66 = .ok (.getfield 206, 3) := dk_get kX12_readNumber_ok 36 rfl
theorem dX12_readNumber_69 : decode cX12_readNumber 69 = .ok (.iconst 1, 1) := dk_get kX12_readNumber_ok 37 rfl
theorem dX12_readNumber_70 : decode cX12_readNumber 70 = .ok (.iadd, 1) := dk_get kX12_readNumber_ok 38 rfl
theorem dX12_readNumber_71 : decode cX12_readNumber 71 = .ok (.putfield 206, 3) := dk_get kX12_readNumber_ok 39 rfl
theorem dX12_readNumber_74 : decode cX12_readNumber 74 = .ok (.goto (-67), 3) := dk_get kX12_readNumber_ok 40 rfl
theorem dX12_readNumber_77 : decode cX12_readNumber 77 = .ok (.iload_n 2, 1) := dk_get kX12_readNumber_ok 41 rfl
theorem dX12_readNumber_78 : decode cX12_readNumber 78 = .ok (.sipush 9999, 3) := dk_get kX12_readNumber_ok 42 rfl
theorem dX12_readNumber_81 : decode cX12_readNumber 81 = .ok (.if_icmp .le 9, 3) := dk_get kX12_readNumber_ok 43 rfl
theorem dX12_readNumber_84 : decode cX12_readNumber 84 = .ok (.aload_n 0, 1) := dk_get kX12_readNumber_ok 44 rfl
theorem dX12_readNumber_85 : decode cX12_readNumber 85 = .ok (.iconst 2, 1) := dk_get kX12_readNumber_ok 45 rfl
theorem dX12_readNumber_86 : decode cX12_readNumber 86 = .ok (.iload_n 1, 1) := dk_get kX12_readNumber_ok 46 rfl
theorem dX12_readNumber_87 : decode cX12_readNumber 87 = .ok (.invokevirtual 222, 3) := dk_get kX12_readNumber_ok 47 rfl
theorem dX12_readNumber_90 : decode cX12_readNumber 90 = .ok (.iload_n 2, 1) := dk_get kX12_readNumber_ok 48 rfl
theorem dX12_readNumber_91 : decode cX12_readNumber 91 = .ok (.ireturn, 1) := dk_get kX12_readNumber_ok 49 rfl
def kX12_need : List (Nat × Instr × Nat) := [(0, .aload_n 0, 1), (1, .invokevirtual 226, 3), (4, .ifCond .eq 20, 3), (7, .aload_n 0, 1), (8, .invokevirtual 212, 3), (11, .iload_n 1, 1), (12, .if_icmp .eq 12, 3), (15, .aload_n 0, 1), (16, .iconst 1, 1), (17, .aload_n 0, 1), (18, .getfield 206, 3), (21, .invokevirtual 222, 3), (24, .aload_n 0, 1), (25, .invokevirtual 226, 3), (28, .ifCond .eq 13, 3), (31, .aload_n 0, 1), (32, .dup, 1), (33, .getfield 206, 3), (36, .iconst 1, 1), (37, .iadd, 1), (38, .putfield 206, 3), (41, .return_, 1)]
set_option maxRecDepth 100000 in
theorem kX12_need_ok : kX12_need.all (fun q => decide (decode cX12_need q.1 = .ok q.2)) = true := by decide +kernel
theorem dX12_need_0 : decode cX12_need 0 = .ok (.aload_n 0, 1) := dk_get kX12_need_ok 0 rfl
theorem dX12_need_1 : decode cX12_need 1 = .ok (.invokevirtual 226, 3) := dk_get kX12_need_ok 1 rfl
theorem dX12_need_4 : decode cX12_need 4 = .ok (.ifCond .eq 20, 3) := dk_get kX12_need_ok 2 rfl
theorem dX12_need_7 : decode cX12_need 7 = .ok (.aload_n 0, 1) := dk_get kX12_need_ok 3 rfl
theorem dX12_need_8 : decode cX12_need 8 = .ok (.invokevirtual 212, 3) := dk_get kX12_need_ok 4 rfl
theorem dX12_need_11 : decode cX12_need 11 = .ok (.iload_n 1, 1) := dk_get kX12_need_ok 5 rfl
theorem dX12_need_12 : decode cX12_need 12 = .ok (.if_icmp .eq 12, 3) := dk_get kX12_need_ok 6 rfl
theorem dX12_need_15 : decode cX12_need 15 = .ok (.aload_n 0, 1) := dk_get kX12_need_ok 7 rfl
theorem dX12_need_16 : decode cX12_need 16 = .ok (.iconst 1, 1) := dk_get kX12_need_ok 8 rfl
theorem dX12_need_17 : decode cX12_need 17 = .ok (.aload_n 0, 1) := dk_get kX12_need_ok 9 rfl
theorem dX12_need_18 : decode cX12_need 18 = .ok (.getfield 206, 3) := dk_get kX12_need_ok 10 rfl
theorem dX12_need_21 : decode cX12_need 21 = .ok (.invokevirtual 222, 3) := dk_get kX12_need_ok 11 rfl
theorem dX12_need_24 : decode cX12_need 24 = .ok (.aload_n 0, 1) := dk_get kX12_need_ok 12 rfl
theorem dX12_need_25 : decode cX12_need 25 = .ok (.invokevirtual 226, 3) := dk_get kX12_need_ok 13 rfl
theorem dX12_need_28 : decode cX12_need 28 = .ok (.ifCond .eq 13, 3) := dk_get kX12_need_ok 14 rfl
theorem dX12_need_31 : decode cX12_need 31 = .ok (.aload_n 0, 1) := dk_get kX12_need_ok 15 rfl
theorem dX12_need_32 : decode cX12_need 32 = .ok (.dup, 1) := dk_get kX12_need_ok 16 rfl
theorem dX12_need_33 : decode cX12_need 33 = .ok (.getfield 206, 3) := dk_get kX12_need_ok 17 rfl
theorem dX12_need_36 : decode cX12_need 36 = .ok (.iconst 1, 1) := dk_get kX12_need_ok 18 rfl
theorem dX12_need_37 : decode cX12_need 37 = .ok (.iadd, 1) := dk_get kX12_need_ok 19 rfl
theorem dX12_need_38 : decode cX12_need 38 = .ok (.putfield 206, 3) := dk_get kX12_need_ok 20 rfl
theorem dX12_need_41 : decode cX12_need 41 = .ok (.return_, 1) := dk_get kX12_need_ok 21 rfl
def kX12_emit : List (Nat × Instr × Nat) := [(0, .aload_n 0, 1), (1, .invokevirtual 226, 3), (4, .ifCond .ne 4, 3), (7, .return_, 1), (8, .aload_n 0, 1), (9, .getfield 71, 3), (12, .aload_n 0, 1), (13, .getfield 230, 3), (16, .iload_n 1, 1), (17, .iastore, 1), (18, .aload_n 0, 1), (19, .getfield 74, 3), (22, .aload_n 0, 1), (23, .getfield 230, 3), (26, .iload_n 2, 1), (27, .iastore, 1), (28, .aload_n 0, 1), (29, .dup, 1), (30, .getfield 230, 3), (33, .iconst 1, 1), (34, .iadd, 1), (35, .putfield 230, 3), (38, .return_, 1)]
set_option maxRecDepth 100000 in
theorem kX12_emit_ok : kX12_emit.all (fun q => decide (decode cX12_emit q.1 = .ok q.2)) = true := by decide +kernel
theorem dX12_emit_0 : decode cX12_emit 0 = .ok (.aload_n 0, 1) := dk_get kX12_emit_ok 0 rfl
theorem dX12_emit_1 : decode cX12_emit 1 = .ok (.invokevirtual 226, 3) := dk_get kX12_emit_ok 1 rfl
theorem dX12_emit_4 : decode cX12_emit 4 = .ok (.ifCond .ne 4, 3) := dk_get kX12_emit_ok 2 rfl
theorem dX12_emit_7 : decode cX12_emit 7 = .ok (.return_, 1) := dk_get kX12_emit_ok 3 rfl
theorem dX12_emit_8 : decode cX12_emit 8 = .ok (.aload_n 0, 1) := dk_get kX12_emit_ok 4 rfl
theorem dX12_emit_9 : decode cX12_emit 9 = .ok (.getfield 71, 3) := dk_get kX12_emit_ok 5 rfl
theorem dX12_emit_12 : decode cX12_emit 12 = .ok (.aload_n 0, 1) := dk_get kX12_emit_ok 6 rfl
theorem dX12_emit_13 : decode cX12_emit 13 = .ok (.getfield 230, 3) := dk_get kX12_emit_ok 7 rfl
theorem dX12_emit_16 : decode cX12_emit 16 = .ok (.iload_n 1, 1) := dk_get kX12_emit_ok 8 rfl
theorem dX12_emit_17 : decode cX12_emit 17 = .ok (.iastore, 1) := dk_get kX12_emit_ok 9 rfl
theorem dX12_emit_18 : decode cX12_emit 18 = .ok (.aload_n 0, 1) := dk_get kX12_emit_ok 10 rfl
theorem dX12_emit_19 : decode cX12_emit 19 = .ok (.getfield 74, 3) := dk_get kX12_emit_ok 11 rfl
theorem dX12_emit_22 : decode cX12_emit 22 = .ok (.aload_n 0, 1) := dk_get kX12_emit_ok 12 rfl
theorem dX12_emit_23 : decode cX12_emit 23 = .ok (.getfield 230, 3) := dk_get kX12_emit_ok 13 rfl
theorem dX12_emit_26 : decode cX12_emit 26 = .ok (.iload_n 2, 1) := dk_get kX12_emit_ok 14 rfl
theorem dX12_emit_27 : decode cX12_emit 27 = .ok (.iastore, 1) := dk_get kX12_emit_ok 15 rfl
theorem dX12_emit_28 : decode cX12_emit 28 = .ok (.aload_n 0, 1) := dk_get kX12_emit_ok 16 rfl
theorem dX12_emit_29 : decode cX12_emit 29 = .ok (.dup, 1) := dk_get kX12_emit_ok 17 rfl
theorem dX12_emit_30 : decode cX12_emit 30 = .ok (.getfield 230, 3) := dk_get kX12_emit_ok 18 rfl
theorem dX12_emit_33 : decode cX12_emit 33 = .ok (.iconst 1, 1) := dk_get kX12_emit_ok 19 rfl
theorem dX12_emit_34 : decode cX12_emit 34 = .ok (.iadd, 1) := dk_get kX12_emit_ok 20 rfl
theorem dX12_emit_35 : decode cX12_emit 35 = .ok (.putfield 230, 3) := dk_get kX12_emit_ok 21 rfl
theorem dX12_emit_38 : decode cX12_emit 38 = .ok (.return_, 1) := dk_get kX12_emit_ok 22 rfl
def kX12_opensAt : List (Nat × Instr × Nat) := [(0, .aload_n 0, 1), (1, .invokevirtual 226, 3), (4, .ifCond .ne 4, 3), (7, .return_, 1), (8, .iload_n 1, 1), (9, .ifCond .eq 23, 3), (12, .aload_n 0, 1), (13, .invokevirtual 212, 3), (16, .iload_n 1, 1), (17, .if_icmp .eq 15, 3), (20, .aload_n 0, 1), (21, .iconst 1, 1), (22, .aload_n 0, 1), (23, .getfield 206, 3), (26, .invokevirtual 222, 3), (29, .goto 21, 3), (32, .aload_n 0, 1), (33, .getfield 233, 3), (36, .bipush 6, 2), (38, .if_icmp .ne 12, 3), (41, .aload_n 0, 1), (42, .iconst 3, 1), (43, .aload_n 0, 1), (44, .getfield 206, 3), (47, .invokevirtual 222, 3), (50, .aload_n 0, 1), (51, .invokevirtual 226, 3), (54, .ifCond .eq 13, 3), (57, .aload_n 0, 1), (58, .dup, 1), (59, .getfield 206, 3), (62, .iload_n 2, 1), (63, .iadd, 1), (64, .putfield 206, 3), (67, .aload_n 0, 1), (68, .dup, 1), (69, .getfield 233, 3), (72, .iconst 1, 1), (73, .iadd, 1), (74, .putfield 233, 3), (77, .return_, 1)]
set_option maxRecDepth 100000 in
theorem kX12_opensAt_ok : kX12_opensAt.all (fun q => decide (decode cX12_opensAt q.1 = .ok q.2)) = true := by decide +kernel
theorem dX12_opensAt_0 : decode cX12_opensAt 0 = .ok (.aload_n 0, 1) := dk_get kX12_opensAt_ok 0 rfl
theorem dX12_opensAt_1 : decode cX12_opensAt 1 = .ok (.invokevirtual 226, 3) := dk_get kX12_opensAt_ok 1 rfl
theorem dX12_opensAt_4 : decode cX12_opensAt 4 = .ok (.ifCond .ne 4, 3) := dk_get kX12_opensAt_ok 2 rfl
theorem dX12_opensAt_7 : decode cX12_opensAt 7 = .ok (.return_, 1) := dk_get kX12_opensAt_ok 3 rfl
theorem dX12_opensAt_8 : decode cX12_opensAt 8 = .ok (.iload_n 1, 1) := dk_get kX12_opensAt_ok 4 rfl
theorem dX12_opensAt_9 : decode cX12_opensAt 9 = .ok (.ifCond .eq 23, 3) := dk_get kX12_opensAt_ok 5 rfl
theorem dX12_opensAt_12 : decode cX12_opensAt 12 = .ok (.aload_n 0, 1) := dk_get kX12_opensAt_ok 6 rfl
theorem dX12_opensAt_13 : decode cX12_opensAt 13 = .ok (.invokevirtual 212, 3) := dk_get kX12_opensAt_ok 7 rfl
theorem dX12_opensAt_16 : decode cX12_opensAt 16 = .ok (.iload_n 1, 1) := dk_get kX12_opensAt_ok 8 rfl
theorem dX12_opensAt_17 : decode cX12_opensAt 17 = .ok (.if_icmp .eq 15, 3) := dk_get kX12_opensAt_ok 9 rfl
theorem dX12_opensAt_20 : decode cX12_opensAt 20 = .ok (.aload_n 0, 1) := dk_get kX12_opensAt_ok 10 rfl
theorem dX12_opensAt_21 : decode cX12_opensAt 21 = .ok (.iconst 1, 1) := dk_get kX12_opensAt_ok 11 rfl
theorem dX12_opensAt_22 : decode cX12_opensAt 22 = .ok (.aload_n 0, 1) := dk_get kX12_opensAt_ok 12 rfl
theorem dX12_opensAt_23 : decode cX12_opensAt 23 = .ok (.getfield 206, 3) := dk_get kX12_opensAt_ok 13 rfl
theorem dX12_opensAt_26 : decode cX12_opensAt 26 = .ok (.invokevirtual 222, 3) := dk_get kX12_opensAt_ok 14 rfl
theorem dX12_opensAt_29 : decode cX12_opensAt 29 = .ok (.goto 21, 3) := dk_get kX12_opensAt_ok 15 rfl
theorem dX12_opensAt_32 : decode cX12_opensAt 32 = .ok (.aload_n 0, 1) := dk_get kX12_opensAt_ok 16 rfl
theorem dX12_opensAt_33 : decode cX12_opensAt 33 = .ok (.getfield 233, 3) := dk_get kX12_opensAt_ok 17 rfl
theorem dX12_opensAt_36 : decode cX12_opensAt 36 = .ok (.bipush 6, 2) := dk_get kX12_opensAt_ok 18 rfl
theorem dX12_opensAt_38 : decode cX12_opensAt 38 = .ok (.if_icmp .ne 12, 3) := dk_get kX12_opensAt_ok 19 rfl
theorem dX12_opensAt_41 : decode cX12_opensAt 41 = .ok (.aload_n 0, 1) := dk_get kX12_opensAt_ok 20 rfl
theorem dX12_opensAt_42 : decode cX12_opensAt 42 = .ok (.iconst 3, 1) := dk_get kX12_opensAt_ok 21 rfl
theorem dX12_opensAt_43 : decode cX12_opensAt 43 = .ok (.aload_n 0, 1) := dk_get kX12_opensAt_ok 22 rfl
theorem dX12_opensAt_44 : decode cX12_opensAt 44 = .ok (.getfield 206, 3) := dk_get kX12_opensAt_ok 23 rfl
theorem dX12_opensAt_47 : decode cX12_opensAt 47 = .ok (.invokevirtual 222, 3) := dk_get kX12_opensAt_ok 24 rfl
theorem dX12_opensAt_50 : decode cX12_opensAt 50 = .ok (.aload_n 0, 1) := dk_get kX12_opensAt_ok 25 rfl
theorem dX12_opensAt_51 : decode cX12_opensAt 51 = .ok (.invokevirtual 226, 3) := dk_get kX12_opensAt_ok 26 rfl
theorem dX12_opensAt_54 : decode cX12_opensAt 54 = .ok (.ifCond .eq 13, 3) := dk_get kX12_opensAt_ok 27 rfl
theorem dX12_opensAt_57 : decode cX12_opensAt 57 = .ok (.aload_n 0, 1) := dk_get kX12_opensAt_ok 28 rfl
theorem dX12_opensAt_58 : decode cX12_opensAt 58 = .ok (.dup, 1) := dk_get kX12_opensAt_ok 29 rfl
theorem dX12_opensAt_59 : decode cX12_opensAt 59 = .ok (.getfield 206, 3) := dk_get kX12_opensAt_ok 30 rfl
theorem dX12_opensAt_62 : decode cX12_opensAt 62 = .ok (.iload_n 2, 1) := dk_get kX12_opensAt_ok 31 rfl
theorem dX12_opensAt_63 : decode cX12_opensAt 63 = .ok (.iadd, 1) := dk_get kX12_opensAt_ok 32 rfl
theorem dX12_opensAt_64 : decode cX12_opensAt 64 = .ok (.putfield 206, 3) := dk_get kX12_opensAt_ok 33 rfl
theorem dX12_opensAt_67 : decode cX12_opensAt 67 = .ok (.aload_n 0, 1) := dk_get kX12_opensAt_ok 34 rfl
theorem dX12_opensAt_68 : decode cX12_opensAt 68 = .ok (.dup, 1) := dk_get kX12_opensAt_ok 35 rfl
theorem dX12_opensAt_69 : decode cX12_opensAt 69 = .ok (.getfield 233, 3) := dk_get kX12_opensAt_ok 36 rfl
theorem dX12_opensAt_72 : decode cX12_opensAt 72 = .ok (.iconst 1, 1) := dk_get kX12_opensAt_ok 37 rfl
theorem dX12_opensAt_73 : decode cX12_opensAt 73 = .ok (.iadd, 1) := dk_get kX12_opensAt_ok 38 rfl
theorem dX12_opensAt_74 : decode cX12_opensAt 74 = .ok (.putfield 233, 3) := dk_get kX12_opensAt_ok 39 rfl
theorem dX12_opensAt_77 : decode cX12_opensAt 77 = .ok (.return_, 1) := dk_get kX12_opensAt_ok 40 rfl
def kX12_closesAt : List (Nat × Instr × Nat) := [(0, .aload_n 0, 1), (1, .iload_n 1, 1), (2, .invokevirtual 236, 3), (5, .aload_n 0, 1), (6, .dup, 1), (7, .getfield 233, 3), (10, .iconst 1, 1), (11, .isub, 1), (12, .putfield 233, 3), (15, .return_, 1)]
set_option maxRecDepth 100000 in
theorem kX12_closesAt_ok : kX12_closesAt.all (fun q => decide (decode cX12_closesAt q.1 = .ok q.2)) = true := by decide +kernel
theorem dX12_closesAt_0 : decode cX12_closesAt 0 = .ok (.aload_n 0, 1) := dk_get kX12_closesAt_ok 0 rfl
theorem dX12_closesAt_1 : decode cX12_closesAt 1 = .ok (.iload_n 1, 1) := dk_get kX12_closesAt_ok 1 rfl
theorem dX12_closesAt_2 : decode cX12_closesAt 2 = .ok (.invokevirtual 236, 3) := dk_get kX12_closesAt_ok 2 rfl
theorem dX12_closesAt_5 : decode cX12_closesAt 5 = .ok (.aload_n 0, 1) := dk_get kX12_closesAt_ok 3 rfl
theorem dX12_closesAt_6 : decode cX12_closesAt 6 = .ok (.dup, 1) := dk_get kX12_closesAt_ok 4 rfl
theorem dX12_closesAt_7 : decode cX12_closesAt 7 = .ok (.getfield 233, 3) := dk_get kX12_closesAt_ok 5 rfl
theorem dX12_closesAt_10 : decode cX12_closesAt 10 = .ok (.iconst 1, 1) := dk_get kX12_closesAt_ok 6 rfl
theorem dX12_closesAt_11 : decode cX12_closesAt 11 = .ok (.isub, 1) := dk_get kX12_closesAt_ok 7 rfl
theorem dX12_closesAt_12 : decode cX12_closesAt 12 = .ok (.putfield 233, 3) := dk_get kX12_closesAt_ok 8 rfl
theorem dX12_closesAt_15 : decode cX12_closesAt 15 = .ok (.return_, 1) := dk_get kX12_closesAt_ok 9 rfl
def kX12_name : List (Nat × Instr × Nat) := [(0, .lload_n 0, 1), (1, .ldc2_w 239, 3), (4, .lcmp, 1), (5, .ifCond .ne 7, 3), (8, .iconst 1, 1), (9, .goto 65, 3), (12, .lload_n 0, 1), (13, .ldc2_w 241, 3), (16, .lcmp, 1), (17, .ifCond .ne 7, 3), (20, .iconst 2, 1), (21, .goto 53, 3), (24, .lload_n 0, 1), (25, .ldc2_w 243, 3), (28, .lcmp, 1), (29, .ifCond .ne 7, 3), (32, .iconst 3, 1), (33, .goto 41, 3), (36, .lload_n 0, 1), (37, .ldc2_w 245, 3), (40, .lcmp, 1), (41, .ifCond .ne 7, 3), (44, .iconst 4, 1), (45, .goto 29, 3), (48, .lload_n 0, 1), (49, .ldc2_w 247, 3), (52, .lcmp, 1), (53, .ifCond .ne 7, 3), (56, .iconst 5, 1), (57, .goto 17, 3), (60, .lload_n 0, 1), (61, .ldc2_w 249, 3), (64, .lcmp, 1), (65, .ifCond .ne 8, 3), (68, .bipush 6, 2), (70, .goto 4, 3), (73, .iconst (-1), 1), (74, .ireturn, 1)]
set_option maxRecDepth 100000 in
theorem kX12_name_ok : kX12_name.all (fun q => decide (decode cX12_name q.1 = .ok q.2)) = true := by decide +kernel
theorem dX12_name_0 : decode cX12_name 0 = .ok (.lload_n 0, 1) := dk_get kX12_name_ok 0 rfl
theorem dX12_name_1 : decode cX12_name 1 = .ok (.ldc2_w 239, 3) := dk_get kX12_name_ok 1 rfl
theorem dX12_name_4 : decode cX12_name 4 = .ok (.lcmp, 1) := dk_get kX12_name_ok 2 rfl
theorem dX12_name_5 : decode cX12_name 5 = .ok (.ifCond .ne 7, 3) := dk_get kX12_name_ok 3 rfl
theorem dX12_name_8 : decode cX12_name 8 = .ok (.iconst 1, 1) := dk_get kX12_name_ok 4 rfl
theorem dX12_name_9 : decode cX12_name 9 = .ok (.goto 65, 3) := dk_get kX12_name_ok 5 rfl
theorem dX12_name_12 : decode cX12_name 12 = .ok (.lload_n 0, 1) := dk_get kX12_name_ok 6 rfl
theorem dX12_name_13 : decode cX12_name 13 = .ok (.ldc2_w 241, 3) := dk_get kX12_name_ok 7 rfl
theorem dX12_name_16 : decode cX12_name 16 = .ok (.lcmp, 1) := dk_get kX12_name_ok 8 rfl
theorem dX12_name_17 : decode cX12_name 17 = .ok (.ifCond .ne 7, 3) := dk_get kX12_name_ok 9 rfl
theorem dX12_name_20 : decode cX12_name 20 = .ok (.iconst 2, 1) := dk_get kX12_name_ok 10 rfl
theorem dX12_name_21 : decode cX12_name 21 = .ok (.goto 53, 3) := dk_get kX12_name_ok 11 rfl
theorem dX12_name_24 : decode cX12_name 24 = .ok (.lload_n 0, 1) := dk_get kX12_name_ok 12 rfl
theorem dX12_name_25 : decode cX12_name 25 = .ok (.ldc2_w 243, 3) := dk_get kX12_name_ok 13 rfl
theorem dX12_name_28 : decode cX12_name 28 = .ok (.lcmp, 1) := dk_get kX12_name_ok 14 rfl
theorem dX12_name_29 : decode cX12_name 29 = .ok (.ifCond .ne 7, 3) := dk_get kX12_name_ok 15 rfl
theorem dX12_name_32 : decode cX12_name 32 = .ok (.iconst 3, 1) := dk_get kX12_name_ok 16 rfl
theorem dX12_name_33 : decode cX12_name 33 = .ok (.goto 41, 3) := dk_get kX12_name_ok 17 rfl
theorem dX12_name_36 : decode cX12_name 36 = .ok (.lload_n 0, 1) := dk_get kX12_name_ok 18 rfl
theorem dX12_name_37 : decode cX12_name 37 = .ok (.ldc2_w 245, 3) := dk_get kX12_name_ok 19 rfl
theorem dX12_name_40 : decode cX12_name 40 = .ok (.lcmp, 1) := dk_get kX12_name_ok 20 rfl
theorem dX12_name_41 : decode cX12_name 41 = .ok (.ifCond .ne 7, 3) := dk_get kX12_name_ok 21 rfl
theorem dX12_name_44 : decode cX12_name 44 = .ok (.iconst 4, 1) := dk_get kX12_name_ok 22 rfl
theorem dX12_name_45 : decode cX12_name 45 = .ok (.goto 29, 3) := dk_get kX12_name_ok 23 rfl
theorem dX12_name_48 : decode cX12_name 48 = .ok (.lload_n 0, 1) := dk_get kX12_name_ok 24 rfl
theorem dX12_name_49 : decode cX12_name 49 = .ok (.ldc2_w 247, 3) := dk_get kX12_name_ok 25 rfl
theorem dX12_name_52 : decode cX12_name 52 = .ok (.lcmp, 1) := dk_get kX12_name_ok 26 rfl
theorem dX12_name_53 : decode cX12_name 53 = .ok (.ifCond .ne 7, 3) := dk_get kX12_name_ok 27 rfl
theorem dX12_name_56 : decode cX12_name 56 = .ok (.iconst 5, 1) := dk_get kX12_name_ok 28 rfl
theorem dX12_name_57 : decode cX12_name 57 = .ok (.goto 17, 3) := dk_get kX12_name_ok 29 rfl
theorem dX12_name_60 : decode cX12_name 60 = .ok (.lload_n 0, 1) := dk_get kX12_name_ok 30 rfl
theorem dX12_name_61 : decode cX12_name 61 = .ok (.ldc2_w 249, 3) := dk_get kX12_name_ok 31 rfl
theorem dX12_name_64 : decode cX12_name 64 = .ok (.lcmp, 1) := dk_get kX12_name_ok 32 rfl
theorem dX12_name_65 : decode cX12_name 65 = .ok (.ifCond .ne 8, 3) := dk_get kX12_name_ok 33 rfl
theorem dX12_name_68 : decode cX12_name 68 = .ok (.bipush 6, 2) := dk_get kX12_name_ok 34 rfl
theorem dX12_name_70 : decode cX12_name 70 = .ok (.goto 4, 3) := dk_get kX12_name_ok 35 rfl
theorem dX12_name_73 : decode cX12_name 73 = .ok (.iconst (-1), 1) := dk_get kX12_name_ok 36 rfl
theorem dX12_name_74 : decode cX12_name 74 = .ok (.ireturn, 1) := dk_get kX12_name_ok 37 rfl
def kX12_unit : List (Nat × Instr × Nat) := [(0, .aload_n 0, 1), (1, .invokevirtual 226, 3), (4, .ifCond .ne 4, 3), (7, .return_, 1), (8, .aload_n 0, 1), (9, .invokevirtual 212, 3), (12, .istore_n 1, 1), (13, .iload_n 1, 1), (14, .invokestatic 219, 3), (17, .ifCond .eq 13, 3), (20, .aload_n 0, 1), (21, .iconst 0, 1), (22, .aload_n 0, 1), (23, .invokevirtual 251, 3), (26, .invokevirtual 254, 3), (29, .return_, 1), (30, .iload_n 1, 1), (31, .bipush 40, 2), (33, .if_icmp .ne 21, 3), (36, .aload_n 0, 1), (37, .bipush 40, 2), (39, .iconst 1, 1), (40, .invokevirtual 257, 3), (43, .aload_n 0, 1), (44, .invokevirtual 260, 3), (47, .aload_n 0, 1), (48, .bipush 41, 2), (50, .invokevirtual 263, 3), (53, .return_, 1), (54, .aload_n 0, 1), (55, .invokevirtual 266, 3), (58, .lstore_n 2, 1), (59, .lload_n 2, 1), (60, .ldc2_w 270, 3), (63, .lcmp, 1), (64, .ifCond .eq 11, 3), (67, .lload_n 2, 1), (68, .ldc2_w 272, 3), (71, .lcmp, 1), (72, .ifCond .ne 57, 3), (75, .aload_n 0, 1), (76, .invokevirtual 274, 3), (79, .aload_n 0, 1), (80, .bipush 40, 2), (82, .iconst 1, 1), (83, .invokevirtual 257, 3), (86, .aload_n 0, 1), (87, .invokevirtual 260, 3), (90, .aload_n 0, 1), (91, .bipush 44, 2), (93, .invokevirtual 236, 3), (96, .aload_n 0, 1), (97, .invokevirtual 260, 3), (100, .aload_n 0, 1), (101, .bipush 41, 2), (103, .invokevirtual 263, 3), (106, .aload_n 0, 1), (107, .lload_n 2, 1), (108, .ldc2_w 270, 3), (111, .lcmp, 1), (112, .ifCond .ne 8, 3), (115, .bipush 11, 2), (117, .goto 5, 3), (120, .bipush 12, 2), (122, .iconst 0, 1), (123, .invokevirtual 254, 3), (126, .goto 36, 3), (129, .lload_n 2, 1), (130, .invokestatic 277, 3), (133, .iconst (-1), 1), (134, .if_icmp .ne 15, 3), (137, .aload_n 0, 1), (138, .iconst 1, 1), (139, .aload_n 0, 1), (140, .getfield 206, 3), (143, .invokevirtual 222, 3), (146, .goto 16, 3), (149, .aload_n 0, 1), (150, .invokevirtual 274, 3), (153, .aload_n 0, 1), (154, .lload_n 2, 1), (155, .invokestatic 277, 3), (158, .iconst 0, 1), (159, .invokevirtual 254, 3), (162, .return_, 1)]
set_option maxRecDepth 100000 in
theorem kX12_unit_ok : kX12_unit.all (fun q => decide (decode cX12_unit q.1 = .ok q.2)) = true := by decide +kernel
theorem dX12_unit_0 : decode cX12_unit 0 = .ok (.aload_n 0, 1) := dk_get kX12_unit_ok 0 rfl
theorem dX12_unit_1 : decode cX12_unit 1 = .ok (.invokevirtual 226, 3) := dk_get kX12_unit_ok 1 rfl
theorem dX12_unit_4 : decode cX12_unit 4 = .ok (.ifCond .ne 4, 3) := dk_get kX12_unit_ok 2 rfl
theorem dX12_unit_7 : decode cX12_unit 7 = .ok (.return_, 1) := dk_get kX12_unit_ok 3 rfl
theorem dX12_unit_8 : decode cX12_unit 8 = .ok (.aload_n 0, 1) := dk_get kX12_unit_ok 4 rfl
theorem dX12_unit_9 : decode cX12_unit 9 = .ok (.invokevirtual 212, 3) := dk_get kX12_unit_ok 5 rfl
theorem dX12_unit_12 : decode cX12_unit 12 = .ok (.istore_n 1, 1) := dk_get kX12_unit_ok 6 rfl
theorem dX12_unit_13 : decode cX12_unit 13 = .ok (.iload_n 1, 1) := dk_get kX12_unit_ok 7 rfl
theorem dX12_unit_14 : decode cX12_unit 14 = .ok (.invokestatic 219, 3) := dk_get kX12_unit_ok 8 rfl
theorem dX12_unit_17 : decode cX12_unit 17 = .ok (.ifCond .eq 13, 3) := dk_get kX12_unit_ok 9 rfl
theorem dX12_unit_20 : decode cX12_unit 20 = .ok (.aload_n 0, 1) := dk_get kX12_unit_ok 10 rfl
theorem dX12_unit_21 : decode cX12_unit 21 = .ok (.iconst 0, 1) := dk_get kX12_unit_ok 11 rfl
theorem dX12_unit_22 : decode cX12_unit 22 = .ok (.aload_n 0, 1) := dk_get kX12_unit_ok 12 rfl
theorem dX12_unit_23 : decode cX12_unit 23 = .ok (.invokevirtual 251, 3) := dk_get kX12_unit_ok 13 rfl
theorem dX12_unit_26 : decode cX12_unit 26 = .ok (.invokevirtual 254, 3) := dk_get kX12_unit_ok 14 rfl
theorem dX12_unit_29 : decode cX12_unit 29 = .ok (.return_, 1) := dk_get kX12_unit_ok 15 rfl
theorem dX12_unit_30 : decode cX12_unit 30 = .ok (.iload_n 1, 1) := dk_get kX12_unit_ok 16 rfl
theorem dX12_unit_31 : decode cX12_unit 31 = .ok (.bipush 40, 2) := dk_get kX12_unit_ok 17 rfl
theorem dX12_unit_33 : decode cX12_unit 33 = .ok (.if_icmp .ne 21, 3) := dk_get kX12_unit_ok 18 rfl
theorem dX12_unit_36 : decode cX12_unit 36 = .ok (.aload_n 0, 1) := dk_get kX12_unit_ok 19 rfl
theorem dX12_unit_37 : decode cX12_unit 37 = .ok (.bipush 40, 2) := dk_get kX12_unit_ok 20 rfl
theorem dX12_unit_39 : decode cX12_unit 39 = .ok (.iconst 1, 1) := dk_get kX12_unit_ok 21 rfl
theorem dX12_unit_40 : decode cX12_unit 40 = .ok (.invokevirtual 257, 3) := dk_get kX12_unit_ok 22 rfl
theorem dX12_unit_43 : decode cX12_unit 43 = .ok (.aload_n 0, 1) := dk_get kX12_unit_ok 23 rfl
theorem dX12_unit_44 : decode cX12_unit 44 = .ok (.invokevirtual 260, 3) := dk_get kX12_unit_ok 24 rfl
theorem dX12_unit_47 : decode cX12_unit 47 = .ok (.aload_n 0, 1) := dk_get kX12_unit_ok 25 rfl
theorem dX12_unit_48 : decode cX12_unit 48 = .ok (.bipush 41, 2) := dk_get kX12_unit_ok 26 rfl
theorem dX12_unit_50 : decode cX12_unit 50 = .ok (.invokevirtual 263, 3) := dk_get kX12_unit_ok 27 rfl
theorem dX12_unit_53 : decode cX12_unit 53 = .ok (.return_, 1) := dk_get kX12_unit_ok 28 rfl
theorem dX12_unit_54 : decode cX12_unit 54 = .ok (.aload_n 0, 1) := dk_get kX12_unit_ok 29 rfl
theorem dX12_unit_55 : decode cX12_unit 55 = .ok (.invokevirtual 266, 3) := dk_get kX12_unit_ok 30 rfl
theorem dX12_unit_58 : decode cX12_unit 58 = .ok (.lstore_n 2, 1) := dk_get kX12_unit_ok 31 rfl
theorem dX12_unit_59 : decode cX12_unit 59 = .ok (.lload_n 2, 1) := dk_get kX12_unit_ok 32 rfl
theorem dX12_unit_60 : decode cX12_unit 60 = .ok (.ldc2_w 270, 3) := dk_get kX12_unit_ok 33 rfl
theorem dX12_unit_63 : decode cX12_unit 63 = .ok (.lcmp, 1) := dk_get kX12_unit_ok 34 rfl
theorem dX12_unit_64 : decode cX12_unit 64 = .ok (.ifCond .eq 11, 3) := dk_get kX12_unit_ok 35 rfl
theorem dX12_unit_67 : decode cX12_unit 67 = .ok (.lload_n 2, 1) := dk_get kX12_unit_ok 36 rfl
theorem dX12_unit_68 : decode cX12_unit 68 = .ok (.ldc2_w 272, 3) := dk_get kX12_unit_ok 37 rfl
theorem dX12_unit_71 : decode cX12_unit 71 = .ok (.lcmp, 1) := dk_get kX12_unit_ok 38 rfl
theorem dX12_unit_72 : decode cX12_unit 72 = .ok (.ifCond .ne 57, 3) := dk_get kX12_unit_ok 39 rfl
theorem dX12_unit_75 : decode cX12_unit 75 = .ok (.aload_n 0, 1) := dk_get kX12_unit_ok 40 rfl
theorem dX12_unit_76 : decode cX12_unit 76 = .ok (.invokevirtual 274, 3) := dk_get kX12_unit_ok 41 rfl
theorem dX12_unit_79 : decode cX12_unit 79 = .ok (.aload_n 0, 1) := dk_get kX12_unit_ok 42 rfl
theorem dX12_unit_80 : decode cX12_unit 80 = .ok (.bipush 40, 2) := dk_get kX12_unit_ok 43 rfl
theorem dX12_unit_82 : decode cX12_unit 82 = .ok (.iconst 1, 1) := dk_get kX12_unit_ok 44 rfl
theorem dX12_unit_83 : decode cX12_unit 83 = .ok (.invokevirtual 257, 3) := dk_get kX12_unit_ok 45 rfl
theorem dX12_unit_86 : decode cX12_unit 86 = .ok (.aload_n 0, 1) := dk_get kX12_unit_ok 46 rfl
theorem dX12_unit_87 : decode cX12_unit 87 = .ok (.invokevirtual 260, 3) := dk_get kX12_unit_ok 47 rfl
theorem dX12_unit_90 : decode cX12_unit 90 = .ok (.aload_n 0, 1) := dk_get kX12_unit_ok 48 rfl
theorem dX12_unit_91 : decode cX12_unit 91 = .ok (.bipush 44, 2) := dk_get kX12_unit_ok 49 rfl
theorem dX12_unit_93 : decode cX12_unit 93 = .ok (.invokevirtual 236, 3) := dk_get kX12_unit_ok 50 rfl
theorem dX12_unit_96 : decode cX12_unit 96 = .ok (.aload_n 0, 1) := dk_get kX12_unit_ok 51 rfl
theorem dX12_unit_97 : decode cX12_unit 97 = .ok (.invokevirtual 260, 3) := dk_get kX12_unit_ok 52 rfl
theorem dX12_unit_100 : decode cX12_unit 100 = .ok (.aload_n 0, 1) := dk_get kX12_unit_ok 53 rfl
theorem dX12_unit_101 : decode cX12_unit 101 = .ok (.bipush 41, 2) := dk_get kX12_unit_ok 54 rfl
theorem dX12_unit_103 : decode cX12_unit 103 = .ok (.invokevirtual 263, 3) := dk_get kX12_unit_ok 55 rfl
theorem dX12_unit_106 : decode cX12_unit 106 = .ok (.aload_n 0, 1) := dk_get kX12_unit_ok 56 rfl
theorem dX12_unit_107 : decode cX12_unit 107 = .ok (.lload_n 2, 1) := dk_get kX12_unit_ok 57 rfl
theorem dX12_unit_108 : decode cX12_unit 108 = .ok (.ldc2_w 270, 3) := dk_get kX12_unit_ok 58 rfl
theorem dX12_unit_111 : decode cX12_unit 111 = .ok (.lcmp, 1) := dk_get kX12_unit_ok 59 rfl
theorem dX12_unit_112 : decode cX12_unit 112 = .ok (.ifCond .ne 8, 3) := dk_get kX12_unit_ok 60 rfl
theorem dX12_unit_115 : decode cX12_unit 115 = .ok (.bipush 11, 2) := dk_get kX12_unit_ok 61 rfl
theorem dX12_unit_117 : decode cX12_unit 117 = .ok (.goto 5, 3) := dk_get kX12_unit_ok 62 rfl
theorem dX12_unit_120 : decode cX12_unit 120 = .ok (.bipush 12, 2) := dk_get kX12_unit_ok 63 rfl
theorem dX12_unit_122 : decode cX12_unit 122 = .ok (.iconst 0, 1) := dk_get kX12_unit_ok 64 rfl
theorem dX12_unit_123 : decode cX12_unit 123 = .ok (.invokevirtual 254, 3) := dk_get kX12_unit_ok 65 rfl
theorem dX12_unit_126 : decode cX12_unit 126 = .ok (.goto 36, 3) := dk_get kX12_unit_ok 66 rfl
theorem dX12_unit_129 : decode cX12_unit 129 = .ok (.lload_n 2, 1) := dk_get kX12_unit_ok 67 rfl
theorem dX12_unit_130 : decode cX12_unit 130 = .ok (.invokestatic 277, 3) := dk_get kX12_unit_ok 68 rfl
theorem dX12_unit_133 : decode cX12_unit 133 = .ok (.iconst (-1), 1) := dk_get kX12_unit_ok 69 rfl
theorem dX12_unit_134 : decode cX12_unit 134 = .ok (.if_icmp .ne 15, 3) := dk_get kX12_unit_ok 70 rfl
theorem dX12_unit_137 : decode cX12_unit 137 = .ok (.aload_n 0, 1) := dk_get kX12_unit_ok 71 rfl
theorem dX12_unit_138 : decode cX12_unit 138 = .ok (.iconst 1, 1) := dk_get kX12_unit_ok 72 rfl
theorem dX12_unit_139 : decode cX12_unit 139 = .ok (.aload_n 0, 1) := dk_get kX12_unit_ok 73 rfl
theorem dX12_unit_140 : decode cX12_unit 140 = .ok (.getfield 206, 3) := dk_get kX12_unit_ok 74 rfl
theorem dX12_unit_143 : decode cX12_unit 143 = .ok (.invokevirtual 222, 3) := dk_get kX12_unit_ok 75 rfl
theorem dX12_unit_146 : decode cX12_unit 146 = .ok (.goto 16, 3) := dk_get kX12_unit_ok 76 rfl
theorem dX12_unit_149 : decode cX12_unit 149 = .ok (.aload_n 0, 1) := dk_get kX12_unit_ok 77 rfl
theorem dX12_unit_150 : decode cX12_unit 150 = .ok (.invokevirtual 274, 3) := dk_get kX12_unit_ok 78 rfl
theorem dX12_unit_153 : decode cX12_unit 153 = .ok (.aload_n 0, 1) := dk_get kX12_unit_ok 79 rfl
theorem dX12_unit_154 : decode cX12_unit 154 = .ok (.lload_n 2, 1) := dk_get kX12_unit_ok 80 rfl
theorem dX12_unit_155 : decode cX12_unit 155 = .ok (.invokestatic 277, 3) := dk_get kX12_unit_ok 81 rfl
theorem dX12_unit_158 : decode cX12_unit 158 = .ok (.iconst 0, 1) := dk_get kX12_unit_ok 82 rfl
theorem dX12_unit_159 : decode cX12_unit 159 = .ok (.invokevirtual 254, 3) := dk_get kX12_unit_ok 83 rfl
theorem dX12_unit_162 : decode cX12_unit 162 = .ok (.return_, 1) := dk_get kX12_unit_ok 84 rfl
def kX12_product : List (Nat × Instr × Nat) := [(0, .aload_n 0, 1), (1, .invokevirtual 280, 3), (4, .aload_n 0, 1), (5, .invokevirtual 226, 3), (8, .ifCond .eq 61, 3), (11, .aload_n 0, 1), (12, .invokevirtual 212, 3), (15, .bipush 42, 2), (17, .if_icmp .eq 12, 3), (20, .aload_n 0, 1), (21, .invokevirtual 212, 3), (24, .bipush 47, 2), (26, .if_icmp .ne 43, 3), (29, .aload_n 0, 1), (30, .invokevirtual 212, 3), (33, .istore_n 1, 1), (34, .aload_n 0, 1), (35, .dup, 1), (36, .getfield 206, 3), (39, .iconst 1, 1), (40, .iadd, 1), (41, .putfield 206, 3), (44, .aload_n 0, 1), (45, .invokevirtual 280, 3), (48, .aload_n 0, 1), (49, .iload_n 1, 1), (50, .bipush 42, 2), (52, .if_icmp .ne 8, 3), (55, .bipush 9, 2), (57, .goto 5, 3), (60, .bipush 10, 2), (62, .iconst 0, 1), (63, .invokevirtual 254, 3), (66, .goto (-62), 3), (69, .return_, 1)]
set_option maxRecDepth 100000 in
theorem kX12_product_ok : kX12_product.all (fun q => decide (decode cX12_product q.1 = .ok q.2)) = true := by decide +kernel
theorem dX12_product_0 : decode cX12_product 0 = .ok (.aload_n 0, 1) := dk_get kX12_product_ok 0 rfl
theorem dX12_product_1 : decode cX12_product 1 = .ok (.invokevirtual 280, 3) := dk_get kX12_product_ok 1 rfl
theorem dX12_product_4 : decode cX12_product 4 = .ok (.aload_n 0, 1) := dk_get kX12_product_ok 2 rfl
theorem dX12_product_5 : decode cX12_product 5 = .ok (.invokevirtual 226, 3) := dk_get kX12_product_ok 3 rfl
theorem dX12_product_8 : decode cX12_product 8 = .ok (.ifCond .eq 61, 3) := dk_get kX12_product_ok 4 rfl
theorem dX12_product_11 : decode cX12_product 11 = .ok (.aload_n 0, 1) := dk_get kX12_product_ok 5 rfl
theorem dX12_product_12 : decode cX12_product 12 = .ok (.invokevirtual 212, 3) := dk_get kX12_product_ok 6 rfl
theorem dX12_product_15 : decode cX12_product 15 = .ok (.bipush 42, 2) := dk_get kX12_product_ok 7 rfl
theorem dX12_product_17 : decode cX12_product 17 = .ok (.if_icmp .eq 12, 3) := dk_get kX12_product_ok 8 rfl
theorem dX12_product_20 : decode cX12_product 20 = .ok (.aload_n 0, 1) := dk_get kX12_product_ok 9 rfl
theorem dX12_product_21 : decode cX12_product 21 = .ok (.invokevirtual 212, 3) := dk_get kX12_product_ok 10 rfl
theorem dX12_product_24 : decode cX12_product 24 = .ok (.bipush 47, 2) := dk_get kX12_product_ok 11 rfl
theorem dX12_product_26 : decode cX12_product 26 = .ok (.if_icmp .ne 43, 3) := dk_get kX12_product_ok 12 rfl
theorem dX12_product_29 : decode cX12_product 29 = .ok (.aload_n 0, 1) := dk_get kX12_product_ok 13 rfl
theorem dX12_product_30 : decode cX12_product 30 = .ok (.invokevirtual 212, 3) := dk_get kX12_product_ok 14 rfl
theorem dX12_product_33 : decode cX12_product 33 = .ok (.istore_n 1, 1) := dk_get kX12_product_ok 15 rfl
theorem dX12_product_34 : decode cX12_product 34 = .ok (.aload_n 0, 1) := dk_get kX12_product_ok 16 rfl
theorem dX12_product_35 : decode cX12_product 35 = .ok (.dup, 1) := dk_get kX12_product_ok 17 rfl
theorem dX12_product_36 : decode cX12_product 36 = .ok (.getfield 206, 3) := dk_get kX12_product_ok 18 rfl
theorem dX12_product_39 : decode cX12_product 39 = .ok (.iconst 1, 1) := dk_get kX12_product_ok 19 rfl
theorem dX12_product_40 : decode cX12_product 40 = .ok (.iadd, 1) := dk_get kX12_product_ok 20 rfl
theorem dX12_product_41 : decode cX12_product 41 = .ok (.putfield 206, 3) := dk_get kX12_product_ok 21 rfl
theorem dX12_product_44 : decode cX12_product 44 = .ok (.aload_n 0, 1) := dk_get kX12_product_ok 22 rfl
theorem dX12_product_45 : decode cX12_product 45 = .ok (.invokevirtual 280, 3) := dk_get kX12_product_ok 23 rfl
theorem dX12_product_48 : decode cX12_product 48 = .ok (.aload_n 0, 1) := dk_get kX12_product_ok 24 rfl
theorem dX12_product_49 : decode cX12_product 49 = .ok (.iload_n 1, 1) := dk_get kX12_product_ok 25 rfl
theorem dX12_product_50 : decode cX12_product 50 = .ok (.bipush 42, 2) := dk_get kX12_product_ok 26 rfl
theorem dX12_product_52 : decode cX12_product 52 = .ok (.if_icmp .ne 8, 3) := dk_get kX12_product_ok 27 rfl
theorem dX12_product_55 : decode cX12_product 55 = .ok (.bipush 9, 2) := dk_get kX12_product_ok 28 rfl
theorem dX12_product_57 : decode cX12_product 57 = .ok (.goto 5, 3) := dk_get kX12_product_ok 29 rfl
theorem dX12_product_60 : decode cX12_product 60 = .ok (.bipush 10, 2) := dk_get kX12_product_ok 30 rfl
theorem dX12_product_62 : decode cX12_product 62 = .ok (.iconst 0, 1) := dk_get kX12_product_ok 31 rfl
theorem dX12_product_63 : decode cX12_product 63 = .ok (.invokevirtual 254, 3) := dk_get kX12_product_ok 32 rfl
theorem dX12_product_66 : decode cX12_product 66 = .ok (.goto (-62), 3) := dk_get kX12_product_ok 33 rfl
theorem dX12_product_69 : decode cX12_product 69 = .ok (.return_, 1) := dk_get kX12_product_ok 34 rfl
def kX12_sum : List (Nat × Instr × Nat) := [(0, .aload_n 0, 1), (1, .invokevirtual 283, 3), (4, .aload_n 0, 1), (5, .invokevirtual 226, 3), (8, .ifCond .eq 61, 3), (11, .aload_n 0, 1), (12, .invokevirtual 212, 3), (15, .bipush 43, 2), (17, .if_icmp .eq 12, 3), (20, .aload_n 0, 1), (21, .invokevirtual 212, 3), (24, .bipush 45, 2), (26, .if_icmp .ne 43, 3), (29, .aload_n 0, 1), (30, .invokevirtual 212, 3), (33, .istore_n 1, 1), (34, .aload_n 0, 1), (35, .dup, 1), (36, .getfield 206, 3), (39, .iconst 1, 1), (40, .iadd, 1), (41, .putfield 206, 3), (44, .aload_n 0, 1), (45, .invokevirtual 283, 3), (48, .aload_n 0, 1), (49, .iload_n 1, 1), (50, .bipush 43, 2), (52, .if_icmp .ne 8, 3), (55, .bipush 7, 2), (57, .goto 5, 3), (60, .bipush 8, 2), (62, .iconst 0, 1), (63, .invokevirtual 254, 3), (66, .goto (-62), 3), (69, .return_, 1)]
set_option maxRecDepth 100000 in
theorem kX12_sum_ok : kX12_sum.all (fun q => decide (decode cX12_sum q.1 = .ok q.2)) = true := by decide +kernel
theorem dX12_sum_0 : decode cX12_sum 0 = .ok (.aload_n 0, 1) := dk_get kX12_sum_ok 0 rfl
theorem dX12_sum_1 : decode cX12_sum 1 = .ok (.invokevirtual 283, 3) := dk_get kX12_sum_ok 1 rfl
theorem dX12_sum_4 : decode cX12_sum 4 = .ok (.aload_n 0, 1) := dk_get kX12_sum_ok 2 rfl
theorem dX12_sum_5 : decode cX12_sum 5 = .ok (.invokevirtual 226, 3) := dk_get kX12_sum_ok 3 rfl
theorem dX12_sum_8 : decode cX12_sum 8 = .ok (.ifCond .eq 61, 3) := dk_get kX12_sum_ok 4 rfl
theorem dX12_sum_11 : decode cX12_sum 11 = .ok (.aload_n 0, 1) := dk_get kX12_sum_ok 5 rfl
theorem dX12_sum_12 : decode cX12_sum 12 = .ok (.invokevirtual 212, 3) := dk_get kX12_sum_ok 6 rfl
theorem dX12_sum_15 : decode cX12_sum 15 = .ok (.bipush 43, 2) := dk_get kX12_sum_ok 7 rfl
theorem dX12_sum_17 : decode cX12_sum 17 = .ok (.if_icmp .eq 12, 3) := dk_get kX12_sum_ok 8 rfl
theorem dX12_sum_20 : decode cX12_sum 20 = .ok (.aload_n 0, 1) := dk_get kX12_sum_ok 9 rfl
theorem dX12_sum_21 : decode cX12_sum 21 = .ok (.invokevirtual 212, 3) := dk_get kX12_sum_ok 10 rfl
theorem dX12_sum_24 : decode cX12_sum 24 = .ok (.bipush 45, 2) := dk_get kX12_sum_ok 11 rfl
theorem dX12_sum_26 : decode cX12_sum 26 = .ok (.if_icmp .ne 43, 3) := dk_get kX12_sum_ok 12 rfl
theorem dX12_sum_29 : decode cX12_sum 29 = .ok (.aload_n 0, 1) := dk_get kX12_sum_ok 13 rfl
theorem dX12_sum_30 : decode cX12_sum 30 = .ok (.invokevirtual 212, 3) := dk_get kX12_sum_ok 14 rfl
theorem dX12_sum_33 : decode cX12_sum 33 = .ok (.istore_n 1, 1) := dk_get kX12_sum_ok 15 rfl
theorem dX12_sum_34 : decode cX12_sum 34 = .ok (.aload_n 0, 1) := dk_get kX12_sum_ok 16 rfl
theorem dX12_sum_35 : decode cX12_sum 35 = .ok (.dup, 1) := dk_get kX12_sum_ok 17 rfl
theorem dX12_sum_36 : decode cX12_sum 36 = .ok (.getfield 206, 3) := dk_get kX12_sum_ok 18 rfl
theorem dX12_sum_39 : decode cX12_sum 39 = .ok (.iconst 1, 1) := dk_get kX12_sum_ok 19 rfl
theorem dX12_sum_40 : decode cX12_sum 40 = .ok (.iadd, 1) := dk_get kX12_sum_ok 20 rfl
theorem dX12_sum_41 : decode cX12_sum 41 = .ok (.putfield 206, 3) := dk_get kX12_sum_ok 21 rfl
theorem dX12_sum_44 : decode cX12_sum 44 = .ok (.aload_n 0, 1) := dk_get kX12_sum_ok 22 rfl
theorem dX12_sum_45 : decode cX12_sum 45 = .ok (.invokevirtual 283, 3) := dk_get kX12_sum_ok 23 rfl
theorem dX12_sum_48 : decode cX12_sum 48 = .ok (.aload_n 0, 1) := dk_get kX12_sum_ok 24 rfl
theorem dX12_sum_49 : decode cX12_sum 49 = .ok (.iload_n 1, 1) := dk_get kX12_sum_ok 25 rfl
theorem dX12_sum_50 : decode cX12_sum 50 = .ok (.bipush 43, 2) := dk_get kX12_sum_ok 26 rfl
theorem dX12_sum_52 : decode cX12_sum 52 = .ok (.if_icmp .ne 8, 3) := dk_get kX12_sum_ok 27 rfl
theorem dX12_sum_55 : decode cX12_sum 55 = .ok (.bipush 7, 2) := dk_get kX12_sum_ok 28 rfl
theorem dX12_sum_57 : decode cX12_sum 57 = .ok (.goto 5, 3) := dk_get kX12_sum_ok 29 rfl
theorem dX12_sum_60 : decode cX12_sum 60 = .ok (.bipush 8, 2) := dk_get kX12_sum_ok 30 rfl
theorem dX12_sum_62 : decode cX12_sum 62 = .ok (.iconst 0, 1) := dk_get kX12_sum_ok 31 rfl
theorem dX12_sum_63 : decode cX12_sum 63 = .ok (.invokevirtual 254, 3) := dk_get kX12_sum_ok 32 rfl
theorem dX12_sum_66 : decode cX12_sum 66 = .ok (.goto (-62), 3) := dk_get kX12_sum_ok 33 rfl
theorem dX12_sum_69 : decode cX12_sum 69 = .ok (.return_, 1) := dk_get kX12_sum_ok 34 rfl
def kX12_anyOf : List (Nat × Instr × Nat) := [(0, .aload_n 0, 1), (1, .invokevirtual 286, 3), (4, .aload_n 0, 1), (5, .invokevirtual 226, 3), (8, .ifCond .eq 32, 3), (11, .aload_n 0, 1), (12, .invokevirtual 266, 3), (15, .ldc2_w 289, 3), (18, .lcmp, 1), (19, .ifCond .ne 21, 3), (22, .aload_n 0, 1), (23, .invokevirtual 274, 3), (26, .aload_n 0, 1), (27, .invokevirtual 286, 3), (30, .aload_n 0, 1), (31, .bipush 16, 2), (33, .iconst 0, 1), (34, .invokevirtual 254, 3), (37, .goto (-33), 3), (40, .return_, 1)]
set_option maxRecDepth 100000 in
theorem kX12_anyOf_ok : kX12_anyOf.all (fun q => decide (decode cX12_anyOf q.1 = .ok q.2)) = true := by decide +kernel
theorem dX12_anyOf_0 : decode cX12_anyOf 0 = .ok (.aload_n 0, 1) := dk_get kX12_anyOf_ok 0 rfl
theorem dX12_anyOf_1 : decode cX12_anyOf 1 = .ok (.invokevirtual 286, 3) := dk_get kX12_anyOf_ok 1 rfl
theorem dX12_anyOf_4 : decode cX12_anyOf 4 = .ok (.aload_n 0, 1) := dk_get kX12_anyOf_ok 2 rfl
theorem dX12_anyOf_5 : decode cX12_anyOf 5 = .ok (.invokevirtual 226, 3) := dk_get kX12_anyOf_ok 3 rfl
theorem dX12_anyOf_8 : decode cX12_anyOf 8 = .ok (.ifCond .eq 32, 3) := dk_get kX12_anyOf_ok 4 rfl
theorem dX12_anyOf_11 : decode cX12_anyOf 11 = .ok (.aload_n 0, 1) := dk_get kX12_anyOf_ok 5 rfl
theorem dX12_anyOf_12 : decode cX12_anyOf 12 = .ok (.invokevirtual 266, 3) := dk_get kX12_anyOf_ok 6 rfl
theorem dX12_anyOf_15 : decode cX12_anyOf 15 = .ok (.ldc2_w 289, 3) := dk_get kX12_anyOf_ok 7 rfl
theorem dX12_anyOf_18 : decode cX12_anyOf 18 = .ok (.lcmp, 1) := dk_get kX12_anyOf_ok 8 rfl
theorem dX12_anyOf_19 : decode cX12_anyOf 19 = .ok (.ifCond .ne 21, 3) := dk_get kX12_anyOf_ok 9 rfl
theorem dX12_anyOf_22 : decode cX12_anyOf 22 = .ok (.aload_n 0, 1) := dk_get kX12_anyOf_ok 10 rfl
theorem dX12_anyOf_23 : decode cX12_anyOf 23 = .ok (.invokevirtual 274, 3) := dk_get kX12_anyOf_ok 11 rfl
theorem dX12_anyOf_26 : decode cX12_anyOf 26 = .ok (.aload_n 0, 1) := dk_get kX12_anyOf_ok 12 rfl
theorem dX12_anyOf_27 : decode cX12_anyOf 27 = .ok (.invokevirtual 286, 3) := dk_get kX12_anyOf_ok 13 rfl
theorem dX12_anyOf_30 : decode cX12_anyOf 30 = .ok (.aload_n 0, 1) := dk_get kX12_anyOf_ok 14 rfl
theorem dX12_anyOf_31 : decode cX12_anyOf 31 = .ok (.bipush 16, 2) := dk_get kX12_anyOf_ok 15 rfl
theorem dX12_anyOf_33 : decode cX12_anyOf 33 = .ok (.iconst 0, 1) := dk_get kX12_anyOf_ok 16 rfl
theorem dX12_anyOf_34 : decode cX12_anyOf 34 = .ok (.invokevirtual 254, 3) := dk_get kX12_anyOf_ok 17 rfl
theorem dX12_anyOf_37 : decode cX12_anyOf 37 = .ok (.goto (-33), 3) := dk_get kX12_anyOf_ok 18 rfl
theorem dX12_anyOf_40 : decode cX12_anyOf 40 = .ok (.return_, 1) := dk_get kX12_anyOf_ok 19 rfl
def kX12_allOf : List (Nat × Instr × Nat) := [(0, .aload_n 0, 1), (1, .invokevirtual 291, 3), (4, .aload_n 0, 1), (5, .invokevirtual 226, 3), (8, .ifCond .eq 32, 3), (11, .aload_n 0, 1), (12, .invokevirtual 266, 3), (15, .ldc2_w 294, 3), (18, .lcmp, 1), (19, .ifCond .ne 21, 3), (22, .aload_n 0, 1), (23, .invokevirtual 274, 3), (26, .aload_n 0, 1), (27, .invokevirtual 291, 3), (30, .aload_n 0, 1), (31, .bipush 17, 2), (33, .iconst 0, 1), (34, .invokevirtual 254, 3), (37, .goto (-33), 3), (40, .return_, 1)]
set_option maxRecDepth 100000 in
theorem kX12_allOf_ok : kX12_allOf.all (fun q => decide (decode cX12_allOf q.1 = .ok q.2)) = true := by decide +kernel
theorem dX12_allOf_0 : decode cX12_allOf 0 = .ok (.aload_n 0, 1) := dk_get kX12_allOf_ok 0 rfl
theorem dX12_allOf_1 : decode cX12_allOf 1 = .ok (.invokevirtual 291, 3) := dk_get kX12_allOf_ok 1 rfl
theorem dX12_allOf_4 : decode cX12_allOf 4 = .ok (.aload_n 0, 1) := dk_get kX12_allOf_ok 2 rfl
theorem dX12_allOf_5 : decode cX12_allOf 5 = .ok (.invokevirtual 226, 3) := dk_get kX12_allOf_ok 3 rfl
theorem dX12_allOf_8 : decode cX12_allOf 8 = .ok (.ifCond .eq 32, 3) := dk_get kX12_allOf_ok 4 rfl
theorem dX12_allOf_11 : decode cX12_allOf 11 = .ok (.aload_n 0, 1) := dk_get kX12_allOf_ok 5 rfl
theorem dX12_allOf_12 : decode cX12_allOf 12 = .ok (.invokevirtual 266, 3) := dk_get kX12_allOf_ok 6 rfl
theorem dX12_allOf_15 : decode cX12_allOf 15 = .ok (.ldc2_w 294, 3) := dk_get kX12_allOf_ok 7 rfl
theorem dX12_allOf_18 : decode cX12_allOf 18 = .ok (.lcmp, 1) := dk_get kX12_allOf_ok 8 rfl
theorem dX12_allOf_19 : decode cX12_allOf 19 = .ok (.ifCond .ne 21, 3) := dk_get kX12_allOf_ok 9 rfl
theorem dX12_allOf_22 : decode cX12_allOf 22 = .ok (.aload_n 0, 1) := dk_get kX12_allOf_ok 10 rfl
theorem dX12_allOf_23 : decode cX12_allOf 23 = .ok (.invokevirtual 274, 3) := dk_get kX12_allOf_ok 11 rfl
theorem dX12_allOf_26 : decode cX12_allOf 26 = .ok (.aload_n 0, 1) := dk_get kX12_allOf_ok 12 rfl
theorem dX12_allOf_27 : decode cX12_allOf 27 = .ok (.invokevirtual 291, 3) := dk_get kX12_allOf_ok 13 rfl
theorem dX12_allOf_30 : decode cX12_allOf 30 = .ok (.aload_n 0, 1) := dk_get kX12_allOf_ok 14 rfl
theorem dX12_allOf_31 : decode cX12_allOf 31 = .ok (.bipush 17, 2) := dk_get kX12_allOf_ok 15 rfl
theorem dX12_allOf_33 : decode cX12_allOf 33 = .ok (.iconst 0, 1) := dk_get kX12_allOf_ok 16 rfl
theorem dX12_allOf_34 : decode cX12_allOf 34 = .ok (.invokevirtual 254, 3) := dk_get kX12_allOf_ok 17 rfl
theorem dX12_allOf_37 : decode cX12_allOf 37 = .ok (.goto (-33), 3) := dk_get kX12_allOf_ok 18 rfl
theorem dX12_allOf_40 : decode cX12_allOf 40 = .ok (.return_, 1) := dk_get kX12_allOf_ok 19 rfl
def kX12_term : List (Nat × Instr × Nat) := [(0, .aload_n 0, 1), (1, .invokevirtual 226, 3), (4, .ifCond .ne 4, 3), (7, .return_, 1), (8, .aload_n 0, 1), (9, .invokevirtual 212, 3), (12, .bipush 91, 2), (14, .if_icmp .ne 23, 3), (17, .aload_n 0, 1), (18, .bipush 91, 2), (20, .iconst 1, 1), (21, .invokevirtual 257, 3), (24, .aload_n 0, 1), (25, .invokevirtual 296, 3), (28, .aload_n 0, 1), (29, .bipush 93, 2), (31, .invokevirtual 263, 3), (34, .goto 141, 3), (37, .aload_n 0, 1), (38, .invokevirtual 266, 3), (41, .ldc2_w 299, 3), (44, .lcmp, 1), (45, .ifCond .ne 33, 3), (48, .aload_n 0, 1), (49, .iconst 0, 1), (50, .iconst 3, 1), (51, .invokevirtual 257, 3), (54, .aload_n 0, 1), (55, .invokevirtual 291, 3), (58, .aload_n 0, 1), (59, .dup, 1), (60, .getfield 233, 3), (63, .iconst 1, 1), (64, .isub, 1), (65, .putfield 233, 3), (68, .aload_n 0, 1), (69, .bipush 18, 2), (71, .iconst 0, 1), (72, .invokevirtual 254, 3), (75, .goto 100, 3), (78, .aload_n 0, 1), (79, .invokevirtual 260, 3), (82, .aload_n 0, 1), (83, .invokevirtual 226, 3), (86, .ifCond .eq 10, 3), (89, .aload_n 0, 1), (90, .invokevirtual 212, 3), (93, .goto 4, 3), (96, .iconst 0, 1), (97, .istore_n 1, 1), (98, .iload_n 1, 1), (99, .bipush 60, 2), (101, .if_icmp .eq 24, 3), (104, .iload_n 1, 1), (105, .bipush 62, 2), (107, .if_icmp .eq 18, 3), (110, .iload_n 1, 1), (111, .bipush 61, 2), (113, .if_icmp .eq 12, 3), (116, .aload_n 0, 1), (117, .iconst 1, 1), (118, .aload_n 0, 1), (119, .getfield 206, 3), (122, .invokevirtual 222, 3), (125, .aload_n 0, 1), (126, .invokevirtual 226, 3), (129, .ifCond .eq 13, 3), (132, .aload_n 0, 1), (133, .dup, 1), (134, .getfield 206, 3), (137, .iconst 1, 1), (138, .iadd, 1), (139, .putfield 206, 3), (142, .aload_n 0, 1), (143, .invokevirtual 260, 3), (146, .aload_n 0, 1), (147, .iload_n 1, 1), (148, .bipush 60, 2), (150, .if_icmp .ne 8, 3), (153, .bipush 13, 2), (155, .goto 16, 3), (158, .iload_n 1, 1), (159, .bipush 62, 2), (161, .if_icmp .ne 8, 3), (164, .bipush 14, 2), (166, .goto 5, 3), (169, .bipush 15, 2), (171, .iconst 0, 1), (172, .invokevirtual 254, 3), (175, .return_, 1)]
set_option maxRecDepth 100000 in
theorem kX12_term_ok : kX12_term.all (fun q => decide (decode cX12_term q.1 = .ok q.2)) = true := by decide +kernel
theorem dX12_term_0 : decode cX12_term 0 = .ok (.aload_n 0, 1) := dk_get kX12_term_ok 0 rfl
theorem dX12_term_1 : decode cX12_term 1 = .ok (.invokevirtual 226, 3) := dk_get kX12_term_ok 1 rfl
theorem dX12_term_4 : decode cX12_term 4 = .ok (.ifCond .ne 4, 3) := dk_get kX12_term_ok 2 rfl
theorem dX12_term_7 : decode cX12_term 7 = .ok (.return_, 1) := dk_get kX12_term_ok 3 rfl
theorem dX12_term_8 : decode cX12_term 8 = .ok (.aload_n 0, 1) := dk_get kX12_term_ok 4 rfl
theorem dX12_term_9 : decode cX12_term 9 = .ok (.invokevirtual 212, 3) := dk_get kX12_term_ok 5 rfl
theorem dX12_term_12 : decode cX12_term 12 = .ok (.bipush 91, 2) := dk_get kX12_term_ok 6 rfl
theorem dX12_term_14 : decode cX12_term 14 = .ok (.if_icmp .ne 23, 3) := dk_get kX12_term_ok 7 rfl
theorem dX12_term_17 : decode cX12_term 17 = .ok (.aload_n 0, 1) := dk_get kX12_term_ok 8 rfl
theorem dX12_term_18 : decode cX12_term 18 = .ok (.bipush 91, 2) := dk_get kX12_term_ok 9 rfl
theorem dX12_term_20 : decode cX12_term 20 = .ok (.iconst 1, 1) := dk_get kX12_term_ok 10 rfl
theorem dX12_term_21 : decode cX12_term 21 = .ok (.invokevirtual 257, 3) := dk_get kX12_term_ok 11 rfl
theorem dX12_term_24 : decode cX12_term 24 = .ok (.aload_n 0, 1) := dk_get kX12_term_ok 12 rfl
theorem dX12_term_25 : decode cX12_term 25 = .ok (.invokevirtual 296, 3) := dk_get kX12_term_ok 13 rfl
theorem dX12_term_28 : decode cX12_term 28 = .ok (.aload_n 0, 1) := dk_get kX12_term_ok 14 rfl
theorem dX12_term_29 : decode cX12_term 29 = .ok (.bipush 93, 2) := dk_get kX12_term_ok 15 rfl
theorem dX12_term_31 : decode cX12_term 31 = .ok (.invokevirtual 263, 3) := dk_get kX12_term_ok 16 rfl
theorem dX12_term_34 : decode cX12_term 34 = .ok (.goto 141, 3) := dk_get kX12_term_ok 17 rfl
theorem dX12_term_37 : decode cX12_term 37 = .ok (.aload_n 0, 1) := dk_get kX12_term_ok 18 rfl
theorem dX12_term_38 : decode cX12_term 38 = .ok (.invokevirtual 266, 3) := dk_get kX12_term_ok 19 rfl
theorem dX12_term_41 : decode cX12_term 41 = .ok (.ldc2_w 299, 3) := dk_get kX12_term_ok 20 rfl
theorem dX12_term_44 : decode cX12_term 44 = .ok (.lcmp, 1) := dk_get kX12_term_ok 21 rfl
theorem dX12_term_45 : decode cX12_term 45 = .ok (.ifCond .ne 33, 3) := dk_get kX12_term_ok 22 rfl
theorem dX12_term_48 : decode cX12_term 48 = .ok (.aload_n 0, 1) := dk_get kX12_term_ok 23 rfl
theorem dX12_term_49 : decode cX12_term 49 = .ok (.iconst 0, 1) := dk_get kX12_term_ok 24 rfl
theorem dX12_term_50 : decode cX12_term 50 = .ok (.iconst 3, 1) := dk_get kX12_term_ok 25 rfl
theorem dX12_term_51 : decode cX12_term 51 = .ok (.invokevirtual 257, 3) := dk_get kX12_term_ok 26 rfl
theorem dX12_term_54 : decode cX12_term 54 = .ok (.aload_n 0, 1) := dk_get kX12_term_ok 27 rfl
theorem dX12_term_55 : decode cX12_term 55 = .ok (.invokevirtual 291, 3) := dk_get kX12_term_ok 28 rfl
theorem dX12_term_58 : decode cX12_term 58 = .ok (.aload_n 0, 1) := dk_get kX12_term_ok 29 rfl
theorem dX12_term_59 : decode cX12_term 59 = .ok (.dup, 1) := dk_get kX12_term_ok 30 rfl
theorem dX12_term_60 : decode cX12_term 60 = .ok (.getfield 233, 3) := dk_get kX12_term_ok 31 rfl
theorem dX12_term_63 : decode cX12_term 63 = .ok (.iconst 1, 1) := dk_get kX12_term_ok 32 rfl
theorem dX12_term_64 : decode cX12_term 64 = .ok (.isub, 1) := dk_get kX12_term_ok 33 rfl
theorem dX12_term_65 : decode cX12_term 65 = .ok (.putfield 233, 3) := dk_get kX12_term_ok 34 rfl
theorem dX12_term_68 : decode cX12_term 68 = .ok (.aload_n 0, 1) := dk_get kX12_term_ok 35 rfl
theorem dX12_term_69 : decode cX12_term 69 = .ok (.bipush 18, 2) := dk_get kX12_term_ok 36 rfl
theorem dX12_term_71 : decode cX12_term 71 = .ok (.iconst 0, 1) := dk_get kX12_term_ok 37 rfl
theorem dX12_term_72 : decode cX12_term 72 = .ok (.invokevirtual 254, 3) := dk_get kX12_term_ok 38 rfl
theorem dX12_term_75 : decode cX12_term 75 = .ok (.goto 100, 3) := dk_get kX12_term_ok 39 rfl
theorem dX12_term_78 : decode cX12_term 78 = .ok (.aload_n 0, 1) := dk_get kX12_term_ok 40 rfl
theorem dX12_term_79 : decode cX12_term 79 = .ok (.invokevirtual 260, 3) := dk_get kX12_term_ok 41 rfl
theorem dX12_term_82 : decode cX12_term 82 = .ok (.aload_n 0, 1) := dk_get kX12_term_ok 42 rfl
theorem dX12_term_83 : decode cX12_term 83 = .ok (.invokevirtual 226, 3) := dk_get kX12_term_ok 43 rfl
theorem dX12_term_86 : decode cX12_term 86 = .ok (.ifCond .eq 10, 3) := dk_get kX12_term_ok 44 rfl
theorem dX12_term_89 : decode cX12_term 89 = .ok (.aload_n 0, 1) := dk_get kX12_term_ok 45 rfl
theorem dX12_term_90 : decode cX12_term 90 = .ok (.invokevirtual 212, 3) := dk_get kX12_term_ok 46 rfl
theorem dX12_term_93 : decode cX12_term 93 = .ok (.goto 4, 3) := dk_get kX12_term_ok 47 rfl
theorem dX12_term_96 : decode cX12_term 96 = .ok (.iconst 0, 1) := dk_get kX12_term_ok 48 rfl
theorem dX12_term_97 : decode cX12_term 97 = .ok (.istore_n 1, 1) := dk_get kX12_term_ok 49 rfl
theorem dX12_term_98 : decode cX12_term 98 = .ok (.iload_n 1, 1) := dk_get kX12_term_ok 50 rfl
theorem dX12_term_99 : decode cX12_term 99 = .ok (.bipush 60, 2) := dk_get kX12_term_ok 51 rfl
theorem dX12_term_101 : decode cX12_term 101 = .ok (.if_icmp .eq 24, 3) := dk_get kX12_term_ok 52 rfl
theorem dX12_term_104 : decode cX12_term 104 = .ok (.iload_n 1, 1) := dk_get kX12_term_ok 53 rfl
theorem dX12_term_105 : decode cX12_term 105 = .ok (.bipush 62, 2) := dk_get kX12_term_ok 54 rfl
theorem dX12_term_107 : decode cX12_term 107 = .ok (.if_icmp .eq 18, 3) := dk_get kX12_term_ok 55 rfl
theorem dX12_term_110 : decode cX12_term 110 = .ok (.iload_n 1, 1) := dk_get kX12_term_ok 56 rfl
theorem dX12_term_111 : decode cX12_term 111 = .ok (.bipush 61, 2) := dk_get kX12_term_ok 57 rfl
theorem dX12_term_113 : decode cX12_term 113 = .ok (.if_icmp .eq 12, 3) := dk_get kX12_term_ok 58 rfl
theorem dX12_term_116 : decode cX12_term 116 = .ok (.aload_n 0, 1) := dk_get kX12_term_ok 59 rfl
theorem dX12_term_117 : decode cX12_term 117 = .ok (.iconst 1, 1) := dk_get kX12_term_ok 60 rfl
theorem dX12_term_118 : decode cX12_term 118 = .ok (.aload_n 0, 1) := dk_get kX12_term_ok 61 rfl
theorem dX12_term_119 : decode cX12_term 119 = .ok (.getfield 206, 3) := dk_get kX12_term_ok 62 rfl
theorem dX12_term_122 : decode cX12_term 122 = .ok (.invokevirtual 222, 3) := dk_get kX12_term_ok 63 rfl
theorem dX12_term_125 : decode cX12_term 125 = .ok (.aload_n 0, 1) := dk_get kX12_term_ok 64 rfl
theorem dX12_term_126 : decode cX12_term 126 = .ok (.invokevirtual 226, 3) := dk_get kX12_term_ok 65 rfl
theorem dX12_term_129 : decode cX12_term 129 = .ok (.ifCond .eq 13, 3) := dk_get kX12_term_ok 66 rfl
theorem dX12_term_132 : decode cX12_term 132 = .ok (.aload_n 0, 1) := dk_get kX12_term_ok 67 rfl
theorem dX12_term_133 : decode cX12_term 133 = .ok (.dup, 1) := dk_get kX12_term_ok 68 rfl
theorem dX12_term_134 : decode cX12_term 134 = .ok (.getfield 206, 3) := dk_get kX12_term_ok 69 rfl
theorem dX12_term_137 : decode cX12_term 137 = .ok (.iconst 1, 1) := dk_get kX12_term_ok 70 rfl
theorem dX12_term_138 : decode cX12_term 138 = .ok (.iadd, 1) := dk_get kX12_term_ok 71 rfl
theorem dX12_term_139 : decode cX12_term 139 = .ok (.putfield 206, 3) := dk_get kX12_term_ok 72 rfl
theorem dX12_term_142 : decode cX12_term 142 = .ok (.aload_n 0, 1) := dk_get kX12_term_ok 73 rfl
theorem dX12_term_143 : decode cX12_term 143 = .ok (.invokevirtual 260, 3) := dk_get kX12_term_ok 74 rfl
theorem dX12_term_146 : decode cX12_term 146 = .ok (.aload_n 0, 1) := dk_get kX12_term_ok 75 rfl
theorem dX12_term_147 : decode cX12_term 147 = .ok (.iload_n 1, 1) := dk_get kX12_term_ok 76 rfl
theorem dX12_term_148 : decode cX12_term 148 = .ok (.bipush 60, 2) := dk_get kX12_term_ok 77 rfl
theorem dX12_term_150 : decode cX12_term 150 = .ok (.if_icmp .ne 8, 3) := dk_get kX12_term_ok 78 rfl
theorem dX12_term_153 : decode cX12_term 153 = .ok (.bipush 13, 2) := dk_get kX12_term_ok 79 rfl
theorem dX12_term_155 : decode cX12_term 155 = .ok (.goto 16, 3) := dk_get kX12_term_ok 80 rfl
theorem dX12_term_158 : decode cX12_term 158 = .ok (.iload_n 1, 1) := dk_get kX12_term_ok 81 rfl
theorem dX12_term_159 : decode cX12_term 159 = .ok (.bipush 62, 2) := dk_get kX12_term_ok 82 rfl
theorem dX12_term_161 : decode cX12_term 161 = .ok (.if_icmp .ne 8, 3) := dk_get kX12_term_ok 83 rfl
theorem dX12_term_164 : decode cX12_term 164 = .ok (.bipush 14, 2) := dk_get kX12_term_ok 84 rfl
theorem dX12_term_166 : decode cX12_term 166 = .ok (.goto 5, 3) := dk_get kX12_term_ok 85 rfl
theorem dX12_term_169 : decode cX12_term 169 = .ok (.bipush 15, 2) := dk_get kX12_term_ok 86 rfl
theorem dX12_term_171 : decode cX12_term 171 = .ok (.iconst 0, 1) := dk_get kX12_term_ok 87 rfl
theorem dX12_term_172 : decode cX12_term 172 = .ok (.invokevirtual 254, 3) := dk_get kX12_term_ok 88 rfl
theorem dX12_term_175 : decode cX12_term 175 = .ok (.return_, 1) := dk_get kX12_term_ok 89 rfl
def kX12_readClause_0 : List (Nat × Instr × Nat) := [(0, .aload_n 0, 1), (1, .invokevirtual 266, 3), (4, .lstore_n 1, 1), (5, .lload_n 1, 1), (6, .ldc2_w 301, 3), (9, .lcmp, 1), (10, .ifCond .ne 7, 3), (13, .iconst 0, 1), (14, .goto 40, 3), (17, .lload_n 1, 1), (18, .ldc2_w 303, 3), (21, .lcmp, 1), (22, .ifCond .ne 7, 3), (25, .iconst 1, 1), (26, .goto 28, 3), (29, .lload_n 1, 1), (30, .ldc2_w 305, 3), (33, .lcmp, 1), (34, .ifCond .ne 7, 3), (37, .iconst 2, 1), (38, .goto 16, 3), (41, .lload_n 1, 1), (42, .ldc2_w 307, 3), (45, .lcmp, 1), (46, .ifCond .ne 7, 3), (49, .iconst 3, 1), (50, .goto 4, 3), (53, .iconst (-1), 1), (54, .istore_n 3, 1), (55, .iload_n 3, 1), (56, .iconst (-1), 1), (57, .if_icmp .ne 15, 3), (60, .aload_n 0, 1), (61, .iconst 1, 1), (62, .aload_n 0, 1), (63, .getfield 206, 3), (66, .invokevirtual 222, 3), (69, .goto 21, 3), (72, .aload_n 0, 1), (73, .getfield 309, 3), (76, .bipush 16, 2), (78, .if_icmp .ne 12, 3), (81, .aload_n 0, 1), (82, .iconst 3, 1), (83, .aload_n 0, 1), (84, .getfield 206, 3), (87, .invokevirtual 222, 3), (90, .aload_n 0, 1), (91, .invokevirtual 226, 3), (94, .ifCond .ne 4, 3), (97, .return_, 1), (98, .aload_n 0, 1), (99, .invokevirtual 274, 3), (102, .aload_n 0, 1), (103, .getfield 309, 3), (106, .istore 4, 2), (108, .aload_n 0, 1), (109, .dup, 1), (110, .getfield 309, 3), (113, .iconst 1, 1), (114, .iadd, 1), (115, .putfield 309, 3), (118, .aload_n 0, 1), (119, .getfield 59, 3), (122, .iload 4, 2), (124, .iload_n 3, 1), (125, .iastore, 1), (126, .aload_n 0, 1), (127, .getfield 62, 3), (130, .iload 4, 2), (132, .aload_n 0, 1), (133, .getfield 230, 3), (136, .iastore, 1), (137, .iload_n 3, 1), (138, .ifCond .eq 8, 3), (141, .iload_n 3, 1), (142, .iconst 1, 1), (143, .if_icmp .ne 7, 3), (146, .aload_n 0, 1), (147, .invokevirtual 260, 3), (150, .aload_n 0, 1), (151, .getfield 65, 3), (154, .iload 4, 2), (156, .aload_n 0, 1), (157, .getfield 230, 3), (160, .iastore, 1), (161, .aload_n 0, 1), (162, .invokevirtual 226, 3), (165, .ifCond .eq 18, 3), (168, .aload_n 0, 1), (169, .invokevirtual 266, 3), (172, .ldc2_w 312, 3), (175, .lcmp, 1), (176, .ifCond .ne 7, 3), (179, .iconst 1, 1), (180, .goto 4, 3), (183, .iconst 0, 1), (184, .istore 5, 2), (186, .aload_n 0, 1), (187, .invokevirtual 226, 3), (190, .ifCond .eq 22, 3), (193, .iload 5, 2), (195, .ifCond .ne 17, 3), (198, .iload_n 3, 1), (199, .iconst 2, 1), (200, .if_icmp .lt 12, 3), (203, .aload_n 0, 1), (204, .iconst 1, 1), (205, .aload_n 0, 1), (206, .getfield 206, 3), (209, .invokevirtual 222, 3), (212, .aload_n 0, 1), (213, .invokevirtual 226, 3), (216, .ifCond .eq 16, 3), (219, .iload 5, 2), (221, .ifCond .eq 11, 3), (224, .aload_n 0, 1), (225, .invokevirtual 274, 3), (228, .aload_n 0, 1), (229, .invokevirtual 296, 3)]
set_option maxRecDepth 100000 in
theorem kX12_readClause_0_ok : kX12_readClause_0.all (fun q => decide (decode cX12_readClause q.1 = .ok q.2)) = true := by decide +kernel
theorem dX12_readClause_0 : decode cX12_readClause 0 = .ok (.aload_n 0, 1) := dk_get kX12_readClause_0_ok 0 rfl
theorem dX12_readClause_1 : decode cX12_readClause 1 = .ok (.invokevirtual 266, 3) := dk_get kX12_readClause_0_ok 1 rfl
theorem dX12_readClause_4 : decode cX12_readClause 4 = .ok (.lstore_n 1, 1) := dk_get kX12_readClause_0_ok 2 rfl
theorem dX12_readClause_5 : decode cX12_readClause 5 = .ok (.lload_n 1, 1) := dk_get kX12_readClause_0_ok 3 rfl
theorem dX12_readClause_6 : decode cX12_readClause 6 = .ok (.ldc2_w 301, 3) := dk_get kX12_readClause_0_ok 4 rfl
theorem dX12_readClause_9 : decode cX12_readClause 9 = .ok (.lcmp, 1) := dk_get kX12_readClause_0_ok 5 rfl
theorem dX12_readClause_10 : decode cX12_readClause 10 = .ok (.ifCond .ne 7, 3) := dk_get kX12_readClause_0_ok 6 rfl
theorem dX12_readClause_13 : decode cX12_readClause 13 = .ok (.iconst 0, 1) := dk_get kX12_readClause_0_ok 7 rfl
theorem dX12_readClause_14 : decode cX12_readClause 14 = .ok (.goto 40, 3) := dk_get kX12_readClause_0_ok 8 rfl
theorem dX12_readClause_17 : decode cX12_readClause 17 = .ok (.lload_n 1, 1) := dk_get kX12_readClause_0_ok 9 rfl
theorem dX12_readClause_18 : decode cX12_readClause 18 = .ok (.ldc2_w 303, 3) := dk_get kX12_readClause_0_ok 10 rfl
theorem dX12_readClause_21 : decode cX12_readClause 21 = .ok (.lcmp, 1) := dk_get kX12_readClause_0_ok 11 rfl
theorem dX12_readClause_22 : decode cX12_readClause 22 = .ok (.ifCond .ne 7, 3) := dk_get kX12_readClause_0_ok 12 rfl
theorem dX12_readClause_25 : decode cX12_readClause 25 = .ok (.iconst 1, 1) := dk_get kX12_readClause_0_ok 13 rfl
theorem dX12_readClause_26 : decode cX12_readClause 26 = .ok (.goto 28, 3) := dk_get kX12_readClause_0_ok 14 rfl
theorem dX12_readClause_29 : decode cX12_readClause 29 = .ok (.lload_n 1, 1) := dk_get kX12_readClause_0_ok 15 rfl
theorem dX12_readClause_30 : decode cX12_readClause 30 = .ok (.ldc2_w 305, 3) := dk_get kX12_readClause_0_ok 16 rfl
theorem dX12_readClause_33 : decode cX12_readClause 33 = .ok (.lcmp, 1) := dk_get kX12_readClause_0_ok 17 rfl
theorem dX12_readClause_34 : decode cX12_readClause 34 = .ok (.ifCond .ne 7, 3) := dk_get kX12_readClause_0_ok 18 rfl
theorem dX12_readClause_37 : decode cX12_readClause 37 = .ok (.iconst 2, 1) := dk_get kX12_readClause_0_ok 19 rfl
theorem dX12_readClause_38 : decode cX12_readClause 38 = .ok (.goto 16, 3) := dk_get kX12_readClause_0_ok 20 rfl
theorem dX12_readClause_41 : decode cX12_readClause 41 = .ok (.lload_n 1, 1) := dk_get kX12_readClause_0_ok 21 rfl
theorem dX12_readClause_42 : decode cX12_readClause 42 = .ok (.ldc2_w 307, 3) := dk_get kX12_readClause_0_ok 22 rfl
theorem dX12_readClause_45 : decode cX12_readClause 45 = .ok (.lcmp, 1) := dk_get kX12_readClause_0_ok 23 rfl
theorem dX12_readClause_46 : decode cX12_readClause 46 = .ok (.ifCond .ne 7, 3) := dk_get kX12_readClause_0_ok 24 rfl
theorem dX12_readClause_49 : decode cX12_readClause 49 = .ok (.iconst 3, 1) := dk_get kX12_readClause_0_ok 25 rfl
theorem dX12_readClause_50 : decode cX12_readClause 50 = .ok (.goto 4, 3) := dk_get kX12_readClause_0_ok 26 rfl
theorem dX12_readClause_53 : decode cX12_readClause 53 = .ok (.iconst (-1), 1) := dk_get kX12_readClause_0_ok 27 rfl
theorem dX12_readClause_54 : decode cX12_readClause 54 = .ok (.istore_n 3, 1) := dk_get kX12_readClause_0_ok 28 rfl
theorem dX12_readClause_55 : decode cX12_readClause 55 = .ok (.iload_n 3, 1) := dk_get kX12_readClause_0_ok 29 rfl
theorem dX12_readClause_56 : decode cX12_readClause 56 = .ok (.iconst (-1), 1) := dk_get kX12_readClause_0_ok 30 rfl
theorem dX12_readClause_57 : decode cX12_readClause 57 = .ok (.if_icmp .ne 15, 3) := dk_get kX12_readClause_0_ok 31 rfl
theorem dX12_readClause_60 : decode cX12_readClause 60 = .ok (.aload_n 0, 1) := dk_get kX12_readClause_0_ok 32 rfl
theorem dX12_readClause_61 : decode cX12_readClause 61 = .ok (.iconst 1, 1) := dk_get kX12_readClause_0_ok 33 rfl
theorem dX12_readClause_62 : decode cX12_readClause 62 = .ok (.aload_n 0, 1) := dk_get kX12_readClause_0_ok 34 rfl
theorem dX12_readClause_63 : decode cX12_readClause 63 = .ok (.getfield 206, 3) := dk_get kX12_readClause_0_ok 35 rfl
theorem dX12_readClause_66 : decode cX12_readClause 66 = .ok (.invokevirtual 222, 3) := dk_get kX12_readClause_0_ok 36 rfl
theorem dX12_readClause_69 : decode cX12_readClause 69 = .ok (.goto 21, 3) := dk_get kX12_readClause_0_ok 37 rfl
theorem dX12_readClause_72 : decode cX12_readClause 72 = .ok (.aload_n 0, 1) := dk_get kX12_readClause_0_ok 38 rfl
theorem dX12_readClause_73 : decode cX12_readClause 73 = .ok (.getfield 309, 3) := dk_get kX12_readClause_0_ok 39 rfl
theorem dX12_readClause_76 : decode cX12_readClause 76 = .ok (.bipush 16, 2) := dk_get kX12_readClause_0_ok 40 rfl
theorem dX12_readClause_78 : decode cX12_readClause 78 = .ok (.if_icmp .ne 12, 3) := dk_get kX12_readClause_0_ok 41 rfl
theorem dX12_readClause_81 : decode cX12_readClause 81 = .ok (.aload_n 0, 1) := dk_get kX12_readClause_0_ok 42 rfl
theorem dX12_readClause_82 : decode cX12_readClause 82 = .ok (.iconst 3, 1) := dk_get kX12_readClause_0_ok 43 rfl
theorem dX12_readClause_83 : decode cX12_readClause 83 = .ok (.aload_n 0, 1) := dk_get kX12_readClause_0_ok 44 rfl
theorem dX12_readClause_84 : decode cX12_readClause 84 = .ok (.getfield 206, 3) := dk_get kX12_readClause_0_ok 45 rfl
theorem dX12_readClause_87 : decode cX12_readClause 87 = .ok (.invokevirtual 222, 3) := dk_get kX12_readClause_0_ok 46 rfl
theorem dX12_readClause_90 : decode cX12_readClause 90 = .ok (.aload_n 0, 1) := dk_get kX12_readClause_0_ok 47 rfl
theorem dX12_readClause_91 : decode cX12_readClause 91 = .ok (.invokevirtual 226, 3) := dk_get kX12_readClause_0_ok 48 rfl
theorem dX12_readClause_94 : decode cX12_readClause 94 = .ok (.ifCond .ne 4, 3) := dk_get kX12_readClause_0_ok 49 rfl
theorem dX12_readClause_97 : decode cX12_readClause 97 = .ok (.return_, 1) := dk_get kX12_readClause_0_ok 50 rfl
theorem dX12_readClause_98 : decode cX12_readClause 98 = .ok (.aload_n 0, 1) := dk_get kX12_readClause_0_ok 51 rfl
theorem dX12_readClause_99 : decode cX12_readClause 99 = .ok (.invokevirtual 274, 3) := dk_get kX12_readClause_0_ok 52 rfl
theorem dX12_readClause_102 : decode cX12_readClause 102 = .ok (.aload_n 0, 1) := dk_get kX12_readClause_0_ok 53 rfl
theorem dX12_readClause_103 : decode cX12_readClause 103 = .ok (.getfield 309, 3) := dk_get kX12_readClause_0_ok 54 rfl
theorem dX12_readClause_106 : decode cX12_readClause 106 = .ok (.istore 4, 2) := dk_get kX12_readClause_0_ok 55 rfl
theorem dX12_readClause_108 : decode cX12_readClause 108 = .ok (.aload_n 0, 1) := dk_get kX12_readClause_0_ok 56 rfl
theorem dX12_readClause_109 : decode cX12_readClause 109 = .ok (.dup, 1) := dk_get kX12_readClause_0_ok 57 rfl
theorem dX12_readClause_110 : decode cX12_readClause 110 = .ok (.getfield 309, 3) := dk_get kX12_readClause_0_ok 58 rfl
theorem dX12_readClause_113 : decode cX12_readClause 113 = .ok (.iconst 1, 1) := dk_get kX12_readClause_0_ok 59 rfl
theorem dX12_readClause_114 : decode cX12_readClause 114 = .ok (.iadd, 1) := dk_get kX12_readClause_0_ok 60 rfl
theorem dX12_readClause_115 : decode cX12_readClause 115 = .ok (.putfield 309, 3) := dk_get kX12_readClause_0_ok 61 rfl
theorem dX12_readClause_118 : decode cX12_readClause 118 = .ok (.aload_n 0, 1) := dk_get kX12_readClause_0_ok 62 rfl
theorem dX12_readClause_119 : decode cX12_readClause 119 = .ok (.getfield 59, 3) := dk_get kX12_readClause_0_ok 63 rfl
theorem dX12_readClause_122 : decode cX12_readClause 122 = .ok (.iload 4, 2) := dk_get kX12_readClause_0_ok 64 rfl
theorem dX12_readClause_124 : decode cX12_readClause 124 = .ok (.iload_n 3, 1) := dk_get kX12_readClause_0_ok 65 rfl
theorem dX12_readClause_125 : decode cX12_readClause 125 = .ok (.iastore, 1) := dk_get kX12_readClause_0_ok 66 rfl
theorem dX12_readClause_126 : decode cX12_readClause 126 = .ok (.aload_n 0, 1) := dk_get kX12_readClause_0_ok 67 rfl
theorem dX12_readClause_127 : decode cX12_readClause 127 = .ok (.getfield 62, 3) := dk_get kX12_readClause_0_ok 68 rfl
theorem dX12_readClause_130 : decode cX12_readClause 130 = .ok (.iload 4, 2) := dk_get kX12_readClause_0_ok 69 rfl
theorem dX12_readClause_132 : decode cX12_readClause 132 = .ok (.aload_n 0, 1) := dk_get kX12_readClause_0_ok 70 rfl
theorem dX12_readClause_133 : decode cX12_readClause 133 = .ok (.getfield 230, 3) := dk_get kX12_readClause_0_ok 71 rfl
theorem dX12_readClause_136 : decode cX12_readClause 136 = .ok (.iastore, 1) := dk_get kX12_readClause_0_ok 72 rfl
theorem dX12_readClause_137 : decode cX12_readClause 137 = .ok (.iload_n 3, 1) := dk_get kX12_readClause_0_ok 73 rfl
theorem dX12_readClause_138 : decode cX12_readClause 138 = .ok (.ifCond .eq 8, 3) := dk_get kX12_readClause_0_ok 74 rfl
theorem dX12_readClause_141 : decode cX12_readClause 141 = .ok (.iload_n 3, 1) := dk_get kX12_readClause_0_ok 75 rfl
theorem dX12_readClause_142 : decode cX12_readClause 142 = .ok (.iconst 1, 1) := dk_get kX12_readClause_0_ok 76 rfl
theorem dX12_readClause_143 : decode cX12_readClause 143 = .ok (.if_icmp .ne 7, 3) := dk_get kX12_readClause_0_ok 77 rfl
theorem dX12_readClause_146 : decode cX12_readClause 146 = .ok (.aload_n 0, 1) := dk_get kX12_readClause_0_ok 78 rfl
theorem dX12_readClause_147 : decode cX12_readClause 147 = .ok (.invokevirtual 260, 3) := dk_get kX12_readClause_0_ok 79 rfl
theorem dX12_readClause_150 : decode cX12_readClause 150 = .ok (.aload_n 0, 1) := dk_get kX12_readClause_0_ok 80 rfl
theorem dX12_readClause_151 : decode cX12_readClause 151 = .ok (.getfield 65, 3) := dk_get kX12_readClause_0_ok 81 rfl
theorem dX12_readClause_154 : decode cX12_readClause 154 = .ok (.iload 4, 2) := dk_get kX12_readClause_0_ok 82 rfl
theorem dX12_readClause_156 : decode cX12_readClause 156 = .ok (.aload_n 0, 1) := dk_get kX12_readClause_0_ok 83 rfl
theorem dX12_readClause_157 : decode cX12_readClause 157 = .ok (.getfield 230, 3) := dk_get kX12_readClause_0_ok 84 rfl
theorem dX12_readClause_160 : decode cX12_readClause 160 = .ok (.iastore, 1) := dk_get kX12_readClause_0_ok 85 rfl
theorem dX12_readClause_161 : decode cX12_readClause 161 = .ok (.aload_n 0, 1) := dk_get kX12_readClause_0_ok 86 rfl
theorem dX12_readClause_162 : decode cX12_readClause 162 = .ok (.invokevirtual 226, 3) := dk_get kX12_readClause_0_ok 87 rfl
theorem dX12_readClause_165 : decode cX12_readClause 165 = .ok (.ifCond .eq 18, 3) := dk_get kX12_readClause_0_ok 88 rfl
theorem dX12_readClause_168 : decode cX12_readClause 168 = .ok (.aload_n 0, 1) := dk_get kX12_readClause_0_ok 89 rfl
theorem dX12_readClause_169 : decode cX12_readClause 169 = .ok (.invokevirtual 266, 3) := dk_get kX12_readClause_0_ok 90 rfl
theorem dX12_readClause_172 : decode cX12_readClause 172 = .ok (.ldc2_w 312, 3) := dk_get kX12_readClause_0_ok 91 rfl
theorem dX12_readClause_175 : decode cX12_readClause 175 = .ok (.lcmp, 1) := dk_get kX12_readClause_0_ok 92 rfl
theorem dX12_readClause_176 : decode cX12_readClause 176 = .ok (.ifCond .ne 7, 3) := dk_get kX12_readClause_0_ok 93 rfl
theorem dX12_readClause_179 : decode cX12_readClause 179 = .ok (.iconst 1, 1) := dk_get kX12_readClause_0_ok 94 rfl
theorem dX12_readClause_180 : decode cX12_readClause 180 = .ok (.goto 4, 3) := dk_get kX12_readClause_0_ok 95 rfl
theorem dX12_readClause_183 : decode cX12_readClause 183 = .ok (.iconst 0, 1) := dk_get kX12_readClause_0_ok 96 rfl
theorem dX12_readClause_184 : decode cX12_readClause 184 = .ok (.istore 5, 2) := dk_get kX12_readClause_0_ok 97 rfl
theorem dX12_readClause_186 : decode cX12_readClause 186 = .ok (.aload_n 0, 1) := dk_get kX12_readClause_0_ok 98 rfl
theorem dX12_readClause_187 : decode cX12_readClause 187 = .ok (.invokevirtual 226, 3) := dk_get kX12_readClause_0_ok 99 rfl
theorem dX12_readClause_190 : decode cX12_readClause 190 = .ok (.ifCond .eq 22, 3) := dk_get kX12_readClause_0_ok 100 rfl
theorem dX12_readClause_193 : decode cX12_readClause 193 = .ok (.iload 5, 2) := dk_get kX12_readClause_0_ok 101 rfl
theorem dX12_readClause_195 : decode cX12_readClause 195 = .ok (.ifCond .ne 17, 3) := dk_get kX12_readClause_0_ok 102 rfl
theorem dX12_readClause_198 : decode cX12_readClause 198 = .ok (.iload_n 3, 1) := dk_get kX12_readClause_0_ok 103 rfl
theorem dX12_readClause_199 : decode cX12_readClause 199 = .ok (.iconst 2, 1) := dk_get kX12_readClause_0_ok 104 rfl
theorem dX12_readClause_200 : decode cX12_readClause 200 = .ok (.if_icmp .lt 12, 3) := dk_get kX12_readClause_0_ok 105 rfl
theorem dX12_readClause_203 : decode cX12_readClause 203 = .ok (.aload_n 0, 1) := dk_get kX12_readClause_0_ok 106 rfl
theorem dX12_readClause_204 : decode cX12_readClause 204 = .ok (.iconst 1, 1) := dk_get kX12_readClause_0_ok 107 rfl
theorem dX12_readClause_205 : decode cX12_readClause 205 = .ok (.aload_n 0, 1) := dk_get kX12_readClause_0_ok 108 rfl
theorem dX12_readClause_206 : decode cX12_readClause 206 = .ok (.getfield 206, 3) := dk_get kX12_readClause_0_ok 109 rfl
theorem dX12_readClause_209 : decode cX12_readClause 209 = .ok (.invokevirtual 222, 3) := dk_get kX12_readClause_0_ok 110 rfl
theorem dX12_readClause_212 : decode cX12_readClause 212 = .ok (.aload_n 0, 1) := dk_get kX12_readClause_0_ok 111 rfl
theorem dX12_readClause_213 : decode cX12_readClause 213 = .ok (.invokevirtual 226, 3) := dk_get kX12_readClause_0_ok 112 rfl
theorem dX12_readClause_216 : decode cX12_readClause 216 = .ok (.ifCond .eq 16, 3) := dk_get kX12_readClause_0_ok 113 rfl
theorem dX12_readClause_219 : decode cX12_readClause 219 = .ok (.iload 5, 2) := dk_get kX12_readClause_0_ok 114 rfl
theorem dX12_readClause_221 : decode cX12_readClause 221 = .ok (.ifCond .eq 11, 3) := dk_get kX12_readClause_0_ok 115 rfl
theorem dX12_readClause_224 : decode cX12_readClause 224 = .ok (.aload_n 0, 1) := dk_get kX12_readClause_0_ok 116 rfl
theorem dX12_readClause_225 : decode cX12_readClause 225 = .ok (.invokevirtual 274, 3) := dk_get kX12_readClause_0_ok 117 rfl
theorem dX12_readClause_228 : decode cX12_readClause 228 = .ok (.aload_n 0, 1) := dk_get kX12_readClause_0_ok 118 rfl
theorem dX12_readClause_229 : decode cX12_readClause 229 = .ok (.invokevirtual 296, 3) := dk_get kX12_readClause_0_ok 119 rfl
def kX12_readClause_1 : List (Nat × Instr × Nat) := [(232, .aload_n 0, 1), (233, .getfield 68, 3), (236, .iload 4, 2), (238, .aload_n 0, 1), (239, .getfield 230, 3), (242, .iastore, 1), (243, .aload_n 0, 1), (244, .bipush 59, 2), (246, .invokevirtual 236, 3), (249, .return_, 1)]
set_option maxRecDepth 100000 in
theorem kX12_readClause_1_ok : kX12_readClause_1.all (fun q => decide (decode cX12_readClause q.1 = .ok q.2)) = true := by decide +kernel
theorem dX12_readClause_232 : decode cX12_readClause 232 = .ok (.aload_n 0, 1) := dk_get kX12_readClause_1_ok 0 rfl
theorem dX12_readClause_233 : decode cX12_readClause 233 = .ok (.getfield 68, 3) := dk_get kX12_readClause_1_ok 1 rfl
theorem dX12_readClause_236 : decode cX12_readClause 236 = .ok (.iload 4, 2) := dk_get kX12_readClause_1_ok 2 rfl
theorem dX12_readClause_238 : decode cX12_readClause 238 = .ok (.aload_n 0, 1) := dk_get kX12_readClause_1_ok 3 rfl
theorem dX12_readClause_239 : decode cX12_readClause 239 = .ok (.getfield 230, 3) := dk_get kX12_readClause_1_ok 4 rfl
theorem dX12_readClause_242 : decode cX12_readClause 242 = .ok (.iastore, 1) := dk_get kX12_readClause_1_ok 5 rfl
theorem dX12_readClause_243 : decode cX12_readClause 243 = .ok (.aload_n 0, 1) := dk_get kX12_readClause_1_ok 6 rfl
theorem dX12_readClause_244 : decode cX12_readClause 244 = .ok (.bipush 59, 2) := dk_get kX12_readClause_1_ok 7 rfl
theorem dX12_readClause_246 : decode cX12_readClause 246 = .ok (.invokevirtual 236, 3) := dk_get kX12_readClause_1_ok 8 rfl
theorem dX12_readClause_249 : decode cX12_readClause 249 = .ok (.return_, 1) := dk_get kX12_readClause_1_ok 9 rfl
def kX12_isMore : List (Nat × Instr × Nat) := [(0, .aload_n 0, 1), (1, .invokevirtual 212, 3), (4, .pop, 1), (5, .aload_n 0, 1), (6, .getfield 206, 3), (9, .aload_n 0, 1), (10, .getfield 209, 3), (13, .if_icmp .ge 7, 3), (16, .iconst 1, 1), (17, .goto 4, 3), (20, .iconst 0, 1), (21, .ireturn, 1)]
set_option maxRecDepth 100000 in
theorem kX12_isMore_ok : kX12_isMore.all (fun q => decide (decode cX12_isMore q.1 = .ok q.2)) = true := by decide +kernel
theorem dX12_isMore_0 : decode cX12_isMore 0 = .ok (.aload_n 0, 1) := dk_get kX12_isMore_ok 0 rfl
theorem dX12_isMore_1 : decode cX12_isMore 1 = .ok (.invokevirtual 212, 3) := dk_get kX12_isMore_ok 1 rfl
theorem dX12_isMore_4 : decode cX12_isMore 4 = .ok (.pop, 1) := dk_get kX12_isMore_ok 2 rfl
theorem dX12_isMore_5 : decode cX12_isMore 5 = .ok (.aload_n 0, 1) := dk_get kX12_isMore_ok 3 rfl
theorem dX12_isMore_6 : decode cX12_isMore 6 = .ok (.getfield 206, 3) := dk_get kX12_isMore_ok 4 rfl
theorem dX12_isMore_9 : decode cX12_isMore 9 = .ok (.aload_n 0, 1) := dk_get kX12_isMore_ok 5 rfl
theorem dX12_isMore_10 : decode cX12_isMore 10 = .ok (.getfield 209, 3) := dk_get kX12_isMore_ok 6 rfl
theorem dX12_isMore_13 : decode cX12_isMore 13 = .ok (.if_icmp .ge 7, 3) := dk_get kX12_isMore_ok 7 rfl
theorem dX12_isMore_16 : decode cX12_isMore 16 = .ok (.iconst 1, 1) := dk_get kX12_isMore_ok 8 rfl
theorem dX12_isMore_17 : decode cX12_isMore 17 = .ok (.goto 4, 3) := dk_get kX12_isMore_ok 9 rfl
theorem dX12_isMore_20 : decode cX12_isMore 20 = .ok (.iconst 0, 1) := dk_get kX12_isMore_ok 10 rfl
theorem dX12_isMore_21 : decode cX12_isMore 21 = .ok (.ireturn, 1) := dk_get kX12_isMore_ok 11 rfl
def kX12_rules_0 : List (Nat × Instr × Nat) := [(0, .aload_n 0, 1), (1, .iconst 0, 1), (2, .putfield 1, 3), (5, .aload_n 0, 1), (6, .iload_n 1, 1), (7, .ifCond .lt 15, 3), (10, .iload_n 1, 1), (11, .aload_n 0, 1), (12, .getfield 197, 3), (15, .if_icmp .gt 7, 3), (18, .iconst 1, 1), (19, .goto 4, 3), (22, .iconst 0, 1), (23, .iconst 1, 1), (24, .invokevirtual 173, 3), (27, .ifCond .ne 5, 3), (30, .iconst 0, 1), (31, .ireturn, 1), (32, .aload_n 0, 1), (33, .iconst 0, 1), (34, .putfield 197, 3), (37, .aload_n 0, 1), (38, .iconst (-1), 1), (39, .putfield 35, 3), (42, .aload_n 0, 1), (43, .iload_n 1, 1), (44, .putfield 209, 3), (47, .aload_n 0, 1), (48, .iconst 0, 1), (49, .putfield 206, 3), (52, .aload_n 0, 1), (53, .iconst (-1), 1), (54, .putfield 200, 3), (57, .aload_n 0, 1), (58, .iconst 0, 1), (59, .putfield 233, 3), (62, .aload_n 0, 1), (63, .iconst 0, 1), (64, .putfield 230, 3), (67, .aload_n 0, 1), (68, .iconst 0, 1), (69, .putfield 309, 3), (72, .aload_n 0, 1), (73, .invokevirtual 226, 3), (76, .ifCond .eq 17, 3), (79, .aload_n 0, 1), (80, .invokevirtual 314, 3), (83, .ifCond .eq 10, 3), (86, .aload_n 0, 1), (87, .invokevirtual 317, 3), (90, .goto (-18), 3), (93, .aload_n 0, 1), (94, .aload_n 0, 1), (95, .getfield 200, 3), (98, .putfield 35, 3), (101, .aload_n 0, 1), (102, .invokevirtual 226, 3), (105, .ifCond .ne 11, 3), (108, .aload_n 0, 1), (109, .getfield 203, 3), (112, .bipush 10, 2), (114, .isub, 1), (115, .ireturn, 1), (116, .aload_n 0, 1), (117, .aload_n 0, 1), (118, .getfield 309, 3), (121, .putfield 320, 3), (124, .iconst 0, 1), (125, .istore_n 2, 1), (126, .iload_n 2, 1), (127, .aload_n 0, 1), (128, .getfield 320, 3), (131, .if_icmp .ge 57, 3), (134, .aload_n 0, 1), (135, .getfield 41, 3), (138, .iload_n 2, 1), (139, .aload_n 0, 1), (140, .getfield 59, 3), (143, .iload_n 2, 1), (144, .iaload, 1), (145, .iastore, 1), (146, .aload_n 0, 1), (147, .getfield 44, 3), (150, .iload_n 2, 1), (151, .aload_n 0, 1), (152, .getfield 62, 3), (155, .iload_n 2, 1), (156, .iaload, 1), (157, .iastore, 1), (158, .aload_n 0, 1), (159, .getfield 47, 3), (162, .iload_n 2, 1), (163, .aload_n 0, 1), (164, .getfield 65, 3), (167, .iload_n 2, 1), (168, .iaload, 1), (169, .iastore, 1), (170, .aload_n 0, 1), (171, .getfield 50, 3), (174, .iload_n 2, 1), (175, .aload_n 0, 1), (176, .getfield 68, 3), (179, .iload_n 2, 1), (180, .iaload, 1), (181, .iastore, 1), (182, .iinc 2 1, 3), (185, .goto (-59), 3), (188, .iconst 0, 1), (189, .istore_n 2, 1), (190, .iload_n 2, 1), (191, .aload_n 0, 1), (192, .getfield 230, 3), (195, .if_icmp .ge 33, 3), (198, .aload_n 0, 1), (199, .getfield 53, 3), (202, .iload_n 2, 1), (203, .aload_n 0, 1), (204, .getfield 71, 3), (207, .iload_n 2, 1), (208, .iaload, 1)]
set_option maxRecDepth 100000 in
theorem kX12_rules_0_ok : kX12_rules_0.all (fun q => decide (decode cX12_rules q.1 = .ok q.2)) = true := by decide +kernel
theorem dX12_rules_0 : decode cX12_rules 0 = .ok (.aload_n 0, 1) := dk_get kX12_rules_0_ok 0 rfl
theorem dX12_rules_1 : decode cX12_rules 1 = .ok (.iconst 0, 1) := dk_get kX12_rules_0_ok 1 rfl
theorem dX12_rules_2 : decode cX12_rules 2 = .ok (.putfield 1, 3) := dk_get kX12_rules_0_ok 2 rfl
theorem dX12_rules_5 : decode cX12_rules 5 = .ok (.aload_n 0, 1) := dk_get kX12_rules_0_ok 3 rfl
theorem dX12_rules_6 : decode cX12_rules 6 = .ok (.iload_n 1, 1) := dk_get kX12_rules_0_ok 4 rfl
theorem dX12_rules_7 : decode cX12_rules 7 = .ok (.ifCond .lt 15, 3) := dk_get kX12_rules_0_ok 5 rfl
theorem dX12_rules_10 : decode cX12_rules 10 = .ok (.iload_n 1, 1) := dk_get kX12_rules_0_ok 6 rfl
theorem dX12_rules_11 : decode cX12_rules 11 = .ok (.aload_n 0, 1) := dk_get kX12_rules_0_ok 7 rfl
theorem dX12_rules_12 : decode cX12_rules 12 = .ok (.getfield 197, 3) := dk_get kX12_rules_0_ok 8 rfl
theorem dX12_rules_15 : decode cX12_rules 15 = .ok (.if_icmp .gt 7, 3) := dk_get kX12_rules_0_ok 9 rfl
theorem dX12_rules_18 : decode cX12_rules 18 = .ok (.iconst 1, 1) := dk_get kX12_rules_0_ok 10 rfl
theorem dX12_rules_19 : decode cX12_rules 19 = .ok (.goto 4, 3) := dk_get kX12_rules_0_ok 11 rfl
theorem dX12_rules_22 : decode cX12_rules 22 = .ok (.iconst 0, 1) := dk_get kX12_rules_0_ok 12 rfl
theorem dX12_rules_23 : decode cX12_rules 23 = .ok (.iconst 1, 1) := dk_get kX12_rules_0_ok 13 rfl
theorem dX12_rules_24 : decode cX12_rules 24 = .ok (.invokevirtual 173, 3) := dk_get kX12_rules_0_ok 14 rfl
theorem dX12_rules_27 : decode cX12_rules 27 = .ok (.ifCond .ne 5, 3) := dk_get kX12_rules_0_ok 15 rfl
theorem dX12_rules_30 : decode cX12_rules 30 = .ok (.iconst 0, 1) := dk_get kX12_rules_0_ok 16 rfl
theorem dX12_rules_31 : decode cX12_rules 31 = .ok (.ireturn, 1) := dk_get kX12_rules_0_ok 17 rfl
theorem dX12_rules_32 : decode cX12_rules 32 = .ok (.aload_n 0, 1) := dk_get kX12_rules_0_ok 18 rfl
theorem dX12_rules_33 : decode cX12_rules 33 = .ok (.iconst 0, 1) := dk_get kX12_rules_0_ok 19 rfl
theorem dX12_rules_34 : decode cX12_rules 34 = .ok (.putfield 197, 3) := dk_get kX12_rules_0_ok 20 rfl
theorem dX12_rules_37 : decode cX12_rules 37 = .ok (.aload_n 0, 1) := dk_get kX12_rules_0_ok 21 rfl
theorem dX12_rules_38 : decode cX12_rules 38 = .ok (.iconst (-1), 1) := dk_get kX12_rules_0_ok 22 rfl
theorem dX12_rules_39 : decode cX12_rules 39 = .ok (.putfield 35, 3) := dk_get kX12_rules_0_ok 23 rfl
theorem dX12_rules_42 : decode cX12_rules 42 = .ok (.aload_n 0, 1) := dk_get kX12_rules_0_ok 24 rfl
theorem dX12_rules_43 : decode cX12_rules 43 = .ok (.iload_n 1, 1) := dk_get kX12_rules_0_ok 25 rfl
theorem dX12_rules_44 : decode cX12_rules 44 = .ok (.putfield 209, 3) := dk_get kX12_rules_0_ok 26 rfl
theorem dX12_rules_47 : decode cX12_rules 47 = .ok (.aload_n 0, 1) := dk_get kX12_rules_0_ok 27 rfl
theorem dX12_rules_48 : decode cX12_rules 48 = .ok (.iconst 0, 1) := dk_get kX12_rules_0_ok 28 rfl
theorem dX12_rules_49 : decode cX12_rules 49 = .ok (.putfield 206, 3) := dk_get kX12_rules_0_ok 29 rfl
theorem dX12_rules_52 : decode cX12_rules 52 = .ok (.aload_n 0, 1) := dk_get kX12_rules_0_ok 30 rfl
theorem dX12_rules_53 : decode cX12_rules 53 = .ok (.iconst (-1), 1) := dk_get kX12_rules_0_ok 31 rfl
theorem dX12_rules_54 : decode cX12_rules 54 = .ok (.putfield 200, 3) := dk_get kX12_rules_0_ok 32 rfl
theorem dX12_rules_57 : decode cX12_rules 57 = .ok (.aload_n 0, 1) := dk_get kX12_rules_0_ok 33 rfl
theorem dX12_rules_58 : decode cX12_rules 58 = .ok (.iconst 0, 1) := dk_get kX12_rules_0_ok 34 rfl
theorem dX12_rules_59 : decode cX12_rules 59 = .ok (.putfield 233, 3) := dk_get kX12_rules_0_ok 35 rfl
theorem dX12_rules_62 : decode cX12_rules 62 = .ok (.aload_n 0, 1) := dk_get kX12_rules_0_ok 36 rfl
theorem dX12_rules_63 : decode cX12_rules 63 = .ok (.iconst 0, 1) := dk_get kX12_rules_0_ok 37 rfl
theorem dX12_rules_64 : decode cX12_rules 64 = .ok (.putfield 230, 3) := dk_get kX12_rules_0_ok 38 rfl
theorem dX12_rules_67 : decode cX12_rules 67 = .ok (.aload_n 0, 1) := dk_get kX12_rules_0_ok 39 rfl
theorem dX12_rules_68 : decode cX12_rules 68 = .ok (.iconst 0, 1) := dk_get kX12_rules_0_ok 40 rfl
theorem dX12_rules_69 : decode cX12_rules 69 = .ok (.putfield 309, 3) := dk_get kX12_rules_0_ok 41 rfl
theorem dX12_rules_72 : decode cX12_rules 72 = .ok (.aload_n 0, 1) := dk_get kX12_rules_0_ok 42 rfl
theorem dX12_rules_73 : decode cX12_rules 73 = .ok (.invokevirtual 226, 3) := dk_get kX12_rules_0_ok 43 rfl
theorem dX12_rules_76 : decode cX12_rules 76 = .ok (.ifCond .eq 17, 3) := dk_get kX12_rules_0_ok 44 rfl
theorem dX12_rules_79 : decode cX12_rules 79 = .ok (.aload_n 0, 1) := dk_get kX12_rules_0_ok 45 rfl
theorem dX12_rules_80 : decode cX12_rules 80 = .ok (.invokevirtual 314, 3) := dk_get kX12_rules_0_ok 46 rfl
theorem dX12_rules_83 : decode cX12_rules 83 = .ok (.ifCond .eq 10, 3) := dk_get kX12_rules_0_ok 47 rfl
theorem dX12_rules_86 : decode cX12_rules 86 = .ok (.aload_n 0, 1) := dk_get kX12_rules_0_ok 48 rfl
theorem dX12_rules_87 : decode cX12_rules 87 = .ok (.invokevirtual 317, 3) := dk_get kX12_rules_0_ok 49 rfl
theorem dX12_rules_90 : decode cX12_rules 90 = .ok (.goto (-18), 3) := dk_get kX12_rules_0_ok 50 rfl
theorem dX12_rules_93 : decode cX12_rules 93 = .ok (.aload_n 0, 1) := dk_get kX12_rules_0_ok 51 rfl
theorem dX12_rules_94 : decode cX12_rules 94 = .ok (.aload_n 0, 1) := dk_get kX12_rules_0_ok 52 rfl
theorem dX12_rules_95 : decode cX12_rules 95 = .ok (.getfield 200, 3) := dk_get kX12_rules_0_ok 53 rfl
theorem dX12_rules_98 : decode cX12_rules 98 = .ok (.putfield 35, 3) := dk_get kX12_rules_0_ok 54 rfl
theorem dX12_rules_101 : decode cX12_rules 101 = .ok (.aload_n 0, 1) := dk_get kX12_rules_0_ok 55 rfl
theorem dX12_rules_102 : decode cX12_rules 102 = .ok (.invokevirtual 226, 3) := dk_get kX12_rules_0_ok 56 rfl
theorem dX12_rules_105 : decode cX12_rules 105 = .ok (.ifCond .ne 11, 3) := dk_get kX12_rules_0_ok 57 rfl
theorem dX12_rules_108 : decode cX12_rules 108 = .ok (.aload_n 0, 1) := dk_get kX12_rules_0_ok 58 rfl
theorem dX12_rules_109 : decode cX12_rules 109 = .ok (.getfield 203, 3) := dk_get kX12_rules_0_ok 59 rfl
theorem dX12_rules_112 : decode cX12_rules 112 = .ok (.bipush 10, 2) := dk_get kX12_rules_0_ok 60 rfl
theorem dX12_rules_114 : decode cX12_rules 114 = .ok (.isub, 1) := dk_get kX12_rules_0_ok 61 rfl
theorem dX12_rules_115 : decode cX12_rules 115 = .ok (.ireturn, 1) := dk_get kX12_rules_0_ok 62 rfl
theorem dX12_rules_116 : decode cX12_rules 116 = .ok (.aload_n 0, 1) := dk_get kX12_rules_0_ok 63 rfl
theorem dX12_rules_117 : decode cX12_rules 117 = .ok (.aload_n 0, 1) := dk_get kX12_rules_0_ok 64 rfl
theorem dX12_rules_118 : decode cX12_rules 118 = .ok (.getfield 309, 3) := dk_get kX12_rules_0_ok 65 rfl
theorem dX12_rules_121 : decode cX12_rules 121 = .ok (.putfield 320, 3) := dk_get kX12_rules_0_ok 66 rfl
theorem dX12_rules_124 : decode cX12_rules 124 = .ok (.iconst 0, 1) := dk_get kX12_rules_0_ok 67 rfl
theorem dX12_rules_125 : decode cX12_rules 125 = .ok (.istore_n 2, 1) := dk_get kX12_rules_0_ok 68 rfl
theorem dX12_rules_126 : decode cX12_rules 126 = .ok (.iload_n 2, 1) := dk_get kX12_rules_0_ok 69 rfl
theorem dX12_rules_127 : decode cX12_rules 127 = .ok (.aload_n 0, 1) := dk_get kX12_rules_0_ok 70 rfl
theorem dX12_rules_128 : decode cX12_rules 128 = .ok (.getfield 320, 3) := dk_get kX12_rules_0_ok 71 rfl
theorem dX12_rules_131 : decode cX12_rules 131 = .ok (.if_icmp .ge 57, 3) := dk_get kX12_rules_0_ok 72 rfl
theorem dX12_rules_134 : decode cX12_rules 134 = .ok (.aload_n 0, 1) := dk_get kX12_rules_0_ok 73 rfl
theorem dX12_rules_135 : decode cX12_rules 135 = .ok (.getfield 41, 3) := dk_get kX12_rules_0_ok 74 rfl
theorem dX12_rules_138 : decode cX12_rules 138 = .ok (.iload_n 2, 1) := dk_get kX12_rules_0_ok 75 rfl
theorem dX12_rules_139 : decode cX12_rules 139 = .ok (.aload_n 0, 1) := dk_get kX12_rules_0_ok 76 rfl
theorem dX12_rules_140 : decode cX12_rules 140 = .ok (.getfield 59, 3) := dk_get kX12_rules_0_ok 77 rfl
theorem dX12_rules_143 : decode cX12_rules 143 = .ok (.iload_n 2, 1) := dk_get kX12_rules_0_ok 78 rfl
theorem dX12_rules_144 : decode cX12_rules 144 = .ok (.iaload, 1) := dk_get kX12_rules_0_ok 79 rfl
theorem dX12_rules_145 : decode cX12_rules 145 = .ok (.iastore, 1) := dk_get kX12_rules_0_ok 80 rfl
theorem dX12_rules_146 : decode cX12_rules 146 = .ok (.aload_n 0, 1) := dk_get kX12_rules_0_ok 81 rfl
theorem dX12_rules_147 : decode cX12_rules 147 = .ok (.getfield 44, 3) := dk_get kX12_rules_0_ok 82 rfl
theorem dX12_rules_150 : decode cX12_rules 150 = .ok (.iload_n 2, 1) := dk_get kX12_rules_0_ok 83 rfl
theorem dX12_rules_151 : decode cX12_rules 151 = .ok (.aload_n 0, 1) := dk_get kX12_rules_0_ok 84 rfl
theorem dX12_rules_152 : decode cX12_rules 152 = .ok (.getfield 62, 3) := dk_get kX12_rules_0_ok 85 rfl
theorem dX12_rules_155 : decode cX12_rules 155 = .ok (.iload_n 2, 1) := dk_get kX12_rules_0_ok 86 rfl
theorem dX12_rules_156 : decode cX12_rules 156 = .ok (.iaload, 1) := dk_get kX12_rules_0_ok 87 rfl
theorem dX12_rules_157 : decode cX12_rules 157 = .ok (.iastore, 1) := dk_get kX12_rules_0_ok 88 rfl
theorem dX12_rules_158 : decode cX12_rules 158 = .ok (.aload_n 0, 1) := dk_get kX12_rules_0_ok 89 rfl
theorem dX12_rules_159 : decode cX12_rules 159 = .ok (.getfield 47, 3) := dk_get kX12_rules_0_ok 90 rfl
theorem dX12_rules_162 : decode cX12_rules 162 = .ok (.iload_n 2, 1) := dk_get kX12_rules_0_ok 91 rfl
theorem dX12_rules_163 : decode cX12_rules 163 = .ok (.aload_n 0, 1) := dk_get kX12_rules_0_ok 92 rfl
theorem dX12_rules_164 : decode cX12_rules 164 = .ok (.getfield 65, 3) := dk_get kX12_rules_0_ok 93 rfl
theorem dX12_rules_167 : decode cX12_rules 167 = .ok (.iload_n 2, 1) := dk_get kX12_rules_0_ok 94 rfl
theorem dX12_rules_168 : decode cX12_rules 168 = .ok (.iaload, 1) := dk_get kX12_rules_0_ok 95 rfl
theorem dX12_rules_169 : decode cX12_rules 169 = .ok (.iastore, 1) := dk_get kX12_rules_0_ok 96 rfl
theorem dX12_rules_170 : decode cX12_rules 170 = .ok (.aload_n 0, 1) := dk_get kX12_rules_0_ok 97 rfl
theorem dX12_rules_171 : decode cX12_rules 171 = .ok (.getfield 50, 3) := dk_get kX12_rules_0_ok 98 rfl
theorem dX12_rules_174 : decode cX12_rules 174 = .ok (.iload_n 2, 1) := dk_get kX12_rules_0_ok 99 rfl
theorem dX12_rules_175 : decode cX12_rules 175 = .ok (.aload_n 0, 1) := dk_get kX12_rules_0_ok 100 rfl
theorem dX12_rules_176 : decode cX12_rules 176 = .ok (.getfield 68, 3) := dk_get kX12_rules_0_ok 101 rfl
theorem dX12_rules_179 : decode cX12_rules 179 = .ok (.iload_n 2, 1) := dk_get kX12_rules_0_ok 102 rfl
theorem dX12_rules_180 : decode cX12_rules 180 = .ok (.iaload, 1) := dk_get kX12_rules_0_ok 103 rfl
theorem dX12_rules_181 : decode cX12_rules 181 = .ok (.iastore, 1) := dk_get kX12_rules_0_ok 104 rfl
theorem dX12_rules_182 : decode cX12_rules 182 = .ok (.iinc 2 1, 3) := dk_get kX12_rules_0_ok 105 rfl
theorem dX12_rules_185 : decode cX12_rules 185 = .ok (.goto (-59), 3) := dk_get kX12_rules_0_ok 106 rfl
theorem dX12_rules_188 : decode cX12_rules 188 = .ok (.iconst 0, 1) := dk_get kX12_rules_0_ok 107 rfl
theorem dX12_rules_189 : decode cX12_rules 189 = .ok (.istore_n 2, 1) := dk_get kX12_rules_0_ok 108 rfl
theorem dX12_rules_190 : decode cX12_rules 190 = .ok (.iload_n 2, 1) := dk_get kX12_rules_0_ok 109 rfl
theorem dX12_rules_191 : decode cX12_rules 191 = .ok (.aload_n 0, 1) := dk_get kX12_rules_0_ok 110 rfl
theorem dX12_rules_192 : decode cX12_rules 192 = .ok (.getfield 230, 3) := dk_get kX12_rules_0_ok 111 rfl
theorem dX12_rules_195 : decode cX12_rules 195 = .ok (.if_icmp .ge 33, 3) := dk_get kX12_rules_0_ok 112 rfl
theorem dX12_rules_198 : decode cX12_rules 198 = .ok (.aload_n 0, 1) := dk_get kX12_rules_0_ok 113 rfl
theorem dX12_rules_199 : decode cX12_rules 199 = .ok (.getfield 53, 3) := dk_get kX12_rules_0_ok 114 rfl
theorem dX12_rules_202 : decode cX12_rules 202 = .ok (.iload_n 2, 1) := dk_get kX12_rules_0_ok 115 rfl
theorem dX12_rules_203 : decode cX12_rules 203 = .ok (.aload_n 0, 1) := dk_get kX12_rules_0_ok 116 rfl
theorem dX12_rules_204 : decode cX12_rules 204 = .ok (.getfield 71, 3) := dk_get kX12_rules_0_ok 117 rfl
theorem dX12_rules_207 : decode cX12_rules 207 = .ok (.iload_n 2, 1) := dk_get kX12_rules_0_ok 118 rfl
theorem dX12_rules_208 : decode cX12_rules 208 = .ok (.iaload, 1) := dk_get kX12_rules_0_ok 119 rfl
def kX12_rules_1 : List (Nat × Instr × Nat) := [(209, .iastore, 1), (210, .aload_n 0, 1), (211, .getfield 56, 3), (214, .iload_n 2, 1), (215, .aload_n 0, 1), (216, .getfield 74, 3), (219, .iload_n 2, 1), (220, .iaload, 1), (221, .iastore, 1), (222, .iinc 2 1, 3), (225, .goto (-35), 3), (228, .aload_n 0, 1), (229, .invokevirtual 180, 3), (232, .aload_n 0, 1), (233, .getfield 320, 3), (236, .ireturn, 1)]
set_option maxRecDepth 100000 in
theorem kX12_rules_1_ok : kX12_rules_1.all (fun q => decide (decode cX12_rules q.1 = .ok q.2)) = true := by decide +kernel
theorem dX12_rules_209 : decode cX12_rules 209 = .ok (.iastore, 1) := dk_get kX12_rules_1_ok 0 rfl
theorem dX12_rules_210 : decode cX12_rules 210 = .ok (.aload_n 0, 1) := dk_get kX12_rules_1_ok 1 rfl
theorem dX12_rules_211 : decode cX12_rules 211 = .ok (.getfield 56, 3) := dk_get kX12_rules_1_ok 2 rfl
theorem dX12_rules_214 : decode cX12_rules 214 = .ok (.iload_n 2, 1) := dk_get kX12_rules_1_ok 3 rfl
theorem dX12_rules_215 : decode cX12_rules 215 = .ok (.aload_n 0, 1) := dk_get kX12_rules_1_ok 4 rfl
theorem dX12_rules_216 : decode cX12_rules 216 = .ok (.getfield 74, 3) := dk_get kX12_rules_1_ok 5 rfl
theorem dX12_rules_219 : decode cX12_rules 219 = .ok (.iload_n 2, 1) := dk_get kX12_rules_1_ok 6 rfl
theorem dX12_rules_220 : decode cX12_rules 220 = .ok (.iaload, 1) := dk_get kX12_rules_1_ok 7 rfl
theorem dX12_rules_221 : decode cX12_rules 221 = .ok (.iastore, 1) := dk_get kX12_rules_1_ok 8 rfl
theorem dX12_rules_222 : decode cX12_rules 222 = .ok (.iinc 2 1, 3) := dk_get kX12_rules_1_ok 9 rfl
theorem dX12_rules_225 : decode cX12_rules 225 = .ok (.goto (-35), 3) := dk_get kX12_rules_1_ok 10 rfl
theorem dX12_rules_228 : decode cX12_rules 228 = .ok (.aload_n 0, 1) := dk_get kX12_rules_1_ok 11 rfl
theorem dX12_rules_229 : decode cX12_rules 229 = .ok (.invokevirtual 180, 3) := dk_get kX12_rules_1_ok 12 rfl
theorem dX12_rules_232 : decode cX12_rules 232 = .ok (.aload_n 0, 1) := dk_get kX12_rules_1_ok 13 rfl
theorem dX12_rules_233 : decode cX12_rules 233 = .ok (.getfield 320, 3) := dk_get kX12_rules_1_ok 14 rfl
theorem dX12_rules_236 : decode cX12_rules 236 = .ok (.ireturn, 1) := dk_get kX12_rules_1_ok 15 rfl
def kX12_fault : List (Nat × Instr × Nat) := [(0, .aload_n 0, 1), (1, .iconst 0, 1), (2, .putfield 1, 3), (5, .aload_n 0, 1), (6, .getfield 35, 3), (9, .ireturn, 1)]
set_option maxRecDepth 100000 in
theorem kX12_fault_ok : kX12_fault.all (fun q => decide (decode cX12_fault q.1 = .ok q.2)) = true := by decide +kernel
theorem dX12_fault_0 : decode cX12_fault 0 = .ok (.aload_n 0, 1) := dk_get kX12_fault_ok 0 rfl
theorem dX12_fault_1 : decode cX12_fault 1 = .ok (.iconst 0, 1) := dk_get kX12_fault_ok 1 rfl
theorem dX12_fault_2 : decode cX12_fault 2 = .ok (.putfield 1, 3) := dk_get kX12_fault_ok 2 rfl
theorem dX12_fault_5 : decode cX12_fault 5 = .ok (.aload_n 0, 1) := dk_get kX12_fault_ok 3 rfl
theorem dX12_fault_6 : decode cX12_fault 6 = .ok (.getfield 35, 3) := dk_get kX12_fault_ok 4 rfl
theorem dX12_fault_9 : decode cX12_fault 9 = .ok (.ireturn, 1) := dk_get kX12_fault_ok 5 rfl
def kX12_asked : List (Nat × Instr × Nat) := [(0, .iload_n 1, 1), (1, .tableswitch 147 1 5 #[35, 57, 74, 95, 116], 35), (36, .aload_n 0, 1), (37, .getfield 32, 3), (40, .bipush 16, 2), (42, .aload_n 0, 1), (43, .getfield 17, 3), (46, .iload_n 2, 1), (47, .iaload, 1), (48, .imul, 1), (49, .aload_n 0, 1), (50, .getfield 17, 3), (53, .iload_n 3, 1), (54, .iaload, 1), (55, .iadd, 1), (56, .iaload, 1), (57, .ireturn, 1), (58, .aload_n 0, 1), (59, .getfield 23, 3), (62, .iload_n 2, 1), (63, .iaload, 1), (64, .aload_n 0, 1), (65, .getfield 23, 3), (68, .iload_n 3, 1), (69, .iaload, 1), (70, .isub, 1), (71, .invokestatic 323, 3), (74, .ireturn, 1), (75, .aload_n 0, 1), (76, .getfield 20, 3), (79, .iload_n 2, 1), (80, .iaload, 1), (81, .aload_n 0, 1), (82, .getfield 20, 3), (85, .iload_n 3, 1), (86, .iaload, 1), (87, .if_icmp .ne 7, 3), (90, .iconst 1, 1), (91, .goto 4, 3), (94, .iconst 0, 1), (95, .ireturn, 1), (96, .aload_n 0, 1), (97, .getfield 13, 3), (100, .iload_n 2, 1), (101, .iaload, 1), (102, .aload_n 0, 1), (103, .getfield 13, 3), (106, .iload_n 3, 1), (107, .iaload, 1), (108, .if_icmp .ne 7, 3), (111, .iconst 1, 1), (112, .goto 4, 3), (115, .iconst 0, 1), (116, .ireturn, 1), (117, .aload_n 0, 1), (118, .getfield 26, 3), (121, .iload_n 2, 1), (122, .iaload, 1), (123, .iconst (-1), 1), (124, .if_icmp .eq 22, 3), (127, .aload_n 0, 1), (128, .getfield 26, 3), (131, .iload_n 2, 1), (132, .iaload, 1), (133, .aload_n 0, 1), (134, .getfield 26, 3), (137, .iload_n 3, 1), (138, .iaload, 1), (139, .if_icmp .ne 7, 3), (142, .iconst 1, 1), (143, .goto 4, 3), (146, .iconst 0, 1), (147, .ireturn, 1), (148, .aload_n 0, 1), (149, .getfield 26, 3), (152, .iload_n 2, 1), (153, .iaload, 1), (154, .iconst (-1), 1), (155, .if_icmp .eq 32, 3), (158, .aload_n 0, 1), (159, .getfield 26, 3), (162, .iload_n 3, 1), (163, .iaload, 1), (164, .iconst (-1), 1), (165, .if_icmp .eq 22, 3), (168, .aload_n 0, 1), (169, .getfield 26, 3), (172, .iload_n 2, 1), (173, .iaload, 1), (174, .aload_n 0, 1), (175, .getfield 26, 3), (178, .iload_n 3, 1), (179, .iaload, 1), (180, .if_icmp .eq 7, 3), (183, .iconst 1, 1), (184, .goto 4, 3), (187, .iconst 0, 1), (188, .ireturn, 1)]
set_option maxRecDepth 100000 in
theorem kX12_asked_ok : kX12_asked.all (fun q => decide (decode cX12_asked q.1 = .ok q.2)) = true := by decide +kernel
theorem dX12_asked_0 : decode cX12_asked 0 = .ok (.iload_n 1, 1) := dk_get kX12_asked_ok 0 rfl
theorem dX12_asked_1 : decode cX12_asked 1 = .ok (.tableswitch 147 1 5 #[35, 57, 74, 95, 116], 35) := dk_get kX12_asked_ok 1 rfl
theorem dX12_asked_36 : decode cX12_asked 36 = .ok (.aload_n 0, 1) := dk_get kX12_asked_ok 2 rfl
theorem dX12_asked_37 : decode cX12_asked 37 = .ok (.getfield 32, 3) := dk_get kX12_asked_ok 3 rfl
theorem dX12_asked_40 : decode cX12_asked 40 = .ok (.bipush 16, 2) := dk_get kX12_asked_ok 4 rfl
theorem dX12_asked_42 : decode cX12_asked 42 = .ok (.aload_n 0, 1) := dk_get kX12_asked_ok 5 rfl
theorem dX12_asked_43 : decode cX12_asked 43 = .ok (.getfield 17, 3) := dk_get kX12_asked_ok 6 rfl
theorem dX12_asked_46 : decode cX12_asked 46 = .ok (.iload_n 2, 1) := dk_get kX12_asked_ok 7 rfl
theorem dX12_asked_47 : decode cX12_asked 47 = .ok (.iaload, 1) := dk_get kX12_asked_ok 8 rfl
theorem dX12_asked_48 : decode cX12_asked 48 = .ok (.imul, 1) := dk_get kX12_asked_ok 9 rfl
theorem dX12_asked_49 : decode cX12_asked 49 = .ok (.aload_n 0, 1) := dk_get kX12_asked_ok 10 rfl
theorem dX12_asked_50 : decode cX12_asked 50 = .ok (.getfield 17, 3) := dk_get kX12_asked_ok 11 rfl
theorem dX12_asked_53 : decode cX12_asked 53 = .ok (.iload_n 3, 1) := dk_get kX12_asked_ok 12 rfl
theorem dX12_asked_54 : decode cX12_asked 54 = .ok (.iaload, 1) := dk_get kX12_asked_ok 13 rfl
theorem dX12_asked_55 : decode cX12_asked 55 = .ok (.iadd, 1) := dk_get kX12_asked_ok 14 rfl
theorem dX12_asked_56 : decode cX12_asked 56 = .ok (.iaload, 1) := dk_get kX12_asked_ok 15 rfl
theorem dX12_asked_57 : decode cX12_asked 57 = .ok (.ireturn, 1) := dk_get kX12_asked_ok 16 rfl
theorem dX12_asked_58 : decode cX12_asked 58 = .ok (.aload_n 0, 1) := dk_get kX12_asked_ok 17 rfl
theorem dX12_asked_59 : decode cX12_asked 59 = .ok (.getfield 23, 3) := dk_get kX12_asked_ok 18 rfl
theorem dX12_asked_62 : decode cX12_asked 62 = .ok (.iload_n 2, 1) := dk_get kX12_asked_ok 19 rfl
theorem dX12_asked_63 : decode cX12_asked 63 = .ok (.iaload, 1) := dk_get kX12_asked_ok 20 rfl
theorem dX12_asked_64 : decode cX12_asked 64 = .ok (.aload_n 0, 1) := dk_get kX12_asked_ok 21 rfl
theorem dX12_asked_65 : decode cX12_asked 65 = .ok (.getfield 23, 3) := dk_get kX12_asked_ok 22 rfl
theorem dX12_asked_68 : decode cX12_asked 68 = .ok (.iload_n 3, 1) := dk_get kX12_asked_ok 23 rfl
theorem dX12_asked_69 : decode cX12_asked 69 = .ok (.iaload, 1) := dk_get kX12_asked_ok 24 rfl
theorem dX12_asked_70 : decode cX12_asked 70 = .ok (.isub, 1) := dk_get kX12_asked_ok 25 rfl
theorem dX12_asked_71 : decode cX12_asked 71 = .ok (.invokestatic 323, 3) := dk_get kX12_asked_ok 26 rfl
theorem dX12_asked_74 : decode cX12_asked 74 = .ok (.ireturn, 1) := dk_get kX12_asked_ok 27 rfl
theorem dX12_asked_75 : decode cX12_asked 75 = .ok (.aload_n 0, 1) := dk_get kX12_asked_ok 28 rfl
theorem dX12_asked_76 : decode cX12_asked 76 = .ok (.getfield 20, 3) := dk_get kX12_asked_ok 29 rfl
theorem dX12_asked_79 : decode cX12_asked 79 = .ok (.iload_n 2, 1) := dk_get kX12_asked_ok 30 rfl
theorem dX12_asked_80 : decode cX12_asked 80 = .ok (.iaload, 1) := dk_get kX12_asked_ok 31 rfl
theorem dX12_asked_81 : decode cX12_asked 81 = .ok (.aload_n 0, 1) := dk_get kX12_asked_ok 32 rfl
theorem dX12_asked_82 : decode cX12_asked 82 = .ok (.getfield 20, 3) := dk_get kX12_asked_ok 33 rfl
theorem dX12_asked_85 : decode cX12_asked 85 = .ok (.iload_n 3, 1) := dk_get kX12_asked_ok 34 rfl
theorem dX12_asked_86 : decode cX12_asked 86 = .ok (.iaload, 1) := dk_get kX12_asked_ok 35 rfl
theorem dX12_asked_87 : decode cX12_asked 87 = .ok (.if_icmp .ne 7, 3) := dk_get kX12_asked_ok 36 rfl
theorem dX12_asked_90 : decode cX12_asked 90 = .ok (.iconst 1, 1) := dk_get kX12_asked_ok 37 rfl
theorem dX12_asked_91 : decode cX12_asked 91 = .ok (.goto 4, 3) := dk_get kX12_asked_ok 38 rfl
theorem dX12_asked_94 : decode cX12_asked 94 = .ok (.iconst 0, 1) := dk_get kX12_asked_ok 39 rfl
theorem dX12_asked_95 : decode cX12_asked 95 = .ok (.ireturn, 1) := dk_get kX12_asked_ok 40 rfl
theorem dX12_asked_96 : decode cX12_asked 96 = .ok (.aload_n 0, 1) := dk_get kX12_asked_ok 41 rfl
theorem dX12_asked_97 : decode cX12_asked 97 = .ok (.getfield 13, 3) := dk_get kX12_asked_ok 42 rfl
theorem dX12_asked_100 : decode cX12_asked 100 = .ok (.iload_n 2, 1) := dk_get kX12_asked_ok 43 rfl
theorem dX12_asked_101 : decode cX12_asked 101 = .ok (.iaload, 1) := dk_get kX12_asked_ok 44 rfl
theorem dX12_asked_102 : decode cX12_asked 102 = .ok (.aload_n 0, 1) := dk_get kX12_asked_ok 45 rfl
theorem dX12_asked_103 : decode cX12_asked 103 = .ok (.getfield 13, 3) := dk_get kX12_asked_ok 46 rfl
theorem dX12_asked_106 : decode cX12_asked 106 = .ok (.iload_n 3, 1) := dk_get kX12_asked_ok 47 rfl
theorem dX12_asked_107 : decode cX12_asked 107 = .ok (.iaload, 1) := dk_get kX12_asked_ok 48 rfl
theorem dX12_asked_108 : decode cX12_asked 108 = .ok (.if_icmp .ne 7, 3) := dk_get kX12_asked_ok 49 rfl
theorem dX12_asked_111 : decode cX12_asked 111 = .ok (.iconst 1, 1) := dk_get kX12_asked_ok 50 rfl
theorem dX12_asked_112 : decode cX12_asked 112 = .ok (.goto 4, 3) := dk_get kX12_asked_ok 51 rfl
theorem dX12_asked_115 : decode cX12_asked 115 = .ok (.iconst 0, 1) := dk_get kX12_asked_ok 52 rfl
theorem dX12_asked_116 : decode cX12_asked 116 = .ok (.ireturn, 1) := dk_get kX12_asked_ok 53 rfl
theorem dX12_asked_117 : decode cX12_asked 117 = .ok (.aload_n 0, 1) := dk_get kX12_asked_ok 54 rfl
theorem dX12_asked_118 : decode cX12_asked 118 = .ok (.getfield 26, 3) := dk_get kX12_asked_ok 55 rfl
theorem dX12_asked_121 : decode cX12_asked 121 = .ok (.iload_n 2, 1) := dk_get kX12_asked_ok 56 rfl
theorem dX12_asked_122 : decode cX12_asked 122 = .ok (.iaload, 1) := dk_get kX12_asked_ok 57 rfl
theorem dX12_asked_123 : decode cX12_asked 123 = .ok (.iconst (-1), 1) := dk_get kX12_asked_ok 58 rfl
theorem dX12_asked_124 : decode cX12_asked 124 = .ok (.if_icmp .eq 22, 3) := dk_get kX12_asked_ok 59 rfl
theorem dX12_asked_127 : decode cX12_asked 127 = .ok (.aload_n 0, 1) := dk_get kX12_asked_ok 60 rfl
theorem dX12_asked_128 : decode cX12_asked 128 = .ok (.getfield 26, 3) := dk_get kX12_asked_ok 61 rfl
theorem dX12_asked_131 : decode cX12_asked 131 = .ok (.iload_n 2, 1) := dk_get kX12_asked_ok 62 rfl
theorem dX12_asked_132 : decode cX12_asked 132 = .ok (.iaload, 1) := dk_get kX12_asked_ok 63 rfl
theorem dX12_asked_133 : decode cX12_asked 133 = .ok (.aload_n 0, 1) := dk_get kX12_asked_ok 64 rfl
theorem dX12_asked_134 : decode cX12_asked 134 = .ok (.getfield 26, 3) := dk_get kX12_asked_ok 65 rfl
theorem dX12_asked_137 : decode cX12_asked 137 = .ok (.iload_n 3, 1) := dk_get kX12_asked_ok 66 rfl
theorem dX12_asked_138 : decode cX12_asked 138 = .ok (.iaload, 1) := dk_get kX12_asked_ok 67 rfl
theorem dX12_asked_139 : decode cX12_asked 139 = .ok (.if_icmp .ne 7, 3) := dk_get kX12_asked_ok 68 rfl
theorem dX12_asked_142 : decode cX12_asked 142 = .ok (.iconst 1, 1) := dk_get kX12_asked_ok 69 rfl
theorem dX12_asked_143 : decode cX12_asked 143 = .ok (.goto 4, 3) := dk_get kX12_asked_ok 70 rfl
theorem dX12_asked_146 : decode cX12_asked 146 = .ok (.iconst 0, 1) := dk_get kX12_asked_ok 71 rfl
theorem dX12_asked_147 : decode cX12_asked 147 = .ok (.ireturn, 1) := dk_get kX12_asked_ok 72 rfl
theorem dX12_asked_148 : decode cX12_asked 148 = .ok (.aload_n 0, 1) := dk_get kX12_asked_ok 73 rfl
theorem dX12_asked_149 : decode cX12_asked 149 = .ok (.getfield 26, 3) := dk_get kX12_asked_ok 74 rfl
theorem dX12_asked_152 : decode cX12_asked 152 = .ok (.iload_n 2, 1) := dk_get kX12_asked_ok 75 rfl
theorem dX12_asked_153 : decode cX12_asked 153 = .ok (.iaload, 1) := dk_get kX12_asked_ok 76 rfl
theorem dX12_asked_154 : decode cX12_asked 154 = .ok (.iconst (-1), 1) := dk_get kX12_asked_ok 77 rfl
theorem dX12_asked_155 : decode cX12_asked 155 = .ok (.if_icmp .eq 32, 3) := dk_get kX12_asked_ok 78 rfl
theorem dX12_asked_158 : decode cX12_asked 158 = .ok (.aload_n 0, 1) := dk_get kX12_asked_ok 79 rfl
theorem dX12_asked_159 : decode cX12_asked 159 = .ok (.getfield 26, 3) := dk_get kX12_asked_ok 80 rfl
theorem dX12_asked_162 : decode cX12_asked 162 = .ok (.iload_n 3, 1) := dk_get kX12_asked_ok 81 rfl
theorem dX12_asked_163 : decode cX12_asked 163 = .ok (.iaload, 1) := dk_get kX12_asked_ok 82 rfl
theorem dX12_asked_164 : decode cX12_asked 164 = .ok (.iconst (-1), 1) := dk_get kX12_asked_ok 83 rfl
theorem dX12_asked_165 : decode cX12_asked 165 = .ok (.if_icmp .eq 22, 3) := dk_get kX12_asked_ok 84 rfl
theorem dX12_asked_168 : decode cX12_asked 168 = .ok (.aload_n 0, 1) := dk_get kX12_asked_ok 85 rfl
theorem dX12_asked_169 : decode cX12_asked 169 = .ok (.getfield 26, 3) := dk_get kX12_asked_ok 86 rfl
theorem dX12_asked_172 : decode cX12_asked 172 = .ok (.iload_n 2, 1) := dk_get kX12_asked_ok 87 rfl
theorem dX12_asked_173 : decode cX12_asked 173 = .ok (.iaload, 1) := dk_get kX12_asked_ok 88 rfl
theorem dX12_asked_174 : decode cX12_asked 174 = .ok (.aload_n 0, 1) := dk_get kX12_asked_ok 89 rfl
theorem dX12_asked_175 : decode cX12_asked 175 = .ok (.getfield 26, 3) := dk_get kX12_asked_ok 90 rfl
theorem dX12_asked_178 : decode cX12_asked 178 = .ok (.iload_n 3, 1) := dk_get kX12_asked_ok 91 rfl
theorem dX12_asked_179 : decode cX12_asked 179 = .ok (.iaload, 1) := dk_get kX12_asked_ok 92 rfl
theorem dX12_asked_180 : decode cX12_asked 180 = .ok (.if_icmp .eq 7, 3) := dk_get kX12_asked_ok 93 rfl
theorem dX12_asked_183 : decode cX12_asked 183 = .ok (.iconst 1, 1) := dk_get kX12_asked_ok 94 rfl
theorem dX12_asked_184 : decode cX12_asked 184 = .ok (.goto 4, 3) := dk_get kX12_asked_ok 95 rfl
theorem dX12_asked_187 : decode cX12_asked 187 = .ok (.iconst 0, 1) := dk_get kX12_asked_ok 96 rfl
theorem dX12_asked_188 : decode cX12_asked 188 = .ok (.ireturn, 1) := dk_get kX12_asked_ok 97 rfl
def kX12_valueOf : List (Nat × Instr × Nat) := [(0, .iconst 0, 1), (1, .istore 5, 2), (3, .iload_n 1, 1), (4, .istore 6, 2), (6, .iload 6, 2), (8, .iload_n 2, 1), (9, .if_icmp .ge 125, 3), (12, .aload_n 0, 1), (13, .getfield 53, 3), (16, .iload 6, 2), (18, .iaload, 1), (19, .istore 7, 2), (21, .iload 7, 2), (23, .bipush 6, 2), (25, .if_icmp .gt 40, 3), (28, .aload_n 0, 1), (29, .getfield 77, 3), (32, .iload 5, 2), (34, .iload 7, 2), (36, .ifCond .ne 13, 3), (39, .aload_n 0, 1), (40, .getfield 56, 3), (43, .iload 6, 2), (45, .iaload, 1), (46, .goto 12, 3), (49, .aload_n 0, 1), (50, .iload 7, 2), (52, .iload_n 3, 1), (53, .iload 4, 2), (55, .invokevirtual 327, 3), (58, .iastore, 1), (59, .iinc 5 1, 3), (62, .goto 66, 3), (65, .iload 7, 2), (67, .bipush 18, 2), (69, .if_icmp .ne 26, 3), (72, .aload_n 0, 1), (73, .getfield 77, 3), (76, .iload 5, 2), (78, .iconst 1, 1), (79, .isub, 1), (80, .iconst 1, 1), (81, .aload_n 0, 1), (82, .getfield 77, 3), (85, .iload 5, 2), (87, .iconst 1, 1), (88, .isub, 1), (89, .iaload, 1), (90, .isub, 1), (91, .iastore, 1), (92, .goto 36, 3), (95, .iinc 5 (-1), 3), (98, .aload_n 0, 1), (99, .getfield 77, 3), (102, .iload 5, 2), (104, .iconst 1, 1), (105, .isub, 1), (106, .iload 7, 2), (108, .aload_n 0, 1), (109, .getfield 77, 3), (112, .iload 5, 2), (114, .iconst 1, 1), (115, .isub, 1), (116, .iaload, 1), (117, .aload_n 0, 1), (118, .getfield 77, 3), (121, .iload 5, 2), (123, .iaload, 1), (124, .invokestatic 331, 3), (127, .iastore, 1), (128, .iinc 6 1, 3), (131, .goto (-125), 3), (134, .aload_n 0, 1), (135, .getfield 77, 3), (138, .iconst 0, 1), (139, .iaload, 1), (140, .ireturn, 1)]
set_option maxRecDepth 100000 in
theorem kX12_valueOf_ok : kX12_valueOf.all (fun q => decide (decode cX12_valueOf q.1 = .ok q.2)) = true := by decide +kernel
theorem dX12_valueOf_0 : decode cX12_valueOf 0 = .ok (.iconst 0, 1) := dk_get kX12_valueOf_ok 0 rfl
theorem dX12_valueOf_1 : decode cX12_valueOf 1 = .ok (.istore 5, 2) := dk_get kX12_valueOf_ok 1 rfl
theorem dX12_valueOf_3 : decode cX12_valueOf 3 = .ok (.iload_n 1, 1) := dk_get kX12_valueOf_ok 2 rfl
theorem dX12_valueOf_4 : decode cX12_valueOf 4 = .ok (.istore 6, 2) := dk_get kX12_valueOf_ok 3 rfl
theorem dX12_valueOf_6 : decode cX12_valueOf 6 = .ok (.iload 6, 2) := dk_get kX12_valueOf_ok 4 rfl
theorem dX12_valueOf_8 : decode cX12_valueOf 8 = .ok (.iload_n 2, 1) := dk_get kX12_valueOf_ok 5 rfl
theorem dX12_valueOf_9 : decode cX12_valueOf 9 = .ok (.if_icmp .ge 125, 3) := dk_get kX12_valueOf_ok 6 rfl
theorem dX12_valueOf_12 : decode cX12_valueOf 12 = .ok (.aload_n 0, 1) := dk_get kX12_valueOf_ok 7 rfl
theorem dX12_valueOf_13 : decode cX12_valueOf 13 = .ok (.getfield 53, 3) := dk_get kX12_valueOf_ok 8 rfl
theorem dX12_valueOf_16 : decode cX12_valueOf 16 = .ok (.iload 6, 2) := dk_get kX12_valueOf_ok 9 rfl
theorem dX12_valueOf_18 : decode cX12_valueOf 18 = .ok (.iaload, 1) := dk_get kX12_valueOf_ok 10 rfl
theorem dX12_valueOf_19 : decode cX12_valueOf 19 = .ok (.istore 7, 2) := dk_get kX12_valueOf_ok 11 rfl
theorem dX12_valueOf_21 : decode cX12_valueOf 21 = .ok (.iload 7, 2) := dk_get kX12_valueOf_ok 12 rfl
theorem dX12_valueOf_23 : decode cX12_valueOf 23 = .ok (.bipush 6, 2) := dk_get kX12_valueOf_ok 13 rfl
theorem dX12_valueOf_25 : decode cX12_valueOf 25 = .ok (.if_icmp .gt 40, 3) := dk_get kX12_valueOf_ok 14 rfl
theorem dX12_valueOf_28 : decode cX12_valueOf 28 = .ok (.aload_n 0, 1) := dk_get kX12_valueOf_ok 15 rfl
theorem dX12_valueOf_29 : decode cX12_valueOf 29 = .ok (.getfield 77, 3) := dk_get kX12_valueOf_ok 16 rfl
theorem dX12_valueOf_32 : decode cX12_valueOf 32 = .ok (.iload 5, 2) := dk_get kX12_valueOf_ok 17 rfl
theorem dX12_valueOf_34 : decode cX12_valueOf 34 = .ok (.iload 7, 2) := dk_get kX12_valueOf_ok 18 rfl
theorem dX12_valueOf_36 : decode cX12_valueOf 36 = .ok (.ifCond .ne 13, 3) := dk_get kX12_valueOf_ok 19 rfl
theorem dX12_valueOf_39 : decode cX12_valueOf 39 = .ok (.aload_n 0, 1) := dk_get kX12_valueOf_ok 20 rfl
theorem dX12_valueOf_40 : decode cX12_valueOf 40 = .ok (.getfield 56, 3) := dk_get kX12_valueOf_ok 21 rfl
theorem dX12_valueOf_43 : decode cX12_valueOf 43 = .ok (.iload 6, 2) := dk_get kX12_valueOf_ok 22 rfl
theorem dX12_valueOf_45 : decode cX12_valueOf 45 = .ok (.iaload, 1) := dk_get kX12_valueOf_ok 23 rfl
theorem dX12_valueOf_46 : decode cX12_valueOf 46 = .ok (.goto 12, 3) := dk_get kX12_valueOf_ok 24 rfl
theorem dX12_valueOf_49 : decode cX12_valueOf 49 = .ok (.aload_n 0, 1) := dk_get kX12_valueOf_ok 25 rfl
theorem dX12_valueOf_50 : decode cX12_valueOf 50 = .ok (.iload 7, 2) := dk_get kX12_valueOf_ok 26 rfl
theorem dX12_valueOf_52 : decode cX12_valueOf 52 = .ok (.iload_n 3, 1) := dk_get kX12_valueOf_ok 27 rfl
theorem dX12_valueOf_53 : decode cX12_valueOf 53 = .ok (.iload 4, 2) := dk_get kX12_valueOf_ok 28 rfl
theorem dX12_valueOf_55 : decode cX12_valueOf 55 = .ok (.invokevirtual 327, 3) := dk_get kX12_valueOf_ok 29 rfl
theorem dX12_valueOf_58 : decode cX12_valueOf 58 = .ok (.iastore, 1) := dk_get kX12_valueOf_ok 30 rfl
theorem dX12_valueOf_59 : decode cX12_valueOf 59 = .ok (.iinc 5 1, 3) := dk_get kX12_valueOf_ok 31 rfl
theorem dX12_valueOf_62 : decode cX12_valueOf 62 = .ok (.goto 66, 3) := dk_get kX12_valueOf_ok 32 rfl
theorem dX12_valueOf_65 : decode cX12_valueOf 65 = .ok (.iload 7, 2) := dk_get kX12_valueOf_ok 33 rfl
theorem dX12_valueOf_67 : decode cX12_valueOf 67 = .ok (.bipush 18, 2) := dk_get kX12_valueOf_ok 34 rfl
theorem dX12_valueOf_69 : decode cX12_valueOf 69 = .ok (.if_icmp .ne 26, 3) := dk_get kX12_valueOf_ok 35 rfl
theorem dX12_valueOf_72 : decode cX12_valueOf 72 = .ok (.aload_n 0, 1) := dk_get kX12_valueOf_ok 36 rfl
theorem dX12_valueOf_73 : decode cX12_valueOf 73 = .ok (.getfield 77, 3) := dk_get kX12_valueOf_ok 37 rfl
theorem dX12_valueOf_76 : decode cX12_valueOf 76 = .ok (.iload 5, 2) := dk_get kX12_valueOf_ok 38 rfl
theorem dX12_valueOf_78 : decode cX12_valueOf 78 = .ok (.iconst 1, 1) := dk_get kX12_valueOf_ok 39 rfl
theorem dX12_valueOf_79 : decode cX12_valueOf 79 = .ok (.isub, 1) := dk_get kX12_valueOf_ok 40 rfl
theorem dX12_valueOf_80 : decode cX12_valueOf 80 = .ok (.iconst 1, 1) := dk_get kX12_valueOf_ok 41 rfl
theorem dX12_valueOf_81 : decode cX12_valueOf 81 = .ok (.aload_n 0, 1) := dk_get kX12_valueOf_ok 42 rfl
theorem dX12_valueOf_82 : decode cX12_valueOf 82 = .ok (.getfield 77, 3) := dk_get kX12_valueOf_ok 43 rfl
theorem dX12_valueOf_85 : decode cX12_valueOf 85 = .ok (.iload 5, 2) := dk_get kX12_valueOf_ok 44 rfl
theorem dX12_valueOf_87 : decode cX12_valueOf 87 = .ok (.iconst 1, 1) := dk_get kX12_valueOf_ok 45 rfl
theorem dX12_valueOf_88 : decode cX12_valueOf 88 = .ok (.isub, 1) := dk_get kX12_valueOf_ok 46 rfl
theorem dX12_valueOf_89 : decode cX12_valueOf 89 = .ok (.iaload, 1) := dk_get kX12_valueOf_ok 47 rfl
theorem dX12_valueOf_90 : decode cX12_valueOf 90 = .ok (.isub, 1) := dk_get kX12_valueOf_ok 48 rfl
theorem dX12_valueOf_91 : decode cX12_valueOf 91 = .ok (.iastore, 1) := dk_get kX12_valueOf_ok 49 rfl
theorem dX12_valueOf_92 : decode cX12_valueOf 92 = .ok (.goto 36, 3) := dk_get kX12_valueOf_ok 50 rfl
theorem dX12_valueOf_95 : decode cX12_valueOf 95 = .ok (.iinc 5 (-1), 3) := dk_get kX12_valueOf_ok 51 rfl
theorem dX12_valueOf_98 : decode cX12_valueOf 98 = .ok (.aload_n 0, 1) := dk_get kX12_valueOf_ok 52 rfl
theorem dX12_valueOf_99 : decode cX12_valueOf 99 = .ok (.getfield 77, 3) := dk_get kX12_valueOf_ok 53 rfl
theorem dX12_valueOf_102 : decode cX12_valueOf 102 = .ok (.iload 5, 2) := dk_get kX12_valueOf_ok 54 rfl
theorem dX12_valueOf_104 : decode cX12_valueOf 104 = .ok (.iconst 1, 1) := dk_get kX12_valueOf_ok 55 rfl
theorem dX12_valueOf_105 : decode cX12_valueOf 105 = .ok (.isub, 1) := dk_get kX12_valueOf_ok 56 rfl
theorem dX12_valueOf_106 : decode cX12_valueOf 106 = .ok (.iload 7, 2) := dk_get kX12_valueOf_ok 57 rfl
theorem dX12_valueOf_108 : decode cX12_valueOf 108 = .ok (.aload_n 0, 1) := dk_get kX12_valueOf_ok 58 rfl
theorem dX12_valueOf_109 : decode cX12_valueOf 109 = .ok (.getfield 77, 3) := dk_get kX12_valueOf_ok 59 rfl
theorem dX12_valueOf_112 : decode cX12_valueOf 112 = .ok (.iload 5, 2) := dk_get kX12_valueOf_ok 60 rfl
theorem dX12_valueOf_114 : decode cX12_valueOf 114 = .ok (.iconst 1, 1) := dk_get kX12_valueOf_ok 61 rfl
theorem dX12_valueOf_115 : decode cX12_valueOf 115 = .ok (.isub, 1) := dk_get kX12_valueOf_ok 62 rfl
theorem dX12_valueOf_116 : decode cX12_valueOf 116 = .ok (.iaload, 1) := dk_get kX12_valueOf_ok 63 rfl
theorem dX12_valueOf_117 : decode cX12_valueOf 117 = .ok (.aload_n 0, 1) := dk_get kX12_valueOf_ok 64 rfl
theorem dX12_valueOf_118 : decode cX12_valueOf 118 = .ok (.getfield 77, 3) := dk_get kX12_valueOf_ok 65 rfl
theorem dX12_valueOf_121 : decode cX12_valueOf 121 = .ok (.iload 5, 2) := dk_get kX12_valueOf_ok 66 rfl
theorem dX12_valueOf_123 : decode cX12_valueOf 123 = .ok (.iaload, 1) := dk_get kX12_valueOf_ok 67 rfl
theorem dX12_valueOf_124 : decode cX12_valueOf 124 = .ok (.invokestatic 331, 3) := dk_get kX12_valueOf_ok 68 rfl
theorem dX12_valueOf_127 : decode cX12_valueOf 127 = .ok (.iastore, 1) := dk_get kX12_valueOf_ok 69 rfl
theorem dX12_valueOf_128 : decode cX12_valueOf 128 = .ok (.iinc 6 1, 3) := dk_get kX12_valueOf_ok 70 rfl
theorem dX12_valueOf_131 : decode cX12_valueOf 131 = .ok (.goto (-125), 3) := dk_get kX12_valueOf_ok 71 rfl
theorem dX12_valueOf_134 : decode cX12_valueOf 134 = .ok (.aload_n 0, 1) := dk_get kX12_valueOf_ok 72 rfl
theorem dX12_valueOf_135 : decode cX12_valueOf 135 = .ok (.getfield 77, 3) := dk_get kX12_valueOf_ok 73 rfl
theorem dX12_valueOf_138 : decode cX12_valueOf 138 = .ok (.iconst 0, 1) := dk_get kX12_valueOf_ok 74 rfl
theorem dX12_valueOf_139 : decode cX12_valueOf 139 = .ok (.iaload, 1) := dk_get kX12_valueOf_ok 75 rfl
theorem dX12_valueOf_140 : decode cX12_valueOf 140 = .ok (.ireturn, 1) := dk_get kX12_valueOf_ok 76 rfl
def kX12_two : List (Nat × Instr × Nat) := [(0, .iload_n 0, 1), (1, .tableswitch 156 7 16 #[55, 59, 63, 67, 89, 100, 111, 122, 133, 144], 55), (56, .iload_n 1, 1), (57, .iload_n 2, 1), (58, .iadd, 1), (59, .ireturn, 1), (60, .iload_n 1, 1), (61, .iload_n 2, 1), (62, .isub, 1), (63, .ireturn, 1), (64, .iload_n 1, 1), (65, .iload_n 2, 1), (66, .imul, 1), (67, .ireturn, 1), (68, .iload_n 2, 1), (69, .ifCond .ne 7, 3), (72, .iconst 0, 1), (73, .goto 16, 3), (76, .iload_n 2, 1), (77, .iconst (-1), 1), (78, .if_icmp .ne 8, 3), (81, .iload_n 1, 1), (82, .ineg, 1), (83, .goto 6, 3), (86, .iload_n 1, 1), (87, .iload_n 2, 1), (88, .idiv, 1), (89, .ireturn, 1), (90, .iload_n 1, 1), (91, .iload_n 2, 1), (92, .if_icmp .ge 7, 3), (95, .iload_n 1, 1), (96, .goto 4, 3), (99, .iload_n 2, 1), (100, .ireturn, 1), (101, .iload_n 1, 1), (102, .iload_n 2, 1), (103, .if_icmp .le 7, 3), (106, .iload_n 1, 1), (107, .goto 4, 3), (110, .iload_n 2, 1), (111, .ireturn, 1), (112, .iload_n 1, 1), (113, .iload_n 2, 1), (114, .if_icmp .ge 7, 3), (117, .iconst 1, 1), (118, .goto 4, 3), (121, .iconst 0, 1), (122, .ireturn, 1), (123, .iload_n 1, 1), (124, .iload_n 2, 1), (125, .if_icmp .le 7, 3), (128, .iconst 1, 1), (129, .goto 4, 3), (132, .iconst 0, 1), (133, .ireturn, 1), (134, .iload_n 1, 1), (135, .iload_n 2, 1), (136, .if_icmp .ne 7, 3), (139, .iconst 1, 1), (140, .goto 4, 3), (143, .iconst 0, 1), (144, .ireturn, 1), (145, .iload_n 1, 1), (146, .iload_n 2, 1), (147, .iadd, 1), (148, .ifCond .le 7, 3), (151, .iconst 1, 1), (152, .goto 4, 3), (155, .iconst 0, 1), (156, .ireturn, 1), (157, .iload_n 1, 1), (158, .iload_n 2, 1), (159, .imul, 1), (160, .ireturn, 1)]
set_option maxRecDepth 100000 in
theorem kX12_two_ok : kX12_two.all (fun q => decide (decode cX12_two q.1 = .ok q.2)) = true := by decide +kernel
theorem dX12_two_0 : decode cX12_two 0 = .ok (.iload_n 0, 1) := dk_get kX12_two_ok 0 rfl
theorem dX12_two_1 : decode cX12_two 1 = .ok (.tableswitch 156 7 16 #[55, 59, 63, 67, 89, 100, 111, 122, 133, 144], 55) := dk_get kX12_two_ok 1 rfl
theorem dX12_two_56 : decode cX12_two 56 = .ok (.iload_n 1, 1) := dk_get kX12_two_ok 2 rfl
theorem dX12_two_57 : decode cX12_two 57 = .ok (.iload_n 2, 1) := dk_get kX12_two_ok 3 rfl
theorem dX12_two_58 : decode cX12_two 58 = .ok (.iadd, 1) := dk_get kX12_two_ok 4 rfl
theorem dX12_two_59 : decode cX12_two 59 = .ok (.ireturn, 1) := dk_get kX12_two_ok 5 rfl
theorem dX12_two_60 : decode cX12_two 60 = .ok (.iload_n 1, 1) := dk_get kX12_two_ok 6 rfl
theorem dX12_two_61 : decode cX12_two 61 = .ok (.iload_n 2, 1) := dk_get kX12_two_ok 7 rfl
theorem dX12_two_62 : decode cX12_two 62 = .ok (.isub, 1) := dk_get kX12_two_ok 8 rfl
theorem dX12_two_63 : decode cX12_two 63 = .ok (.ireturn, 1) := dk_get kX12_two_ok 9 rfl
theorem dX12_two_64 : decode cX12_two 64 = .ok (.iload_n 1, 1) := dk_get kX12_two_ok 10 rfl
theorem dX12_two_65 : decode cX12_two 65 = .ok (.iload_n 2, 1) := dk_get kX12_two_ok 11 rfl
theorem dX12_two_66 : decode cX12_two 66 = .ok (.imul, 1) := dk_get kX12_two_ok 12 rfl
theorem dX12_two_67 : decode cX12_two 67 = .ok (.ireturn, 1) := dk_get kX12_two_ok 13 rfl
theorem dX12_two_68 : decode cX12_two 68 = .ok (.iload_n 2, 1) := dk_get kX12_two_ok 14 rfl
theorem dX12_two_69 : decode cX12_two 69 = .ok (.ifCond .ne 7, 3) := dk_get kX12_two_ok 15 rfl
theorem dX12_two_72 : decode cX12_two 72 = .ok (.iconst 0, 1) := dk_get kX12_two_ok 16 rfl
theorem dX12_two_73 : decode cX12_two 73 = .ok (.goto 16, 3) := dk_get kX12_two_ok 17 rfl
theorem dX12_two_76 : decode cX12_two 76 = .ok (.iload_n 2, 1) := dk_get kX12_two_ok 18 rfl
theorem dX12_two_77 : decode cX12_two 77 = .ok (.iconst (-1), 1) := dk_get kX12_two_ok 19 rfl
theorem dX12_two_78 : decode cX12_two 78 = .ok (.if_icmp .ne 8, 3) := dk_get kX12_two_ok 20 rfl
theorem dX12_two_81 : decode cX12_two 81 = .ok (.iload_n 1, 1) := dk_get kX12_two_ok 21 rfl
theorem dX12_two_82 : decode cX12_two 82 = .ok (.ineg, 1) := dk_get kX12_two_ok 22 rfl
theorem dX12_two_83 : decode cX12_two 83 = .ok (.goto 6, 3) := dk_get kX12_two_ok 23 rfl
theorem dX12_two_86 : decode cX12_two 86 = .ok (.iload_n 1, 1) := dk_get kX12_two_ok 24 rfl
theorem dX12_two_87 : decode cX12_two 87 = .ok (.iload_n 2, 1) := dk_get kX12_two_ok 25 rfl
theorem dX12_two_88 : decode cX12_two 88 = .ok (.idiv, 1) := dk_get kX12_two_ok 26 rfl
theorem dX12_two_89 : decode cX12_two 89 = .ok (.ireturn, 1) := dk_get kX12_two_ok 27 rfl
theorem dX12_two_90 : decode cX12_two 90 = .ok (.iload_n 1, 1) := dk_get kX12_two_ok 28 rfl
theorem dX12_two_91 : decode cX12_two 91 = .ok (.iload_n 2, 1) := dk_get kX12_two_ok 29 rfl
theorem dX12_two_92 : decode cX12_two 92 = .ok (.if_icmp .ge 7, 3) := dk_get kX12_two_ok 30 rfl
theorem dX12_two_95 : decode cX12_two 95 = .ok (.iload_n 1, 1) := dk_get kX12_two_ok 31 rfl
theorem dX12_two_96 : decode cX12_two 96 = .ok (.goto 4, 3) := dk_get kX12_two_ok 32 rfl
theorem dX12_two_99 : decode cX12_two 99 = .ok (.iload_n 2, 1) := dk_get kX12_two_ok 33 rfl
theorem dX12_two_100 : decode cX12_two 100 = .ok (.ireturn, 1) := dk_get kX12_two_ok 34 rfl
theorem dX12_two_101 : decode cX12_two 101 = .ok (.iload_n 1, 1) := dk_get kX12_two_ok 35 rfl
theorem dX12_two_102 : decode cX12_two 102 = .ok (.iload_n 2, 1) := dk_get kX12_two_ok 36 rfl
theorem dX12_two_103 : decode cX12_two 103 = .ok (.if_icmp .le 7, 3) := dk_get kX12_two_ok 37 rfl
theorem dX12_two_106 : decode cX12_two 106 = .ok (.iload_n 1, 1) := dk_get kX12_two_ok 38 rfl
theorem dX12_two_107 : decode cX12_two 107 = .ok (.goto 4, 3) := dk_get kX12_two_ok 39 rfl
theorem dX12_two_110 : decode cX12_two 110 = .ok (.iload_n 2, 1) := dk_get kX12_two_ok 40 rfl
theorem dX12_two_111 : decode cX12_two 111 = .ok (.ireturn, 1) := dk_get kX12_two_ok 41 rfl
theorem dX12_two_112 : decode cX12_two 112 = .ok (.iload_n 1, 1) := dk_get kX12_two_ok 42 rfl
theorem dX12_two_113 : decode cX12_two 113 = .ok (.iload_n 2, 1) := dk_get kX12_two_ok 43 rfl
theorem dX12_two_114 : decode cX12_two 114 = .ok (.if_icmp .ge 7, 3) := dk_get kX12_two_ok 44 rfl
theorem dX12_two_117 : decode cX12_two 117 = .ok (.iconst 1, 1) := dk_get kX12_two_ok 45 rfl
theorem dX12_two_118 : decode cX12_two 118 = .ok (.goto 4, 3) := dk_get kX12_two_ok 46 rfl
theorem dX12_two_121 : decode cX12_two 121 = .ok (.iconst 0, 1) := dk_get kX12_two_ok 47 rfl
theorem dX12_two_122 : decode cX12_two 122 = .ok (.ireturn, 1) := dk_get kX12_two_ok 48 rfl
theorem dX12_two_123 : decode cX12_two 123 = .ok (.iload_n 1, 1) := dk_get kX12_two_ok 49 rfl
theorem dX12_two_124 : decode cX12_two 124 = .ok (.iload_n 2, 1) := dk_get kX12_two_ok 50 rfl
theorem dX12_two_125 : decode cX12_two 125 = .ok (.if_icmp .le 7, 3) := dk_get kX12_two_ok 51 rfl
theorem dX12_two_128 : decode cX12_two 128 = .ok (.iconst 1, 1) := dk_get kX12_two_ok 52 rfl
theorem dX12_two_129 : decode cX12_two 129 = .ok (.goto 4, 3) := dk_get kX12_two_ok 53 rfl
theorem dX12_two_132 : decode cX12_two 132 = .ok (.iconst 0, 1) := dk_get kX12_two_ok 54 rfl
theorem dX12_two_133 : decode cX12_two 133 = .ok (.ireturn, 1) := dk_get kX12_two_ok 55 rfl
theorem dX12_two_134 : decode cX12_two 134 = .ok (.iload_n 1, 1) := dk_get kX12_two_ok 56 rfl
theorem dX12_two_135 : decode cX12_two 135 = .ok (.iload_n 2, 1) := dk_get kX12_two_ok 57 rfl
theorem dX12_two_136 : decode cX12_two 136 = .ok (.if_icmp .ne 7, 3) := dk_get kX12_two_ok 58 rfl
theorem dX12_two_139 : decode cX12_two 139 = .ok (.iconst 1, 1) := dk_get kX12_two_ok 59 rfl
theorem dX12_two_140 : decode cX12_two 140 = .ok (.goto 4, 3) := dk_get kX12_two_ok 60 rfl
theorem dX12_two_143 : decode cX12_two 143 = .ok (.iconst 0, 1) := dk_get kX12_two_ok 61 rfl
theorem dX12_two_144 : decode cX12_two 144 = .ok (.ireturn, 1) := dk_get kX12_two_ok 62 rfl
theorem dX12_two_145 : decode cX12_two 145 = .ok (.iload_n 1, 1) := dk_get kX12_two_ok 63 rfl
theorem dX12_two_146 : decode cX12_two 146 = .ok (.iload_n 2, 1) := dk_get kX12_two_ok 64 rfl
theorem dX12_two_147 : decode cX12_two 147 = .ok (.iadd, 1) := dk_get kX12_two_ok 65 rfl
theorem dX12_two_148 : decode cX12_two 148 = .ok (.ifCond .le 7, 3) := dk_get kX12_two_ok 66 rfl
theorem dX12_two_151 : decode cX12_two 151 = .ok (.iconst 1, 1) := dk_get kX12_two_ok 67 rfl
theorem dX12_two_152 : decode cX12_two 152 = .ok (.goto 4, 3) := dk_get kX12_two_ok 68 rfl
theorem dX12_two_155 : decode cX12_two 155 = .ok (.iconst 0, 1) := dk_get kX12_two_ok 69 rfl
theorem dX12_two_156 : decode cX12_two 156 = .ok (.ireturn, 1) := dk_get kX12_two_ok 70 rfl
theorem dX12_two_157 : decode cX12_two 157 = .ok (.iload_n 1, 1) := dk_get kX12_two_ok 71 rfl
theorem dX12_two_158 : decode cX12_two 158 = .ok (.iload_n 2, 1) := dk_get kX12_two_ok 72 rfl
theorem dX12_two_159 : decode cX12_two 159 = .ok (.imul, 1) := dk_get kX12_two_ok 73 rfl
theorem dX12_two_160 : decode cX12_two 160 = .ok (.ireturn, 1) := dk_get kX12_two_ok 74 rfl
def kX12_applies : List (Nat × Instr × Nat) := [(0, .aload_n 0, 1), (1, .getfield 47, 3), (4, .iload_n 1, 1), (5, .iaload, 1), (6, .aload_n 0, 1), (7, .getfield 50, 3), (10, .iload_n 1, 1), (11, .iaload, 1), (12, .if_icmp .eq 25, 3), (15, .aload_n 0, 1), (16, .aload_n 0, 1), (17, .getfield 47, 3), (20, .iload_n 1, 1), (21, .iaload, 1), (22, .aload_n 0, 1), (23, .getfield 50, 3), (26, .iload_n 1, 1), (27, .iaload, 1), (28, .iload_n 2, 1), (29, .iload_n 3, 1), (30, .invokevirtual 334, 3), (33, .iconst 1, 1), (34, .if_icmp .ne 7, 3), (37, .iconst 1, 1), (38, .goto 4, 3), (41, .iconst 0, 1), (42, .ireturn, 1)]
set_option maxRecDepth 100000 in
theorem kX12_applies_ok : kX12_applies.all (fun q => decide (decode cX12_applies q.1 = .ok q.2)) = true := by decide +kernel
theorem dX12_applies_0 : decode cX12_applies 0 = .ok (.aload_n 0, 1) := dk_get kX12_applies_ok 0 rfl
theorem dX12_applies_1 : decode cX12_applies 1 = .ok (.getfield 47, 3) := dk_get kX12_applies_ok 1 rfl
theorem dX12_applies_4 : decode cX12_applies 4 = .ok (.iload_n 1, 1) := dk_get kX12_applies_ok 2 rfl
theorem dX12_applies_5 : decode cX12_applies 5 = .ok (.iaload, 1) := dk_get kX12_applies_ok 3 rfl
theorem dX12_applies_6 : decode cX12_applies 6 = .ok (.aload_n 0, 1) := dk_get kX12_applies_ok 4 rfl
theorem dX12_applies_7 : decode cX12_applies 7 = .ok (.getfield 50, 3) := dk_get kX12_applies_ok 5 rfl
theorem dX12_applies_10 : decode cX12_applies 10 = .ok (.iload_n 1, 1) := dk_get kX12_applies_ok 6 rfl
theorem dX12_applies_11 : decode cX12_applies 11 = .ok (.iaload, 1) := dk_get kX12_applies_ok 7 rfl
theorem dX12_applies_12 : decode cX12_applies 12 = .ok (.if_icmp .eq 25, 3) := dk_get kX12_applies_ok 8 rfl
theorem dX12_applies_15 : decode cX12_applies 15 = .ok (.aload_n 0, 1) := dk_get kX12_applies_ok 9 rfl
theorem dX12_applies_16 : decode cX12_applies 16 = .ok (.aload_n 0, 1) := dk_get kX12_applies_ok 10 rfl
theorem dX12_applies_17 : decode cX12_applies 17 = .ok (.getfield 47, 3) := dk_get kX12_applies_ok 11 rfl
theorem dX12_applies_20 : decode cX12_applies 20 = .ok (.iload_n 1, 1) := dk_get kX12_applies_ok 12 rfl
theorem dX12_applies_21 : decode cX12_applies 21 = .ok (.iaload, 1) := dk_get kX12_applies_ok 13 rfl
theorem dX12_applies_22 : decode cX12_applies 22 = .ok (.aload_n 0, 1) := dk_get kX12_applies_ok 14 rfl
theorem dX12_applies_23 : decode cX12_applies 23 = .ok (.getfield 50, 3) := dk_get kX12_applies_ok 15 rfl
theorem dX12_applies_26 : decode cX12_applies 26 = .ok (.iload_n 1, 1) := dk_get kX12_applies_ok 16 rfl
theorem dX12_applies_27 : decode cX12_applies 27 = .ok (.iaload, 1) := dk_get kX12_applies_ok 17 rfl
theorem dX12_applies_28 : decode cX12_applies 28 = .ok (.iload_n 2, 1) := dk_get kX12_applies_ok 18 rfl
theorem dX12_applies_29 : decode cX12_applies 29 = .ok (.iload_n 3, 1) := dk_get kX12_applies_ok 19 rfl
theorem dX12_applies_30 : decode cX12_applies 30 = .ok (.invokevirtual 334, 3) := dk_get kX12_applies_ok 20 rfl
theorem dX12_applies_33 : decode cX12_applies 33 = .ok (.iconst 1, 1) := dk_get kX12_applies_ok 21 rfl
theorem dX12_applies_34 : decode cX12_applies 34 = .ok (.if_icmp .ne 7, 3) := dk_get kX12_applies_ok 22 rfl
theorem dX12_applies_37 : decode cX12_applies 37 = .ok (.iconst 1, 1) := dk_get kX12_applies_ok 23 rfl
theorem dX12_applies_38 : decode cX12_applies 38 = .ok (.goto 4, 3) := dk_get kX12_applies_ok 24 rfl
theorem dX12_applies_41 : decode cX12_applies 41 = .ok (.iconst 0, 1) := dk_get kX12_applies_ok 25 rfl
theorem dX12_applies_42 : decode cX12_applies 42 = .ok (.ireturn, 1) := dk_get kX12_applies_ok 26 rfl
def kX12_toldAt : List (Nat × Instr × Nat) := [(0, .iconst 0, 1), (1, .istore_n 3, 1), (2, .iload_n 3, 1), (3, .aload_n 0, 1), (4, .getfield 338, 3), (7, .if_icmp .ge 51, 3), (10, .aload_n 0, 1), (11, .getfield 80, 3), (14, .iload_n 3, 1), (15, .iaload, 1), (16, .iload_n 1, 1), (17, .if_icmp .ne 13, 3), (20, .aload_n 0, 1), (21, .getfield 83, 3), (24, .iload_n 3, 1), (25, .iaload, 1), (26, .iload_n 2, 1), (27, .if_icmp .eq 23, 3), (30, .aload_n 0, 1), (31, .getfield 80, 3), (34, .iload_n 3, 1), (35, .iaload, 1), (36, .iload_n 2, 1), (37, .if_icmp .ne 15, 3), (40, .aload_n 0, 1), (41, .getfield 83, 3), (44, .iload_n 3, 1), (45, .iaload, 1), (46, .iload_n 1, 1), (47, .if_icmp .ne 5, 3), (50, .iload_n 3, 1), (51, .ireturn, 1), (52, .iinc 3 1, 3), (55, .goto (-53), 3), (58, .iconst (-1), 1), (59, .ireturn, 1)]
set_option maxRecDepth 100000 in
theorem kX12_toldAt_ok : kX12_toldAt.all (fun q => decide (decode cX12_toldAt q.1 = .ok q.2)) = true := by decide +kernel
theorem dX12_toldAt_0 : decode cX12_toldAt 0 = .ok (.iconst 0, 1) := dk_get kX12_toldAt_ok 0 rfl
theorem dX12_toldAt_1 : decode cX12_toldAt 1 = .ok (.istore_n 3, 1) := dk_get kX12_toldAt_ok 1 rfl
theorem dX12_toldAt_2 : decode cX12_toldAt 2 = .ok (.iload_n 3, 1) := dk_get kX12_toldAt_ok 2 rfl
theorem dX12_toldAt_3 : decode cX12_toldAt 3 = .ok (.aload_n 0, 1) := dk_get kX12_toldAt_ok 3 rfl
theorem dX12_toldAt_4 : decode cX12_toldAt 4 = .ok (.getfield 338, 3) := dk_get kX12_toldAt_ok 4 rfl
theorem dX12_toldAt_7 : decode cX12_toldAt 7 = .ok (.if_icmp .ge 51, 3) := dk_get kX12_toldAt_ok 5 rfl
theorem dX12_toldAt_10 : decode cX12_toldAt 10 = .ok (.aload_n 0, 1) := dk_get kX12_toldAt_ok 6 rfl
theorem dX12_toldAt_11 : decode cX12_toldAt 11 = .ok (.getfield 80, 3) := dk_get kX12_toldAt_ok 7 rfl
theorem dX12_toldAt_14 : decode cX12_toldAt 14 = .ok (.iload_n 3, 1) := dk_get kX12_toldAt_ok 8 rfl
theorem dX12_toldAt_15 : decode cX12_toldAt 15 = .ok (.iaload, 1) := dk_get kX12_toldAt_ok 9 rfl
theorem dX12_toldAt_16 : decode cX12_toldAt 16 = .ok (.iload_n 1, 1) := dk_get kX12_toldAt_ok 10 rfl
theorem dX12_toldAt_17 : decode cX12_toldAt 17 = .ok (.if_icmp .ne 13, 3) := dk_get kX12_toldAt_ok 11 rfl
theorem dX12_toldAt_20 : decode cX12_toldAt 20 = .ok (.aload_n 0, 1) := dk_get kX12_toldAt_ok 12 rfl
theorem dX12_toldAt_21 : decode cX12_toldAt 21 = .ok (.getfield 83, 3) := dk_get kX12_toldAt_ok 13 rfl
theorem dX12_toldAt_24 : decode cX12_toldAt 24 = .ok (.iload_n 3, 1) := dk_get kX12_toldAt_ok 14 rfl
theorem dX12_toldAt_25 : decode cX12_toldAt 25 = .ok (.iaload, 1) := dk_get kX12_toldAt_ok 15 rfl
theorem dX12_toldAt_26 : decode cX12_toldAt 26 = .ok (.iload_n 2, 1) := dk_get kX12_toldAt_ok 16 rfl
theorem dX12_toldAt_27 : decode cX12_toldAt 27 = .ok (.if_icmp .eq 23, 3) := dk_get kX12_toldAt_ok 17 rfl
theorem dX12_toldAt_30 : decode cX12_toldAt 30 = .ok (.aload_n 0, 1) := dk_get kX12_toldAt_ok 18 rfl
theorem dX12_toldAt_31 : decode cX12_toldAt 31 = .ok (.getfield 80, 3) := dk_get kX12_toldAt_ok 19 rfl
theorem dX12_toldAt_34 : decode cX12_toldAt 34 = .ok (.iload_n 3, 1) := dk_get kX12_toldAt_ok 20 rfl
theorem dX12_toldAt_35 : decode cX12_toldAt 35 = .ok (.iaload, 1) := dk_get kX12_toldAt_ok 21 rfl
theorem dX12_toldAt_36 : decode cX12_toldAt 36 = .ok (.iload_n 2, 1) := dk_get kX12_toldAt_ok 22 rfl
theorem dX12_toldAt_37 : decode cX12_toldAt 37 = .ok (.if_icmp .ne 15, 3) := dk_get kX12_toldAt_ok 23 rfl
theorem dX12_toldAt_40 : decode cX12_toldAt 40 = .ok (.aload_n 0, 1) := dk_get kX12_toldAt_ok 24 rfl
theorem dX12_toldAt_41 : decode cX12_toldAt 41 = .ok (.getfield 83, 3) := dk_get kX12_toldAt_ok 25 rfl
theorem dX12_toldAt_44 : decode cX12_toldAt 44 = .ok (.iload_n 3, 1) := dk_get kX12_toldAt_ok 26 rfl
theorem dX12_toldAt_45 : decode cX12_toldAt 45 = .ok (.iaload, 1) := dk_get kX12_toldAt_ok 27 rfl
theorem dX12_toldAt_46 : decode cX12_toldAt 46 = .ok (.iload_n 1, 1) := dk_get kX12_toldAt_ok 28 rfl
theorem dX12_toldAt_47 : decode cX12_toldAt 47 = .ok (.if_icmp .ne 5, 3) := dk_get kX12_toldAt_ok 29 rfl
theorem dX12_toldAt_50 : decode cX12_toldAt 50 = .ok (.iload_n 3, 1) := dk_get kX12_toldAt_ok 30 rfl
theorem dX12_toldAt_51 : decode cX12_toldAt 51 = .ok (.ireturn, 1) := dk_get kX12_toldAt_ok 31 rfl
theorem dX12_toldAt_52 : decode cX12_toldAt 52 = .ok (.iinc 3 1, 3) := dk_get kX12_toldAt_ok 32 rfl
theorem dX12_toldAt_55 : decode cX12_toldAt 55 = .ok (.goto (-53), 3) := dk_get kX12_toldAt_ok 33 rfl
theorem dX12_toldAt_58 : decode cX12_toldAt 58 = .ok (.iconst (-1), 1) := dk_get kX12_toldAt_ok 34 rfl
theorem dX12_toldAt_59 : decode cX12_toldAt 59 = .ok (.ireturn, 1) := dk_get kX12_toldAt_ok 35 rfl
def kX12_isPassed : List (Nat × Instr × Nat) := [(0, .iconst 0, 1), (1, .istore_n 3, 1), (2, .iconst 0, 1), (3, .istore 4, 2), (5, .iload 4, 2), (7, .aload_n 0, 1), (8, .getfield 320, 3), (11, .if_icmp .ge 38, 3), (14, .aload_n 0, 1), (15, .getfield 41, 3), (18, .iload 4, 2), (20, .iaload, 1), (21, .iconst 3, 1), (22, .if_icmp .eq 6, 3), (25, .goto 18, 3), (28, .aload_n 0, 1), (29, .iload 4, 2), (31, .iload_n 1, 1), (32, .iload_n 2, 1), (33, .invokevirtual 341, 3), (36, .ifCond .eq 5, 3), (39, .iconst 0, 1), (40, .ireturn, 1), (41, .iconst 1, 1), (42, .istore_n 3, 1), (43, .iinc 4 1, 3), (46, .goto (-41), 3), (49, .iload_n 3, 1), (50, .ireturn, 1)]
set_option maxRecDepth 100000 in
theorem kX12_isPassed_ok : kX12_isPassed.all (fun q => decide (decode cX12_isPassed q.1 = .ok q.2)) = true := by decide +kernel
theorem dX12_isPassed_0 : decode cX12_isPassed 0 = .ok (.iconst 0, 1) := dk_get kX12_isPassed_ok 0 rfl
theorem dX12_isPassed_1 : decode cX12_isPassed 1 = .ok (.istore_n 3, 1) := dk_get kX12_isPassed_ok 1 rfl
theorem dX12_isPassed_2 : decode cX12_isPassed 2 = .ok (.iconst 0, 1) := dk_get kX12_isPassed_ok 2 rfl
theorem dX12_isPassed_3 : decode cX12_isPassed 3 = .ok (.istore 4, 2) := dk_get kX12_isPassed_ok 3 rfl
theorem dX12_isPassed_5 : decode cX12_isPassed 5 = .ok (.iload 4, 2) := dk_get kX12_isPassed_ok 4 rfl
theorem dX12_isPassed_7 : decode cX12_isPassed 7 = .ok (.aload_n 0, 1) := dk_get kX12_isPassed_ok 5 rfl
theorem dX12_isPassed_8 : decode cX12_isPassed 8 = .ok (.getfield 320, 3) := dk_get kX12_isPassed_ok 6 rfl
theorem dX12_isPassed_11 : decode cX12_isPassed 11 = .ok (.if_icmp .ge 38, 3) := dk_get kX12_isPassed_ok 7 rfl
theorem dX12_isPassed_14 : decode cX12_isPassed 14 = .ok (.aload_n 0, 1) := dk_get kX12_isPassed_ok 8 rfl
theorem dX12_isPassed_15 : decode cX12_isPassed 15 = .ok (.getfield 41, 3) := dk_get kX12_isPassed_ok 9 rfl
theorem dX12_isPassed_18 : decode cX12_isPassed 18 = .ok (.iload 4, 2) := dk_get kX12_isPassed_ok 10 rfl
theorem dX12_isPassed_20 : decode cX12_isPassed 20 = .ok (.iaload, 1) := dk_get kX12_isPassed_ok 11 rfl
theorem dX12_isPassed_21 : decode cX12_isPassed 21 = .ok (.iconst 3, 1) := dk_get kX12_isPassed_ok 12 rfl
theorem dX12_isPassed_22 : decode cX12_isPassed 22 = .ok (.if_icmp .eq 6, 3) := dk_get kX12_isPassed_ok 13 rfl
theorem dX12_isPassed_25 : decode cX12_isPassed 25 = .ok (.goto 18, 3) := dk_get kX12_isPassed_ok 14 rfl
theorem dX12_isPassed_28 : decode cX12_isPassed 28 = .ok (.aload_n 0, 1) := dk_get kX12_isPassed_ok 15 rfl
theorem dX12_isPassed_29 : decode cX12_isPassed 29 = .ok (.iload 4, 2) := dk_get kX12_isPassed_ok 16 rfl
theorem dX12_isPassed_31 : decode cX12_isPassed 31 = .ok (.iload_n 1, 1) := dk_get kX12_isPassed_ok 17 rfl
theorem dX12_isPassed_32 : decode cX12_isPassed 32 = .ok (.iload_n 2, 1) := dk_get kX12_isPassed_ok 18 rfl
theorem dX12_isPassed_33 : decode cX12_isPassed 33 = .ok (.invokevirtual 341, 3) := dk_get kX12_isPassed_ok 19 rfl
theorem dX12_isPassed_36 : decode cX12_isPassed 36 = .ok (.ifCond .eq 5, 3) := dk_get kX12_isPassed_ok 20 rfl
theorem dX12_isPassed_39 : decode cX12_isPassed 39 = .ok (.iconst 0, 1) := dk_get kX12_isPassed_ok 21 rfl
theorem dX12_isPassed_40 : decode cX12_isPassed 40 = .ok (.ireturn, 1) := dk_get kX12_isPassed_ok 22 rfl
theorem dX12_isPassed_41 : decode cX12_isPassed 41 = .ok (.iconst 1, 1) := dk_get kX12_isPassed_ok 23 rfl
theorem dX12_isPassed_42 : decode cX12_isPassed 42 = .ok (.istore_n 3, 1) := dk_get kX12_isPassed_ok 24 rfl
theorem dX12_isPassed_43 : decode cX12_isPassed 43 = .ok (.iinc 4 1, 3) := dk_get kX12_isPassed_ok 25 rfl
theorem dX12_isPassed_46 : decode cX12_isPassed 46 = .ok (.goto (-41), 3) := dk_get kX12_isPassed_ok 26 rfl
theorem dX12_isPassed_49 : decode cX12_isPassed 49 = .ok (.iload_n 3, 1) := dk_get kX12_isPassed_ok 27 rfl
theorem dX12_isPassed_50 : decode cX12_isPassed 50 = .ok (.ireturn, 1) := dk_get kX12_isPassed_ok 28 rfl
def kX12_weightOf : List (Nat × Instr × Nat) := [(0, .aload_n 0, 1), (1, .iload_n 1, 1), (2, .iload_n 2, 1), (3, .invokevirtual 344, 3), (6, .istore_n 3, 1), (7, .iload_n 3, 1), (8, .iconst (-1), 1), (9, .if_icmp .eq 10, 3), (12, .aload_n 0, 1), (13, .getfield 86, 3), (16, .iload_n 3, 1), (17, .iaload, 1), (18, .ireturn, 1), (19, .aload_n 0, 1), (20, .iload_n 1, 1), (21, .iload_n 2, 1), (22, .invokevirtual 348, 3), (25, .ifCond .eq 5, 3), (28, .iconst 0, 1), (29, .ireturn, 1), (30, .iconst 0, 1), (31, .istore 4, 2), (33, .iconst 0, 1), (34, .istore 5, 2), (36, .iconst 0, 1), (37, .istore 6, 2), (39, .iload 6, 2), (41, .aload_n 0, 1), (42, .getfield 320, 3), (45, .if_icmp .ge 117, 3), (48, .aload_n 0, 1), (49, .iload 6, 2), (51, .iload_n 1, 1), (52, .iload_n 2, 1), (53, .invokevirtual 341, 3), (56, .ifCond .ne 6, 3), (59, .goto 97, 3), (62, .iload 5, 2), (64, .ifCond .ne 14, 3), (67, .aload_n 0, 1), (68, .getfield 41, 3), (71, .iload 6, 2), (73, .iaload, 1), (74, .iconst 2, 1), (75, .if_icmp .ne 7, 3), (78, .iconst 1, 1), (79, .goto 4, 3), (82, .iconst 0, 1), (83, .istore 5, 2), (85, .aload_n 0, 1), (86, .getfield 41, 3), (89, .iload 6, 2), (91, .iaload, 1), (92, .ifCond .ne 28, 3), (95, .iload 4, 2), (97, .aload_n 0, 1), (98, .aload_n 0, 1), (99, .getfield 44, 3), (102, .iload 6, 2), (104, .iaload, 1), (105, .aload_n 0, 1), (106, .getfield 47, 3), (109, .iload 6, 2), (111, .iaload, 1), (112, .iload_n 1, 1), (113, .iload_n 2, 1), (114, .invokevirtual 334, 3), (117, .iadd, 1), (118, .istore 4, 2), (120, .aload_n 0, 1), (121, .getfield 41, 3), (124, .iload 6, 2), (126, .iaload, 1), (127, .iconst 1, 1), (128, .if_icmp .ne 28, 3), (131, .iload 4, 2), (133, .aload_n 0, 1), (134, .aload_n 0, 1), (135, .getfield 44, 3), (138, .iload 6, 2), (140, .iaload, 1), (141, .aload_n 0, 1), (142, .getfield 47, 3), (145, .iload 6, 2), (147, .iaload, 1), (148, .iload_n 1, 1), (149, .iload_n 2, 1), (150, .invokevirtual 334, 3), (153, .isub, 1), (154, .istore 4, 2), (156, .iinc 6 1, 3), (159, .goto (-120), 3), (162, .iload 5, 2), (164, .ifCond .eq 9, 3), (167, .ldc_w 352, 3), (170, .goto 33, 3), (173, .iload 4, 2), (175, .sipush (-10000), 3), (178, .if_icmp .ge 9, 3), (181, .sipush (-10000), 3), (184, .goto 19, 3), (187, .iload 4, 2), (189, .sipush 10000, 3), (192, .if_icmp .le 9, 3), (195, .sipush 10000, 3), (198, .goto 5, 3), (201, .iload 4, 2), (203, .ireturn, 1)]
set_option maxRecDepth 100000 in
theorem kX12_weightOf_ok : kX12_weightOf.all (fun q => decide (decode cX12_weightOf q.1 = .ok q.2)) = true := by decide +kernel
theorem dX12_weightOf_0 : decode cX12_weightOf 0 = .ok (.aload_n 0, 1) := dk_get kX12_weightOf_ok 0 rfl
theorem dX12_weightOf_1 : decode cX12_weightOf 1 = .ok (.iload_n 1, 1) := dk_get kX12_weightOf_ok 1 rfl
theorem dX12_weightOf_2 : decode cX12_weightOf 2 = .ok (.iload_n 2, 1) := dk_get kX12_weightOf_ok 2 rfl
theorem dX12_weightOf_3 : decode cX12_weightOf 3 = .ok (.invokevirtual 344, 3) := dk_get kX12_weightOf_ok 3 rfl
theorem dX12_weightOf_6 : decode cX12_weightOf 6 = .ok (.istore_n 3, 1) := dk_get kX12_weightOf_ok 4 rfl
theorem dX12_weightOf_7 : decode cX12_weightOf 7 = .ok (.iload_n 3, 1) := dk_get kX12_weightOf_ok 5 rfl
theorem dX12_weightOf_8 : decode cX12_weightOf 8 = .ok (.iconst (-1), 1) := dk_get kX12_weightOf_ok 6 rfl
theorem dX12_weightOf_9 : decode cX12_weightOf 9 = .ok (.if_icmp .eq 10, 3) := dk_get kX12_weightOf_ok 7 rfl
theorem dX12_weightOf_12 : decode cX12_weightOf 12 = .ok (.aload_n 0, 1) := dk_get kX12_weightOf_ok 8 rfl
theorem dX12_weightOf_13 : decode cX12_weightOf 13 = .ok (.getfield 86, 3) := dk_get kX12_weightOf_ok 9 rfl
theorem dX12_weightOf_16 : decode cX12_weightOf 16 = .ok (.iload_n 3, 1) := dk_get kX12_weightOf_ok 10 rfl
theorem dX12_weightOf_17 : decode cX12_weightOf 17 = .ok (.iaload, 1) := dk_get kX12_weightOf_ok 11 rfl
theorem dX12_weightOf_18 : decode cX12_weightOf 18 = .ok (.ireturn, 1) := dk_get kX12_weightOf_ok 12 rfl
theorem dX12_weightOf_19 : decode cX12_weightOf 19 = .ok (.aload_n 0, 1) := dk_get kX12_weightOf_ok 13 rfl
theorem dX12_weightOf_20 : decode cX12_weightOf 20 = .ok (.iload_n 1, 1) := dk_get kX12_weightOf_ok 14 rfl
theorem dX12_weightOf_21 : decode cX12_weightOf 21 = .ok (.iload_n 2, 1) := dk_get kX12_weightOf_ok 15 rfl
theorem dX12_weightOf_22 : decode cX12_weightOf 22 = .ok (.invokevirtual 348, 3) := dk_get kX12_weightOf_ok 16 rfl
theorem dX12_weightOf_25 : decode cX12_weightOf 25 = .ok (.ifCond .eq 5, 3) := dk_get kX12_weightOf_ok 17 rfl
theorem dX12_weightOf_28 : decode cX12_weightOf 28 = .ok (.iconst 0, 1) := dk_get kX12_weightOf_ok 18 rfl
theorem dX12_weightOf_29 : decode cX12_weightOf 29 = .ok (.ireturn, 1) := dk_get kX12_weightOf_ok 19 rfl
theorem dX12_weightOf_30 : decode cX12_weightOf 30 = .ok (.iconst 0, 1) := dk_get kX12_weightOf_ok 20 rfl
theorem dX12_weightOf_31 : decode cX12_weightOf 31 = .ok (.istore 4, 2) := dk_get kX12_weightOf_ok 21 rfl
theorem dX12_weightOf_33 : decode cX12_weightOf 33 = .ok (.iconst 0, 1) := dk_get kX12_weightOf_ok 22 rfl
theorem dX12_weightOf_34 : decode cX12_weightOf 34 = .ok (.istore 5, 2) := dk_get kX12_weightOf_ok 23 rfl
theorem dX12_weightOf_36 : decode cX12_weightOf 36 = .ok (.iconst 0, 1) := dk_get kX12_weightOf_ok 24 rfl
theorem dX12_weightOf_37 : decode cX12_weightOf 37 = .ok (.istore 6, 2) := dk_get kX12_weightOf_ok 25 rfl
theorem dX12_weightOf_39 : decode cX12_weightOf 39 = .ok (.iload 6, 2) := dk_get kX12_weightOf_ok 26 rfl
theorem dX12_weightOf_41 : decode cX12_weightOf 41 = .ok (.aload_n 0, 1) := dk_get kX12_weightOf_ok 27 rfl
theorem dX12_weightOf_42 : decode cX12_weightOf 42 = .ok (.getfield 320, 3) := dk_get kX12_weightOf_ok 28 rfl
theorem dX12_weightOf_45 : decode cX12_weightOf 45 = .ok (.if_icmp .ge 117, 3) := dk_get kX12_weightOf_ok 29 rfl
theorem dX12_weightOf_48 : decode cX12_weightOf 48 = .ok (.aload_n 0, 1) := dk_get kX12_weightOf_ok 30 rfl
theorem dX12_weightOf_49 : decode cX12_weightOf 49 = .ok (.iload 6, 2) := dk_get kX12_weightOf_ok 31 rfl
theorem dX12_weightOf_51 : decode cX12_weightOf 51 = .ok (.iload_n 1, 1) := dk_get kX12_weightOf_ok 32 rfl
theorem dX12_weightOf_52 : decode cX12_weightOf 52 = .ok (.iload_n 2, 1) := dk_get kX12_weightOf_ok 33 rfl
theorem dX12_weightOf_53 : decode cX12_weightOf 53 = .ok (.invokevirtual 341, 3) := dk_get kX12_weightOf_ok 34 rfl
theorem dX12_weightOf_56 : decode cX12_weightOf 56 = .ok (.ifCond .ne 6, 3) := dk_get kX12_weightOf_ok 35 rfl
theorem dX12_weightOf_59 : decode cX12_weightOf 59 = .ok (.goto 97, 3) := dk_get kX12_weightOf_ok 36 rfl
theorem dX12_weightOf_62 : decode cX12_weightOf 62 = .ok (.iload 5, 2) := dk_get kX12_weightOf_ok 37 rfl
theorem dX12_weightOf_64 : decode cX12_weightOf 64 = .ok (.ifCond .ne 14, 3) := dk_get kX12_weightOf_ok 38 rfl
theorem dX12_weightOf_67 : decode cX12_weightOf 67 = .ok (.aload_n 0, 1) := dk_get kX12_weightOf_ok 39 rfl
theorem dX12_weightOf_68 : decode cX12_weightOf 68 = .ok (.getfield 41, 3) := dk_get kX12_weightOf_ok 40 rfl
theorem dX12_weightOf_71 : decode cX12_weightOf 71 = .ok (.iload 6, 2) := dk_get kX12_weightOf_ok 41 rfl
theorem dX12_weightOf_73 : decode cX12_weightOf 73 = .ok (.iaload, 1) := dk_get kX12_weightOf_ok 42 rfl
theorem dX12_weightOf_74 : decode cX12_weightOf 74 = .ok (.iconst 2, 1) := dk_get kX12_weightOf_ok 43 rfl
theorem dX12_weightOf_75 : decode cX12_weightOf 75 = .ok (.if_icmp .ne 7, 3) := dk_get kX12_weightOf_ok 44 rfl
theorem dX12_weightOf_78 : decode cX12_weightOf 78 = .ok (.iconst 1, 1) := dk_get kX12_weightOf_ok 45 rfl
theorem dX12_weightOf_79 : decode cX12_weightOf 79 = .ok (.goto 4, 3) := dk_get kX12_weightOf_ok 46 rfl
theorem dX12_weightOf_82 : decode cX12_weightOf 82 = .ok (.iconst 0, 1) := dk_get kX12_weightOf_ok 47 rfl
theorem dX12_weightOf_83 : decode cX12_weightOf 83 = .ok (.istore 5, 2) := dk_get kX12_weightOf_ok 48 rfl
theorem dX12_weightOf_85 : decode cX12_weightOf 85 = .ok (.aload_n 0, 1) := dk_get kX12_weightOf_ok 49 rfl
theorem dX12_weightOf_86 : decode cX12_weightOf 86 = .ok (.getfield 41, 3) := dk_get kX12_weightOf_ok 50 rfl
theorem dX12_weightOf_89 : decode cX12_weightOf 89 = .ok (.iload 6, 2) := dk_get kX12_weightOf_ok 51 rfl
theorem dX12_weightOf_91 : decode cX12_weightOf 91 = .ok (.iaload, 1) := dk_get kX12_weightOf_ok 52 rfl
theorem dX12_weightOf_92 : decode cX12_weightOf 92 = .ok (.ifCond .ne 28, 3) := dk_get kX12_weightOf_ok 53 rfl
theorem dX12_weightOf_95 : decode cX12_weightOf 95 = .ok (.iload 4, 2) := dk_get kX12_weightOf_ok 54 rfl
theorem dX12_weightOf_97 : decode cX12_weightOf 97 = .ok (.aload_n 0, 1) := dk_get kX12_weightOf_ok 55 rfl
theorem dX12_weightOf_98 : decode cX12_weightOf 98 = .ok (.aload_n 0, 1) := dk_get kX12_weightOf_ok 56 rfl
theorem dX12_weightOf_99 : decode cX12_weightOf 99 = .ok (.getfield 44, 3) := dk_get kX12_weightOf_ok 57 rfl
theorem dX12_weightOf_102 : decode cX12_weightOf 102 = .ok (.iload 6, 2) := dk_get kX12_weightOf_ok 58 rfl
theorem dX12_weightOf_104 : decode cX12_weightOf 104 = .ok (.iaload, 1) := dk_get kX12_weightOf_ok 59 rfl
theorem dX12_weightOf_105 : decode cX12_weightOf 105 = .ok (.aload_n 0, 1) := dk_get kX12_weightOf_ok 60 rfl
theorem dX12_weightOf_106 : decode cX12_weightOf 106 = .ok (.getfield 47, 3) := dk_get kX12_weightOf_ok 61 rfl
theorem dX12_weightOf_109 : decode cX12_weightOf 109 = .ok (.iload 6, 2) := dk_get kX12_weightOf_ok 62 rfl
theorem dX12_weightOf_111 : decode cX12_weightOf 111 = .ok (.iaload, 1) := dk_get kX12_weightOf_ok 63 rfl
theorem dX12_weightOf_112 : decode cX12_weightOf 112 = .ok (.iload_n 1, 1) := dk_get kX12_weightOf_ok 64 rfl
theorem dX12_weightOf_113 : decode cX12_weightOf 113 = .ok (.iload_n 2, 1) := dk_get kX12_weightOf_ok 65 rfl
theorem dX12_weightOf_114 : decode cX12_weightOf 114 = .ok (.invokevirtual 334, 3) := dk_get kX12_weightOf_ok 66 rfl
theorem dX12_weightOf_117 : decode cX12_weightOf 117 = .ok (.iadd, 1) := dk_get kX12_weightOf_ok 67 rfl
theorem dX12_weightOf_118 : decode cX12_weightOf 118 = .ok (.istore 4, 2) := dk_get kX12_weightOf_ok 68 rfl
theorem dX12_weightOf_120 : decode cX12_weightOf 120 = .ok (.aload_n 0, 1) := dk_get kX12_weightOf_ok 69 rfl
theorem dX12_weightOf_121 : decode cX12_weightOf 121 = .ok (.getfield 41, 3) := dk_get kX12_weightOf_ok 70 rfl
theorem dX12_weightOf_124 : decode cX12_weightOf 124 = .ok (.iload 6, 2) := dk_get kX12_weightOf_ok 71 rfl
theorem dX12_weightOf_126 : decode cX12_weightOf 126 = .ok (.iaload, 1) := dk_get kX12_weightOf_ok 72 rfl
theorem dX12_weightOf_127 : decode cX12_weightOf 127 = .ok (.iconst 1, 1) := dk_get kX12_weightOf_ok 73 rfl
theorem dX12_weightOf_128 : decode cX12_weightOf 128 = .ok (.if_icmp .ne 28, 3) := dk_get kX12_weightOf_ok 74 rfl
theorem dX12_weightOf_131 : decode cX12_weightOf 131 = .ok (.iload 4, 2) := dk_get kX12_weightOf_ok 75 rfl
theorem dX12_weightOf_133 : decode cX12_weightOf 133 = .ok (.aload_n 0, 1) := dk_get kX12_weightOf_ok 76 rfl
theorem dX12_weightOf_134 : decode cX12_weightOf 134 = .ok (.aload_n 0, 1) := dk_get kX12_weightOf_ok 77 rfl
theorem dX12_weightOf_135 : decode cX12_weightOf 135 = .ok (.getfield 44, 3) := dk_get kX12_weightOf_ok 78 rfl
theorem dX12_weightOf_138 : decode cX12_weightOf 138 = .ok (.iload 6, 2) := dk_get kX12_weightOf_ok 79 rfl
theorem dX12_weightOf_140 : decode cX12_weightOf 140 = .ok (.iaload, 1) := dk_get kX12_weightOf_ok 80 rfl
theorem dX12_weightOf_141 : decode cX12_weightOf 141 = .ok (.aload_n 0, 1) := dk_get kX12_weightOf_ok 81 rfl
theorem dX12_weightOf_142 : decode cX12_weightOf 142 = .ok (.getfield 47, 3) := dk_get kX12_weightOf_ok 82 rfl
theorem dX12_weightOf_145 : decode cX12_weightOf 145 = .ok (.iload 6, 2) := dk_get kX12_weightOf_ok 83 rfl
theorem dX12_weightOf_147 : decode cX12_weightOf 147 = .ok (.iaload, 1) := dk_get kX12_weightOf_ok 84 rfl
theorem dX12_weightOf_148 : decode cX12_weightOf 148 = .ok (.iload_n 1, 1) := dk_get kX12_weightOf_ok 85 rfl
theorem dX12_weightOf_149 : decode cX12_weightOf 149 = .ok (.iload_n 2, 1) := dk_get kX12_weightOf_ok 86 rfl
theorem dX12_weightOf_150 : decode cX12_weightOf 150 = .ok (.invokevirtual 334, 3) := dk_get kX12_weightOf_ok 87 rfl
theorem dX12_weightOf_153 : decode cX12_weightOf 153 = .ok (.isub, 1) := dk_get kX12_weightOf_ok 88 rfl
theorem dX12_weightOf_154 : decode cX12_weightOf 154 = .ok (.istore 4, 2) := dk_get kX12_weightOf_ok 89 rfl
theorem dX12_weightOf_156 : decode cX12_weightOf 156 = .ok (.iinc 6 1, 3) := dk_get kX12_weightOf_ok 90 rfl
theorem dX12_weightOf_159 : decode cX12_weightOf 159 = .ok (.goto (-120), 3) := dk_get kX12_weightOf_ok 91 rfl
theorem dX12_weightOf_162 : decode cX12_weightOf 162 = .ok (.iload 5, 2) := dk_get kX12_weightOf_ok 92 rfl
theorem dX12_weightOf_164 : decode cX12_weightOf 164 = .ok (.ifCond .eq 9, 3) := dk_get kX12_weightOf_ok 93 rfl
theorem dX12_weightOf_167 : decode cX12_weightOf 167 = .ok (.ldc_w 352, 3) := dk_get kX12_weightOf_ok 94 rfl
theorem dX12_weightOf_170 : decode cX12_weightOf 170 = .ok (.goto 33, 3) := dk_get kX12_weightOf_ok 95 rfl
theorem dX12_weightOf_173 : decode cX12_weightOf 173 = .ok (.iload 4, 2) := dk_get kX12_weightOf_ok 96 rfl
theorem dX12_weightOf_175 : decode cX12_weightOf 175 = .ok (.sipush (-10000), 3) := dk_get kX12_weightOf_ok 97 rfl
theorem dX12_weightOf_178 : decode cX12_weightOf 178 = .ok (.if_icmp .ge 9, 3) := dk_get kX12_weightOf_ok 98 rfl
theorem dX12_weightOf_181 : decode cX12_weightOf 181 = .ok (.sipush (-10000), 3) := dk_get kX12_weightOf_ok 99 rfl
theorem dX12_weightOf_184 : decode cX12_weightOf 184 = .ok (.goto 19, 3) := dk_get kX12_weightOf_ok 100 rfl
theorem dX12_weightOf_187 : decode cX12_weightOf 187 = .ok (.iload 4, 2) := dk_get kX12_weightOf_ok 101 rfl
theorem dX12_weightOf_189 : decode cX12_weightOf 189 = .ok (.sipush 10000, 3) := dk_get kX12_weightOf_ok 102 rfl
theorem dX12_weightOf_192 : decode cX12_weightOf 192 = .ok (.if_icmp .le 9, 3) := dk_get kX12_weightOf_ok 103 rfl
theorem dX12_weightOf_195 : decode cX12_weightOf 195 = .ok (.sipush 10000, 3) := dk_get kX12_weightOf_ok 104 rfl
theorem dX12_weightOf_198 : decode cX12_weightOf 198 = .ok (.goto 5, 3) := dk_get kX12_weightOf_ok 105 rfl
theorem dX12_weightOf_201 : decode cX12_weightOf 201 = .ok (.iload 4, 2) := dk_get kX12_weightOf_ok 106 rfl
theorem dX12_weightOf_203 : decode cX12_weightOf 203 = .ok (.ireturn, 1) := dk_get kX12_weightOf_ok 107 rfl
def kX12_weighs_0 : List (Nat × Instr × Nat) := [(0, .iconst 0, 1), (1, .istore_n 1, 1), (2, .iload_n 1, 1), (3, .aload_n 0, 1), (4, .getfield 177, 3), (7, .if_icmp .ge 302, 3), (10, .iload_n 1, 1), (11, .iconst 1, 1), (12, .iadd, 1), (13, .istore_n 2, 1), (14, .iload_n 2, 1), (15, .aload_n 0, 1), (16, .getfield 177, 3), (19, .if_icmp .ge 284, 3), (22, .aload_n 0, 1), (23, .iload_n 1, 1), (24, .iload_n 2, 1), (25, .invokevirtual 353, 3), (28, .istore_n 3, 1), (29, .aload_n 0, 1), (30, .getfield 92, 3), (33, .bipush 30, 2), (35, .iload_n 1, 1), (36, .imul, 1), (37, .iload_n 2, 1), (38, .iadd, 1), (39, .iload_n 3, 1), (40, .ldc_w 352, 3), (43, .if_icmp .ne 7, 3), (46, .iconst 1, 1), (47, .goto 4, 3), (50, .iconst 0, 1), (51, .bastore, 1), (52, .aload_n 0, 1), (53, .getfield 92, 3), (56, .bipush 30, 2), (58, .iload_n 2, 1), (59, .imul, 1), (60, .iload_n 1, 1), (61, .iadd, 1), (62, .iload_n 3, 1), (63, .ldc_w 352, 3), (66, .if_icmp .ne 7, 3), (69, .iconst 1, 1), (70, .goto 4, 3), (73, .iconst 0, 1), (74, .bastore, 1), (75, .aload_n 0, 1), (76, .getfield 89, 3), (79, .bipush 30, 2), (81, .iload_n 1, 1), (82, .imul, 1), (83, .iload_n 2, 1), (84, .iadd, 1), (85, .iload_n 3, 1), (86, .ldc_w 352, 3), (89, .if_icmp .ne 7, 3), (92, .iconst 0, 1), (93, .goto 4, 3), (96, .iload_n 3, 1), (97, .iastore, 1), (98, .aload_n 0, 1), (99, .getfield 89, 3), (102, .bipush 30, 2), (104, .iload_n 2, 1), (105, .imul, 1), (106, .iload_n 1, 1), (107, .iadd, 1), (108, .aload_n 0, 1), (109, .getfield 89, 3), (112, .bipush 30, 2), (114, .iload_n 1, 1), (115, .imul, 1), (116, .iload_n 2, 1), (117, .iadd, 1), (118, .iaload, 1), (119, .iastore, 1), (120, .aload_n 0, 1), (121, .iload_n 1, 1), (122, .iload_n 2, 1), (123, .invokevirtual 356, 3), (126, .istore 4, 2), (128, .aload_n 0, 1), (129, .getfield 99, 3), (132, .bipush 30, 2), (134, .iload_n 1, 1), (135, .imul, 1), (136, .iload_n 2, 1), (137, .iadd, 1), (138, .iload 4, 2), (140, .iconst (-1), 1), (141, .if_icmp .eq 17, 3), (144, .aload_n 0, 1), (145, .getfield 111, 3), (148, .iload 4, 2), (150, .baload, 1), (151, .ifCond .eq 7, 3), (154, .iconst 1, 1), (155, .goto 4, 3), (158, .iconst 0, 1), (159, .bastore, 1), (160, .aload_n 0, 1), (161, .getfield 99, 3), (164, .bipush 30, 2), (166, .iload_n 2, 1), (167, .imul, 1), (168, .iload_n 1, 1), (169, .iadd, 1), (170, .aload_n 0, 1), (171, .getfield 99, 3), (174, .bipush 30, 2), (176, .iload_n 1, 1), (177, .imul, 1), (178, .iload_n 2, 1), (179, .iadd, 1), (180, .baload, 1), (181, .bastore, 1), (182, .aload_n 0, 1), (183, .getfield 96, 3), (186, .bipush 30, 2)]
set_option maxRecDepth 100000 in
theorem kX12_weighs_0_ok : kX12_weighs_0.all (fun q => decide (decode cX12_weighs q.1 = .ok q.2)) = true := by decide +kernel
theorem dX12_weighs_0 : decode cX12_weighs 0 = .ok (.iconst 0, 1) := dk_get kX12_weighs_0_ok 0 rfl
theorem dX12_weighs_1 : decode cX12_weighs 1 = .ok (.istore_n 1, 1) := dk_get kX12_weighs_0_ok 1 rfl
theorem dX12_weighs_2 : decode cX12_weighs 2 = .ok (.iload_n 1, 1) := dk_get kX12_weighs_0_ok 2 rfl
theorem dX12_weighs_3 : decode cX12_weighs 3 = .ok (.aload_n 0, 1) := dk_get kX12_weighs_0_ok 3 rfl
theorem dX12_weighs_4 : decode cX12_weighs 4 = .ok (.getfield 177, 3) := dk_get kX12_weighs_0_ok 4 rfl
theorem dX12_weighs_7 : decode cX12_weighs 7 = .ok (.if_icmp .ge 302, 3) := dk_get kX12_weighs_0_ok 5 rfl
theorem dX12_weighs_10 : decode cX12_weighs 10 = .ok (.iload_n 1, 1) := dk_get kX12_weighs_0_ok 6 rfl
theorem dX12_weighs_11 : decode cX12_weighs 11 = .ok (.iconst 1, 1) := dk_get kX12_weighs_0_ok 7 rfl
theorem dX12_weighs_12 : decode cX12_weighs 12 = .ok (.iadd, 1) := dk_get kX12_weighs_0_ok 8 rfl
theorem dX12_weighs_13 : decode cX12_weighs 13 = .ok (.istore_n 2, 1) := dk_get kX12_weighs_0_ok 9 rfl
theorem dX12_weighs_14 : decode cX12_weighs 14 = .ok (.iload_n 2, 1) := dk_get kX12_weighs_0_ok 10 rfl
theorem dX12_weighs_15 : decode cX12_weighs 15 = .ok (.aload_n 0, 1) := dk_get kX12_weighs_0_ok 11 rfl
theorem dX12_weighs_16 : decode cX12_weighs 16 = .ok (.getfield 177, 3) := dk_get kX12_weighs_0_ok 12 rfl
theorem dX12_weighs_19 : decode cX12_weighs 19 = .ok (.if_icmp .ge 284, 3) := dk_get kX12_weighs_0_ok 13 rfl
theorem dX12_weighs_22 : decode cX12_weighs 22 = .ok (.aload_n 0, 1) := dk_get kX12_weighs_0_ok 14 rfl
theorem dX12_weighs_23 : decode cX12_weighs 23 = .ok (.iload_n 1, 1) := dk_get kX12_weighs_0_ok 15 rfl
theorem dX12_weighs_24 : decode cX12_weighs 24 = .ok (.iload_n 2, 1) := dk_get kX12_weighs_0_ok 16 rfl
theorem dX12_weighs_25 : decode cX12_weighs 25 = .ok (.invokevirtual 353, 3) := dk_get kX12_weighs_0_ok 17 rfl
theorem dX12_weighs_28 : decode cX12_weighs 28 = .ok (.istore_n 3, 1) := dk_get kX12_weighs_0_ok 18 rfl
theorem dX12_weighs_29 : decode cX12_weighs 29 = .ok (.aload_n 0, 1) := dk_get kX12_weighs_0_ok 19 rfl
theorem dX12_weighs_30 : decode cX12_weighs 30 = .ok (.getfield 92, 3) := dk_get kX12_weighs_0_ok 20 rfl
theorem dX12_weighs_33 : decode cX12_weighs 33 = .ok (.bipush 30, 2) := dk_get kX12_weighs_0_ok 21 rfl
theorem dX12_weighs_35 : decode cX12_weighs 35 = .ok (.iload_n 1, 1) := dk_get kX12_weighs_0_ok 22 rfl
theorem dX12_weighs_36 : decode cX12_weighs 36 = .ok (.imul, 1) := dk_get kX12_weighs_0_ok 23 rfl
theorem dX12_weighs_37 : decode cX12_weighs 37 = .ok (.iload_n 2, 1) := dk_get kX12_weighs_0_ok 24 rfl
theorem dX12_weighs_38 : decode cX12_weighs 38 = .ok (.iadd, 1) := dk_get kX12_weighs_0_ok 25 rfl
theorem dX12_weighs_39 : decode cX12_weighs 39 = .ok (.iload_n 3, 1) := dk_get kX12_weighs_0_ok 26 rfl
theorem dX12_weighs_40 : decode cX12_weighs 40 = .ok (.ldc_w 352, 3) := dk_get kX12_weighs_0_ok 27 rfl
theorem dX12_weighs_43 : decode cX12_weighs 43 = .ok (.if_icmp .ne 7, 3) := dk_get kX12_weighs_0_ok 28 rfl
theorem dX12_weighs_46 : decode cX12_weighs 46 = .ok (.iconst 1, 1) := dk_get kX12_weighs_0_ok 29 rfl
theorem dX12_weighs_47 : decode cX12_weighs 47 = .ok (.goto 4, 3) := dk_get kX12_weighs_0_ok 30 rfl
theorem dX12_weighs_50 : decode cX12_weighs 50 = .ok (.iconst 0, 1) := dk_get kX12_weighs_0_ok 31 rfl
theorem dX12_weighs_51 : decode cX12_weighs 51 = .ok (.bastore, 1) := dk_get kX12_weighs_0_ok 32 rfl
theorem dX12_weighs_52 : decode cX12_weighs 52 = .ok (.aload_n 0, 1) := dk_get kX12_weighs_0_ok 33 rfl
theorem dX12_weighs_53 : decode cX12_weighs 53 = .ok (.getfield 92, 3) := dk_get kX12_weighs_0_ok 34 rfl
theorem dX12_weighs_56 : decode cX12_weighs 56 = .ok (.bipush 30, 2) := dk_get kX12_weighs_0_ok 35 rfl
theorem dX12_weighs_58 : decode cX12_weighs 58 = .ok (.iload_n 2, 1) := dk_get kX12_weighs_0_ok 36 rfl
theorem dX12_weighs_59 : decode cX12_weighs 59 = .ok (.imul, 1) := dk_get kX12_weighs_0_ok 37 rfl
theorem dX12_weighs_60 : decode cX12_weighs 60 = .ok (.iload_n 1, 1) := dk_get kX12_weighs_0_ok 38 rfl
theorem dX12_weighs_61 : decode cX12_weighs 61 = .ok (.iadd, 1) := dk_get kX12_weighs_0_ok 39 rfl
theorem dX12_weighs_62 : decode cX12_weighs 62 = .ok (.iload_n 3, 1) := dk_get kX12_weighs_0_ok 40 rfl
theorem dX12_weighs_63 : decode cX12_weighs 63 = .ok (.ldc_w 352, 3) := dk_get kX12_weighs_0_ok 41 rfl
theorem dX12_weighs_66 : decode cX12_weighs 66 = .ok (.if_icmp .ne 7, 3) := dk_get kX12_weighs_0_ok 42 rfl
theorem dX12_weighs_69 : decode cX12_weighs 69 = .ok (.iconst 1, 1) := dk_get kX12_weighs_0_ok 43 rfl
theorem dX12_weighs_70 : decode cX12_weighs 70 = .ok (.goto 4, 3) := dk_get kX12_weighs_0_ok 44 rfl
theorem dX12_weighs_73 : decode cX12_weighs 73 = .ok (.iconst 0, 1) := dk_get kX12_weighs_0_ok 45 rfl
theorem dX12_weighs_74 : decode cX12_weighs 74 = .ok (.bastore, 1) := dk_get kX12_weighs_0_ok 46 rfl
theorem dX12_weighs_75 : decode cX12_weighs 75 = .ok (.aload_n 0, 1) := dk_get kX12_weighs_0_ok 47 rfl
theorem dX12_weighs_76 : decode cX12_weighs 76 = .ok (.getfield 89, 3) := dk_get kX12_weighs_0_ok 48 rfl
theorem dX12_weighs_79 : decode cX12_weighs 79 = .ok (.bipush 30, 2) := dk_get kX12_weighs_0_ok 49 rfl
theorem dX12_weighs_81 : decode cX12_weighs 81 = .ok (.iload_n 1, 1) := dk_get kX12_weighs_0_ok 50 rfl
theorem dX12_weighs_82 : decode cX12_weighs 82 = .ok (.imul, 1) := dk_get kX12_weighs_0_ok 51 rfl
theorem dX12_weighs_83 : decode cX12_weighs 83 = .ok (.iload_n 2, 1) := dk_get kX12_weighs_0_ok 52 rfl
theorem dX12_weighs_84 : decode cX12_weighs 84 = .ok (.iadd, 1) := dk_get kX12_weighs_0_ok 53 rfl
theorem dX12_weighs_85 : decode cX12_weighs 85 = .ok (.iload_n 3, 1) := dk_get kX12_weighs_0_ok 54 rfl
theorem dX12_weighs_86 : decode cX12_weighs 86 = .ok (.ldc_w 352, 3) := dk_get kX12_weighs_0_ok 55 rfl
theorem dX12_weighs_89 : decode cX12_weighs 89 = .ok (.if_icmp .ne 7, 3) := dk_get kX12_weighs_0_ok 56 rfl
theorem dX12_weighs_92 : decode cX12_weighs 92 = .ok (.iconst 0, 1) := dk_get kX12_weighs_0_ok 57 rfl
theorem dX12_weighs_93 : decode cX12_weighs 93 = .ok (.goto 4, 3) := dk_get kX12_weighs_0_ok 58 rfl
theorem dX12_weighs_96 : decode cX12_weighs 96 = .ok (.iload_n 3, 1) := dk_get kX12_weighs_0_ok 59 rfl
theorem dX12_weighs_97 : decode cX12_weighs 97 = .ok (.iastore, 1) := dk_get kX12_weighs_0_ok 60 rfl
theorem dX12_weighs_98 : decode cX12_weighs 98 = .ok (.aload_n 0, 1) := dk_get kX12_weighs_0_ok 61 rfl
theorem dX12_weighs_99 : decode cX12_weighs 99 = .ok (.getfield 89, 3) := dk_get kX12_weighs_0_ok 62 rfl
theorem dX12_weighs_102 : decode cX12_weighs 102 = .ok (.bipush 30, 2) := dk_get kX12_weighs_0_ok 63 rfl
theorem dX12_weighs_104 : decode cX12_weighs 104 = .ok (.iload_n 2, 1) := dk_get kX12_weighs_0_ok 64 rfl
theorem dX12_weighs_105 : decode cX12_weighs 105 = .ok (.imul, 1) := dk_get kX12_weighs_0_ok 65 rfl
theorem dX12_weighs_106 : decode cX12_weighs 106 = .ok (.iload_n 1, 1) := dk_get kX12_weighs_0_ok 66 rfl
theorem dX12_weighs_107 : decode cX12_weighs 107 = .ok (.iadd, 1) := dk_get kX12_weighs_0_ok 67 rfl
theorem dX12_weighs_108 : decode cX12_weighs 108 = .ok (.aload_n 0, 1) := dk_get kX12_weighs_0_ok 68 rfl
theorem dX12_weighs_109 : decode cX12_weighs 109 = .ok (.getfield 89, 3) := dk_get kX12_weighs_0_ok 69 rfl
theorem dX12_weighs_112 : decode cX12_weighs 112 = .ok (.bipush 30, 2) := dk_get kX12_weighs_0_ok 70 rfl
theorem dX12_weighs_114 : decode cX12_weighs 114 = .ok (.iload_n 1, 1) := dk_get kX12_weighs_0_ok 71 rfl
theorem dX12_weighs_115 : decode cX12_weighs 115 = .ok (.imul, 1) := dk_get kX12_weighs_0_ok 72 rfl
theorem dX12_weighs_116 : decode cX12_weighs 116 = .ok (.iload_n 2, 1) := dk_get kX12_weighs_0_ok 73 rfl
theorem dX12_weighs_117 : decode cX12_weighs 117 = .ok (.iadd, 1) := dk_get kX12_weighs_0_ok 74 rfl
theorem dX12_weighs_118 : decode cX12_weighs 118 = .ok (.iaload, 1) := dk_get kX12_weighs_0_ok 75 rfl
theorem dX12_weighs_119 : decode cX12_weighs 119 = .ok (.iastore, 1) := dk_get kX12_weighs_0_ok 76 rfl
theorem dX12_weighs_120 : decode cX12_weighs 120 = .ok (.aload_n 0, 1) := dk_get kX12_weighs_0_ok 77 rfl
theorem dX12_weighs_121 : decode cX12_weighs 121 = .ok (.iload_n 1, 1) := dk_get kX12_weighs_0_ok 78 rfl
theorem dX12_weighs_122 : decode cX12_weighs 122 = .ok (.iload_n 2, 1) := dk_get kX12_weighs_0_ok 79 rfl
theorem dX12_weighs_123 : decode cX12_weighs 123 = .ok (.invokevirtual 356, 3) := dk_get kX12_weighs_0_ok 80 rfl
theorem dX12_weighs_126 : decode cX12_weighs 126 = .ok (.istore 4, 2) := dk_get kX12_weighs_0_ok 81 rfl
theorem dX12_weighs_128 : decode cX12_weighs 128 = .ok (.aload_n 0, 1) := dk_get kX12_weighs_0_ok 82 rfl
theorem dX12_weighs_129 : decode cX12_weighs 129 = .ok (.getfield 99, 3) := dk_get kX12_weighs_0_ok 83 rfl
theorem dX12_weighs_132 : decode cX12_weighs 132 = .ok (.bipush 30, 2) := dk_get kX12_weighs_0_ok 84 rfl
theorem dX12_weighs_134 : decode cX12_weighs 134 = .ok (.iload_n 1, 1) := dk_get kX12_weighs_0_ok 85 rfl
theorem dX12_weighs_135 : decode cX12_weighs 135 = .ok (.imul, 1) := dk_get kX12_weighs_0_ok 86 rfl
theorem dX12_weighs_136 : decode cX12_weighs 136 = .ok (.iload_n 2, 1) := dk_get kX12_weighs_0_ok 87 rfl
theorem dX12_weighs_137 : decode cX12_weighs 137 = .ok (.iadd, 1) := dk_get kX12_weighs_0_ok 88 rfl
theorem dX12_weighs_138 : decode cX12_weighs 138 = .ok (.iload 4, 2) := dk_get kX12_weighs_0_ok 89 rfl
theorem dX12_weighs_140 : decode cX12_weighs 140 = .ok (.iconst (-1), 1) := dk_get kX12_weighs_0_ok 90 rfl
theorem dX12_weighs_141 : decode cX12_weighs 141 = .ok (.if_icmp .eq 17, 3) := dk_get kX12_weighs_0_ok 91 rfl
theorem dX12_weighs_144 : decode cX12_weighs 144 = .ok (.aload_n 0, 1) := dk_get kX12_weighs_0_ok 92 rfl
theorem dX12_weighs_145 : decode cX12_weighs 145 = .ok (.getfield 111, 3) := dk_get kX12_weighs_0_ok 93 rfl
theorem dX12_weighs_148 : decode cX12_weighs 148 = .ok (.iload 4, 2) := dk_get kX12_weighs_0_ok 94 rfl
theorem dX12_weighs_150 : decode cX12_weighs 150 = .ok (.baload, 1) := dk_get kX12_weighs_0_ok 95 rfl
theorem dX12_weighs_151 : decode cX12_weighs 151 = .ok (.ifCond .eq 7, 3) := dk_get kX12_weighs_0_ok 96 rfl
theorem dX12_weighs_154 : decode cX12_weighs 154 = .ok (.iconst 1, 1) := dk_get kX12_weighs_0_ok 97 rfl
theorem dX12_weighs_155 : decode cX12_weighs 155 = .ok (.goto 4, 3) := dk_get kX12_weighs_0_ok 98 rfl
theorem dX12_weighs_158 : decode cX12_weighs 158 = .ok (.iconst 0, 1) := dk_get kX12_weighs_0_ok 99 rfl
theorem dX12_weighs_159 : decode cX12_weighs 159 = .ok (.bastore, 1) := dk_get kX12_weighs_0_ok 100 rfl
theorem dX12_weighs_160 : decode cX12_weighs 160 = .ok (.aload_n 0, 1) := dk_get kX12_weighs_0_ok 101 rfl
theorem dX12_weighs_161 : decode cX12_weighs 161 = .ok (.getfield 99, 3) := dk_get kX12_weighs_0_ok 102 rfl
theorem dX12_weighs_164 : decode cX12_weighs 164 = .ok (.bipush 30, 2) := dk_get kX12_weighs_0_ok 103 rfl
theorem dX12_weighs_166 : decode cX12_weighs 166 = .ok (.iload_n 2, 1) := dk_get kX12_weighs_0_ok 104 rfl
theorem dX12_weighs_167 : decode cX12_weighs 167 = .ok (.imul, 1) := dk_get kX12_weighs_0_ok 105 rfl
theorem dX12_weighs_168 : decode cX12_weighs 168 = .ok (.iload_n 1, 1) := dk_get kX12_weighs_0_ok 106 rfl
theorem dX12_weighs_169 : decode cX12_weighs 169 = .ok (.iadd, 1) := dk_get kX12_weighs_0_ok 107 rfl
theorem dX12_weighs_170 : decode cX12_weighs 170 = .ok (.aload_n 0, 1) := dk_get kX12_weighs_0_ok 108 rfl
theorem dX12_weighs_171 : decode cX12_weighs 171 = .ok (.getfield 99, 3) := dk_get kX12_weighs_0_ok 109 rfl
theorem dX12_weighs_174 : decode cX12_weighs 174 = .ok (.bipush 30, 2) := dk_get kX12_weighs_0_ok 110 rfl
theorem dX12_weighs_176 : decode cX12_weighs 176 = .ok (.iload_n 1, 1) := dk_get kX12_weighs_0_ok 111 rfl
theorem dX12_weighs_177 : decode cX12_weighs 177 = .ok (.imul, 1) := dk_get kX12_weighs_0_ok 112 rfl
theorem dX12_weighs_178 : decode cX12_weighs 178 = .ok (.iload_n 2, 1) := dk_get kX12_weighs_0_ok 113 rfl
theorem dX12_weighs_179 : decode cX12_weighs 179 = .ok (.iadd, 1) := dk_get kX12_weighs_0_ok 114 rfl
theorem dX12_weighs_180 : decode cX12_weighs 180 = .ok (.baload, 1) := dk_get kX12_weighs_0_ok 115 rfl
theorem dX12_weighs_181 : decode cX12_weighs 181 = .ok (.bastore, 1) := dk_get kX12_weighs_0_ok 116 rfl
theorem dX12_weighs_182 : decode cX12_weighs 182 = .ok (.aload_n 0, 1) := dk_get kX12_weighs_0_ok 117 rfl
theorem dX12_weighs_183 : decode cX12_weighs 183 = .ok (.getfield 96, 3) := dk_get kX12_weighs_0_ok 118 rfl
theorem dX12_weighs_186 : decode cX12_weighs 186 = .ok (.bipush 30, 2) := dk_get kX12_weighs_0_ok 119 rfl
def kX12_weighs_1 : List (Nat × Instr × Nat) := [(188, .iload_n 1, 1), (189, .imul, 1), (190, .iload_n 2, 1), (191, .iadd, 1), (192, .iload_n 3, 1), (193, .ldc_w 352, 3), (196, .if_icmp .eq 73, 3), (199, .iload 4, 2), (201, .iconst (-1), 1), (202, .if_icmp .eq 13, 3), (205, .aload_n 0, 1), (206, .getfield 111, 3), (209, .iload 4, 2), (211, .baload, 1), (212, .ifCond .eq 57, 3), (215, .aload_n 0, 1), (216, .getfield 359, 3), (219, .iconst 1, 1), (220, .if_icmp .ne 18, 3), (223, .aload_n 0, 1), (224, .getfield 13, 3), (227, .iload_n 1, 1), (228, .iaload, 1), (229, .aload_n 0, 1), (230, .getfield 13, 3), (233, .iload_n 2, 1), (234, .iaload, 1), (235, .if_icmp .eq 34, 3), (238, .aload_n 0, 1), (239, .getfield 102, 3), (242, .iconst (-1), 1), (243, .if_icmp .eq 30, 3), (246, .aload_n 0, 1), (247, .getfield 23, 3), (250, .iload_n 1, 1), (251, .iaload, 1), (252, .aload_n 0, 1), (253, .getfield 23, 3), (256, .iload_n 2, 1), (257, .iaload, 1), (258, .isub, 1), (259, .invokestatic 323, 3), (262, .aload_n 0, 1), (263, .getfield 102, 3), (266, .if_icmp .le 7, 3), (269, .iconst 1, 1), (270, .goto 4, 3), (273, .iconst 0, 1), (274, .bastore, 1), (275, .aload_n 0, 1), (276, .getfield 96, 3), (279, .bipush 30, 2), (281, .iload_n 2, 1), (282, .imul, 1), (283, .iload_n 1, 1), (284, .iadd, 1), (285, .aload_n 0, 1), (286, .getfield 96, 3), (289, .bipush 30, 2), (291, .iload_n 1, 1), (292, .imul, 1), (293, .iload_n 2, 1), (294, .iadd, 1), (295, .baload, 1), (296, .bastore, 1), (297, .iinc 2 1, 3), (300, .goto (-286), 3), (303, .iinc 1 1, 3), (306, .goto (-304), 3), (309, .return_, 1)]
set_option maxRecDepth 100000 in
theorem kX12_weighs_1_ok : kX12_weighs_1.all (fun q => decide (decode cX12_weighs q.1 = .ok q.2)) = true := by decide +kernel
theorem dX12_weighs_188 : decode cX12_weighs 188 = .ok (.iload_n 1, 1) := dk_get kX12_weighs_1_ok 0 rfl
theorem dX12_weighs_189 : decode cX12_weighs 189 = .ok (.imul, 1) := dk_get kX12_weighs_1_ok 1 rfl
theorem dX12_weighs_190 : decode cX12_weighs 190 = .ok (.iload_n 2, 1) := dk_get kX12_weighs_1_ok 2 rfl
theorem dX12_weighs_191 : decode cX12_weighs 191 = .ok (.iadd, 1) := dk_get kX12_weighs_1_ok 3 rfl
theorem dX12_weighs_192 : decode cX12_weighs 192 = .ok (.iload_n 3, 1) := dk_get kX12_weighs_1_ok 4 rfl
theorem dX12_weighs_193 : decode cX12_weighs 193 = .ok (.ldc_w 352, 3) := dk_get kX12_weighs_1_ok 5 rfl
theorem dX12_weighs_196 : decode cX12_weighs 196 = .ok (.if_icmp .eq 73, 3) := dk_get kX12_weighs_1_ok 6 rfl
theorem dX12_weighs_199 : decode cX12_weighs 199 = .ok (.iload 4, 2) := dk_get kX12_weighs_1_ok 7 rfl
theorem dX12_weighs_201 : decode cX12_weighs 201 = .ok (.iconst (-1), 1) := dk_get kX12_weighs_1_ok 8 rfl
theorem dX12_weighs_202 : decode cX12_weighs 202 = .ok (.if_icmp .eq 13, 3) := dk_get kX12_weighs_1_ok 9 rfl
theorem dX12_weighs_205 : decode cX12_weighs 205 = .ok (.aload_n 0, 1) := dk_get kX12_weighs_1_ok 10 rfl
theorem dX12_weighs_206 : decode cX12_weighs 206 = .ok (.getfield 111, 3) := dk_get kX12_weighs_1_ok 11 rfl
theorem dX12_weighs_209 : decode cX12_weighs 209 = .ok (.iload 4, 2) := dk_get kX12_weighs_1_ok 12 rfl
theorem dX12_weighs_211 : decode cX12_weighs 211 = .ok (.baload, 1) := dk_get kX12_weighs_1_ok 13 rfl
theorem dX12_weighs_212 : decode cX12_weighs 212 = .ok (.ifCond .eq 57, 3) := dk_get kX12_weighs_1_ok 14 rfl
theorem dX12_weighs_215 : decode cX12_weighs 215 = .ok (.aload_n 0, 1) := dk_get kX12_weighs_1_ok 15 rfl
theorem dX12_weighs_216 : decode cX12_weighs 216 = .ok (.getfield 359, 3) := dk_get kX12_weighs_1_ok 16 rfl
theorem dX12_weighs_219 : decode cX12_weighs 219 = .ok (.iconst 1, 1) := dk_get kX12_weighs_1_ok 17 rfl
theorem dX12_weighs_220 : decode cX12_weighs 220 = .ok (.if_icmp .ne 18, 3) := dk_get kX12_weighs_1_ok 18 rfl
theorem dX12_weighs_223 : decode cX12_weighs 223 = .ok (.aload_n 0, 1) := dk_get kX12_weighs_1_ok 19 rfl
theorem dX12_weighs_224 : decode cX12_weighs 224 = .ok (.getfield 13, 3) := dk_get kX12_weighs_1_ok 20 rfl
theorem dX12_weighs_227 : decode cX12_weighs 227 = .ok (.iload_n 1, 1) := dk_get kX12_weighs_1_ok 21 rfl
theorem dX12_weighs_228 : decode cX12_weighs 228 = .ok (.iaload, 1) := dk_get kX12_weighs_1_ok 22 rfl
theorem dX12_weighs_229 : decode cX12_weighs 229 = .ok (.aload_n 0, 1) := dk_get kX12_weighs_1_ok 23 rfl
theorem dX12_weighs_230 : decode cX12_weighs 230 = .ok (.getfield 13, 3) := dk_get kX12_weighs_1_ok 24 rfl
theorem dX12_weighs_233 : decode cX12_weighs 233 = .ok (.iload_n 2, 1) := dk_get kX12_weighs_1_ok 25 rfl
theorem dX12_weighs_234 : decode cX12_weighs 234 = .ok (.iaload, 1) := dk_get kX12_weighs_1_ok 26 rfl
theorem dX12_weighs_235 : decode cX12_weighs 235 = .ok (.if_icmp .eq 34, 3) := dk_get kX12_weighs_1_ok 27 rfl
theorem dX12_weighs_238 : decode cX12_weighs 238 = .ok (.aload_n 0, 1) := dk_get kX12_weighs_1_ok 28 rfl
theorem dX12_weighs_239 : decode cX12_weighs 239 = .ok (.getfield 102, 3) := dk_get kX12_weighs_1_ok 29 rfl
theorem dX12_weighs_242 : decode cX12_weighs 242 = .ok (.iconst (-1), 1) := dk_get kX12_weighs_1_ok 30 rfl
theorem dX12_weighs_243 : decode cX12_weighs 243 = .ok (.if_icmp .eq 30, 3) := dk_get kX12_weighs_1_ok 31 rfl
theorem dX12_weighs_246 : decode cX12_weighs 246 = .ok (.aload_n 0, 1) := dk_get kX12_weighs_1_ok 32 rfl
theorem dX12_weighs_247 : decode cX12_weighs 247 = .ok (.getfield 23, 3) := dk_get kX12_weighs_1_ok 33 rfl
theorem dX12_weighs_250 : decode cX12_weighs 250 = .ok (.iload_n 1, 1) := dk_get kX12_weighs_1_ok 34 rfl
theorem dX12_weighs_251 : decode cX12_weighs 251 = .ok (.iaload, 1) := dk_get kX12_weighs_1_ok 35 rfl
theorem dX12_weighs_252 : decode cX12_weighs 252 = .ok (.aload_n 0, 1) := dk_get kX12_weighs_1_ok 36 rfl
theorem dX12_weighs_253 : decode cX12_weighs 253 = .ok (.getfield 23, 3) := dk_get kX12_weighs_1_ok 37 rfl
theorem dX12_weighs_256 : decode cX12_weighs 256 = .ok (.iload_n 2, 1) := dk_get kX12_weighs_1_ok 38 rfl
theorem dX12_weighs_257 : decode cX12_weighs 257 = .ok (.iaload, 1) := dk_get kX12_weighs_1_ok 39 rfl
theorem dX12_weighs_258 : decode cX12_weighs 258 = .ok (.isub, 1) := dk_get kX12_weighs_1_ok 40 rfl
theorem dX12_weighs_259 : decode cX12_weighs 259 = .ok (.invokestatic 323, 3) := dk_get kX12_weighs_1_ok 41 rfl
theorem dX12_weighs_262 : decode cX12_weighs 262 = .ok (.aload_n 0, 1) := dk_get kX12_weighs_1_ok 42 rfl
theorem dX12_weighs_263 : decode cX12_weighs 263 = .ok (.getfield 102, 3) := dk_get kX12_weighs_1_ok 43 rfl
theorem dX12_weighs_266 : decode cX12_weighs 266 = .ok (.if_icmp .le 7, 3) := dk_get kX12_weighs_1_ok 44 rfl
theorem dX12_weighs_269 : decode cX12_weighs 269 = .ok (.iconst 1, 1) := dk_get kX12_weighs_1_ok 45 rfl
theorem dX12_weighs_270 : decode cX12_weighs 270 = .ok (.goto 4, 3) := dk_get kX12_weighs_1_ok 46 rfl
theorem dX12_weighs_273 : decode cX12_weighs 273 = .ok (.iconst 0, 1) := dk_get kX12_weighs_1_ok 47 rfl
theorem dX12_weighs_274 : decode cX12_weighs 274 = .ok (.bastore, 1) := dk_get kX12_weighs_1_ok 48 rfl
theorem dX12_weighs_275 : decode cX12_weighs 275 = .ok (.aload_n 0, 1) := dk_get kX12_weighs_1_ok 49 rfl
theorem dX12_weighs_276 : decode cX12_weighs 276 = .ok (.getfield 96, 3) := dk_get kX12_weighs_1_ok 50 rfl
theorem dX12_weighs_279 : decode cX12_weighs 279 = .ok (.bipush 30, 2) := dk_get kX12_weighs_1_ok 51 rfl
theorem dX12_weighs_281 : decode cX12_weighs 281 = .ok (.iload_n 2, 1) := dk_get kX12_weighs_1_ok 52 rfl
theorem dX12_weighs_282 : decode cX12_weighs 282 = .ok (.imul, 1) := dk_get kX12_weighs_1_ok 53 rfl
theorem dX12_weighs_283 : decode cX12_weighs 283 = .ok (.iload_n 1, 1) := dk_get kX12_weighs_1_ok 54 rfl
theorem dX12_weighs_284 : decode cX12_weighs 284 = .ok (.iadd, 1) := dk_get kX12_weighs_1_ok 55 rfl
theorem dX12_weighs_285 : decode cX12_weighs 285 = .ok (.aload_n 0, 1) := dk_get kX12_weighs_1_ok 56 rfl
theorem dX12_weighs_286 : decode cX12_weighs 286 = .ok (.getfield 96, 3) := dk_get kX12_weighs_1_ok 57 rfl
theorem dX12_weighs_289 : decode cX12_weighs 289 = .ok (.bipush 30, 2) := dk_get kX12_weighs_1_ok 58 rfl
theorem dX12_weighs_291 : decode cX12_weighs 291 = .ok (.iload_n 1, 1) := dk_get kX12_weighs_1_ok 59 rfl
theorem dX12_weighs_292 : decode cX12_weighs 292 = .ok (.imul, 1) := dk_get kX12_weighs_1_ok 60 rfl
theorem dX12_weighs_293 : decode cX12_weighs 293 = .ok (.iload_n 2, 1) := dk_get kX12_weighs_1_ok 61 rfl
theorem dX12_weighs_294 : decode cX12_weighs 294 = .ok (.iadd, 1) := dk_get kX12_weighs_1_ok 62 rfl
theorem dX12_weighs_295 : decode cX12_weighs 295 = .ok (.baload, 1) := dk_get kX12_weighs_1_ok 63 rfl
theorem dX12_weighs_296 : decode cX12_weighs 296 = .ok (.bastore, 1) := dk_get kX12_weighs_1_ok 64 rfl
theorem dX12_weighs_297 : decode cX12_weighs 297 = .ok (.iinc 2 1, 3) := dk_get kX12_weighs_1_ok 65 rfl
theorem dX12_weighs_300 : decode cX12_weighs 300 = .ok (.goto (-286), 3) := dk_get kX12_weighs_1_ok 66 rfl
theorem dX12_weighs_303 : decode cX12_weighs 303 = .ok (.iinc 1 1, 3) := dk_get kX12_weighs_1_ok 67 rfl
theorem dX12_weighs_306 : decode cX12_weighs 306 = .ok (.goto (-304), 3) := dk_get kX12_weighs_1_ok 68 rfl
theorem dX12_weighs_309 : decode cX12_weighs 309 = .ok (.return_, 1) := dk_get kX12_weighs_1_ok 69 rfl
def kX12_weight : List (Nat × Instr × Nat) := [(0, .aload_n 0, 1), (1, .iconst 0, 1), (2, .putfield 1, 3), (5, .aload_n 0, 1), (6, .iload_n 1, 1), (7, .iload_n 2, 1), (8, .invokevirtual 362, 3), (11, .ifCond .ne 5, 3), (14, .iconst 0, 1), (15, .ireturn, 1), (16, .aload_n 0, 1), (17, .iload_n 1, 1), (18, .iload_n 2, 1), (19, .invokevirtual 353, 3), (22, .ireturn, 1)]
set_option maxRecDepth 100000 in
theorem kX12_weight_ok : kX12_weight.all (fun q => decide (decode cX12_weight q.1 = .ok q.2)) = true := by decide +kernel
theorem dX12_weight_0 : decode cX12_weight 0 = .ok (.aload_n 0, 1) := dk_get kX12_weight_ok 0 rfl
theorem dX12_weight_1 : decode cX12_weight 1 = .ok (.iconst 0, 1) := dk_get kX12_weight_ok 1 rfl
theorem dX12_weight_2 : decode cX12_weight 2 = .ok (.putfield 1, 3) := dk_get kX12_weight_ok 2 rfl
theorem dX12_weight_5 : decode cX12_weight 5 = .ok (.aload_n 0, 1) := dk_get kX12_weight_ok 3 rfl
theorem dX12_weight_6 : decode cX12_weight 6 = .ok (.iload_n 1, 1) := dk_get kX12_weight_ok 4 rfl
theorem dX12_weight_7 : decode cX12_weight 7 = .ok (.iload_n 2, 1) := dk_get kX12_weight_ok 5 rfl
theorem dX12_weight_8 : decode cX12_weight 8 = .ok (.invokevirtual 362, 3) := dk_get kX12_weight_ok 6 rfl
theorem dX12_weight_11 : decode cX12_weight 11 = .ok (.ifCond .ne 5, 3) := dk_get kX12_weight_ok 7 rfl
theorem dX12_weight_14 : decode cX12_weight 14 = .ok (.iconst 0, 1) := dk_get kX12_weight_ok 8 rfl
theorem dX12_weight_15 : decode cX12_weight 15 = .ok (.ireturn, 1) := dk_get kX12_weight_ok 9 rfl
theorem dX12_weight_16 : decode cX12_weight 16 = .ok (.aload_n 0, 1) := dk_get kX12_weight_ok 10 rfl
theorem dX12_weight_17 : decode cX12_weight 17 = .ok (.iload_n 1, 1) := dk_get kX12_weight_ok 11 rfl
theorem dX12_weight_18 : decode cX12_weight 18 = .ok (.iload_n 2, 1) := dk_get kX12_weight_ok 12 rfl
theorem dX12_weight_19 : decode cX12_weight 19 = .ok (.invokevirtual 353, 3) := dk_get kX12_weight_ok 13 rfl
theorem dX12_weight_22 : decode cX12_weight 22 = .ok (.ireturn, 1) := dk_get kX12_weight_ok 14 rfl
def kX12_why : List (Nat × Instr × Nat) := [(0, .aload_n 0, 1), (1, .iconst 0, 1), (2, .putfield 1, 3), (5, .aload_n 0, 1), (6, .iload_n 1, 1), (7, .iload_n 2, 1), (8, .invokevirtual 362, 3), (11, .ifCond .ne 5, 3), (14, .iconst 0, 1), (15, .ireturn, 1), (16, .aload_n 0, 1), (17, .iload_n 1, 1), (18, .iload_n 2, 1), (19, .invokevirtual 344, 3), (22, .iconst (-1), 1), (23, .if_icmp .eq 5, 3), (26, .iconst (-1), 1), (27, .ireturn, 1), (28, .aload_n 0, 1), (29, .iload_n 1, 1), (30, .iload_n 2, 1), (31, .invokevirtual 348, 3), (34, .istore_n 3, 1), (35, .iconst 0, 1), (36, .istore 4, 2), (38, .iconst 0, 1), (39, .istore 5, 2), (41, .iload 5, 2), (43, .aload_n 0, 1), (44, .getfield 320, 3), (47, .if_icmp .ge 37, 3), (50, .iload_n 3, 1), (51, .ifCond .ne 33, 3), (54, .iload 4, 2), (56, .aload_n 0, 1), (57, .iload 5, 2), (59, .iload_n 1, 1), (60, .iload_n 2, 1), (61, .invokevirtual 341, 3), (64, .ifCond .eq 10, 3), (67, .iconst 1, 1), (68, .iload 5, 2), (70, .ishl, 1), (71, .goto 4, 3), (74, .iconst 0, 1), (75, .ior, 1), (76, .istore 4, 2), (78, .iinc 5 1, 3), (81, .goto (-40), 3), (84, .iload 4, 2), (86, .ireturn, 1)]
set_option maxRecDepth 100000 in
theorem kX12_why_ok : kX12_why.all (fun q => decide (decode cX12_why q.1 = .ok q.2)) = true := by decide +kernel
theorem dX12_why_0 : decode cX12_why 0 = .ok (.aload_n 0, 1) := dk_get kX12_why_ok 0 rfl
theorem dX12_why_1 : decode cX12_why 1 = .ok (.iconst 0, 1) := dk_get kX12_why_ok 1 rfl
theorem dX12_why_2 : decode cX12_why 2 = .ok (.putfield 1, 3) := dk_get kX12_why_ok 2 rfl
theorem dX12_why_5 : decode cX12_why 5 = .ok (.aload_n 0, 1) := dk_get kX12_why_ok 3 rfl
theorem dX12_why_6 : decode cX12_why 6 = .ok (.iload_n 1, 1) := dk_get kX12_why_ok 4 rfl
theorem dX12_why_7 : decode cX12_why 7 = .ok (.iload_n 2, 1) := dk_get kX12_why_ok 5 rfl
theorem dX12_why_8 : decode cX12_why 8 = .ok (.invokevirtual 362, 3) := dk_get kX12_why_ok 6 rfl
theorem dX12_why_11 : decode cX12_why 11 = .ok (.ifCond .ne 5, 3) := dk_get kX12_why_ok 7 rfl
theorem dX12_why_14 : decode cX12_why 14 = .ok (.iconst 0, 1) := dk_get kX12_why_ok 8 rfl
theorem dX12_why_15 : decode cX12_why 15 = .ok (.ireturn, 1) := dk_get kX12_why_ok 9 rfl
theorem dX12_why_16 : decode cX12_why 16 = .ok (.aload_n 0, 1) := dk_get kX12_why_ok 10 rfl
theorem dX12_why_17 : decode cX12_why 17 = .ok (.iload_n 1, 1) := dk_get kX12_why_ok 11 rfl
theorem dX12_why_18 : decode cX12_why 18 = .ok (.iload_n 2, 1) := dk_get kX12_why_ok 12 rfl
theorem dX12_why_19 : decode cX12_why 19 = .ok (.invokevirtual 344, 3) := dk_get kX12_why_ok 13 rfl
theorem dX12_why_22 : decode cX12_why 22 = .ok (.iconst (-1), 1) := dk_get kX12_why_ok 14 rfl
theorem dX12_why_23 : decode cX12_why 23 = .ok (.if_icmp .eq 5, 3) := dk_get kX12_why_ok 15 rfl
theorem dX12_why_26 : decode cX12_why 26 = .ok (.iconst (-1), 1) := dk_get kX12_why_ok 16 rfl
theorem dX12_why_27 : decode cX12_why 27 = .ok (.ireturn, 1) := dk_get kX12_why_ok 17 rfl
theorem dX12_why_28 : decode cX12_why 28 = .ok (.aload_n 0, 1) := dk_get kX12_why_ok 18 rfl
theorem dX12_why_29 : decode cX12_why 29 = .ok (.iload_n 1, 1) := dk_get kX12_why_ok 19 rfl
theorem dX12_why_30 : decode cX12_why 30 = .ok (.iload_n 2, 1) := dk_get kX12_why_ok 20 rfl
theorem dX12_why_31 : decode cX12_why 31 = .ok (.invokevirtual 348, 3) := dk_get kX12_why_ok 21 rfl
theorem dX12_why_34 : decode cX12_why 34 = .ok (.istore_n 3, 1) := dk_get kX12_why_ok 22 rfl
theorem dX12_why_35 : decode cX12_why 35 = .ok (.iconst 0, 1) := dk_get kX12_why_ok 23 rfl
theorem dX12_why_36 : decode cX12_why 36 = .ok (.istore 4, 2) := dk_get kX12_why_ok 24 rfl
theorem dX12_why_38 : decode cX12_why 38 = .ok (.iconst 0, 1) := dk_get kX12_why_ok 25 rfl
theorem dX12_why_39 : decode cX12_why 39 = .ok (.istore 5, 2) := dk_get kX12_why_ok 26 rfl
theorem dX12_why_41 : decode cX12_why 41 = .ok (.iload 5, 2) := dk_get kX12_why_ok 27 rfl
theorem dX12_why_43 : decode cX12_why 43 = .ok (.aload_n 0, 1) := dk_get kX12_why_ok 28 rfl
theorem dX12_why_44 : decode cX12_why 44 = .ok (.getfield 320, 3) := dk_get kX12_why_ok 29 rfl
theorem dX12_why_47 : decode cX12_why 47 = .ok (.if_icmp .ge 37, 3) := dk_get kX12_why_ok 30 rfl
theorem dX12_why_50 : decode cX12_why 50 = .ok (.iload_n 3, 1) := dk_get kX12_why_ok 31 rfl
theorem dX12_why_51 : decode cX12_why 51 = .ok (.ifCond .ne 33, 3) := dk_get kX12_why_ok 32 rfl
theorem dX12_why_54 : decode cX12_why 54 = .ok (.iload 4, 2) := dk_get kX12_why_ok 33 rfl
theorem dX12_why_56 : decode cX12_why 56 = .ok (.aload_n 0, 1) := dk_get kX12_why_ok 34 rfl
theorem dX12_why_57 : decode cX12_why 57 = .ok (.iload 5, 2) := dk_get kX12_why_ok 35 rfl
theorem dX12_why_59 : decode cX12_why 59 = .ok (.iload_n 1, 1) := dk_get kX12_why_ok 36 rfl
theorem dX12_why_60 : decode cX12_why 60 = .ok (.iload_n 2, 1) := dk_get kX12_why_ok 37 rfl
theorem dX12_why_61 : decode cX12_why 61 = .ok (.invokevirtual 341, 3) := dk_get kX12_why_ok 38 rfl
theorem dX12_why_64 : decode cX12_why 64 = .ok (.ifCond .eq 10, 3) := dk_get kX12_why_ok 39 rfl
theorem dX12_why_67 : decode cX12_why 67 = .ok (.iconst 1, 1) := dk_get kX12_why_ok 40 rfl
theorem dX12_why_68 : decode cX12_why 68 = .ok (.iload 5, 2) := dk_get kX12_why_ok 41 rfl
theorem dX12_why_70 : decode cX12_why 70 = .ok (.ishl, 1) := dk_get kX12_why_ok 42 rfl
theorem dX12_why_71 : decode cX12_why 71 = .ok (.goto 4, 3) := dk_get kX12_why_ok 43 rfl
theorem dX12_why_74 : decode cX12_why 74 = .ok (.iconst 0, 1) := dk_get kX12_why_ok 44 rfl
theorem dX12_why_75 : decode cX12_why 75 = .ok (.ior, 1) := dk_get kX12_why_ok 45 rfl
theorem dX12_why_76 : decode cX12_why 76 = .ok (.istore 4, 2) := dk_get kX12_why_ok 46 rfl
theorem dX12_why_78 : decode cX12_why 78 = .ok (.iinc 5 1, 3) := dk_get kX12_why_ok 47 rfl
theorem dX12_why_81 : decode cX12_why 81 = .ok (.goto (-40), 3) := dk_get kX12_why_ok 48 rfl
theorem dX12_why_84 : decode cX12_why 84 = .ok (.iload 4, 2) := dk_get kX12_why_ok 49 rfl
theorem dX12_why_86 : decode cX12_why 86 = .ok (.ireturn, 1) := dk_get kX12_why_ok 50 rfl
def kX12_weigh : List (Nat × Instr × Nat) := [(0, .aload_n 0, 1), (1, .iconst 0, 1), (2, .putfield 1, 3), (5, .aload_n 0, 1), (6, .iload_n 1, 1), (7, .iload_n 2, 1), (8, .invokevirtual 362, 3), (11, .ifCond .eq 36, 3), (14, .aload_n 0, 1), (15, .iload_n 3, 1), (16, .ldc_w 352, 3), (19, .if_icmp .eq 16, 3), (22, .iload_n 3, 1), (23, .sipush (-10000), 3), (26, .sipush 10000, 3), (29, .invokestatic 169, 3), (32, .ifCond .eq 7, 3), (35, .iconst 1, 1), (36, .goto 4, 3), (39, .iconst 0, 1), (40, .iconst 2, 1), (41, .invokevirtual 173, 3), (44, .ifCond .ne 5, 3), (47, .iconst 0, 1), (48, .ireturn, 1), (49, .aload_n 0, 1), (50, .iload_n 1, 1), (51, .iload_n 2, 1), (52, .invokevirtual 344, 3), (55, .istore 4, 2), (57, .iload 4, 2), (59, .iconst (-1), 1), (60, .if_icmp .ne 14, 3), (63, .aload_n 0, 1), (64, .getfield 338, 3), (67, .bipush 60, 2), (69, .if_icmp .ne 5, 3), (72, .iconst (-1), 1), (73, .ireturn, 1), (74, .iload 4, 2), (76, .iconst (-1), 1), (77, .if_icmp .ne 7, 3), (80, .iconst 1, 1), (81, .goto 4, 3), (84, .iconst 0, 1), (85, .istore 5, 2), (87, .iload 4, 2), (89, .iconst (-1), 1), (90, .if_icmp .ne 19, 3), (93, .aload_n 0, 1), (94, .getfield 338, 3), (97, .istore 4, 2), (99, .aload_n 0, 1), (100, .dup, 1), (101, .getfield 338, 3), (104, .iconst 1, 1), (105, .iadd, 1), (106, .putfield 338, 3), (109, .aload_n 0, 1), (110, .getfield 80, 3), (113, .iload 4, 2), (115, .iload_n 1, 1), (116, .iastore, 1), (117, .aload_n 0, 1), (118, .getfield 83, 3), (121, .iload 4, 2), (123, .iload_n 2, 1), (124, .iastore, 1), (125, .aload_n 0, 1), (126, .getfield 86, 3), (129, .iload 4, 2), (131, .iload_n 3, 1), (132, .iastore, 1), (133, .aload_n 0, 1), (134, .invokevirtual 180, 3), (137, .iload 5, 2), (139, .ireturn, 1)]
set_option maxRecDepth 100000 in
theorem kX12_weigh_ok : kX12_weigh.all (fun q => decide (decode cX12_weigh q.1 = .ok q.2)) = true := by decide +kernel
theorem dX12_weigh_0 : decode cX12_weigh 0 = .ok (.aload_n 0, 1) := dk_get kX12_weigh_ok 0 rfl
theorem dX12_weigh_1 : decode cX12_weigh 1 = .ok (.iconst 0, 1) := dk_get kX12_weigh_ok 1 rfl
theorem dX12_weigh_2 : decode cX12_weigh 2 = .ok (.putfield 1, 3) := dk_get kX12_weigh_ok 2 rfl
theorem dX12_weigh_5 : decode cX12_weigh 5 = .ok (.aload_n 0, 1) := dk_get kX12_weigh_ok 3 rfl
theorem dX12_weigh_6 : decode cX12_weigh 6 = .ok (.iload_n 1, 1) := dk_get kX12_weigh_ok 4 rfl
theorem dX12_weigh_7 : decode cX12_weigh 7 = .ok (.iload_n 2, 1) := dk_get kX12_weigh_ok 5 rfl
theorem dX12_weigh_8 : decode cX12_weigh 8 = .ok (.invokevirtual 362, 3) := dk_get kX12_weigh_ok 6 rfl
theorem dX12_weigh_11 : decode cX12_weigh 11 = .ok (.ifCond .eq 36, 3) := dk_get kX12_weigh_ok 7 rfl
theorem dX12_weigh_14 : decode cX12_weigh 14 = .ok (.aload_n 0, 1) := dk_get kX12_weigh_ok 8 rfl
theorem dX12_weigh_15 : decode cX12_weigh 15 = .ok (.iload_n 3, 1) := dk_get kX12_weigh_ok 9 rfl
theorem dX12_weigh_16 : decode cX12_weigh 16 = .ok (.ldc_w 352, 3) := dk_get kX12_weigh_ok 10 rfl
theorem dX12_weigh_19 : decode cX12_weigh 19 = .ok (.if_icmp .eq 16, 3) := dk_get kX12_weigh_ok 11 rfl
theorem dX12_weigh_22 : decode cX12_weigh 22 = .ok (.iload_n 3, 1) := dk_get kX12_weigh_ok 12 rfl
theorem dX12_weigh_23 : decode cX12_weigh 23 = .ok (.sipush (-10000), 3) := dk_get kX12_weigh_ok 13 rfl
theorem dX12_weigh_26 : decode cX12_weigh 26 = .ok (.sipush 10000, 3) := dk_get kX12_weigh_ok 14 rfl
theorem dX12_weigh_29 : decode cX12_weigh 29 = .ok (.invokestatic 169, 3) := dk_get kX12_weigh_ok 15 rfl
theorem dX12_weigh_32 : decode cX12_weigh 32 = .ok (.ifCond .eq 7, 3) := dk_get kX12_weigh_ok 16 rfl
theorem dX12_weigh_35 : decode cX12_weigh 35 = .ok (.iconst 1, 1) := dk_get kX12_weigh_ok 17 rfl
theorem dX12_weigh_36 : decode cX12_weigh 36 = .ok (.goto 4, 3) := dk_get kX12_weigh_ok 18 rfl
theorem dX12_weigh_39 : decode cX12_weigh 39 = .ok (.iconst 0, 1) := dk_get kX12_weigh_ok 19 rfl
theorem dX12_weigh_40 : decode cX12_weigh 40 = .ok (.iconst 2, 1) := dk_get kX12_weigh_ok 20 rfl
theorem dX12_weigh_41 : decode cX12_weigh 41 = .ok (.invokevirtual 173, 3) := dk_get kX12_weigh_ok 21 rfl
theorem dX12_weigh_44 : decode cX12_weigh 44 = .ok (.ifCond .ne 5, 3) := dk_get kX12_weigh_ok 22 rfl
theorem dX12_weigh_47 : decode cX12_weigh 47 = .ok (.iconst 0, 1) := dk_get kX12_weigh_ok 23 rfl
theorem dX12_weigh_48 : decode cX12_weigh 48 = .ok (.ireturn, 1) := dk_get kX12_weigh_ok 24 rfl
theorem dX12_weigh_49 : decode cX12_weigh 49 = .ok (.aload_n 0, 1) := dk_get kX12_weigh_ok 25 rfl
theorem dX12_weigh_50 : decode cX12_weigh 50 = .ok (.iload_n 1, 1) := dk_get kX12_weigh_ok 26 rfl
theorem dX12_weigh_51 : decode cX12_weigh 51 = .ok (.iload_n 2, 1) := dk_get kX12_weigh_ok 27 rfl
theorem dX12_weigh_52 : decode cX12_weigh 52 = .ok (.invokevirtual 344, 3) := dk_get kX12_weigh_ok 28 rfl
theorem dX12_weigh_55 : decode cX12_weigh 55 = .ok (.istore 4, 2) := dk_get kX12_weigh_ok 29 rfl
theorem dX12_weigh_57 : decode cX12_weigh 57 = .ok (.iload 4, 2) := dk_get kX12_weigh_ok 30 rfl
theorem dX12_weigh_59 : decode cX12_weigh 59 = .ok (.iconst (-1), 1) := dk_get kX12_weigh_ok 31 rfl
theorem dX12_weigh_60 : decode cX12_weigh 60 = .ok (.if_icmp .ne 14, 3) := dk_get kX12_weigh_ok 32 rfl
theorem dX12_weigh_63 : decode cX12_weigh 63 = .ok (.aload_n 0, 1) := dk_get kX12_weigh_ok 33 rfl
theorem dX12_weigh_64 : decode cX12_weigh 64 = .ok (.getfield 338, 3) := dk_get kX12_weigh_ok 34 rfl
theorem dX12_weigh_67 : decode cX12_weigh 67 = .ok (.bipush 60, 2) := dk_get kX12_weigh_ok 35 rfl
theorem dX12_weigh_69 : decode cX12_weigh 69 = .ok (.if_icmp .ne 5, 3) := dk_get kX12_weigh_ok 36 rfl
theorem dX12_weigh_72 : decode cX12_weigh 72 = .ok (.iconst (-1), 1) := dk_get kX12_weigh_ok 37 rfl
theorem dX12_weigh_73 : decode cX12_weigh 73 = .ok (.ireturn, 1) := dk_get kX12_weigh_ok 38 rfl
theorem dX12_weigh_74 : decode cX12_weigh 74 = .ok (.iload 4, 2) := dk_get kX12_weigh_ok 39 rfl
theorem dX12_weigh_76 : decode cX12_weigh 76 = .ok (.iconst (-1), 1) := dk_get kX12_weigh_ok 40 rfl
theorem dX12_weigh_77 : decode cX12_weigh 77 = .ok (.if_icmp .ne 7, 3) := dk_get kX12_weigh_ok 41 rfl
theorem dX12_weigh_80 : decode cX12_weigh 80 = .ok (.iconst 1, 1) := dk_get kX12_weigh_ok 42 rfl
theorem dX12_weigh_81 : decode cX12_weigh 81 = .ok (.goto 4, 3) := dk_get kX12_weigh_ok 43 rfl
theorem dX12_weigh_84 : decode cX12_weigh 84 = .ok (.iconst 0, 1) := dk_get kX12_weigh_ok 44 rfl
theorem dX12_weigh_85 : decode cX12_weigh 85 = .ok (.istore 5, 2) := dk_get kX12_weigh_ok 45 rfl
theorem dX12_weigh_87 : decode cX12_weigh 87 = .ok (.iload 4, 2) := dk_get kX12_weigh_ok 46 rfl
theorem dX12_weigh_89 : decode cX12_weigh 89 = .ok (.iconst (-1), 1) := dk_get kX12_weigh_ok 47 rfl
theorem dX12_weigh_90 : decode cX12_weigh 90 = .ok (.if_icmp .ne 19, 3) := dk_get kX12_weigh_ok 48 rfl
theorem dX12_weigh_93 : decode cX12_weigh 93 = .ok (.aload_n 0, 1) := dk_get kX12_weigh_ok 49 rfl
theorem dX12_weigh_94 : decode cX12_weigh 94 = .ok (.getfield 338, 3) := dk_get kX12_weigh_ok 50 rfl
theorem dX12_weigh_97 : decode cX12_weigh 97 = .ok (.istore 4, 2) := dk_get kX12_weigh_ok 51 rfl
theorem dX12_weigh_99 : decode cX12_weigh 99 = .ok (.aload_n 0, 1) := dk_get kX12_weigh_ok 52 rfl
theorem dX12_weigh_100 : decode cX12_weigh 100 = .ok (.dup, 1) := dk_get kX12_weigh_ok 53 rfl
theorem dX12_weigh_101 : decode cX12_weigh 101 = .ok (.getfield 338, 3) := dk_get kX12_weigh_ok 54 rfl
theorem dX12_weigh_104 : decode cX12_weigh 104 = .ok (.iconst 1, 1) := dk_get kX12_weigh_ok 55 rfl
theorem dX12_weigh_105 : decode cX12_weigh 105 = .ok (.iadd, 1) := dk_get kX12_weigh_ok 56 rfl
theorem dX12_weigh_106 : decode cX12_weigh 106 = .ok (.putfield 338, 3) := dk_get kX12_weigh_ok 57 rfl
theorem dX12_weigh_109 : decode cX12_weigh 109 = .ok (.aload_n 0, 1) := dk_get kX12_weigh_ok 58 rfl
theorem dX12_weigh_110 : decode cX12_weigh 110 = .ok (.getfield 80, 3) := dk_get kX12_weigh_ok 59 rfl
theorem dX12_weigh_113 : decode cX12_weigh 113 = .ok (.iload 4, 2) := dk_get kX12_weigh_ok 60 rfl
theorem dX12_weigh_115 : decode cX12_weigh 115 = .ok (.iload_n 1, 1) := dk_get kX12_weigh_ok 61 rfl
theorem dX12_weigh_116 : decode cX12_weigh 116 = .ok (.iastore, 1) := dk_get kX12_weigh_ok 62 rfl
theorem dX12_weigh_117 : decode cX12_weigh 117 = .ok (.aload_n 0, 1) := dk_get kX12_weigh_ok 63 rfl
theorem dX12_weigh_118 : decode cX12_weigh 118 = .ok (.getfield 83, 3) := dk_get kX12_weigh_ok 64 rfl
theorem dX12_weigh_121 : decode cX12_weigh 121 = .ok (.iload 4, 2) := dk_get kX12_weigh_ok 65 rfl
theorem dX12_weigh_123 : decode cX12_weigh 123 = .ok (.iload_n 2, 1) := dk_get kX12_weigh_ok 66 rfl
theorem dX12_weigh_124 : decode cX12_weigh 124 = .ok (.iastore, 1) := dk_get kX12_weigh_ok 67 rfl
theorem dX12_weigh_125 : decode cX12_weigh 125 = .ok (.aload_n 0, 1) := dk_get kX12_weigh_ok 68 rfl
theorem dX12_weigh_126 : decode cX12_weigh 126 = .ok (.getfield 86, 3) := dk_get kX12_weigh_ok 69 rfl
theorem dX12_weigh_129 : decode cX12_weigh 129 = .ok (.iload 4, 2) := dk_get kX12_weigh_ok 70 rfl
theorem dX12_weigh_131 : decode cX12_weigh 131 = .ok (.iload_n 3, 1) := dk_get kX12_weigh_ok 71 rfl
theorem dX12_weigh_132 : decode cX12_weigh 132 = .ok (.iastore, 1) := dk_get kX12_weigh_ok 72 rfl
theorem dX12_weigh_133 : decode cX12_weigh 133 = .ok (.aload_n 0, 1) := dk_get kX12_weigh_ok 73 rfl
theorem dX12_weigh_134 : decode cX12_weigh 134 = .ok (.invokevirtual 180, 3) := dk_get kX12_weigh_ok 74 rfl
theorem dX12_weigh_137 : decode cX12_weigh 137 = .ok (.iload 5, 2) := dk_get kX12_weigh_ok 75 rfl
theorem dX12_weigh_139 : decode cX12_weigh 139 = .ok (.ireturn, 1) := dk_get kX12_weigh_ok 76 rfl
def kX12_forget : List (Nat × Instr × Nat) := [(0, .aload_n 0, 1), (1, .iconst 0, 1), (2, .putfield 1, 3), (5, .aload_n 0, 1), (6, .iload_n 1, 1), (7, .iload_n 2, 1), (8, .invokevirtual 362, 3), (11, .ifCond .ne 5, 3), (14, .iconst 0, 1), (15, .ireturn, 1), (16, .aload_n 0, 1), (17, .iload_n 1, 1), (18, .iload_n 2, 1), (19, .invokevirtual 344, 3), (22, .istore_n 3, 1), (23, .iload_n 3, 1), (24, .iconst (-1), 1), (25, .if_icmp .ne 5, 3), (28, .iconst 0, 1), (29, .ireturn, 1), (30, .aload_n 0, 1), (31, .dup, 1), (32, .getfield 338, 3), (35, .iconst 1, 1), (36, .isub, 1), (37, .putfield 338, 3), (40, .aload_n 0, 1), (41, .getfield 80, 3), (44, .iload_n 3, 1), (45, .aload_n 0, 1), (46, .getfield 80, 3), (49, .aload_n 0, 1), (50, .getfield 338, 3), (53, .iaload, 1), (54, .iastore, 1), (55, .aload_n 0, 1), (56, .getfield 83, 3), (59, .iload_n 3, 1), (60, .aload_n 0, 1), (61, .getfield 83, 3), (64, .aload_n 0, 1), (65, .getfield 338, 3), (68, .iaload, 1), (69, .iastore, 1), (70, .aload_n 0, 1), (71, .getfield 86, 3), (74, .iload_n 3, 1), (75, .aload_n 0, 1), (76, .getfield 86, 3), (79, .aload_n 0, 1), (80, .getfield 338, 3), (83, .iaload, 1), (84, .iastore, 1), (85, .aload_n 0, 1), (86, .invokevirtual 180, 3), (89, .iconst 1, 1), (90, .ireturn, 1)]
set_option maxRecDepth 100000 in
theorem kX12_forget_ok : kX12_forget.all (fun q => decide (decode cX12_forget q.1 = .ok q.2)) = true := by decide +kernel
theorem dX12_forget_0 : decode cX12_forget 0 = .ok (.aload_n 0, 1) := dk_get kX12_forget_ok 0 rfl
theorem dX12_forget_1 : decode cX12_forget 1 = .ok (.iconst 0, 1) := dk_get kX12_forget_ok 1 rfl
theorem dX12_forget_2 : decode cX12_forget 2 = .ok (.putfield 1, 3) := dk_get kX12_forget_ok 2 rfl
theorem dX12_forget_5 : decode cX12_forget 5 = .ok (.aload_n 0, 1) := dk_get kX12_forget_ok 3 rfl
theorem dX12_forget_6 : decode cX12_forget 6 = .ok (.iload_n 1, 1) := dk_get kX12_forget_ok 4 rfl
theorem dX12_forget_7 : decode cX12_forget 7 = .ok (.iload_n 2, 1) := dk_get kX12_forget_ok 5 rfl
theorem dX12_forget_8 : decode cX12_forget 8 = .ok (.invokevirtual 362, 3) := dk_get kX12_forget_ok 6 rfl
theorem dX12_forget_11 : decode cX12_forget 11 = .ok (.ifCond .ne 5, 3) := dk_get kX12_forget_ok 7 rfl
theorem dX12_forget_14 : decode cX12_forget 14 = .ok (.iconst 0, 1) := dk_get kX12_forget_ok 8 rfl
theorem dX12_forget_15 : decode cX12_forget 15 = .ok (.ireturn, 1) := dk_get kX12_forget_ok 9 rfl
theorem dX12_forget_16 : decode cX12_forget 16 = .ok (.aload_n 0, 1) := dk_get kX12_forget_ok 10 rfl
theorem dX12_forget_17 : decode cX12_forget 17 = .ok (.iload_n 1, 1) := dk_get kX12_forget_ok 11 rfl
theorem dX12_forget_18 : decode cX12_forget 18 = .ok (.iload_n 2, 1) := dk_get kX12_forget_ok 12 rfl
theorem dX12_forget_19 : decode cX12_forget 19 = .ok (.invokevirtual 344, 3) := dk_get kX12_forget_ok 13 rfl
theorem dX12_forget_22 : decode cX12_forget 22 = .ok (.istore_n 3, 1) := dk_get kX12_forget_ok 14 rfl
theorem dX12_forget_23 : decode cX12_forget 23 = .ok (.iload_n 3, 1) := dk_get kX12_forget_ok 15 rfl
theorem dX12_forget_24 : decode cX12_forget 24 = .ok (.iconst (-1), 1) := dk_get kX12_forget_ok 16 rfl
theorem dX12_forget_25 : decode cX12_forget 25 = .ok (.if_icmp .ne 5, 3) := dk_get kX12_forget_ok 17 rfl
theorem dX12_forget_28 : decode cX12_forget 28 = .ok (.iconst 0, 1) := dk_get kX12_forget_ok 18 rfl
theorem dX12_forget_29 : decode cX12_forget 29 = .ok (.ireturn, 1) := dk_get kX12_forget_ok 19 rfl
theorem dX12_forget_30 : decode cX12_forget 30 = .ok (.aload_n 0, 1) := dk_get kX12_forget_ok 20 rfl
theorem dX12_forget_31 : decode cX12_forget 31 = .ok (.dup, 1) := dk_get kX12_forget_ok 21 rfl
theorem dX12_forget_32 : decode cX12_forget 32 = .ok (.getfield 338, 3) := dk_get kX12_forget_ok 22 rfl
theorem dX12_forget_35 : decode cX12_forget 35 = .ok (.iconst 1, 1) := dk_get kX12_forget_ok 23 rfl
theorem dX12_forget_36 : decode cX12_forget 36 = .ok (.isub, 1) := dk_get kX12_forget_ok 24 rfl
theorem dX12_forget_37 : decode cX12_forget 37 = .ok (.putfield 338, 3) := dk_get kX12_forget_ok 25 rfl
theorem dX12_forget_40 : decode cX12_forget 40 = .ok (.aload_n 0, 1) := dk_get kX12_forget_ok 26 rfl
theorem dX12_forget_41 : decode cX12_forget 41 = .ok (.getfield 80, 3) := dk_get kX12_forget_ok 27 rfl
theorem dX12_forget_44 : decode cX12_forget 44 = .ok (.iload_n 3, 1) := dk_get kX12_forget_ok 28 rfl
theorem dX12_forget_45 : decode cX12_forget 45 = .ok (.aload_n 0, 1) := dk_get kX12_forget_ok 29 rfl
theorem dX12_forget_46 : decode cX12_forget 46 = .ok (.getfield 80, 3) := dk_get kX12_forget_ok 30 rfl
theorem dX12_forget_49 : decode cX12_forget 49 = .ok (.aload_n 0, 1) := dk_get kX12_forget_ok 31 rfl
theorem dX12_forget_50 : decode cX12_forget 50 = .ok (.getfield 338, 3) := dk_get kX12_forget_ok 32 rfl
theorem dX12_forget_53 : decode cX12_forget 53 = .ok (.iaload, 1) := dk_get kX12_forget_ok 33 rfl
theorem dX12_forget_54 : decode cX12_forget 54 = .ok (.iastore, 1) := dk_get kX12_forget_ok 34 rfl
theorem dX12_forget_55 : decode cX12_forget 55 = .ok (.aload_n 0, 1) := dk_get kX12_forget_ok 35 rfl
theorem dX12_forget_56 : decode cX12_forget 56 = .ok (.getfield 83, 3) := dk_get kX12_forget_ok 36 rfl
theorem dX12_forget_59 : decode cX12_forget 59 = .ok (.iload_n 3, 1) := dk_get kX12_forget_ok 37 rfl
theorem dX12_forget_60 : decode cX12_forget 60 = .ok (.aload_n 0, 1) := dk_get kX12_forget_ok 38 rfl
theorem dX12_forget_61 : decode cX12_forget 61 = .ok (.getfield 83, 3) := dk_get kX12_forget_ok 39 rfl
theorem dX12_forget_64 : decode cX12_forget 64 = .ok (.aload_n 0, 1) := dk_get kX12_forget_ok 40 rfl
theorem dX12_forget_65 : decode cX12_forget 65 = .ok (.getfield 338, 3) := dk_get kX12_forget_ok 41 rfl
theorem dX12_forget_68 : decode cX12_forget 68 = .ok (.iaload, 1) := dk_get kX12_forget_ok 42 rfl
theorem dX12_forget_69 : decode cX12_forget 69 = .ok (.iastore, 1) := dk_get kX12_forget_ok 43 rfl
theorem dX12_forget_70 : decode cX12_forget 70 = .ok (.aload_n 0, 1) := dk_get kX12_forget_ok 44 rfl
theorem dX12_forget_71 : decode cX12_forget 71 = .ok (.getfield 86, 3) := dk_get kX12_forget_ok 45 rfl
theorem dX12_forget_74 : decode cX12_forget 74 = .ok (.iload_n 3, 1) := dk_get kX12_forget_ok 46 rfl
theorem dX12_forget_75 : decode cX12_forget 75 = .ok (.aload_n 0, 1) := dk_get kX12_forget_ok 47 rfl
theorem dX12_forget_76 : decode cX12_forget 76 = .ok (.getfield 86, 3) := dk_get kX12_forget_ok 48 rfl
theorem dX12_forget_79 : decode cX12_forget 79 = .ok (.aload_n 0, 1) := dk_get kX12_forget_ok 49 rfl
theorem dX12_forget_80 : decode cX12_forget 80 = .ok (.getfield 338, 3) := dk_get kX12_forget_ok 50 rfl
theorem dX12_forget_83 : decode cX12_forget 83 = .ok (.iaload, 1) := dk_get kX12_forget_ok 51 rfl
theorem dX12_forget_84 : decode cX12_forget 84 = .ok (.iastore, 1) := dk_get kX12_forget_ok 52 rfl
theorem dX12_forget_85 : decode cX12_forget 85 = .ok (.aload_n 0, 1) := dk_get kX12_forget_ok 53 rfl
theorem dX12_forget_86 : decode cX12_forget 86 = .ok (.invokevirtual 180, 3) := dk_get kX12_forget_ok 54 rfl
theorem dX12_forget_89 : decode cX12_forget 89 = .ok (.iconst 1, 1) := dk_get kX12_forget_ok 55 rfl
theorem dX12_forget_90 : decode cX12_forget 90 = .ok (.ireturn, 1) := dk_get kX12_forget_ok 56 rfl
def kX12_law : List (Nat × Instr × Nat) := [(0, .aload_n 0, 1), (1, .iconst 0, 1), (2, .putfield 1, 3), (5, .aload_n 0, 1), (6, .iload_n 1, 1), (7, .iconst 0, 1), (8, .iconst 2, 1), (9, .invokestatic 169, 3), (12, .ifCond .eq 45, 3), (15, .iload_n 2, 1), (16, .iload_n 1, 1), (17, .iconst 2, 1), (18, .if_icmp .ne 7, 3), (21, .iconst (-1), 1), (22, .goto 4, 3), (25, .iconst 0, 1), (26, .iload_n 1, 1), (27, .ifCond .ne 8, 3), (30, .bipush 30, 2), (32, .goto 15, 3), (35, .iload_n 1, 1), (36, .iconst 1, 1), (37, .if_icmp .ne 7, 3), (40, .iconst 1, 1), (41, .goto 6, 3), (44, .sipush 199, 3), (47, .invokestatic 169, 3), (50, .ifCond .eq 7, 3), (53, .iconst 1, 1), (54, .goto 4, 3), (57, .iconst 0, 1), (58, .iconst 1, 1), (59, .invokevirtual 173, 3), (62, .ifCond .ne 5, 3), (65, .iconst 0, 1), (66, .ireturn, 1), (67, .iload_n 1, 1), (68, .ifCond .ne 10, 3), (71, .aload_n 0, 1), (72, .getfield 365, 3), (75, .goto 19, 3), (78, .iload_n 1, 1), (79, .iconst 1, 1), (80, .if_icmp .ne 10, 3), (83, .aload_n 0, 1), (84, .getfield 359, 3), (87, .goto 7, 3), (90, .aload_n 0, 1), (91, .getfield 102, 3), (94, .istore_n 3, 1), (95, .iload_n 1, 1), (96, .ifCond .ne 11, 3), (99, .aload_n 0, 1), (100, .iload_n 2, 1), (101, .putfield 365, 3), (104, .goto 21, 3), (107, .iload_n 1, 1), (108, .iconst 1, 1), (109, .if_icmp .ne 11, 3), (112, .aload_n 0, 1), (113, .iload_n 2, 1), (114, .putfield 359, 3), (117, .goto 8, 3), (120, .aload_n 0, 1), (121, .iload_n 2, 1), (122, .putfield 102, 3), (125, .iload_n 3, 1), (126, .ireturn, 1)]
set_option maxRecDepth 100000 in
theorem kX12_law_ok : kX12_law.all (fun q => decide (decode cX12_law q.1 = .ok q.2)) = true := by decide +kernel
theorem dX12_law_0 : decode cX12_law 0 = .ok (.aload_n 0, 1) := dk_get kX12_law_ok 0 rfl
theorem dX12_law_1 : decode cX12_law 1 = .ok (.iconst 0, 1) := dk_get kX12_law_ok 1 rfl
theorem dX12_law_2 : decode cX12_law 2 = .ok (.putfield 1, 3) := dk_get kX12_law_ok 2 rfl
theorem dX12_law_5 : decode cX12_law 5 = .ok (.aload_n 0, 1) := dk_get kX12_law_ok 3 rfl
theorem dX12_law_6 : decode cX12_law 6 = .ok (.iload_n 1, 1) := dk_get kX12_law_ok 4 rfl
theorem dX12_law_7 : decode cX12_law 7 = .ok (.iconst 0, 1) := dk_get kX12_law_ok 5 rfl
theorem dX12_law_8 : decode cX12_law 8 = .ok (.iconst 2, 1) := dk_get kX12_law_ok 6 rfl
theorem dX12_law_9 : decode cX12_law 9 = .ok (.invokestatic 169, 3) := dk_get kX12_law_ok 7 rfl
theorem dX12_law_12 : decode cX12_law 12 = .ok (.ifCond .eq 45, 3) := dk_get kX12_law_ok 8 rfl
theorem dX12_law_15 : decode cX12_law 15 = .ok (.iload_n 2, 1) := dk_get kX12_law_ok 9 rfl
theorem dX12_law_16 : decode cX12_law 16 = .ok (.iload_n 1, 1) := dk_get kX12_law_ok 10 rfl
theorem dX12_law_17 : decode cX12_law 17 = .ok (.iconst 2, 1) := dk_get kX12_law_ok 11 rfl
theorem dX12_law_18 : decode cX12_law 18 = .ok (.if_icmp .ne 7, 3) := dk_get kX12_law_ok 12 rfl
theorem dX12_law_21 : decode cX12_law 21 = .ok (.iconst (-1), 1) := dk_get kX12_law_ok 13 rfl
theorem dX12_law_22 : decode cX12_law 22 = .ok (.goto 4, 3) := dk_get kX12_law_ok 14 rfl
theorem dX12_law_25 : decode cX12_law 25 = .ok (.iconst 0, 1) := dk_get kX12_law_ok 15 rfl
theorem dX12_law_26 : decode cX12_law 26 = .ok (.iload_n 1, 1) := dk_get kX12_law_ok 16 rfl
theorem dX12_law_27 : decode cX12_law 27 = .ok (.ifCond .ne 8, 3) := dk_get kX12_law_ok 17 rfl
theorem dX12_law_30 : decode cX12_law 30 = .ok (.bipush 30, 2) := dk_get kX12_law_ok 18 rfl
theorem dX12_law_32 : decode cX12_law 32 = .ok (.goto 15, 3) := dk_get kX12_law_ok 19 rfl
theorem dX12_law_35 : decode cX12_law 35 = .ok (.iload_n 1, 1) := dk_get kX12_law_ok 20 rfl
theorem dX12_law_36 : decode cX12_law 36 = .ok (.iconst 1, 1) := dk_get kX12_law_ok 21 rfl
theorem dX12_law_37 : decode cX12_law 37 = .ok (.if_icmp .ne 7, 3) := dk_get kX12_law_ok 22 rfl
theorem dX12_law_40 : decode cX12_law 40 = .ok (.iconst 1, 1) := dk_get kX12_law_ok 23 rfl
theorem dX12_law_41 : decode cX12_law 41 = .ok (.goto 6, 3) := dk_get kX12_law_ok 24 rfl
theorem dX12_law_44 : decode cX12_law 44 = .ok (.sipush 199, 3) := dk_get kX12_law_ok 25 rfl
theorem dX12_law_47 : decode cX12_law 47 = .ok (.invokestatic 169, 3) := dk_get kX12_law_ok 26 rfl
theorem dX12_law_50 : decode cX12_law 50 = .ok (.ifCond .eq 7, 3) := dk_get kX12_law_ok 27 rfl
theorem dX12_law_53 : decode cX12_law 53 = .ok (.iconst 1, 1) := dk_get kX12_law_ok 28 rfl
theorem dX12_law_54 : decode cX12_law 54 = .ok (.goto 4, 3) := dk_get kX12_law_ok 29 rfl
theorem dX12_law_57 : decode cX12_law 57 = .ok (.iconst 0, 1) := dk_get kX12_law_ok 30 rfl
theorem dX12_law_58 : decode cX12_law 58 = .ok (.iconst 1, 1) := dk_get kX12_law_ok 31 rfl
theorem dX12_law_59 : decode cX12_law 59 = .ok (.invokevirtual 173, 3) := dk_get kX12_law_ok 32 rfl
theorem dX12_law_62 : decode cX12_law 62 = .ok (.ifCond .ne 5, 3) := dk_get kX12_law_ok 33 rfl
theorem dX12_law_65 : decode cX12_law 65 = .ok (.iconst 0, 1) := dk_get kX12_law_ok 34 rfl
theorem dX12_law_66 : decode cX12_law 66 = .ok (.ireturn, 1) := dk_get kX12_law_ok 35 rfl
theorem dX12_law_67 : decode cX12_law 67 = .ok (.iload_n 1, 1) := dk_get kX12_law_ok 36 rfl
theorem dX12_law_68 : decode cX12_law 68 = .ok (.ifCond .ne 10, 3) := dk_get kX12_law_ok 37 rfl
theorem dX12_law_71 : decode cX12_law 71 = .ok (.aload_n 0, 1) := dk_get kX12_law_ok 38 rfl
theorem dX12_law_72 : decode cX12_law 72 = .ok (.getfield 365, 3) := dk_get kX12_law_ok 39 rfl
theorem dX12_law_75 : decode cX12_law 75 = .ok (.goto 19, 3) := dk_get kX12_law_ok 40 rfl
theorem dX12_law_78 : decode cX12_law 78 = .ok (.iload_n 1, 1) := dk_get kX12_law_ok 41 rfl
theorem dX12_law_79 : decode cX12_law 79 = .ok (.iconst 1, 1) := dk_get kX12_law_ok 42 rfl
theorem dX12_law_80 : decode cX12_law 80 = .ok (.if_icmp .ne 10, 3) := dk_get kX12_law_ok 43 rfl
theorem dX12_law_83 : decode cX12_law 83 = .ok (.aload_n 0, 1) := dk_get kX12_law_ok 44 rfl
theorem dX12_law_84 : decode cX12_law 84 = .ok (.getfield 359, 3) := dk_get kX12_law_ok 45 rfl
theorem dX12_law_87 : decode cX12_law 87 = .ok (.goto 7, 3) := dk_get kX12_law_ok 46 rfl
theorem dX12_law_90 : decode cX12_law 90 = .ok (.aload_n 0, 1) := dk_get kX12_law_ok 47 rfl
theorem dX12_law_91 : decode cX12_law 91 = .ok (.getfield 102, 3) := dk_get kX12_law_ok 48 rfl
theorem dX12_law_94 : decode cX12_law 94 = .ok (.istore_n 3, 1) := dk_get kX12_law_ok 49 rfl
theorem dX12_law_95 : decode cX12_law 95 = .ok (.iload_n 1, 1) := dk_get kX12_law_ok 50 rfl
theorem dX12_law_96 : decode cX12_law 96 = .ok (.ifCond .ne 11, 3) := dk_get kX12_law_ok 51 rfl
theorem dX12_law_99 : decode cX12_law 99 = .ok (.aload_n 0, 1) := dk_get kX12_law_ok 52 rfl
theorem dX12_law_100 : decode cX12_law 100 = .ok (.iload_n 2, 1) := dk_get kX12_law_ok 53 rfl
theorem dX12_law_101 : decode cX12_law 101 = .ok (.putfield 365, 3) := dk_get kX12_law_ok 54 rfl
theorem dX12_law_104 : decode cX12_law 104 = .ok (.goto 21, 3) := dk_get kX12_law_ok 55 rfl
theorem dX12_law_107 : decode cX12_law 107 = .ok (.iload_n 1, 1) := dk_get kX12_law_ok 56 rfl
theorem dX12_law_108 : decode cX12_law 108 = .ok (.iconst 1, 1) := dk_get kX12_law_ok 57 rfl
theorem dX12_law_109 : decode cX12_law 109 = .ok (.if_icmp .ne 11, 3) := dk_get kX12_law_ok 58 rfl
theorem dX12_law_112 : decode cX12_law 112 = .ok (.aload_n 0, 1) := dk_get kX12_law_ok 59 rfl
theorem dX12_law_113 : decode cX12_law 113 = .ok (.iload_n 2, 1) := dk_get kX12_law_ok 60 rfl
theorem dX12_law_114 : decode cX12_law 114 = .ok (.putfield 359, 3) := dk_get kX12_law_ok 61 rfl
theorem dX12_law_117 : decode cX12_law 117 = .ok (.goto 8, 3) := dk_get kX12_law_ok 62 rfl
theorem dX12_law_120 : decode cX12_law 120 = .ok (.aload_n 0, 1) := dk_get kX12_law_ok 63 rfl
theorem dX12_law_121 : decode cX12_law 121 = .ok (.iload_n 2, 1) := dk_get kX12_law_ok 64 rfl
theorem dX12_law_122 : decode cX12_law 122 = .ok (.putfield 102, 3) := dk_get kX12_law_ok 65 rfl
theorem dX12_law_125 : decode cX12_law 125 = .ok (.iload_n 3, 1) := dk_get kX12_law_ok 66 rfl
theorem dX12_law_126 : decode cX12_law 126 = .ok (.ireturn, 1) := dk_get kX12_law_ok 67 rfl
def kX12_fixAt : List (Nat × Instr × Nat) := [(0, .iconst 0, 1), (1, .istore_n 3, 1), (2, .iload_n 3, 1), (3, .aload_n 0, 1), (4, .getfield 368, 3), (7, .if_icmp .ge 51, 3), (10, .aload_n 0, 1), (11, .getfield 105, 3), (14, .iload_n 3, 1), (15, .iaload, 1), (16, .iload_n 1, 1), (17, .if_icmp .ne 13, 3), (20, .aload_n 0, 1), (21, .getfield 108, 3), (24, .iload_n 3, 1), (25, .iaload, 1), (26, .iload_n 2, 1), (27, .if_icmp .eq 23, 3), (30, .aload_n 0, 1), (31, .getfield 105, 3), (34, .iload_n 3, 1), (35, .iaload, 1), (36, .iload_n 2, 1), (37, .if_icmp .ne 15, 3), (40, .aload_n 0, 1), (41, .getfield 108, 3), (44, .iload_n 3, 1), (45, .iaload, 1), (46, .iload_n 1, 1), (47, .if_icmp .ne 5, 3), (50, .iload_n 3, 1), (51, .ireturn, 1), (52, .iinc 3 1, 3), (55, .goto (-53), 3), (58, .iconst (-1), 1), (59, .ireturn, 1)]
set_option maxRecDepth 100000 in
theorem kX12_fixAt_ok : kX12_fixAt.all (fun q => decide (decode cX12_fixAt q.1 = .ok q.2)) = true := by decide +kernel
theorem dX12_fixAt_0 : decode cX12_fixAt 0 = .ok (.iconst 0, 1) := dk_get kX12_fixAt_ok 0 rfl
theorem dX12_fixAt_1 : decode cX12_fixAt 1 = .ok (.istore_n 3, 1) := dk_get kX12_fixAt_ok 1 rfl
theorem dX12_fixAt_2 : decode cX12_fixAt 2 = .ok (.iload_n 3, 1) := dk_get kX12_fixAt_ok 2 rfl
theorem dX12_fixAt_3 : decode cX12_fixAt 3 = .ok (.aload_n 0, 1) := dk_get kX12_fixAt_ok 3 rfl
theorem dX12_fixAt_4 : decode cX12_fixAt 4 = .ok (.getfield 368, 3) := dk_get kX12_fixAt_ok 4 rfl
theorem dX12_fixAt_7 : decode cX12_fixAt 7 = .ok (.if_icmp .ge 51, 3) := dk_get kX12_fixAt_ok 5 rfl
theorem dX12_fixAt_10 : decode cX12_fixAt 10 = .ok (.aload_n 0, 1) := dk_get kX12_fixAt_ok 6 rfl
theorem dX12_fixAt_11 : decode cX12_fixAt 11 = .ok (.getfield 105, 3) := dk_get kX12_fixAt_ok 7 rfl
theorem dX12_fixAt_14 : decode cX12_fixAt 14 = .ok (.iload_n 3, 1) := dk_get kX12_fixAt_ok 8 rfl
theorem dX12_fixAt_15 : decode cX12_fixAt 15 = .ok (.iaload, 1) := dk_get kX12_fixAt_ok 9 rfl
theorem dX12_fixAt_16 : decode cX12_fixAt 16 = .ok (.iload_n 1, 1) := dk_get kX12_fixAt_ok 10 rfl
theorem dX12_fixAt_17 : decode cX12_fixAt 17 = .ok (.if_icmp .ne 13, 3) := dk_get kX12_fixAt_ok 11 rfl
theorem dX12_fixAt_20 : decode cX12_fixAt 20 = .ok (.aload_n 0, 1) := dk_get kX12_fixAt_ok 12 rfl
theorem dX12_fixAt_21 : decode cX12_fixAt 21 = .ok (.getfield 108, 3) := dk_get kX12_fixAt_ok 13 rfl
theorem dX12_fixAt_24 : decode cX12_fixAt 24 = .ok (.iload_n 3, 1) := dk_get kX12_fixAt_ok 14 rfl
theorem dX12_fixAt_25 : decode cX12_fixAt 25 = .ok (.iaload, 1) := dk_get kX12_fixAt_ok 15 rfl
theorem dX12_fixAt_26 : decode cX12_fixAt 26 = .ok (.iload_n 2, 1) := dk_get kX12_fixAt_ok 16 rfl
theorem dX12_fixAt_27 : decode cX12_fixAt 27 = .ok (.if_icmp .eq 23, 3) := dk_get kX12_fixAt_ok 17 rfl
theorem dX12_fixAt_30 : decode cX12_fixAt 30 = .ok (.aload_n 0, 1) := dk_get kX12_fixAt_ok 18 rfl
theorem dX12_fixAt_31 : decode cX12_fixAt 31 = .ok (.getfield 105, 3) := dk_get kX12_fixAt_ok 19 rfl
theorem dX12_fixAt_34 : decode cX12_fixAt 34 = .ok (.iload_n 3, 1) := dk_get kX12_fixAt_ok 20 rfl
theorem dX12_fixAt_35 : decode cX12_fixAt 35 = .ok (.iaload, 1) := dk_get kX12_fixAt_ok 21 rfl
theorem dX12_fixAt_36 : decode cX12_fixAt 36 = .ok (.iload_n 2, 1) := dk_get kX12_fixAt_ok 22 rfl
theorem dX12_fixAt_37 : decode cX12_fixAt 37 = .ok (.if_icmp .ne 15, 3) := dk_get kX12_fixAt_ok 23 rfl
theorem dX12_fixAt_40 : decode cX12_fixAt 40 = .ok (.aload_n 0, 1) := dk_get kX12_fixAt_ok 24 rfl
theorem dX12_fixAt_41 : decode cX12_fixAt 41 = .ok (.getfield 108, 3) := dk_get kX12_fixAt_ok 25 rfl
theorem dX12_fixAt_44 : decode cX12_fixAt 44 = .ok (.iload_n 3, 1) := dk_get kX12_fixAt_ok 26 rfl
theorem dX12_fixAt_45 : decode cX12_fixAt 45 = .ok (.iaload, 1) := dk_get kX12_fixAt_ok 27 rfl
theorem dX12_fixAt_46 : decode cX12_fixAt 46 = .ok (.iload_n 1, 1) := dk_get kX12_fixAt_ok 28 rfl
theorem dX12_fixAt_47 : decode cX12_fixAt 47 = .ok (.if_icmp .ne 5, 3) := dk_get kX12_fixAt_ok 29 rfl
theorem dX12_fixAt_50 : decode cX12_fixAt 50 = .ok (.iload_n 3, 1) := dk_get kX12_fixAt_ok 30 rfl
theorem dX12_fixAt_51 : decode cX12_fixAt 51 = .ok (.ireturn, 1) := dk_get kX12_fixAt_ok 31 rfl
theorem dX12_fixAt_52 : decode cX12_fixAt 52 = .ok (.iinc 3 1, 3) := dk_get kX12_fixAt_ok 32 rfl
theorem dX12_fixAt_55 : decode cX12_fixAt 55 = .ok (.goto (-53), 3) := dk_get kX12_fixAt_ok 33 rfl
theorem dX12_fixAt_58 : decode cX12_fixAt 58 = .ok (.iconst (-1), 1) := dk_get kX12_fixAt_ok 34 rfl
theorem dX12_fixAt_59 : decode cX12_fixAt 59 = .ok (.ireturn, 1) := dk_get kX12_fixAt_ok 35 rfl
def kX12_fix : List (Nat × Instr × Nat) := [(0, .aload_n 0, 1), (1, .iconst 0, 1), (2, .putfield 1, 3), (5, .aload_n 0, 1), (6, .iload_n 1, 1), (7, .iload_n 2, 1), (8, .invokevirtual 362, 3), (11, .ifCond .ne 5, 3), (14, .iconst 0, 1), (15, .ireturn, 1), (16, .aload_n 0, 1), (17, .iload_n 1, 1), (18, .iload_n 2, 1), (19, .invokevirtual 356, 3), (22, .iconst (-1), 1), (23, .if_icmp .eq 5, 3), (26, .iconst 0, 1), (27, .ireturn, 1), (28, .aload_n 0, 1), (29, .getfield 368, 3), (32, .bipush 20, 2), (34, .if_icmp .ne 5, 3), (37, .iconst (-1), 1), (38, .ireturn, 1), (39, .aload_n 0, 1), (40, .getfield 105, 3), (43, .aload_n 0, 1), (44, .getfield 368, 3), (47, .iload_n 1, 1), (48, .iastore, 1), (49, .aload_n 0, 1), (50, .getfield 108, 3), (53, .aload_n 0, 1), (54, .getfield 368, 3), (57, .iload_n 2, 1), (58, .iastore, 1), (59, .aload_n 0, 1), (60, .getfield 111, 3), (63, .aload_n 0, 1), (64, .getfield 368, 3), (67, .iload_n 3, 1), (68, .bastore, 1), (69, .aload_n 0, 1), (70, .dup, 1), (71, .getfield 368, 3), (74, .iconst 1, 1), (75, .iadd, 1), (76, .putfield 368, 3), (79, .aload_n 0, 1), (80, .getfield 368, 3), (83, .ireturn, 1)]
set_option maxRecDepth 100000 in
theorem kX12_fix_ok : kX12_fix.all (fun q => decide (decode cX12_fix q.1 = .ok q.2)) = true := by decide +kernel
theorem dX12_fix_0 : decode cX12_fix 0 = .ok (.aload_n 0, 1) := dk_get kX12_fix_ok 0 rfl
theorem dX12_fix_1 : decode cX12_fix 1 = .ok (.iconst 0, 1) := dk_get kX12_fix_ok 1 rfl
theorem dX12_fix_2 : decode cX12_fix 2 = .ok (.putfield 1, 3) := dk_get kX12_fix_ok 2 rfl
theorem dX12_fix_5 : decode cX12_fix 5 = .ok (.aload_n 0, 1) := dk_get kX12_fix_ok 3 rfl
theorem dX12_fix_6 : decode cX12_fix 6 = .ok (.iload_n 1, 1) := dk_get kX12_fix_ok 4 rfl
theorem dX12_fix_7 : decode cX12_fix 7 = .ok (.iload_n 2, 1) := dk_get kX12_fix_ok 5 rfl
theorem dX12_fix_8 : decode cX12_fix 8 = .ok (.invokevirtual 362, 3) := dk_get kX12_fix_ok 6 rfl
theorem dX12_fix_11 : decode cX12_fix 11 = .ok (.ifCond .ne 5, 3) := dk_get kX12_fix_ok 7 rfl
theorem dX12_fix_14 : decode cX12_fix 14 = .ok (.iconst 0, 1) := dk_get kX12_fix_ok 8 rfl
theorem dX12_fix_15 : decode cX12_fix 15 = .ok (.ireturn, 1) := dk_get kX12_fix_ok 9 rfl
theorem dX12_fix_16 : decode cX12_fix 16 = .ok (.aload_n 0, 1) := dk_get kX12_fix_ok 10 rfl
theorem dX12_fix_17 : decode cX12_fix 17 = .ok (.iload_n 1, 1) := dk_get kX12_fix_ok 11 rfl
theorem dX12_fix_18 : decode cX12_fix 18 = .ok (.iload_n 2, 1) := dk_get kX12_fix_ok 12 rfl
theorem dX12_fix_19 : decode cX12_fix 19 = .ok (.invokevirtual 356, 3) := dk_get kX12_fix_ok 13 rfl
theorem dX12_fix_22 : decode cX12_fix 22 = .ok (.iconst (-1), 1) := dk_get kX12_fix_ok 14 rfl
theorem dX12_fix_23 : decode cX12_fix 23 = .ok (.if_icmp .eq 5, 3) := dk_get kX12_fix_ok 15 rfl
theorem dX12_fix_26 : decode cX12_fix 26 = .ok (.iconst 0, 1) := dk_get kX12_fix_ok 16 rfl
theorem dX12_fix_27 : decode cX12_fix 27 = .ok (.ireturn, 1) := dk_get kX12_fix_ok 17 rfl
theorem dX12_fix_28 : decode cX12_fix 28 = .ok (.aload_n 0, 1) := dk_get kX12_fix_ok 18 rfl
theorem dX12_fix_29 : decode cX12_fix 29 = .ok (.getfield 368, 3) := dk_get kX12_fix_ok 19 rfl
theorem dX12_fix_32 : decode cX12_fix 32 = .ok (.bipush 20, 2) := dk_get kX12_fix_ok 20 rfl
theorem dX12_fix_34 : decode cX12_fix 34 = .ok (.if_icmp .ne 5, 3) := dk_get kX12_fix_ok 21 rfl
theorem dX12_fix_37 : decode cX12_fix 37 = .ok (.iconst (-1), 1) := dk_get kX12_fix_ok 22 rfl
theorem dX12_fix_38 : decode cX12_fix 38 = .ok (.ireturn, 1) := dk_get kX12_fix_ok 23 rfl
theorem dX12_fix_39 : decode cX12_fix 39 = .ok (.aload_n 0, 1) := dk_get kX12_fix_ok 24 rfl
theorem dX12_fix_40 : decode cX12_fix 40 = .ok (.getfield 105, 3) := dk_get kX12_fix_ok 25 rfl
theorem dX12_fix_43 : decode cX12_fix 43 = .ok (.aload_n 0, 1) := dk_get kX12_fix_ok 26 rfl
theorem dX12_fix_44 : decode cX12_fix 44 = .ok (.getfield 368, 3) := dk_get kX12_fix_ok 27 rfl
theorem dX12_fix_47 : decode cX12_fix 47 = .ok (.iload_n 1, 1) := dk_get kX12_fix_ok 28 rfl
theorem dX12_fix_48 : decode cX12_fix 48 = .ok (.iastore, 1) := dk_get kX12_fix_ok 29 rfl
theorem dX12_fix_49 : decode cX12_fix 49 = .ok (.aload_n 0, 1) := dk_get kX12_fix_ok 30 rfl
theorem dX12_fix_50 : decode cX12_fix 50 = .ok (.getfield 108, 3) := dk_get kX12_fix_ok 31 rfl
theorem dX12_fix_53 : decode cX12_fix 53 = .ok (.aload_n 0, 1) := dk_get kX12_fix_ok 32 rfl
theorem dX12_fix_54 : decode cX12_fix 54 = .ok (.getfield 368, 3) := dk_get kX12_fix_ok 33 rfl
theorem dX12_fix_57 : decode cX12_fix 57 = .ok (.iload_n 2, 1) := dk_get kX12_fix_ok 34 rfl
theorem dX12_fix_58 : decode cX12_fix 58 = .ok (.iastore, 1) := dk_get kX12_fix_ok 35 rfl
theorem dX12_fix_59 : decode cX12_fix 59 = .ok (.aload_n 0, 1) := dk_get kX12_fix_ok 36 rfl
theorem dX12_fix_60 : decode cX12_fix 60 = .ok (.getfield 111, 3) := dk_get kX12_fix_ok 37 rfl
theorem dX12_fix_63 : decode cX12_fix 63 = .ok (.aload_n 0, 1) := dk_get kX12_fix_ok 38 rfl
theorem dX12_fix_64 : decode cX12_fix 64 = .ok (.getfield 368, 3) := dk_get kX12_fix_ok 39 rfl
theorem dX12_fix_67 : decode cX12_fix 67 = .ok (.iload_n 3, 1) := dk_get kX12_fix_ok 40 rfl
theorem dX12_fix_68 : decode cX12_fix 68 = .ok (.bastore, 1) := dk_get kX12_fix_ok 41 rfl
theorem dX12_fix_69 : decode cX12_fix 69 = .ok (.aload_n 0, 1) := dk_get kX12_fix_ok 42 rfl
theorem dX12_fix_70 : decode cX12_fix 70 = .ok (.dup, 1) := dk_get kX12_fix_ok 43 rfl
theorem dX12_fix_71 : decode cX12_fix 71 = .ok (.getfield 368, 3) := dk_get kX12_fix_ok 44 rfl
theorem dX12_fix_74 : decode cX12_fix 74 = .ok (.iconst 1, 1) := dk_get kX12_fix_ok 45 rfl
theorem dX12_fix_75 : decode cX12_fix 75 = .ok (.iadd, 1) := dk_get kX12_fix_ok 46 rfl
theorem dX12_fix_76 : decode cX12_fix 76 = .ok (.putfield 368, 3) := dk_get kX12_fix_ok 47 rfl
theorem dX12_fix_79 : decode cX12_fix 79 = .ok (.aload_n 0, 1) := dk_get kX12_fix_ok 48 rfl
theorem dX12_fix_80 : decode cX12_fix 80 = .ok (.getfield 368, 3) := dk_get kX12_fix_ok 49 rfl
theorem dX12_fix_83 : decode cX12_fix 83 = .ok (.ireturn, 1) := dk_get kX12_fix_ok 50 rfl
def kX12_loose : List (Nat × Instr × Nat) := [(0, .aload_n 0, 1), (1, .iconst 0, 1), (2, .putfield 1, 3), (5, .aload_n 0, 1), (6, .iload_n 1, 1), (7, .iload_n 2, 1), (8, .invokevirtual 362, 3), (11, .ifCond .ne 5, 3), (14, .iconst 0, 1), (15, .ireturn, 1), (16, .aload_n 0, 1), (17, .iload_n 1, 1), (18, .iload_n 2, 1), (19, .invokevirtual 356, 3), (22, .istore_n 3, 1), (23, .iload_n 3, 1), (24, .iconst (-1), 1), (25, .if_icmp .ne 5, 3), (28, .iconst 0, 1), (29, .ireturn, 1), (30, .aload_n 0, 1), (31, .dup, 1), (32, .getfield 368, 3), (35, .iconst 1, 1), (36, .isub, 1), (37, .putfield 368, 3), (40, .aload_n 0, 1), (41, .getfield 105, 3), (44, .iload_n 3, 1), (45, .aload_n 0, 1), (46, .getfield 105, 3), (49, .aload_n 0, 1), (50, .getfield 368, 3), (53, .iaload, 1), (54, .iastore, 1), (55, .aload_n 0, 1), (56, .getfield 108, 3), (59, .iload_n 3, 1), (60, .aload_n 0, 1), (61, .getfield 108, 3), (64, .aload_n 0, 1), (65, .getfield 368, 3), (68, .iaload, 1), (69, .iastore, 1), (70, .aload_n 0, 1), (71, .getfield 111, 3), (74, .iload_n 3, 1), (75, .aload_n 0, 1), (76, .getfield 111, 3), (79, .aload_n 0, 1), (80, .getfield 368, 3), (83, .baload, 1), (84, .bastore, 1), (85, .iconst 1, 1), (86, .ireturn, 1)]
set_option maxRecDepth 100000 in
theorem kX12_loose_ok : kX12_loose.all (fun q => decide (decode cX12_loose q.1 = .ok q.2)) = true := by decide +kernel
theorem dX12_loose_0 : decode cX12_loose 0 = .ok (.aload_n 0, 1) := dk_get kX12_loose_ok 0 rfl
theorem dX12_loose_1 : decode cX12_loose 1 = .ok (.iconst 0, 1) := dk_get kX12_loose_ok 1 rfl
theorem dX12_loose_2 : decode cX12_loose 2 = .ok (.putfield 1, 3) := dk_get kX12_loose_ok 2 rfl
theorem dX12_loose_5 : decode cX12_loose 5 = .ok (.aload_n 0, 1) := dk_get kX12_loose_ok 3 rfl
theorem dX12_loose_6 : decode cX12_loose 6 = .ok (.iload_n 1, 1) := dk_get kX12_loose_ok 4 rfl
theorem dX12_loose_7 : decode cX12_loose 7 = .ok (.iload_n 2, 1) := dk_get kX12_loose_ok 5 rfl
theorem dX12_loose_8 : decode cX12_loose 8 = .ok (.invokevirtual 362, 3) := dk_get kX12_loose_ok 6 rfl
theorem dX12_loose_11 : decode cX12_loose 11 = .ok (.ifCond .ne 5, 3) := dk_get kX12_loose_ok 7 rfl
theorem dX12_loose_14 : decode cX12_loose 14 = .ok (.iconst 0, 1) := dk_get kX12_loose_ok 8 rfl
theorem dX12_loose_15 : decode cX12_loose 15 = .ok (.ireturn, 1) := dk_get kX12_loose_ok 9 rfl
theorem dX12_loose_16 : decode cX12_loose 16 = .ok (.aload_n 0, 1) := dk_get kX12_loose_ok 10 rfl
theorem dX12_loose_17 : decode cX12_loose 17 = .ok (.iload_n 1, 1) := dk_get kX12_loose_ok 11 rfl
theorem dX12_loose_18 : decode cX12_loose 18 = .ok (.iload_n 2, 1) := dk_get kX12_loose_ok 12 rfl
theorem dX12_loose_19 : decode cX12_loose 19 = .ok (.invokevirtual 356, 3) := dk_get kX12_loose_ok 13 rfl
theorem dX12_loose_22 : decode cX12_loose 22 = .ok (.istore_n 3, 1) := dk_get kX12_loose_ok 14 rfl
theorem dX12_loose_23 : decode cX12_loose 23 = .ok (.iload_n 3, 1) := dk_get kX12_loose_ok 15 rfl
theorem dX12_loose_24 : decode cX12_loose 24 = .ok (.iconst (-1), 1) := dk_get kX12_loose_ok 16 rfl
theorem dX12_loose_25 : decode cX12_loose 25 = .ok (.if_icmp .ne 5, 3) := dk_get kX12_loose_ok 17 rfl
theorem dX12_loose_28 : decode cX12_loose 28 = .ok (.iconst 0, 1) := dk_get kX12_loose_ok 18 rfl
theorem dX12_loose_29 : decode cX12_loose 29 = .ok (.ireturn, 1) := dk_get kX12_loose_ok 19 rfl
theorem dX12_loose_30 : decode cX12_loose 30 = .ok (.aload_n 0, 1) := dk_get kX12_loose_ok 20 rfl
theorem dX12_loose_31 : decode cX12_loose 31 = .ok (.dup, 1) := dk_get kX12_loose_ok 21 rfl
theorem dX12_loose_32 : decode cX12_loose 32 = .ok (.getfield 368, 3) := dk_get kX12_loose_ok 22 rfl
theorem dX12_loose_35 : decode cX12_loose 35 = .ok (.iconst 1, 1) := dk_get kX12_loose_ok 23 rfl
theorem dX12_loose_36 : decode cX12_loose 36 = .ok (.isub, 1) := dk_get kX12_loose_ok 24 rfl
theorem dX12_loose_37 : decode cX12_loose 37 = .ok (.putfield 368, 3) := dk_get kX12_loose_ok 25 rfl
theorem dX12_loose_40 : decode cX12_loose 40 = .ok (.aload_n 0, 1) := dk_get kX12_loose_ok 26 rfl
theorem dX12_loose_41 : decode cX12_loose 41 = .ok (.getfield 105, 3) := dk_get kX12_loose_ok 27 rfl
theorem dX12_loose_44 : decode cX12_loose 44 = .ok (.iload_n 3, 1) := dk_get kX12_loose_ok 28 rfl
theorem dX12_loose_45 : decode cX12_loose 45 = .ok (.aload_n 0, 1) := dk_get kX12_loose_ok 29 rfl
theorem dX12_loose_46 : decode cX12_loose 46 = .ok (.getfield 105, 3) := dk_get kX12_loose_ok 30 rfl
theorem dX12_loose_49 : decode cX12_loose 49 = .ok (.aload_n 0, 1) := dk_get kX12_loose_ok 31 rfl
theorem dX12_loose_50 : decode cX12_loose 50 = .ok (.getfield 368, 3) := dk_get kX12_loose_ok 32 rfl
theorem dX12_loose_53 : decode cX12_loose 53 = .ok (.iaload, 1) := dk_get kX12_loose_ok 33 rfl
theorem dX12_loose_54 : decode cX12_loose 54 = .ok (.iastore, 1) := dk_get kX12_loose_ok 34 rfl
theorem dX12_loose_55 : decode cX12_loose 55 = .ok (.aload_n 0, 1) := dk_get kX12_loose_ok 35 rfl
theorem dX12_loose_56 : decode cX12_loose 56 = .ok (.getfield 108, 3) := dk_get kX12_loose_ok 36 rfl
theorem dX12_loose_59 : decode cX12_loose 59 = .ok (.iload_n 3, 1) := dk_get kX12_loose_ok 37 rfl
theorem dX12_loose_60 : decode cX12_loose 60 = .ok (.aload_n 0, 1) := dk_get kX12_loose_ok 38 rfl
theorem dX12_loose_61 : decode cX12_loose 61 = .ok (.getfield 108, 3) := dk_get kX12_loose_ok 39 rfl
theorem dX12_loose_64 : decode cX12_loose 64 = .ok (.aload_n 0, 1) := dk_get kX12_loose_ok 40 rfl
theorem dX12_loose_65 : decode cX12_loose 65 = .ok (.getfield 368, 3) := dk_get kX12_loose_ok 41 rfl
theorem dX12_loose_68 : decode cX12_loose 68 = .ok (.iaload, 1) := dk_get kX12_loose_ok 42 rfl
theorem dX12_loose_69 : decode cX12_loose 69 = .ok (.iastore, 1) := dk_get kX12_loose_ok 43 rfl
theorem dX12_loose_70 : decode cX12_loose 70 = .ok (.aload_n 0, 1) := dk_get kX12_loose_ok 44 rfl
theorem dX12_loose_71 : decode cX12_loose 71 = .ok (.getfield 111, 3) := dk_get kX12_loose_ok 45 rfl
theorem dX12_loose_74 : decode cX12_loose 74 = .ok (.iload_n 3, 1) := dk_get kX12_loose_ok 46 rfl
theorem dX12_loose_75 : decode cX12_loose 75 = .ok (.aload_n 0, 1) := dk_get kX12_loose_ok 47 rfl
theorem dX12_loose_76 : decode cX12_loose 76 = .ok (.getfield 111, 3) := dk_get kX12_loose_ok 48 rfl
theorem dX12_loose_79 : decode cX12_loose 79 = .ok (.aload_n 0, 1) := dk_get kX12_loose_ok 49 rfl
theorem dX12_loose_80 : decode cX12_loose 80 = .ok (.getfield 368, 3) := dk_get kX12_loose_ok 50 rfl
theorem dX12_loose_83 : decode cX12_loose 83 = .ok (.baload, 1) := dk_get kX12_loose_ok 51 rfl
theorem dX12_loose_84 : decode cX12_loose 84 = .ok (.bastore, 1) := dk_get kX12_loose_ok 52 rfl
theorem dX12_loose_85 : decode cX12_loose 85 = .ok (.iconst 1, 1) := dk_get kX12_loose_ok 53 rfl
theorem dX12_loose_86 : decode cX12_loose 86 = .ok (.ireturn, 1) := dk_get kX12_loose_ok 54 rfl
def kX12_number : List (Nat × Instr × Nat) := [(0, .iconst 0, 1), (1, .istore_n 2, 1), (2, .iload_n 2, 1), (3, .aload_n 0, 1), (4, .getfield 177, 3), (7, .if_icmp .ge 50, 3), (10, .iload_n 2, 1), (11, .istore_n 3, 1), (12, .aload_n 0, 1), (13, .getfield 177, 3), (16, .iconst 1, 1), (17, .isub, 1), (18, .istore 4, 2), (20, .iload 4, 2), (22, .ifCond .lt 22, 3), (25, .aload_n 1, 1), (26, .iload 4, 2), (28, .iaload, 1), (29, .aload_n 1, 1), (30, .iload_n 2, 1), (31, .iaload, 1), (32, .if_icmp .ne 6, 3), (35, .iload 4, 2), (37, .istore_n 3, 1), (38, .iinc 4 (-1), 3), (41, .goto (-21), 3), (44, .aload_n 0, 1), (45, .getfield 117, 3), (48, .iload_n 2, 1), (49, .iload_n 3, 1), (50, .iastore, 1), (51, .iinc 2 1, 3), (54, .goto (-52), 3), (57, .iconst 0, 1), (58, .istore_n 2, 1), (59, .iload_n 2, 1), (60, .aload_n 0, 1), (61, .getfield 177, 3), (64, .if_icmp .ge 18, 3), (67, .aload_n 1, 1), (68, .iload_n 2, 1), (69, .aload_n 0, 1), (70, .getfield 117, 3), (73, .iload_n 2, 1), (74, .iaload, 1), (75, .iastore, 1), (76, .iinc 2 1, 3), (79, .goto (-20), 3), (82, .return_, 1)]
set_option maxRecDepth 100000 in
theorem kX12_number_ok : kX12_number.all (fun q => decide (decode cX12_number q.1 = .ok q.2)) = true := by decide +kernel
theorem dX12_number_0 : decode cX12_number 0 = .ok (.iconst 0, 1) := dk_get kX12_number_ok 0 rfl
theorem dX12_number_1 : decode cX12_number 1 = .ok (.istore_n 2, 1) := dk_get kX12_number_ok 1 rfl
theorem dX12_number_2 : decode cX12_number 2 = .ok (.iload_n 2, 1) := dk_get kX12_number_ok 2 rfl
theorem dX12_number_3 : decode cX12_number 3 = .ok (.aload_n 0, 1) := dk_get kX12_number_ok 3 rfl
theorem dX12_number_4 : decode cX12_number 4 = .ok (.getfield 177, 3) := dk_get kX12_number_ok 4 rfl
theorem dX12_number_7 : decode cX12_number 7 = .ok (.if_icmp .ge 50, 3) := dk_get kX12_number_ok 5 rfl
theorem dX12_number_10 : decode cX12_number 10 = .ok (.iload_n 2, 1) := dk_get kX12_number_ok 6 rfl
theorem dX12_number_11 : decode cX12_number 11 = .ok (.istore_n 3, 1) := dk_get kX12_number_ok 7 rfl
theorem dX12_number_12 : decode cX12_number 12 = .ok (.aload_n 0, 1) := dk_get kX12_number_ok 8 rfl
theorem dX12_number_13 : decode cX12_number 13 = .ok (.getfield 177, 3) := dk_get kX12_number_ok 9 rfl
theorem dX12_number_16 : decode cX12_number 16 = .ok (.iconst 1, 1) := dk_get kX12_number_ok 10 rfl
theorem dX12_number_17 : decode cX12_number 17 = .ok (.isub, 1) := dk_get kX12_number_ok 11 rfl
theorem dX12_number_18 : decode cX12_number 18 = .ok (.istore 4, 2) := dk_get kX12_number_ok 12 rfl
theorem dX12_number_20 : decode cX12_number 20 = .ok (.iload 4, 2) := dk_get kX12_number_ok 13 rfl
theorem dX12_number_22 : decode cX12_number 22 = .ok (.ifCond .lt 22, 3) := dk_get kX12_number_ok 14 rfl
theorem dX12_number_25 : decode cX12_number 25 = .ok (.aload_n 1, 1) := dk_get kX12_number_ok 15 rfl
theorem dX12_number_26 : decode cX12_number 26 = .ok (.iload 4, 2) := dk_get kX12_number_ok 16 rfl
theorem dX12_number_28 : decode cX12_number 28 = .ok (.iaload, 1) := dk_get kX12_number_ok 17 rfl
theorem dX12_number_29 : decode cX12_number 29 = .ok (.aload_n 1, 1) := dk_get kX12_number_ok 18 rfl
theorem dX12_number_30 : decode cX12_number 30 = .ok (.iload_n 2, 1) := dk_get kX12_number_ok 19 rfl
theorem dX12_number_31 : decode cX12_number 31 = .ok (.iaload, 1) := dk_get kX12_number_ok 20 rfl
theorem dX12_number_32 : decode cX12_number 32 = .ok (.if_icmp .ne 6, 3) := dk_get kX12_number_ok 21 rfl
theorem dX12_number_35 : decode cX12_number 35 = .ok (.iload 4, 2) := dk_get kX12_number_ok 22 rfl
theorem dX12_number_37 : decode cX12_number 37 = .ok (.istore_n 3, 1) := dk_get kX12_number_ok 23 rfl
theorem dX12_number_38 : decode cX12_number 38 = .ok (.iinc 4 (-1), 3) := dk_get kX12_number_ok 24 rfl
theorem dX12_number_41 : decode cX12_number 41 = .ok (.goto (-21), 3) := dk_get kX12_number_ok 25 rfl
theorem dX12_number_44 : decode cX12_number 44 = .ok (.aload_n 0, 1) := dk_get kX12_number_ok 26 rfl
theorem dX12_number_45 : decode cX12_number 45 = .ok (.getfield 117, 3) := dk_get kX12_number_ok 27 rfl
theorem dX12_number_48 : decode cX12_number 48 = .ok (.iload_n 2, 1) := dk_get kX12_number_ok 28 rfl
theorem dX12_number_49 : decode cX12_number 49 = .ok (.iload_n 3, 1) := dk_get kX12_number_ok 29 rfl
theorem dX12_number_50 : decode cX12_number 50 = .ok (.iastore, 1) := dk_get kX12_number_ok 30 rfl
theorem dX12_number_51 : decode cX12_number 51 = .ok (.iinc 2 1, 3) := dk_get kX12_number_ok 31 rfl
theorem dX12_number_54 : decode cX12_number 54 = .ok (.goto (-52), 3) := dk_get kX12_number_ok 32 rfl
theorem dX12_number_57 : decode cX12_number 57 = .ok (.iconst 0, 1) := dk_get kX12_number_ok 33 rfl
theorem dX12_number_58 : decode cX12_number 58 = .ok (.istore_n 2, 1) := dk_get kX12_number_ok 34 rfl
theorem dX12_number_59 : decode cX12_number 59 = .ok (.iload_n 2, 1) := dk_get kX12_number_ok 35 rfl
theorem dX12_number_60 : decode cX12_number 60 = .ok (.aload_n 0, 1) := dk_get kX12_number_ok 36 rfl
theorem dX12_number_61 : decode cX12_number 61 = .ok (.getfield 177, 3) := dk_get kX12_number_ok 37 rfl
theorem dX12_number_64 : decode cX12_number 64 = .ok (.if_icmp .ge 18, 3) := dk_get kX12_number_ok 38 rfl
theorem dX12_number_67 : decode cX12_number 67 = .ok (.aload_n 1, 1) := dk_get kX12_number_ok 39 rfl
theorem dX12_number_68 : decode cX12_number 68 = .ok (.iload_n 2, 1) := dk_get kX12_number_ok 40 rfl
theorem dX12_number_69 : decode cX12_number 69 = .ok (.aload_n 0, 1) := dk_get kX12_number_ok 41 rfl
theorem dX12_number_70 : decode cX12_number 70 = .ok (.getfield 117, 3) := dk_get kX12_number_ok 42 rfl
theorem dX12_number_73 : decode cX12_number 73 = .ok (.iload_n 2, 1) := dk_get kX12_number_ok 43 rfl
theorem dX12_number_74 : decode cX12_number 74 = .ok (.iaload, 1) := dk_get kX12_number_ok 44 rfl
theorem dX12_number_75 : decode cX12_number 75 = .ok (.iastore, 1) := dk_get kX12_number_ok 45 rfl
theorem dX12_number_76 : decode cX12_number 76 = .ok (.iinc 2 1, 3) := dk_get kX12_number_ok 46 rfl
theorem dX12_number_79 : decode cX12_number 79 = .ok (.goto (-20), 3) := dk_get kX12_number_ok 47 rfl
theorem dX12_number_82 : decode cX12_number 82 = .ok (.return_, 1) := dk_get kX12_number_ok 48 rfl
def kX12_costOf : List (Nat × Instr × Nat) := [(0, .lconst 0, 1), (1, .lstore_n 2, 1), (2, .iconst 0, 1), (3, .istore 4, 2), (5, .iload 4, 2), (7, .aload_n 0, 1), (8, .getfield 177, 3), (11, .if_icmp .ge 87, 3), (14, .iload 4, 2), (16, .iconst 1, 1), (17, .iadd, 1), (18, .istore 5, 2), (20, .iload 5, 2), (22, .aload_n 0, 1), (23, .getfield 177, 3), (26, .if_icmp .ge 66, 3), (29, .aload_n 0, 1), (30, .getfield 89, 3), (33, .bipush 30, 2), (35, .iload 4, 2), (37, .imul, 1), (38, .iload 5, 2), (40, .iadd, 1), (41, .iaload, 1), (42, .istore 6, 2), (44, .lload_n 2, 1), (45, .aload_n 1, 1), (46, .iload 4, 2), (48, .iaload, 1), (49, .aload_n 1, 1), (50, .iload 5, 2), (52, .iaload, 1), (53, .if_icmp .ne 19, 3), (56, .iload 6, 2), (58, .ifCond .ge 10, 3), (61, .iload 6, 2), (63, .ineg, 1), (64, .i2l, 1), (65, .goto 19, 3), (68, .lconst 0, 1), (69, .goto 15, 3), (72, .iload 6, 2), (74, .ifCond .le 9, 3), (77, .iload 6, 2), (79, .i2l, 1), (80, .goto 4, 3), (83, .lconst 0, 1), (84, .ladd, 1), (85, .lstore_n 2, 1), (86, .iinc 5 1, 3), (89, .goto (-69), 3), (92, .iinc 4 1, 3), (95, .goto (-90), 3), (98, .lload_n 2, 1), (99, .lreturn, 1)]
set_option maxRecDepth 100000 in
theorem kX12_costOf_ok : kX12_costOf.all (fun q => decide (decode cX12_costOf q.1 = .ok q.2)) = true := by decide +kernel
theorem dX12_costOf_0 : decode cX12_costOf 0 = .ok (.lconst 0, 1) := dk_get kX12_costOf_ok 0 rfl
theorem dX12_costOf_1 : decode cX12_costOf 1 = .ok (.lstore_n 2, 1) := dk_get kX12_costOf_ok 1 rfl
theorem dX12_costOf_2 : decode cX12_costOf 2 = .ok (.iconst 0, 1) := dk_get kX12_costOf_ok 2 rfl
theorem dX12_costOf_3 : decode cX12_costOf 3 = .ok (.istore 4, 2) := dk_get kX12_costOf_ok 3 rfl
theorem dX12_costOf_5 : decode cX12_costOf 5 = .ok (.iload 4, 2) := dk_get kX12_costOf_ok 4 rfl
theorem dX12_costOf_7 : decode cX12_costOf 7 = .ok (.aload_n 0, 1) := dk_get kX12_costOf_ok 5 rfl
theorem dX12_costOf_8 : decode cX12_costOf 8 = .ok (.getfield 177, 3) := dk_get kX12_costOf_ok 6 rfl
theorem dX12_costOf_11 : decode cX12_costOf 11 = .ok (.if_icmp .ge 87, 3) := dk_get kX12_costOf_ok 7 rfl
theorem dX12_costOf_14 : decode cX12_costOf 14 = .ok (.iload 4, 2) := dk_get kX12_costOf_ok 8 rfl
theorem dX12_costOf_16 : decode cX12_costOf 16 = .ok (.iconst 1, 1) := dk_get kX12_costOf_ok 9 rfl
theorem dX12_costOf_17 : decode cX12_costOf 17 = .ok (.iadd, 1) := dk_get kX12_costOf_ok 10 rfl
theorem dX12_costOf_18 : decode cX12_costOf 18 = .ok (.istore 5, 2) := dk_get kX12_costOf_ok 11 rfl
theorem dX12_costOf_20 : decode cX12_costOf 20 = .ok (.iload 5, 2) := dk_get kX12_costOf_ok 12 rfl
theorem dX12_costOf_22 : decode cX12_costOf 22 = .ok (.aload_n 0, 1) := dk_get kX12_costOf_ok 13 rfl
theorem dX12_costOf_23 : decode cX12_costOf 23 = .ok (.getfield 177, 3) := dk_get kX12_costOf_ok 14 rfl
theorem dX12_costOf_26 : decode cX12_costOf 26 = .ok (.if_icmp .ge 66, 3) := dk_get kX12_costOf_ok 15 rfl
theorem dX12_costOf_29 : decode cX12_costOf 29 = .ok (.aload_n 0, 1) := dk_get kX12_costOf_ok 16 rfl
theorem dX12_costOf_30 : decode cX12_costOf 30 = .ok (.getfield 89, 3) := dk_get kX12_costOf_ok 17 rfl
theorem dX12_costOf_33 : decode cX12_costOf 33 = .ok (.bipush 30, 2) := dk_get kX12_costOf_ok 18 rfl
theorem dX12_costOf_35 : decode cX12_costOf 35 = .ok (.iload 4, 2) := dk_get kX12_costOf_ok 19 rfl
theorem dX12_costOf_37 : decode cX12_costOf 37 = .ok (.imul, 1) := dk_get kX12_costOf_ok 20 rfl
theorem dX12_costOf_38 : decode cX12_costOf 38 = .ok (.iload 5, 2) := dk_get kX12_costOf_ok 21 rfl
theorem dX12_costOf_40 : decode cX12_costOf 40 = .ok (.iadd, 1) := dk_get kX12_costOf_ok 22 rfl
theorem dX12_costOf_41 : decode cX12_costOf 41 = .ok (.iaload, 1) := dk_get kX12_costOf_ok 23 rfl
theorem dX12_costOf_42 : decode cX12_costOf 42 = .ok (.istore 6, 2) := dk_get kX12_costOf_ok 24 rfl
theorem dX12_costOf_44 : decode cX12_costOf 44 = .ok (.lload_n 2, 1) := dk_get kX12_costOf_ok 25 rfl
theorem dX12_costOf_45 : decode cX12_costOf 45 = .ok (.aload_n 1, 1) := dk_get kX12_costOf_ok 26 rfl
theorem dX12_costOf_46 : decode cX12_costOf 46 = .ok (.iload 4, 2) := dk_get kX12_costOf_ok 27 rfl
theorem dX12_costOf_48 : decode cX12_costOf 48 = .ok (.iaload, 1) := dk_get kX12_costOf_ok 28 rfl
theorem dX12_costOf_49 : decode cX12_costOf 49 = .ok (.aload_n 1, 1) := dk_get kX12_costOf_ok 29 rfl
theorem dX12_costOf_50 : decode cX12_costOf 50 = .ok (.iload 5, 2) := dk_get kX12_costOf_ok 30 rfl
theorem dX12_costOf_52 : decode cX12_costOf 52 = .ok (.iaload, 1) := dk_get kX12_costOf_ok 31 rfl
theorem dX12_costOf_53 : decode cX12_costOf 53 = .ok (.if_icmp .ne 19, 3) := dk_get kX12_costOf_ok 32 rfl
theorem dX12_costOf_56 : decode cX12_costOf 56 = .ok (.iload 6, 2) := dk_get kX12_costOf_ok 33 rfl
theorem dX12_costOf_58 : decode cX12_costOf 58 = .ok (.ifCond .ge 10, 3) := dk_get kX12_costOf_ok 34 rfl
theorem dX12_costOf_61 : decode cX12_costOf 61 = .ok (.iload 6, 2) := dk_get kX12_costOf_ok 35 rfl
theorem dX12_costOf_63 : decode cX12_costOf 63 = .ok (.ineg, 1) := dk_get kX12_costOf_ok 36 rfl
theorem dX12_costOf_64 : decode cX12_costOf 64 = .ok (.i2l, 1) := dk_get kX12_costOf_ok 37 rfl
theorem dX12_costOf_65 : decode cX12_costOf 65 = .ok (.goto 19, 3) := dk_get kX12_costOf_ok 38 rfl
theorem dX12_costOf_68 : decode cX12_costOf 68 = .ok (.lconst 0, 1) := dk_get kX12_costOf_ok 39 rfl
theorem dX12_costOf_69 : decode cX12_costOf 69 = .ok (.goto 15, 3) := dk_get kX12_costOf_ok 40 rfl
theorem dX12_costOf_72 : decode cX12_costOf 72 = .ok (.iload 6, 2) := dk_get kX12_costOf_ok 41 rfl
theorem dX12_costOf_74 : decode cX12_costOf 74 = .ok (.ifCond .le 9, 3) := dk_get kX12_costOf_ok 42 rfl
theorem dX12_costOf_77 : decode cX12_costOf 77 = .ok (.iload 6, 2) := dk_get kX12_costOf_ok 43 rfl
theorem dX12_costOf_79 : decode cX12_costOf 79 = .ok (.i2l, 1) := dk_get kX12_costOf_ok 44 rfl
theorem dX12_costOf_80 : decode cX12_costOf 80 = .ok (.goto 4, 3) := dk_get kX12_costOf_ok 45 rfl
theorem dX12_costOf_83 : decode cX12_costOf 83 = .ok (.lconst 0, 1) := dk_get kX12_costOf_ok 46 rfl
theorem dX12_costOf_84 : decode cX12_costOf 84 = .ok (.ladd, 1) := dk_get kX12_costOf_ok 47 rfl
theorem dX12_costOf_85 : decode cX12_costOf 85 = .ok (.lstore_n 2, 1) := dk_get kX12_costOf_ok 48 rfl
theorem dX12_costOf_86 : decode cX12_costOf 86 = .ok (.iinc 5 1, 3) := dk_get kX12_costOf_ok 49 rfl
theorem dX12_costOf_89 : decode cX12_costOf 89 = .ok (.goto (-69), 3) := dk_get kX12_costOf_ok 50 rfl
theorem dX12_costOf_92 : decode cX12_costOf 92 = .ok (.iinc 4 1, 3) := dk_get kX12_costOf_ok 51 rfl
theorem dX12_costOf_95 : decode cX12_costOf 95 = .ok (.goto (-90), 3) := dk_get kX12_costOf_ok 52 rfl
theorem dX12_costOf_98 : decode cX12_costOf 98 = .ok (.lload_n 2, 1) := dk_get kX12_costOf_ok 53 rfl
theorem dX12_costOf_99 : decode cX12_costOf 99 = .ok (.lreturn, 1) := dk_get kX12_costOf_ok 54 rfl
def kX12_barredIn : List (Nat × Instr × Nat) := [(0, .iconst 0, 1), (1, .istore_n 2, 1), (2, .iload_n 2, 1), (3, .aload_n 0, 1), (4, .getfield 177, 3), (7, .if_icmp .ge 124, 3), (10, .iconst 1, 1), (11, .istore_n 3, 1), (12, .iconst 0, 1), (13, .istore 4, 2), (15, .iconst 0, 1), (16, .istore 5, 2), (18, .iload 5, 2), (20, .iload_n 2, 1), (21, .if_icmp .ge 82, 3), (24, .iload 4, 2), (26, .ifCond .ne 46, 3), (29, .aload_n 1, 1), (30, .iload 5, 2), (32, .iaload, 1), (33, .aload_n 1, 1), (34, .iload_n 2, 1), (35, .iaload, 1), (36, .if_icmp .ne 21, 3), (39, .aload_n 0, 1), (40, .getfield 96, 3), (43, .bipush 30, 2), (45, .iload 5, 2), (47, .imul, 1), (48, .iload_n 2, 1), (49, .iadd, 1), (50, .baload, 1), (51, .ifCond .eq 25, 3), (54, .goto 18, 3), (57, .aload_n 0, 1), (58, .getfield 99, 3), (61, .bipush 30, 2), (63, .iload 5, 2), (65, .imul, 1), (66, .iload_n 2, 1), (67, .iadd, 1), (68, .baload, 1), (69, .ifCond .eq 7, 3), (72, .iconst 1, 1), (73, .goto 4, 3), (76, .iconst 0, 1), (77, .istore 4, 2), (79, .iload_n 3, 1), (80, .aload_n 1, 1), (81, .iload 5, 2), (83, .iaload, 1), (84, .aload_n 1, 1), (85, .iload_n 2, 1), (86, .iaload, 1), (87, .if_icmp .ne 7, 3), (90, .iconst 1, 1), (91, .goto 4, 3), (94, .iconst 0, 1), (95, .iadd, 1), (96, .istore_n 3, 1), (97, .iinc 5 1, 3), (100, .goto (-82), 3), (103, .iload 4, 2), (105, .ifCond .ne 18, 3), (108, .aload_n 0, 1), (109, .getfield 365, 3), (112, .ifCond .le 13, 3), (115, .iload_n 3, 1), (116, .aload_n 0, 1), (117, .getfield 365, 3), (120, .if_icmp .le 5, 3), (123, .iload_n 2, 1), (124, .ireturn, 1), (125, .iinc 2 1, 3), (128, .goto (-126), 3), (131, .iconst (-1), 1), (132, .ireturn, 1)]
set_option maxRecDepth 100000 in
theorem kX12_barredIn_ok : kX12_barredIn.all (fun q => decide (decode cX12_barredIn q.1 = .ok q.2)) = true := by decide +kernel
theorem dX12_barredIn_0 : decode cX12_barredIn 0 = .ok (.iconst 0, 1) := dk_get kX12_barredIn_ok 0 rfl
theorem dX12_barredIn_1 : decode cX12_barredIn 1 = .ok (.istore_n 2, 1) := dk_get kX12_barredIn_ok 1 rfl
theorem dX12_barredIn_2 : decode cX12_barredIn 2 = .ok (.iload_n 2, 1) := dk_get kX12_barredIn_ok 2 rfl
theorem dX12_barredIn_3 : decode cX12_barredIn 3 = .ok (.aload_n 0, 1) := dk_get kX12_barredIn_ok 3 rfl
theorem dX12_barredIn_4 : decode cX12_barredIn 4 = .ok (.getfield 177, 3) := dk_get kX12_barredIn_ok 4 rfl
theorem dX12_barredIn_7 : decode cX12_barredIn 7 = .ok (.if_icmp .ge 124, 3) := dk_get kX12_barredIn_ok 5 rfl
theorem dX12_barredIn_10 : decode cX12_barredIn 10 = .ok (.iconst 1, 1) := dk_get kX12_barredIn_ok 6 rfl
theorem dX12_barredIn_11 : decode cX12_barredIn 11 = .ok (.istore_n 3, 1) := dk_get kX12_barredIn_ok 7 rfl
theorem dX12_barredIn_12 : decode cX12_barredIn 12 = .ok (.iconst 0, 1) := dk_get kX12_barredIn_ok 8 rfl
theorem dX12_barredIn_13 : decode cX12_barredIn 13 = .ok (.istore 4, 2) := dk_get kX12_barredIn_ok 9 rfl
theorem dX12_barredIn_15 : decode cX12_barredIn 15 = .ok (.iconst 0, 1) := dk_get kX12_barredIn_ok 10 rfl
theorem dX12_barredIn_16 : decode cX12_barredIn 16 = .ok (.istore 5, 2) := dk_get kX12_barredIn_ok 11 rfl
theorem dX12_barredIn_18 : decode cX12_barredIn 18 = .ok (.iload 5, 2) := dk_get kX12_barredIn_ok 12 rfl
theorem dX12_barredIn_20 : decode cX12_barredIn 20 = .ok (.iload_n 2, 1) := dk_get kX12_barredIn_ok 13 rfl
theorem dX12_barredIn_21 : decode cX12_barredIn 21 = .ok (.if_icmp .ge 82, 3) := dk_get kX12_barredIn_ok 14 rfl
theorem dX12_barredIn_24 : decode cX12_barredIn 24 = .ok (.iload 4, 2) := dk_get kX12_barredIn_ok 15 rfl
theorem dX12_barredIn_26 : decode cX12_barredIn 26 = .ok (.ifCond .ne 46, 3) := dk_get kX12_barredIn_ok 16 rfl
theorem dX12_barredIn_29 : decode cX12_barredIn 29 = .ok (.aload_n 1, 1) := dk_get kX12_barredIn_ok 17 rfl
theorem dX12_barredIn_30 : decode cX12_barredIn 30 = .ok (.iload 5, 2) := dk_get kX12_barredIn_ok 18 rfl
theorem dX12_barredIn_32 : decode cX12_barredIn 32 = .ok (.iaload, 1) := dk_get kX12_barredIn_ok 19 rfl
theorem dX12_barredIn_33 : decode cX12_barredIn 33 = .ok (.aload_n 1, 1) := dk_get kX12_barredIn_ok 20 rfl
theorem dX12_barredIn_34 : decode cX12_barredIn 34 = .ok (.iload_n 2, 1) := dk_get kX12_barredIn_ok 21 rfl
theorem dX12_barredIn_35 : decode cX12_barredIn 35 = .ok (.iaload, 1) := dk_get kX12_barredIn_ok 22 rfl
theorem dX12_barredIn_36 : decode cX12_barredIn 36 = .ok (.if_icmp .ne 21, 3) := dk_get kX12_barredIn_ok 23 rfl
theorem dX12_barredIn_39 : decode cX12_barredIn 39 = .ok (.aload_n 0, 1) := dk_get kX12_barredIn_ok 24 rfl
theorem dX12_barredIn_40 : decode cX12_barredIn 40 = .ok (.getfield 96, 3) := dk_get kX12_barredIn_ok 25 rfl
theorem dX12_barredIn_43 : decode cX12_barredIn 43 = .ok (.bipush 30, 2) := dk_get kX12_barredIn_ok 26 rfl
theorem dX12_barredIn_45 : decode cX12_barredIn 45 = .ok (.iload 5, 2) := dk_get kX12_barredIn_ok 27 rfl
theorem dX12_barredIn_47 : decode cX12_barredIn 47 = .ok (.imul, 1) := dk_get kX12_barredIn_ok 28 rfl
theorem dX12_barredIn_48 : decode cX12_barredIn 48 = .ok (.iload_n 2, 1) := dk_get kX12_barredIn_ok 29 rfl
theorem dX12_barredIn_49 : decode cX12_barredIn 49 = .ok (.iadd, 1) := dk_get kX12_barredIn_ok 30 rfl
theorem dX12_barredIn_50 : decode cX12_barredIn 50 = .ok (.baload, 1) := dk_get kX12_barredIn_ok 31 rfl
theorem dX12_barredIn_51 : decode cX12_barredIn 51 = .ok (.ifCond .eq 25, 3) := dk_get kX12_barredIn_ok 32 rfl
theorem dX12_barredIn_54 : decode cX12_barredIn 54 = .ok (.goto 18, 3) := dk_get kX12_barredIn_ok 33 rfl
theorem dX12_barredIn_57 : decode cX12_barredIn 57 = .ok (.aload_n 0, 1) := dk_get kX12_barredIn_ok 34 rfl
theorem dX12_barredIn_58 : decode cX12_barredIn 58 = .ok (.getfield 99, 3) := dk_get kX12_barredIn_ok 35 rfl
theorem dX12_barredIn_61 : decode cX12_barredIn 61 = .ok (.bipush 30, 2) := dk_get kX12_barredIn_ok 36 rfl
theorem dX12_barredIn_63 : decode cX12_barredIn 63 = .ok (.iload 5, 2) := dk_get kX12_barredIn_ok 37 rfl
theorem dX12_barredIn_65 : decode cX12_barredIn 65 = .ok (.imul, 1) := dk_get kX12_barredIn_ok 38 rfl
theorem dX12_barredIn_66 : decode cX12_barredIn 66 = .ok (.iload_n 2, 1) := dk_get kX12_barredIn_ok 39 rfl
theorem dX12_barredIn_67 : decode cX12_barredIn 67 = .ok (.iadd, 1) := dk_get kX12_barredIn_ok 40 rfl
theorem dX12_barredIn_68 : decode cX12_barredIn 68 = .ok (.baload, 1) := dk_get kX12_barredIn_ok 41 rfl
theorem dX12_barredIn_69 : decode cX12_barredIn 69 = .ok (.ifCond .eq 7, 3) := dk_get kX12_barredIn_ok 42 rfl
theorem dX12_barredIn_72 : decode cX12_barredIn 72 = .ok (.iconst 1, 1) := dk_get kX12_barredIn_ok 43 rfl
theorem dX12_barredIn_73 : decode cX12_barredIn 73 = .ok (.goto 4, 3) := dk_get kX12_barredIn_ok 44 rfl
theorem dX12_barredIn_76 : decode cX12_barredIn 76 = .ok (.iconst 0, 1) := dk_get kX12_barredIn_ok 45 rfl
theorem dX12_barredIn_77 : decode cX12_barredIn 77 = .ok (.istore 4, 2) := dk_get kX12_barredIn_ok 46 rfl
theorem dX12_barredIn_79 : decode cX12_barredIn 79 = .ok (.iload_n 3, 1) := dk_get kX12_barredIn_ok 47 rfl
theorem dX12_barredIn_80 : decode cX12_barredIn 80 = .ok (.aload_n 1, 1) := dk_get kX12_barredIn_ok 48 rfl
theorem dX12_barredIn_81 : decode cX12_barredIn 81 = .ok (.iload 5, 2) := dk_get kX12_barredIn_ok 49 rfl
theorem dX12_barredIn_83 : decode cX12_barredIn 83 = .ok (.iaload, 1) := dk_get kX12_barredIn_ok 50 rfl
theorem dX12_barredIn_84 : decode cX12_barredIn 84 = .ok (.aload_n 1, 1) := dk_get kX12_barredIn_ok 51 rfl
theorem dX12_barredIn_85 : decode cX12_barredIn 85 = .ok (.iload_n 2, 1) := dk_get kX12_barredIn_ok 52 rfl
theorem dX12_barredIn_86 : decode cX12_barredIn 86 = .ok (.iaload, 1) := dk_get kX12_barredIn_ok 53 rfl
theorem dX12_barredIn_87 : decode cX12_barredIn 87 = .ok (.if_icmp .ne 7, 3) := dk_get kX12_barredIn_ok 54 rfl
theorem dX12_barredIn_90 : decode cX12_barredIn 90 = .ok (.iconst 1, 1) := dk_get kX12_barredIn_ok 55 rfl
theorem dX12_barredIn_91 : decode cX12_barredIn 91 = .ok (.goto 4, 3) := dk_get kX12_barredIn_ok 56 rfl
theorem dX12_barredIn_94 : decode cX12_barredIn 94 = .ok (.iconst 0, 1) := dk_get kX12_barredIn_ok 57 rfl
theorem dX12_barredIn_95 : decode cX12_barredIn 95 = .ok (.iadd, 1) := dk_get kX12_barredIn_ok 58 rfl
theorem dX12_barredIn_96 : decode cX12_barredIn 96 = .ok (.istore_n 3, 1) := dk_get kX12_barredIn_ok 59 rfl
theorem dX12_barredIn_97 : decode cX12_barredIn 97 = .ok (.iinc 5 1, 3) := dk_get kX12_barredIn_ok 60 rfl
theorem dX12_barredIn_100 : decode cX12_barredIn 100 = .ok (.goto (-82), 3) := dk_get kX12_barredIn_ok 61 rfl
theorem dX12_barredIn_103 : decode cX12_barredIn 103 = .ok (.iload 4, 2) := dk_get kX12_barredIn_ok 62 rfl
theorem dX12_barredIn_105 : decode cX12_barredIn 105 = .ok (.ifCond .ne 18, 3) := dk_get kX12_barredIn_ok 63 rfl
theorem dX12_barredIn_108 : decode cX12_barredIn 108 = .ok (.aload_n 0, 1) := dk_get kX12_barredIn_ok 64 rfl
theorem dX12_barredIn_109 : decode cX12_barredIn 109 = .ok (.getfield 365, 3) := dk_get kX12_barredIn_ok 65 rfl
theorem dX12_barredIn_112 : decode cX12_barredIn 112 = .ok (.ifCond .le 13, 3) := dk_get kX12_barredIn_ok 66 rfl
theorem dX12_barredIn_115 : decode cX12_barredIn 115 = .ok (.iload_n 3, 1) := dk_get kX12_barredIn_ok 67 rfl
theorem dX12_barredIn_116 : decode cX12_barredIn 116 = .ok (.aload_n 0, 1) := dk_get kX12_barredIn_ok 68 rfl
theorem dX12_barredIn_117 : decode cX12_barredIn 117 = .ok (.getfield 365, 3) := dk_get kX12_barredIn_ok 69 rfl
theorem dX12_barredIn_120 : decode cX12_barredIn 120 = .ok (.if_icmp .le 5, 3) := dk_get kX12_barredIn_ok 70 rfl
theorem dX12_barredIn_123 : decode cX12_barredIn 123 = .ok (.iload_n 2, 1) := dk_get kX12_barredIn_ok 71 rfl
theorem dX12_barredIn_124 : decode cX12_barredIn 124 = .ok (.ireturn, 1) := dk_get kX12_barredIn_ok 72 rfl
theorem dX12_barredIn_125 : decode cX12_barredIn 125 = .ok (.iinc 2 1, 3) := dk_get kX12_barredIn_ok 73 rfl
theorem dX12_barredIn_128 : decode cX12_barredIn 128 = .ok (.goto (-126), 3) := dk_get kX12_barredIn_ok 74 rfl
theorem dX12_barredIn_131 : decode cX12_barredIn 131 = .ok (.iconst (-1), 1) := dk_get kX12_barredIn_ok 75 rfl
theorem dX12_barredIn_132 : decode cX12_barredIn 132 = .ok (.ireturn, 1) := dk_get kX12_barredIn_ok 76 rfl
def kX12_fresh : List (Nat × Instr × Nat) := [(0, .bipush 100, 2), (2, .iload_n 0, 1), (3, .iadd, 1), (4, .ireturn, 1)]
set_option maxRecDepth 100000 in
theorem kX12_fresh_ok : kX12_fresh.all (fun q => decide (decode cX12_fresh q.1 = .ok q.2)) = true := by decide +kernel
theorem dX12_fresh_0 : decode cX12_fresh 0 = .ok (.bipush 100, 2) := dk_get kX12_fresh_ok 0 rfl
theorem dX12_fresh_2 : decode cX12_fresh 2 = .ok (.iload_n 0, 1) := dk_get kX12_fresh_ok 1 rfl
theorem dX12_fresh_3 : decode cX12_fresh 3 = .ok (.iadd, 1) := dk_get kX12_fresh_ok 2 rfl
theorem dX12_fresh_4 : decode cX12_fresh 4 = .ok (.ireturn, 1) := dk_get kX12_fresh_ok 3 rfl
def kX12_copyHand : List (Nat × Instr × Nat) := [(0, .iconst 0, 1), (1, .istore_n 2, 1), (2, .iload_n 2, 1), (3, .aload_n 0, 1), (4, .getfield 177, 3), (7, .if_icmp .ge 18, 3), (10, .aload_n 1, 1), (11, .iload_n 2, 1), (12, .aload_n 0, 1), (13, .getfield 29, 3), (16, .iload_n 2, 1), (17, .iaload, 1), (18, .iastore, 1), (19, .iinc 2 1, 3), (22, .goto (-20), 3), (25, .return_, 1)]
set_option maxRecDepth 100000 in
theorem kX12_copyHand_ok : kX12_copyHand.all (fun q => decide (decode cX12_copyHand q.1 = .ok q.2)) = true := by decide +kernel
theorem dX12_copyHand_0 : decode cX12_copyHand 0 = .ok (.iconst 0, 1) := dk_get kX12_copyHand_ok 0 rfl
theorem dX12_copyHand_1 : decode cX12_copyHand 1 = .ok (.istore_n 2, 1) := dk_get kX12_copyHand_ok 1 rfl
theorem dX12_copyHand_2 : decode cX12_copyHand 2 = .ok (.iload_n 2, 1) := dk_get kX12_copyHand_ok 2 rfl
theorem dX12_copyHand_3 : decode cX12_copyHand 3 = .ok (.aload_n 0, 1) := dk_get kX12_copyHand_ok 3 rfl
theorem dX12_copyHand_4 : decode cX12_copyHand 4 = .ok (.getfield 177, 3) := dk_get kX12_copyHand_ok 4 rfl
theorem dX12_copyHand_7 : decode cX12_copyHand 7 = .ok (.if_icmp .ge 18, 3) := dk_get kX12_copyHand_ok 5 rfl
theorem dX12_copyHand_10 : decode cX12_copyHand 10 = .ok (.aload_n 1, 1) := dk_get kX12_copyHand_ok 6 rfl
theorem dX12_copyHand_11 : decode cX12_copyHand 11 = .ok (.iload_n 2, 1) := dk_get kX12_copyHand_ok 7 rfl
theorem dX12_copyHand_12 : decode cX12_copyHand 12 = .ok (.aload_n 0, 1) := dk_get kX12_copyHand_ok 8 rfl
theorem dX12_copyHand_13 : decode cX12_copyHand 13 = .ok (.getfield 29, 3) := dk_get kX12_copyHand_ok 9 rfl
theorem dX12_copyHand_16 : decode cX12_copyHand 16 = .ok (.iload_n 2, 1) := dk_get kX12_copyHand_ok 10 rfl
theorem dX12_copyHand_17 : decode cX12_copyHand 17 = .ok (.iaload, 1) := dk_get kX12_copyHand_ok 11 rfl
theorem dX12_copyHand_18 : decode cX12_copyHand 18 = .ok (.iastore, 1) := dk_get kX12_copyHand_ok 12 rfl
theorem dX12_copyHand_19 : decode cX12_copyHand 19 = .ok (.iinc 2 1, 3) := dk_get kX12_copyHand_ok 13 rfl
theorem dX12_copyHand_22 : decode cX12_copyHand 22 = .ok (.goto (-20), 3) := dk_get kX12_copyHand_ok 14 rfl
theorem dX12_copyHand_25 : decode cX12_copyHand 25 = .ok (.return_, 1) := dk_get kX12_copyHand_ok 15 rfl
def kX12_takes : List (Nat × Instr × Nat) := [(0, .iconst 0, 1), (1, .istore_n 2, 1), (2, .iload_n 2, 1), (3, .aload_n 0, 1), (4, .getfield 177, 3), (7, .if_icmp .ge 18, 3), (10, .aload_n 0, 1), (11, .getfield 29, 3), (14, .iload_n 2, 1), (15, .aload_n 1, 1), (16, .iload_n 2, 1), (17, .iaload, 1), (18, .iastore, 1), (19, .iinc 2 1, 3), (22, .goto (-20), 3), (25, .aload_n 0, 1), (26, .aload_n 0, 1), (27, .getfield 29, 3), (30, .invokevirtual 371, 3), (33, .return_, 1)]
set_option maxRecDepth 100000 in
theorem kX12_takes_ok : kX12_takes.all (fun q => decide (decode cX12_takes q.1 = .ok q.2)) = true := by decide +kernel
theorem dX12_takes_0 : decode cX12_takes 0 = .ok (.iconst 0, 1) := dk_get kX12_takes_ok 0 rfl
theorem dX12_takes_1 : decode cX12_takes 1 = .ok (.istore_n 2, 1) := dk_get kX12_takes_ok 1 rfl
theorem dX12_takes_2 : decode cX12_takes 2 = .ok (.iload_n 2, 1) := dk_get kX12_takes_ok 2 rfl
theorem dX12_takes_3 : decode cX12_takes 3 = .ok (.aload_n 0, 1) := dk_get kX12_takes_ok 3 rfl
theorem dX12_takes_4 : decode cX12_takes 4 = .ok (.getfield 177, 3) := dk_get kX12_takes_ok 4 rfl
theorem dX12_takes_7 : decode cX12_takes 7 = .ok (.if_icmp .ge 18, 3) := dk_get kX12_takes_ok 5 rfl
theorem dX12_takes_10 : decode cX12_takes 10 = .ok (.aload_n 0, 1) := dk_get kX12_takes_ok 6 rfl
theorem dX12_takes_11 : decode cX12_takes 11 = .ok (.getfield 29, 3) := dk_get kX12_takes_ok 7 rfl
theorem dX12_takes_14 : decode cX12_takes 14 = .ok (.iload_n 2, 1) := dk_get kX12_takes_ok 8 rfl
theorem dX12_takes_15 : decode cX12_takes 15 = .ok (.aload_n 1, 1) := dk_get kX12_takes_ok 9 rfl
theorem dX12_takes_16 : decode cX12_takes 16 = .ok (.iload_n 2, 1) := dk_get kX12_takes_ok 10 rfl
theorem dX12_takes_17 : decode cX12_takes 17 = .ok (.iaload, 1) := dk_get kX12_takes_ok 11 rfl
theorem dX12_takes_18 : decode cX12_takes 18 = .ok (.iastore, 1) := dk_get kX12_takes_ok 12 rfl
theorem dX12_takes_19 : decode cX12_takes 19 = .ok (.iinc 2 1, 3) := dk_get kX12_takes_ok 13 rfl
theorem dX12_takes_22 : decode cX12_takes 22 = .ok (.goto (-20), 3) := dk_get kX12_takes_ok 14 rfl
theorem dX12_takes_25 : decode cX12_takes 25 = .ok (.aload_n 0, 1) := dk_get kX12_takes_ok 15 rfl
theorem dX12_takes_26 : decode cX12_takes 26 = .ok (.aload_n 0, 1) := dk_get kX12_takes_ok 16 rfl
theorem dX12_takes_27 : decode cX12_takes 27 = .ok (.getfield 29, 3) := dk_get kX12_takes_ok 17 rfl
theorem dX12_takes_30 : decode cX12_takes 30 = .ok (.invokevirtual 371, 3) := dk_get kX12_takes_ok 18 rfl
theorem dX12_takes_33 : decode cX12_takes 33 = .ok (.return_, 1) := dk_get kX12_takes_ok 19 rfl
def kX12_put : List (Nat × Instr × Nat) := [(0, .aload_n 0, 1), (1, .iconst 0, 1), (2, .putfield 1, 3), (5, .aload_n 0, 1), (6, .iload_n 1, 1), (7, .iload_n 2, 1), (8, .invokevirtual 362, 3), (11, .ifCond .ne 5, 3), (14, .iconst 0, 1), (15, .ireturn, 1), (16, .aload_n 0, 1), (17, .getfield 29, 3), (20, .iload_n 1, 1), (21, .aload_n 0, 1), (22, .getfield 29, 3), (25, .iload_n 2, 1), (26, .iaload, 1), (27, .iastore, 1), (28, .aload_n 0, 1), (29, .aload_n 0, 1), (30, .getfield 29, 3), (33, .invokevirtual 371, 3), (36, .aload_n 0, 1), (37, .getfield 29, 3), (40, .iload_n 1, 1), (41, .iaload, 1), (42, .ireturn, 1)]
set_option maxRecDepth 100000 in
theorem kX12_put_ok : kX12_put.all (fun q => decide (decode cX12_put q.1 = .ok q.2)) = true := by decide +kernel
theorem dX12_put_0 : decode cX12_put 0 = .ok (.aload_n 0, 1) := dk_get kX12_put_ok 0 rfl
theorem dX12_put_1 : decode cX12_put 1 = .ok (.iconst 0, 1) := dk_get kX12_put_ok 1 rfl
theorem dX12_put_2 : decode cX12_put 2 = .ok (.putfield 1, 3) := dk_get kX12_put_ok 2 rfl
theorem dX12_put_5 : decode cX12_put 5 = .ok (.aload_n 0, 1) := dk_get kX12_put_ok 3 rfl
theorem dX12_put_6 : decode cX12_put 6 = .ok (.iload_n 1, 1) := dk_get kX12_put_ok 4 rfl
theorem dX12_put_7 : decode cX12_put 7 = .ok (.iload_n 2, 1) := dk_get kX12_put_ok 5 rfl
theorem dX12_put_8 : decode cX12_put 8 = .ok (.invokevirtual 362, 3) := dk_get kX12_put_ok 6 rfl
theorem dX12_put_11 : decode cX12_put 11 = .ok (.ifCond .ne 5, 3) := dk_get kX12_put_ok 7 rfl
theorem dX12_put_14 : decode cX12_put 14 = .ok (.iconst 0, 1) := dk_get kX12_put_ok 8 rfl
theorem dX12_put_15 : decode cX12_put 15 = .ok (.ireturn, 1) := dk_get kX12_put_ok 9 rfl
theorem dX12_put_16 : decode cX12_put 16 = .ok (.aload_n 0, 1) := dk_get kX12_put_ok 10 rfl
theorem dX12_put_17 : decode cX12_put 17 = .ok (.getfield 29, 3) := dk_get kX12_put_ok 11 rfl
theorem dX12_put_20 : decode cX12_put 20 = .ok (.iload_n 1, 1) := dk_get kX12_put_ok 12 rfl
theorem dX12_put_21 : decode cX12_put 21 = .ok (.aload_n 0, 1) := dk_get kX12_put_ok 13 rfl
theorem dX12_put_22 : decode cX12_put 22 = .ok (.getfield 29, 3) := dk_get kX12_put_ok 14 rfl
theorem dX12_put_25 : decode cX12_put 25 = .ok (.iload_n 2, 1) := dk_get kX12_put_ok 15 rfl
theorem dX12_put_26 : decode cX12_put 26 = .ok (.iaload, 1) := dk_get kX12_put_ok 16 rfl
theorem dX12_put_27 : decode cX12_put 27 = .ok (.iastore, 1) := dk_get kX12_put_ok 17 rfl
theorem dX12_put_28 : decode cX12_put 28 = .ok (.aload_n 0, 1) := dk_get kX12_put_ok 18 rfl
theorem dX12_put_29 : decode cX12_put 29 = .ok (.aload_n 0, 1) := dk_get kX12_put_ok 19 rfl
theorem dX12_put_30 : decode cX12_put 30 = .ok (.getfield 29, 3) := dk_get kX12_put_ok 20 rfl
theorem dX12_put_33 : decode cX12_put 33 = .ok (.invokevirtual 371, 3) := dk_get kX12_put_ok 21 rfl
theorem dX12_put_36 : decode cX12_put 36 = .ok (.aload_n 0, 1) := dk_get kX12_put_ok 22 rfl
theorem dX12_put_37 : decode cX12_put 37 = .ok (.getfield 29, 3) := dk_get kX12_put_ok 23 rfl
theorem dX12_put_40 : decode cX12_put 40 = .ok (.iload_n 1, 1) := dk_get kX12_put_ok 24 rfl
theorem dX12_put_41 : decode cX12_put 41 = .ok (.iaload, 1) := dk_get kX12_put_ok 25 rfl
theorem dX12_put_42 : decode cX12_put 42 = .ok (.ireturn, 1) := dk_get kX12_put_ok 26 rfl
def kX12_sizeOf : List (Nat × Instr × Nat) := [(0, .iconst 0, 1), (1, .istore_n 2, 1), (2, .iconst 0, 1), (3, .istore_n 3, 1), (4, .iload_n 3, 1), (5, .aload_n 0, 1), (6, .getfield 177, 3), (9, .if_icmp .ge 27, 3), (12, .iload_n 2, 1), (13, .aload_n 0, 1), (14, .getfield 29, 3), (17, .iload_n 3, 1), (18, .iaload, 1), (19, .iload_n 1, 1), (20, .if_icmp .ne 7, 3), (23, .iconst 1, 1), (24, .goto 4, 3), (27, .iconst 0, 1), (28, .iadd, 1), (29, .istore_n 2, 1), (30, .iinc 3 1, 3), (33, .goto (-29), 3), (36, .iload_n 2, 1), (37, .ireturn, 1)]
set_option maxRecDepth 100000 in
theorem kX12_sizeOf_ok : kX12_sizeOf.all (fun q => decide (decode cX12_sizeOf q.1 = .ok q.2)) = true := by decide +kernel
theorem dX12_sizeOf_0 : decode cX12_sizeOf 0 = .ok (.iconst 0, 1) := dk_get kX12_sizeOf_ok 0 rfl
theorem dX12_sizeOf_1 : decode cX12_sizeOf 1 = .ok (.istore_n 2, 1) := dk_get kX12_sizeOf_ok 1 rfl
theorem dX12_sizeOf_2 : decode cX12_sizeOf 2 = .ok (.iconst 0, 1) := dk_get kX12_sizeOf_ok 2 rfl
theorem dX12_sizeOf_3 : decode cX12_sizeOf 3 = .ok (.istore_n 3, 1) := dk_get kX12_sizeOf_ok 3 rfl
theorem dX12_sizeOf_4 : decode cX12_sizeOf 4 = .ok (.iload_n 3, 1) := dk_get kX12_sizeOf_ok 4 rfl
theorem dX12_sizeOf_5 : decode cX12_sizeOf 5 = .ok (.aload_n 0, 1) := dk_get kX12_sizeOf_ok 5 rfl
theorem dX12_sizeOf_6 : decode cX12_sizeOf 6 = .ok (.getfield 177, 3) := dk_get kX12_sizeOf_ok 6 rfl
theorem dX12_sizeOf_9 : decode cX12_sizeOf 9 = .ok (.if_icmp .ge 27, 3) := dk_get kX12_sizeOf_ok 7 rfl
theorem dX12_sizeOf_12 : decode cX12_sizeOf 12 = .ok (.iload_n 2, 1) := dk_get kX12_sizeOf_ok 8 rfl
theorem dX12_sizeOf_13 : decode cX12_sizeOf 13 = .ok (.aload_n 0, 1) := dk_get kX12_sizeOf_ok 9 rfl
theorem dX12_sizeOf_14 : decode cX12_sizeOf 14 = .ok (.getfield 29, 3) := dk_get kX12_sizeOf_ok 10 rfl
theorem dX12_sizeOf_17 : decode cX12_sizeOf 17 = .ok (.iload_n 3, 1) := dk_get kX12_sizeOf_ok 11 rfl
theorem dX12_sizeOf_18 : decode cX12_sizeOf 18 = .ok (.iaload, 1) := dk_get kX12_sizeOf_ok 12 rfl
theorem dX12_sizeOf_19 : decode cX12_sizeOf 19 = .ok (.iload_n 1, 1) := dk_get kX12_sizeOf_ok 13 rfl
theorem dX12_sizeOf_20 : decode cX12_sizeOf 20 = .ok (.if_icmp .ne 7, 3) := dk_get kX12_sizeOf_ok 14 rfl
theorem dX12_sizeOf_23 : decode cX12_sizeOf 23 = .ok (.iconst 1, 1) := dk_get kX12_sizeOf_ok 15 rfl
theorem dX12_sizeOf_24 : decode cX12_sizeOf 24 = .ok (.goto 4, 3) := dk_get kX12_sizeOf_ok 16 rfl
theorem dX12_sizeOf_27 : decode cX12_sizeOf 27 = .ok (.iconst 0, 1) := dk_get kX12_sizeOf_ok 17 rfl
theorem dX12_sizeOf_28 : decode cX12_sizeOf 28 = .ok (.iadd, 1) := dk_get kX12_sizeOf_ok 18 rfl
theorem dX12_sizeOf_29 : decode cX12_sizeOf 29 = .ok (.istore_n 2, 1) := dk_get kX12_sizeOf_ok 19 rfl
theorem dX12_sizeOf_30 : decode cX12_sizeOf 30 = .ok (.iinc 3 1, 3) := dk_get kX12_sizeOf_ok 20 rfl
theorem dX12_sizeOf_33 : decode cX12_sizeOf 33 = .ok (.goto (-29), 3) := dk_get kX12_sizeOf_ok 21 rfl
theorem dX12_sizeOf_36 : decode cX12_sizeOf 36 = .ok (.iload_n 2, 1) := dk_get kX12_sizeOf_ok 22 rfl
theorem dX12_sizeOf_37 : decode cX12_sizeOf 37 = .ok (.ireturn, 1) := dk_get kX12_sizeOf_ok 23 rfl
def kX12_alone : List (Nat × Instr × Nat) := [(0, .aload_n 0, 1), (1, .iconst 0, 1), (2, .putfield 1, 3), (5, .aload_n 0, 1), (6, .iload_n 1, 1), (7, .invokevirtual 183, 3), (10, .ifCond .ne 5, 3), (13, .iconst 0, 1), (14, .ireturn, 1), (15, .aload_n 0, 1), (16, .aload_n 0, 1), (17, .getfield 29, 3), (20, .iload_n 1, 1), (21, .iaload, 1), (22, .invokevirtual 375, 3), (25, .iconst 1, 1), (26, .if_icmp .le 7, 3), (29, .iconst 1, 1), (30, .goto 4, 3), (33, .iconst 0, 1), (34, .istore_n 2, 1), (35, .aload_n 0, 1), (36, .getfield 29, 3), (39, .iload_n 1, 1), (40, .iload_n 1, 1), (41, .invokestatic 378, 3), (44, .iastore, 1), (45, .aload_n 0, 1), (46, .aload_n 0, 1), (47, .getfield 29, 3), (50, .invokevirtual 371, 3), (53, .iload_n 2, 1), (54, .ireturn, 1)]
set_option maxRecDepth 100000 in
theorem kX12_alone_ok : kX12_alone.all (fun q => decide (decode cX12_alone q.1 = .ok q.2)) = true := by decide +kernel
theorem dX12_alone_0 : decode cX12_alone 0 = .ok (.aload_n 0, 1) := dk_get kX12_alone_ok 0 rfl
theorem dX12_alone_1 : decode cX12_alone 1 = .ok (.iconst 0, 1) := dk_get kX12_alone_ok 1 rfl
theorem dX12_alone_2 : decode cX12_alone 2 = .ok (.putfield 1, 3) := dk_get kX12_alone_ok 2 rfl
theorem dX12_alone_5 : decode cX12_alone 5 = .ok (.aload_n 0, 1) := dk_get kX12_alone_ok 3 rfl
theorem dX12_alone_6 : decode cX12_alone 6 = .ok (.iload_n 1, 1) := dk_get kX12_alone_ok 4 rfl
theorem dX12_alone_7 : decode cX12_alone 7 = .ok (.invokevirtual 183, 3) := dk_get kX12_alone_ok 5 rfl
theorem dX12_alone_10 : decode cX12_alone 10 = .ok (.ifCond .ne 5, 3) := dk_get kX12_alone_ok 6 rfl
theorem dX12_alone_13 : decode cX12_alone 13 = .ok (.iconst 0, 1) := dk_get kX12_alone_ok 7 rfl
theorem dX12_alone_14 : decode cX12_alone 14 = .ok (.ireturn, 1) := dk_get kX12_alone_ok 8 rfl
theorem dX12_alone_15 : decode cX12_alone 15 = .ok (.aload_n 0, 1) := dk_get kX12_alone_ok 9 rfl
theorem dX12_alone_16 : decode cX12_alone 16 = .ok (.aload_n 0, 1) := dk_get kX12_alone_ok 10 rfl
theorem dX12_alone_17 : decode cX12_alone 17 = .ok (.getfield 29, 3) := dk_get kX12_alone_ok 11 rfl
theorem dX12_alone_20 : decode cX12_alone 20 = .ok (.iload_n 1, 1) := dk_get kX12_alone_ok 12 rfl
theorem dX12_alone_21 : decode cX12_alone 21 = .ok (.iaload, 1) := dk_get kX12_alone_ok 13 rfl
theorem dX12_alone_22 : decode cX12_alone 22 = .ok (.invokevirtual 375, 3) := dk_get kX12_alone_ok 14 rfl
theorem dX12_alone_25 : decode cX12_alone 25 = .ok (.iconst 1, 1) := dk_get kX12_alone_ok 15 rfl
theorem dX12_alone_26 : decode cX12_alone 26 = .ok (.if_icmp .le 7, 3) := dk_get kX12_alone_ok 16 rfl
theorem dX12_alone_29 : decode cX12_alone 29 = .ok (.iconst 1, 1) := dk_get kX12_alone_ok 17 rfl
theorem dX12_alone_30 : decode cX12_alone 30 = .ok (.goto 4, 3) := dk_get kX12_alone_ok 18 rfl
theorem dX12_alone_33 : decode cX12_alone 33 = .ok (.iconst 0, 1) := dk_get kX12_alone_ok 19 rfl
theorem dX12_alone_34 : decode cX12_alone 34 = .ok (.istore_n 2, 1) := dk_get kX12_alone_ok 20 rfl
theorem dX12_alone_35 : decode cX12_alone 35 = .ok (.aload_n 0, 1) := dk_get kX12_alone_ok 21 rfl
theorem dX12_alone_36 : decode cX12_alone 36 = .ok (.getfield 29, 3) := dk_get kX12_alone_ok 22 rfl
theorem dX12_alone_39 : decode cX12_alone 39 = .ok (.iload_n 1, 1) := dk_get kX12_alone_ok 23 rfl
theorem dX12_alone_40 : decode cX12_alone 40 = .ok (.iload_n 1, 1) := dk_get kX12_alone_ok 24 rfl
theorem dX12_alone_41 : decode cX12_alone 41 = .ok (.invokestatic 378, 3) := dk_get kX12_alone_ok 25 rfl
theorem dX12_alone_44 : decode cX12_alone 44 = .ok (.iastore, 1) := dk_get kX12_alone_ok 26 rfl
theorem dX12_alone_45 : decode cX12_alone 45 = .ok (.aload_n 0, 1) := dk_get kX12_alone_ok 27 rfl
theorem dX12_alone_46 : decode cX12_alone 46 = .ok (.aload_n 0, 1) := dk_get kX12_alone_ok 28 rfl
theorem dX12_alone_47 : decode cX12_alone 47 = .ok (.getfield 29, 3) := dk_get kX12_alone_ok 29 rfl
theorem dX12_alone_50 : decode cX12_alone 50 = .ok (.invokevirtual 371, 3) := dk_get kX12_alone_ok 30 rfl
theorem dX12_alone_53 : decode cX12_alone 53 = .ok (.iload_n 2, 1) := dk_get kX12_alone_ok 31 rfl
theorem dX12_alone_54 : decode cX12_alone 54 = .ok (.ireturn, 1) := dk_get kX12_alone_ok 32 rfl
