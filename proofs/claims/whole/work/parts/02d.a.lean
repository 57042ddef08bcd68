def kX0_init : List (Nat × Instr × Nat) := [(0, .aload_n 0, 1), (1, .invokespecial 3, 3), (4, .aload_n 0, 1), (5, .bipush 30, 2), (7, .newarray .int, 2), (9, .putfield 9, 3), (12, .aload_n 0, 1), (13, .bipush 30, 2), (15, .newarray .int, 2), (17, .putfield 15, 3), (20, .aload_n 0, 1), (21, .sipush 900, 3), (24, .newarray .int, 2), (26, .putfield 18, 3), (29, .aload_n 0, 1), (30, .aload_n 1, 1), (31, .putfield 21, 3), (34, .aload_n 0, 1), (35, .aload_n 2, 1), (36, .putfield 25, 3), (39, .aload_n 0, 1), (40, .aload_n 3, 1), (41, .putfield 29, 3), (44, .return_, 1)]
set_option maxRecDepth 100000 in
theorem kX0_init_ok : kX0_init.all (fun q => decide (decode cX0_init q.1 = .ok q.2)) = true := by decide +kernel
theorem dX0_init_0 : decode cX0_init 0 = .ok (.aload_n 0, 1) := dk_get kX0_init_ok 0 rfl
theorem dX0_init_1 : decode cX0_init 1 = .ok (.invokespecial 3, 3) := dk_get kX0_init_ok 1 rfl
theorem dX0_init_4 : decode cX0_init 4 = .ok (.aload_n 0, 1) := dk_get kX0_init_ok 2 rfl
theorem dX0_init_5 : decode cX0_init 5 = .ok (.bipush 30, 2) := dk_get kX0_init_ok 3 rfl
theorem dX0_init_7 : decode cX0_init 7 = .ok (.newarray .int, 2) := dk_get kX0_init_ok 4 rfl
theorem dX0_init_9 : decode cX0_init 9 = .ok (.putfield 9, 3) := dk_get kX0_init_ok 5 rfl
theorem dX0_init_12 : decode cX0_init 12 = .ok (.aload_n 0, 1) := dk_get kX0_init_ok 6 rfl
theorem dX0_init_13 : decode cX0_init 13 = .ok (.bipush 30, 2) := dk_get kX0_init_ok 7 rfl
theorem dX0_init_15 : decode cX0_init 15 = .ok (.newarray .int, 2) := dk_get kX0_init_ok 8 rfl
theorem dX0_init_17 : decode cX0_init 17 = .ok (.putfield 15, 3) := dk_get kX0_init_ok 9 rfl
theorem dX0_init_20 : decode cX0_init 20 = .ok (.aload_n 0, 1) := dk_get kX0_init_ok 10 rfl
theorem dX0_init_21 : decode cX0_init 21 = .ok (.sipush 900, 3) := dk_get kX0_init_ok 11 rfl
theorem dX0_init_24 : decode cX0_init 24 = .ok (.newarray .int, 2) := dk_get kX0_init_ok 12 rfl
theorem dX0_init_26 : decode cX0_init 26 = .ok (.putfield 18, 3) := dk_get kX0_init_ok 13 rfl
theorem dX0_init_29 : decode cX0_init 29 = .ok (.aload_n 0, 1) := dk_get kX0_init_ok 14 rfl
theorem dX0_init_30 : decode cX0_init 30 = .ok (.aload_n 1, 1) := dk_get kX0_init_ok 15 rfl
theorem dX0_init_31 : decode cX0_init 31 = .ok (.putfield 21, 3) := dk_get kX0_init_ok 16 rfl
theorem dX0_init_34 : decode cX0_init 34 = .ok (.aload_n 0, 1) := dk_get kX0_init_ok 17 rfl
theorem dX0_init_35 : decode cX0_init 35 = .ok (.aload_n 2, 1) := dk_get kX0_init_ok 18 rfl
theorem dX0_init_36 : decode cX0_init 36 = .ok (.putfield 25, 3) := dk_get kX0_init_ok 19 rfl
theorem dX0_init_39 : decode cX0_init 39 = .ok (.aload_n 0, 1) := dk_get kX0_init_ok 20 rfl
theorem dX0_init_40 : decode cX0_init 40 = .ok (.aload_n 3, 1) := dk_get kX0_init_ok 21 rfl
theorem dX0_init_41 : decode cX0_init 41 = .ok (.putfield 29, 3) := dk_get kX0_init_ok 22 rfl
theorem dX0_init_44 : decode cX0_init 44 = .ok (.return_, 1) := dk_get kX0_init_ok 23 rfl
def kX0_prepare : List (Nat × Instr × Nat) := [(0, .aload_n 0, 1), (1, .getfield 9, 3), (4, .iconst 0, 1), (5, .invokestatic 33, 3), (8, .iconst 1, 1), (9, .istore_n 1, 1), (10, .iload_n 1, 1), (11, .aload_n 0, 1), (12, .getfield 21, 3), (15, .getfield 39, 3), (18, .if_icmp .ge 40, 3), (21, .iconst 0, 1), (22, .istore_n 2, 1), (23, .iload_n 2, 1), (24, .iload_n 1, 1), (25, .if_icmp .ge 27, 3), (28, .aload_n 0, 1), (29, .getfield 9, 3), (32, .iload_n 1, 1), (33, .iload_n 2, 1), (34, .aload_n 0, 1), (35, .getfield 29, 3), (38, .iload_n 1, 1), (39, .iload_n 2, 1), (40, .invokevirtual 45, 3), (43, .invokestatic 51, 3), (46, .iinc 2 1, 3), (49, .goto (-26), 3), (52, .iinc 1 1, 3), (55, .goto (-45), 3), (58, .return_, 1)]
set_option maxRecDepth 100000 in
theorem kX0_prepare_ok : kX0_prepare.all (fun q => decide (decode cX0_prepare q.1 = .ok q.2)) = true := by decide +kernel
theorem dX0_prepare_0 : decode cX0_prepare 0 = .ok (.aload_n 0, 1) := dk_get kX0_prepare_ok 0 rfl
theorem dX0_prepare_1 : decode cX0_prepare 1 = .ok (.getfield 9, 3) := dk_get kX0_prepare_ok 1 rfl
theorem dX0_prepare_4 : decode cX0_prepare 4 = .ok (.iconst 0, 1) := dk_get kX0_prepare_ok 2 rfl
theorem dX0_prepare_5 : decode cX0_prepare 5 = .ok (.invokestatic 33, 3) := dk_get kX0_prepare_ok 3 rfl
theorem dX0_prepare_8 : decode cX0_prepare 8 = .ok (.iconst 1, 1) := dk_get kX0_prepare_ok 4 rfl
theorem dX0_prepare_9 : decode cX0_prepare 9 = .ok (.istore_n 1, 1) := dk_get kX0_prepare_ok 5 rfl
theorem dX0_prepare_10 : decode cX0_prepare 10 = .ok (.iload_n 1, 1) := dk_get kX0_prepare_ok 6 rfl
theorem dX0_prepare_11 : decode cX0_prepare 11 = .ok (.aload_n 0, 1) := dk_get kX0_prepare_ok 7 rfl
theorem dX0_prepare_12 : decode cX0_prepare 12 = .ok (.getfield 21, 3) := dk_get kX0_prepare_ok 8 rfl
theorem dX0_prepare_15 : decode cX0_prepare 15 = .ok (.getfield 39, 3) := dk_get kX0_prepare_ok 9 rfl
theorem dX0_prepare_18 : decode cX0_prepare 18 = .ok (.if_icmp .ge 40, 3) := dk_get kX0_prepare_ok 10 rfl
theorem dX0_prepare_21 : decode cX0_prepare 21 = .ok (.iconst 0, 1) := dk_get kX0_prepare_ok 11 rfl
theorem dX0_prepare_22 : decode cX0_prepare 22 = .ok (.istore_n 2, 1) := dk_get kX0_prepare_ok 12 rfl
theorem dX0_prepare_23 : decode cX0_prepare 23 = .ok (.iload_n 2, 1) := dk_get kX0_prepare_ok 13 rfl
theorem dX0_prepare_24 : decode cX0_prepare 24 = .ok (.iload_n 1, 1) := dk_get kX0_prepare_ok 14 rfl
theorem dX0_prepare_25 : decode cX0_prepare 25 = .ok (.if_icmp .ge 27, 3) := dk_get kX0_prepare_ok 15 rfl
theorem dX0_prepare_28 : decode cX0_prepare 28 = .ok (.aload_n 0, 1) := dk_get kX0_prepare_ok 16 rfl
theorem dX0_prepare_29 : decode cX0_prepare 29 = .ok (.getfield 9, 3) := dk_get kX0_prepare_ok 17 rfl
theorem dX0_prepare_32 : decode cX0_prepare 32 = .ok (.iload_n 1, 1) := dk_get kX0_prepare_ok 18 rfl
theorem dX0_prepare_33 : decode cX0_prepare 33 = .ok (.iload_n 2, 1) := dk_get kX0_prepare_ok 19 rfl
theorem dX0_prepare_34 : decode cX0_prepare 34 = .ok (.aload_n 0, 1) := dk_get kX0_prepare_ok 20 rfl
theorem dX0_prepare_35 : decode cX0_prepare 35 = .ok (.getfield 29, 3) := dk_get kX0_prepare_ok 21 rfl
theorem dX0_prepare_38 : decode cX0_prepare 38 = .ok (.iload_n 1, 1) := dk_get kX0_prepare_ok 22 rfl
theorem dX0_prepare_39 : decode cX0_prepare 39 = .ok (.iload_n 2, 1) := dk_get kX0_prepare_ok 23 rfl
theorem dX0_prepare_40 : decode cX0_prepare 40 = .ok (.invokevirtual 45, 3) := dk_get kX0_prepare_ok 24 rfl
theorem dX0_prepare_43 : decode cX0_prepare 43 = .ok (.invokestatic 51, 3) := dk_get kX0_prepare_ok 25 rfl
theorem dX0_prepare_46 : decode cX0_prepare 46 = .ok (.iinc 2 1, 3) := dk_get kX0_prepare_ok 26 rfl
theorem dX0_prepare_49 : decode cX0_prepare 49 = .ok (.goto (-26), 3) := dk_get kX0_prepare_ok 27 rfl
theorem dX0_prepare_52 : decode cX0_prepare 52 = .ok (.iinc 1 1, 3) := dk_get kX0_prepare_ok 28 rfl
theorem dX0_prepare_55 : decode cX0_prepare 55 = .ok (.goto (-45), 3) := dk_get kX0_prepare_ok 29 rfl
theorem dX0_prepare_58 : decode cX0_prepare 58 = .ok (.return_, 1) := dk_get kX0_prepare_ok 30 rfl
def kX0_seek : List (Nat × Instr × Nat) := [(0, .aload_n 0, 1), (1, .invokevirtual 55, 3), (4, .aload_n 0, 1), (5, .iconst (-1), 1), (6, .putfield 58, 3), (9, .aload_n 0, 1), (10, .aload_n 0, 1), (11, .getfield 61, 3), (14, .putfield 65, 3), (17, .iconst 0, 1), (18, .istore_n 1, 1), (19, .iload_n 1, 1), (20, .aload_n 0, 1), (21, .getfield 21, 3), (24, .getfield 39, 3), (27, .if_icmp .ge 14, 3), (30, .aload_n 0, 1), (31, .iload_n 1, 1), (32, .invokevirtual 68, 3), (35, .iinc 1 1, 3), (38, .goto (-19), 3), (41, .iconst 0, 1), (42, .istore_n 1, 1), (43, .iload_n 1, 1), (44, .aload_n 0, 1), (45, .getfield 21, 3), (48, .getfield 39, 3), (51, .if_icmp .ge 36, 3), (54, .iload_n 1, 1), (55, .iconst 1, 1), (56, .iadd, 1), (57, .istore_n 2, 1), (58, .iload_n 2, 1), (59, .aload_n 0, 1), (60, .getfield 21, 3), (63, .getfield 39, 3), (66, .if_icmp .ge 15, 3), (69, .aload_n 0, 1), (70, .iload_n 1, 1), (71, .iload_n 2, 1), (72, .invokevirtual 72, 3), (75, .iinc 2 1, 3), (78, .goto (-20), 3), (81, .iinc 1 1, 3), (84, .goto (-41), 3), (87, .iconst 0, 1), (88, .istore_n 1, 1), (89, .iload_n 1, 1), (90, .aload_n 0, 1), (91, .getfield 21, 3), (94, .getfield 39, 3), (97, .if_icmp .ge 36, 3), (100, .iload_n 1, 1), (101, .iconst 1, 1), (102, .iadd, 1), (103, .istore_n 2, 1), (104, .iload_n 2, 1), (105, .aload_n 0, 1), (106, .getfield 21, 3), (109, .getfield 39, 3), (112, .if_icmp .ge 15, 3), (115, .aload_n 0, 1), (116, .iload_n 1, 1), (117, .iload_n 2, 1), (118, .invokevirtual 76, 3), (121, .iinc 2 1, 3), (124, .goto (-20), 3), (127, .iinc 1 1, 3), (130, .goto (-41), 3), (133, .return_, 1)]
set_option maxRecDepth 100000 in
theorem kX0_seek_ok : kX0_seek.all (fun q => decide (decode cX0_seek q.1 = .ok q.2)) = true := by decide +kernel
theorem dX0_seek_0 : decode cX0_seek 0 = .ok (.aload_n 0, 1) := dk_get kX0_seek_ok 0 rfl
theorem dX0_seek_1 : decode cX0_seek 1 = .ok (.invokevirtual 55, 3) := dk_get kX0_seek_ok 1 rfl
theorem dX0_seek_4 : decode cX0_seek 4 = .ok (.aload_n 0, 1) := dk_get kX0_seek_ok 2 rfl
theorem dX0_seek_5 : decode cX0_seek 5 = .ok (.iconst (-1), 1) := dk_get kX0_seek_ok 3 rfl
theorem dX0_seek_6 : decode cX0_seek 6 = .ok (.putfield 58, 3) := dk_get kX0_seek_ok 4 rfl
theorem dX0_seek_9 : decode cX0_seek 9 = .ok (.aload_n 0, 1) := dk_get kX0_seek_ok 5 rfl
theorem dX0_seek_10 : decode cX0_seek 10 = .ok (.aload_n 0, 1) := dk_get kX0_seek_ok 6 rfl
theorem dX0_seek_11 : decode cX0_seek 11 = .ok (.getfield 61, 3) := dk_get kX0_seek_ok 7 rfl
theorem dX0_seek_14 : decode cX0_seek 14 = .ok (.putfield 65, 3) := dk_get kX0_seek_ok 8 rfl
theorem dX0_seek_17 : decode cX0_seek 17 = .ok (.iconst 0, 1) := dk_get kX0_seek_ok 9 rfl
theorem dX0_seek_18 : decode cX0_seek 18 = .ok (.istore_n 1, 1) := dk_get kX0_seek_ok 10 rfl
theorem dX0_seek_19 : decode cX0_seek 19 = .ok (.iload_n 1, 1) := dk_get kX0_seek_ok 11 rfl
theorem dX0_seek_20 : decode cX0_seek 20 = .ok (.aload_n 0, 1) := dk_get kX0_seek_ok 12 rfl
theorem dX0_seek_21 : decode cX0_seek 21 = .ok (.getfield 21, 3) := dk_get kX0_seek_ok 13 rfl
theorem dX0_seek_24 : decode cX0_seek 24 = .ok (.getfield 39, 3) := dk_get kX0_seek_ok 14 rfl
theorem dX0_seek_27 : decode cX0_seek 27 = .ok (.if_icmp .ge 14, 3) := dk_get kX0_seek_ok 15 rfl
theorem dX0_seek_30 : decode cX0_seek 30 = .ok (.aload_n 0, 1) := dk_get kX0_seek_ok 16 rfl
theorem dX0_seek_31 : decode cX0_seek 31 = .ok (.iload_n 1, 1) := dk_get kX0_seek_ok 17 rfl
theorem dX0_seek_32 : decode cX0_seek 32 = .ok (.invokevirtual 68, 3) := dk_get kX0_seek_ok 18 rfl
theorem dX0_seek_35 : decode cX0_seek 35 = .ok (.iinc 1 1, 3) := dk_get kX0_seek_ok 19 rfl
theorem dX0_seek_38 : decode cX0_seek 38 = .ok (.goto (-19), 3) := dk_get kX0_seek_ok 20 rfl
theorem dX0_seek_41 : decode cX0_seek 41 = .ok (.iconst 0, 1) := dk_get kX0_seek_ok 21 rfl
theorem dX0_seek_42 : decode cX0_seek 42 = .ok (.istore_n 1, 1) := dk_get kX0_seek_ok 22 rfl
theorem dX0_seek_43 : decode cX0_seek 43 = .ok (.iload_n 1, 1) := dk_get kX0_seek_ok 23 rfl
theorem dX0_seek_44 : decode cX0_seek 44 = .ok (.aload_n 0, 1) := dk_get kX0_seek_ok 24 rfl
theorem dX0_seek_45 : decode cX0_seek 45 = .ok (.getfield 21, 3) := dk_get kX0_seek_ok 25 rfl
theorem dX0_seek_48 : decode cX0_seek 48 = .ok (.getfield 39, 3) := dk_get kX0_seek_ok 26 rfl
theorem dX0_seek_51 : decode cX0_seek 51 = .ok (.if_icmp .ge 36, 3) := dk_get kX0_seek_ok 27 rfl
theorem dX0_seek_54 : decode cX0_seek 54 = .ok (.iload_n 1, 1) := dk_get kX0_seek_ok 28 rfl
theorem dX0_seek_55 : decode cX0_seek 55 = .ok (.iconst 1, 1) := dk_get kX0_seek_ok 29 rfl
theorem dX0_seek_56 : decode cX0_seek 56 = .ok (.iadd, 1) := dk_get kX0_seek_ok 30 rfl
theorem dX0_seek_57 : decode cX0_seek 57 = .ok (.istore_n 2, 1) := dk_get kX0_seek_ok 31 rfl
theorem dX0_seek_58 : decode cX0_seek 58 = .ok (.iload_n 2, 1) := dk_get kX0_seek_ok 32 rfl
theorem dX0_seek_59 : decode cX0_seek 59 = .ok (.aload_n 0, 1) := dk_get kX0_seek_ok 33 rfl
theorem dX0_seek_60 : decode cX0_seek 60 = .ok (.getfield 21, 3) := dk_get kX0_seek_ok 34 rfl
theorem dX0_seek_63 : decode cX0_seek 63 = .ok (.getfield 39, 3) := dk_get kX0_seek_ok 35 rfl
theorem dX0_seek_66 : decode cX0_seek 66 = .ok (.if_icmp .ge 15, 3) := dk_get kX0_seek_ok 36 rfl
theorem dX0_seek_69 : decode cX0_seek 69 = .ok (.aload_n 0, 1) := dk_get kX0_seek_ok 37 rfl
theorem dX0_seek_70 : decode cX0_seek 70 = .ok (.iload_n 1, 1) := dk_get kX0_seek_ok 38 rfl
theorem dX0_seek_71 : decode cX0_seek 71 = .ok (.iload_n 2, 1) := dk_get kX0_seek_ok 39 rfl
theorem dX0_seek_72 : decode cX0_seek 72 = .ok (.invokevirtual 72, 3) := dk_get kX0_seek_ok 40 rfl
theorem dX0_seek_75 : decode cX0_seek 75 = .ok (.iinc 2 1, 3) := dk_get kX0_seek_ok 41 rfl
theorem dX0_seek_78 : decode cX0_seek 78 = .ok (.goto (-20), 3) := dk_get kX0_seek_ok 42 rfl
theorem dX0_seek_81 : decode cX0_seek 81 = .ok (.iinc 1 1, 3) := dk_get kX0_seek_ok 43 rfl
theorem dX0_seek_84 : decode cX0_seek 84 = .ok (.goto (-41), 3) := dk_get kX0_seek_ok 44 rfl
theorem dX0_seek_87 : decode cX0_seek 87 = .ok (.iconst 0, 1) := dk_get kX0_seek_ok 45 rfl
theorem dX0_seek_88 : decode cX0_seek 88 = .ok (.istore_n 1, 1) := dk_get kX0_seek_ok 46 rfl
theorem dX0_seek_89 : decode cX0_seek 89 = .ok (.iload_n 1, 1) := dk_get kX0_seek_ok 47 rfl
theorem dX0_seek_90 : decode cX0_seek 90 = .ok (.aload_n 0, 1) := dk_get kX0_seek_ok 48 rfl
theorem dX0_seek_91 : decode cX0_seek 91 = .ok (.getfield 21, 3) := dk_get kX0_seek_ok 49 rfl
theorem dX0_seek_94 : decode cX0_seek 94 = .ok (.getfield 39, 3) := dk_get kX0_seek_ok 50 rfl
theorem dX0_seek_97 : decode cX0_seek 97 = .ok (.if_icmp .ge 36, 3) := dk_get kX0_seek_ok 51 rfl
theorem dX0_seek_100 : decode cX0_seek 100 = .ok (.iload_n 1, 1) := dk_get kX0_seek_ok 52 rfl
theorem dX0_seek_101 : decode cX0_seek 101 = .ok (.iconst 1, 1) := dk_get kX0_seek_ok 53 rfl
theorem dX0_seek_102 : decode cX0_seek 102 = .ok (.iadd, 1) := dk_get kX0_seek_ok 54 rfl
theorem dX0_seek_103 : decode cX0_seek 103 = .ok (.istore_n 2, 1) := dk_get kX0_seek_ok 55 rfl
theorem dX0_seek_104 : decode cX0_seek 104 = .ok (.iload_n 2, 1) := dk_get kX0_seek_ok 56 rfl
theorem dX0_seek_105 : decode cX0_seek 105 = .ok (.aload_n 0, 1) := dk_get kX0_seek_ok 57 rfl
theorem dX0_seek_106 : decode cX0_seek 106 = .ok (.getfield 21, 3) := dk_get kX0_seek_ok 58 rfl
theorem dX0_seek_109 : decode cX0_seek 109 = .ok (.getfield 39, 3) := dk_get kX0_seek_ok 59 rfl
theorem dX0_seek_112 : decode cX0_seek 112 = .ok (.if_icmp .ge 15, 3) := dk_get kX0_seek_ok 60 rfl
theorem dX0_seek_115 : decode cX0_seek 115 = .ok (.aload_n 0, 1) := dk_get kX0_seek_ok 61 rfl
theorem dX0_seek_116 : decode cX0_seek 116 = .ok (.iload_n 1, 1) := dk_get kX0_seek_ok 62 rfl
theorem dX0_seek_117 : decode cX0_seek 117 = .ok (.iload_n 2, 1) := dk_get kX0_seek_ok 63 rfl
theorem dX0_seek_118 : decode cX0_seek 118 = .ok (.invokevirtual 76, 3) := dk_get kX0_seek_ok 64 rfl
theorem dX0_seek_121 : decode cX0_seek 121 = .ok (.iinc 2 1, 3) := dk_get kX0_seek_ok 65 rfl
theorem dX0_seek_124 : decode cX0_seek 124 = .ok (.goto (-20), 3) := dk_get kX0_seek_ok 66 rfl
theorem dX0_seek_127 : decode cX0_seek 127 = .ok (.iinc 1 1, 3) := dk_get kX0_seek_ok 67 rfl
theorem dX0_seek_130 : decode cX0_seek 130 = .ok (.goto (-41), 3) := dk_get kX0_seek_ok 68 rfl
theorem dX0_seek_133 : decode cX0_seek 133 = .ok (.return_, 1) := dk_get kX0_seek_ok 69 rfl
def kX0_make : List (Nat × Instr × Nat) := [(0, .aload_n 0, 1), (1, .getfield 58, 3), (4, .ifCond .ne 25, 3), (7, .aload_n 0, 1), (8, .getfield 79, 3), (11, .iconst (-1), 1), (12, .if_icmp .ne 17, 3), (15, .aload_n 0, 1), (16, .getfield 21, 3), (19, .aload_n 0, 1), (20, .getfield 82, 3), (23, .invokevirtual 85, 3), (26, .goto 77, 3), (29, .aload_n 0, 1), (30, .getfield 58, 3), (33, .ifCond .ne 21, 3), (36, .aload_n 0, 1), (37, .getfield 21, 3), (40, .aload_n 0, 1), (41, .getfield 82, 3), (44, .aload_n 0, 1), (45, .getfield 79, 3), (48, .invokevirtual 88, 3), (51, .goto 52, 3), (54, .aload_n 0, 1), (55, .getfield 58, 3), (58, .iconst 1, 1), (59, .if_icmp .ne 21, 3), (62, .aload_n 0, 1), (63, .getfield 21, 3), (66, .aload_n 0, 1), (67, .getfield 82, 3), (70, .aload_n 0, 1), (71, .getfield 79, 3), (74, .invokevirtual 91, 3), (77, .goto 26, 3), (80, .aload_n 0, 1), (81, .getfield 58, 3), (84, .iconst 2, 1), (85, .if_icmp .ne 18, 3), (88, .aload_n 0, 1), (89, .getfield 21, 3), (92, .aload_n 0, 1), (93, .getfield 82, 3), (96, .aload_n 0, 1), (97, .getfield 79, 3), (100, .invokevirtual 94, 3), (103, .return_, 1)]
set_option maxRecDepth 100000 in
theorem kX0_make_ok : kX0_make.all (fun q => decide (decode cX0_make q.1 = .ok q.2)) = true := by decide +kernel
theorem dX0_make_0 : decode cX0_make 0 = .ok (.aload_n 0, 1) := dk_get kX0_make_ok 0 rfl
theorem dX0_make_1 : decode cX0_make 1 = .ok (.getfield 58, 3) := dk_get kX0_make_ok 1 rfl
theorem dX0_make_4 : decode cX0_make 4 = .ok (.ifCond .ne 25, 3) := dk_get kX0_make_ok 2 rfl
theorem dX0_make_7 : decode cX0_make 7 = .ok (.aload_n 0, 1) := dk_get kX0_make_ok 3 rfl
theorem dX0_make_8 : decode cX0_make 8 = .ok (.getfield 79, 3) := dk_get kX0_make_ok 4 rfl
theorem dX0_make_11 : decode cX0_make 11 = .ok (.iconst (-1), 1) := dk_get kX0_make_ok 5 rfl
theorem dX0_make_12 : decode cX0_make 12 = .ok (.if_icmp .ne 17, 3) := dk_get kX0_make_ok 6 rfl
theorem dX0_make_15 : decode cX0_make 15 = .ok (.aload_n 0, 1) := dk_get kX0_make_ok 7 rfl
theorem dX0_make_16 : decode cX0_make 16 = .ok (.getfield 21, 3) := dk_get kX0_make_ok 8 rfl
theorem dX0_make_19 : decode cX0_make 19 = .ok (.aload_n 0, 1) := dk_get kX0_make_ok 9 rfl
theorem dX0_make_20 : decode cX0_make 20 = .ok (.getfield 82, 3) := dk_get kX0_make_ok 10 rfl
theorem dX0_make_23 : decode cX0_make 23 = .ok (.invokevirtual 85, 3) := dk_get kX0_make_ok 11 rfl
theorem dX0_make_26 : decode cX0_make 26 = .ok (.goto 77, 3) := dk_get kX0_make_ok 12 rfl
theorem dX0_make_29 : decode cX0_make 29 = .ok (.aload_n 0, 1) := dk_get kX0_make_ok 13 rfl
theorem dX0_make_30 : decode cX0_make 30 = .ok (.getfield 58, 3) := dk_get kX0_make_ok 14 rfl
theorem dX0_make_33 : decode cX0_make 33 = .ok (.ifCond .ne 21, 3) := dk_get kX0_make_ok 15 rfl
theorem dX0_make_36 : decode cX0_make 36 = .ok (.aload_n 0, 1) := dk_get kX0_make_ok 16 rfl
theorem dX0_make_37 : decode cX0_make 37 = .ok (.getfield 21, 3) := dk_get kX0_make_ok 17 rfl
theorem dX0_make_40 : decode cX0_make 40 = .ok (.aload_n 0, 1) := dk_get kX0_make_ok 18 rfl
theorem dX0_make_41 : decode cX0_make 41 = .ok (.getfield 82, 3) := dk_get kX0_make_ok 19 rfl
theorem dX0_make_44 : decode cX0_make 44 = .ok (.aload_n 0, 1) := dk_get kX0_make_ok 20 rfl
theorem dX0_make_45 : decode cX0_make 45 = .ok (.getfield 79, 3) := dk_get kX0_make_ok 21 rfl
theorem dX0_make_48 : decode cX0_make 48 = .ok (.invokevirtual 88, 3) := dk_get kX0_make_ok 22 rfl
theorem dX0_make_51 : decode cX0_make 51 = .ok (.goto 52, 3) := dk_get kX0_make_ok 23 rfl
theorem dX0_make_54 : decode cX0_make 54 = .ok (.aload_n 0, 1) := dk_get kX0_make_ok 24 rfl
theorem dX0_make_55 : decode cX0_make 55 = .ok (.getfield 58, 3) := dk_get kX0_make_ok 25 rfl
theorem dX0_make_58 : decode cX0_make 58 = .ok (.iconst 1, 1) := dk_get kX0_make_ok 26 rfl
theorem dX0_make_59 : decode cX0_make 59 = .ok (.if_icmp .ne 21, 3) := dk_get kX0_make_ok 27 rfl
theorem dX0_make_62 : decode cX0_make 62 = .ok (.aload_n 0, 1) := dk_get kX0_make_ok 28 rfl
theorem dX0_make_63 : decode cX0_make 63 = .ok (.getfield 21, 3) := dk_get kX0_make_ok 29 rfl
theorem dX0_make_66 : decode cX0_make 66 = .ok (.aload_n 0, 1) := dk_get kX0_make_ok 30 rfl
theorem dX0_make_67 : decode cX0_make 67 = .ok (.getfield 82, 3) := dk_get kX0_make_ok 31 rfl
theorem dX0_make_70 : decode cX0_make 70 = .ok (.aload_n 0, 1) := dk_get kX0_make_ok 32 rfl
theorem dX0_make_71 : decode cX0_make 71 = .ok (.getfield 79, 3) := dk_get kX0_make_ok 33 rfl
theorem dX0_make_74 : decode cX0_make 74 = .ok (.invokevirtual 91, 3) := dk_get kX0_make_ok 34 rfl
theorem dX0_make_77 : decode cX0_make 77 = .ok (.goto 26, 3) := dk_get kX0_make_ok 35 rfl
theorem dX0_make_80 : decode cX0_make 80 = .ok (.aload_n 0, 1) := dk_get kX0_make_ok 36 rfl
theorem dX0_make_81 : decode cX0_make 81 = .ok (.getfield 58, 3) := dk_get kX0_make_ok 37 rfl
theorem dX0_make_84 : decode cX0_make 84 = .ok (.iconst 2, 1) := dk_get kX0_make_ok 38 rfl
theorem dX0_make_85 : decode cX0_make 85 = .ok (.if_icmp .ne 18, 3) := dk_get kX0_make_ok 39 rfl
theorem dX0_make_88 : decode cX0_make 88 = .ok (.aload_n 0, 1) := dk_get kX0_make_ok 40 rfl
theorem dX0_make_89 : decode cX0_make 89 = .ok (.getfield 21, 3) := dk_get kX0_make_ok 41 rfl
theorem dX0_make_92 : decode cX0_make 92 = .ok (.aload_n 0, 1) := dk_get kX0_make_ok 42 rfl
theorem dX0_make_93 : decode cX0_make 93 = .ok (.getfield 82, 3) := dk_get kX0_make_ok 43 rfl
theorem dX0_make_96 : decode cX0_make 96 = .ok (.aload_n 0, 1) := dk_get kX0_make_ok 44 rfl
theorem dX0_make_97 : decode cX0_make 97 = .ok (.getfield 79, 3) := dk_get kX0_make_ok 45 rfl
theorem dX0_make_100 : decode cX0_make 100 = .ok (.invokevirtual 94, 3) := dk_get kX0_make_ok 46 rfl
theorem dX0_make_103 : decode cX0_make 103 = .ok (.return_, 1) := dk_get kX0_make_ok 47 rfl
def kX0_measure : List (Nat × Instr × Nat) := [(0, .aload_n 0, 1), (1, .aload_n 0, 1), (2, .getfield 21, 3), (5, .invokevirtual 97, 3), (8, .putfield 61, 3), (11, .aload_n 0, 1), (12, .getfield 15, 3), (15, .iconst 0, 1), (16, .invokestatic 33, 3), (19, .aload_n 0, 1), (20, .getfield 18, 3), (23, .iconst 0, 1), (24, .invokestatic 33, 3), (27, .iconst 0, 1), (28, .istore_n 1, 1), (29, .iload_n 1, 1), (30, .aload_n 0, 1), (31, .getfield 21, 3), (34, .getfield 39, 3), (37, .if_icmp .ge 79, 3), (40, .aload_n 0, 1), (41, .getfield 15, 3), (44, .aload_n 0, 1), (45, .getfield 21, 3), (48, .getfield 101, 3), (51, .iload_n 1, 1), (52, .iaload, 1), (53, .dup2, 1), (54, .iaload, 1), (55, .iconst 1, 1), (56, .iload_n 1, 1), (57, .ishl, 1), (58, .ior, 1), (59, .iastore, 1), (60, .iconst 0, 1), (61, .istore_n 2, 1), (62, .iload_n 2, 1), (63, .aload_n 0, 1), (64, .getfield 21, 3), (67, .getfield 39, 3), (70, .if_icmp .ge 40, 3), (73, .aload_n 0, 1), (74, .getfield 18, 3), (77, .iload_n 2, 1), (78, .bipush 30, 2), (80, .imul, 1), (81, .aload_n 0, 1), (82, .getfield 21, 3), (85, .getfield 101, 3), (88, .iload_n 1, 1), (89, .iaload, 1), (90, .iadd, 1), (91, .dup2, 1), (92, .iaload, 1), (93, .aload_n 0, 1), (94, .getfield 25, 3), (97, .iload_n 2, 1), (98, .iload_n 1, 1), (99, .invokevirtual 104, 3), (102, .iadd, 1), (103, .iastore, 1), (104, .iinc 2 1, 3), (107, .goto (-45), 3), (110, .iinc 1 1, 3), (113, .goto (-84), 3), (116, .return_, 1)]
set_option maxRecDepth 100000 in
theorem kX0_measure_ok : kX0_measure.all (fun q => decide (decode cX0_measure q.1 = .ok q.2)) = true := by decide +kernel
theorem dX0_measure_0 : decode cX0_measure 0 = .ok (.aload_n 0, 1) := dk_get kX0_measure_ok 0 rfl
theorem dX0_measure_1 : decode cX0_measure 1 = .ok (.aload_n 0, 1) := dk_get kX0_measure_ok 1 rfl
theorem dX0_measure_2 : decode cX0_measure 2 = .ok (.getfield 21, 3) := dk_get kX0_measure_ok 2 rfl
theorem dX0_measure_5 : decode cX0_measure 5 = .ok (.invokevirtual 97, 3) := dk_get kX0_measure_ok 3 rfl
theorem dX0_measure_8 : decode cX0_measure 8 = .ok (.putfield 61, 3) := dk_get kX0_measure_ok 4 rfl
theorem dX0_measure_11 : decode cX0_measure 11 = .ok (.aload_n 0, 1) := dk_get kX0_measure_ok 5 rfl
theorem dX0_measure_12 : decode cX0_measure 12 = .ok (.getfield 15, 3) := dk_get kX0_measure_ok 6 rfl
theorem dX0_measure_15 : decode cX0_measure 15 = .ok (.iconst 0, 1) := dk_get kX0_measure_ok 7 rfl
theorem dX0_measure_16 : decode cX0_measure 16 = .ok (.invokestatic 33, 3) := dk_get kX0_measure_ok 8 rfl
theorem dX0_measure_19 : decode cX0_measure 19 = .ok (.aload_n 0, 1) := dk_get kX0_measure_ok 9 rfl
theorem dX0_measure_20 : decode cX0_measure 20 = .ok (.getfield 18, 3) := dk_get kX0_measure_ok 10 rfl
theorem dX0_measure_23 : decode cX0_measure 23 = .ok (.iconst 0, 1) := dk_get kX0_measure_ok 11 rfl
theorem dX0_measure_24 : decode cX0_measure 24 = .ok (.invokestatic 33, 3) := dk_get kX0_measure_ok 12 rfl
theorem dX0_measure_27 : decode cX0_measure 27 = .ok (.iconst 0, 1) := dk_get kX0_measure_ok 13 rfl
theorem dX0_measure_28 : decode cX0_measure 28 = .ok (.istore_n 1, 1) := dk_get kX0_measure_ok 14 rfl
theorem dX0_measure_29 : decode cX0_measure 29 = .ok (.iload_n 1, 1) := dk_get kX0_measure_ok 15 rfl
theorem dX0_measure_30 : decode cX0_measure 30 = .ok (.aload_n 0, 1) := dk_get kX0_measure_ok 16 rfl
theorem dX0_measure_31 : decode cX0_measure 31 = .ok (.getfield 21, 3) := dk_get kX0_measure_ok 17 rfl
theorem dX0_measure_34 : decode cX0_measure 34 = .ok (.getfield 39, 3) := dk_get kX0_measure_ok 18 rfl
theorem dX0_measure_37 : decode cX0_measure 37 = .ok (.if_icmp .ge 79, 3) := dk_get kX0_measure_ok 19 rfl
theorem dX0_measure_40 : decode cX0_measure 40 = .ok (.aload_n 0, 1) := dk_get kX0_measure_ok 20 rfl
theorem dX0_measure_41 : decode cX0_measure 41 = .ok (.getfield 15, 3) := dk_get kX0_measure_ok 21 rfl
theorem dX0_measure_44 : decode cX0_measure 44 = .ok (.aload_n 0, 1) := dk_get kX0_measure_ok 22 rfl
theorem dX0_measure_45 : decode cX0_measure 45 = .ok (.getfield 21, 3) := dk_get kX0_measure_ok 23 rfl
theorem dX0_measure_48 : decode cX0_measure 48 = .ok (.getfield 101, 3) := dk_get kX0_measure_ok 24 rfl
theorem dX0_measure_51 : decode cX0_measure 51 = .ok (.iload_n 1, 1) := dk_get kX0_measure_ok 25 rfl
theorem dX0_measure_52 : decode cX0_measure 52 = .ok (.iaload, 1) := dk_get kX0_measure_ok 26 rfl
theorem dX0_measure_53 : decode cX0_measure 53 = .ok (.dup2, 1) := dk_get kX0_measure_ok 27 rfl
theorem dX0_measure_54 : decode cX0_measure 54 = .ok (.iaload, 1) := dk_get kX0_measure_ok 28 rfl
theorem dX0_measure_55 : decode cX0_measure 55 = .ok (.iconst 1, 1) := dk_get kX0_measure_ok 29 rfl
theorem dX0_measure_56 : decode cX0_measure 56 = .ok (.iload_n 1, 1) := dk_get kX0_measure_ok 30 rfl
theorem dX0_measure_57 : decode cX0_measure 57 = .ok (.ishl, 1) := dk_get kX0_measure_ok 31 rfl
theorem dX0_measure_58 : decode cX0_measure 58 = .ok (.ior, 1) := dk_get kX0_measure_ok 32 rfl
theorem dX0_measure_59 : decode cX0_measure 59 = .ok (.iastore, 1) := dk_get kX0_measure_ok 33 rfl
theorem dX0_measure_60 : decode cX0_measure 60 = .ok (.iconst 0, 1) := dk_get kX0_measure_ok 34 rfl
theorem dX0_measure_61 : decode cX0_measure 61 = .ok (.istore_n 2, 1) := dk_get kX0_measure_ok 35 rfl
theorem dX0_measure_62 : decode cX0_measure 62 = .ok (.iload_n 2, 1) := dk_get kX0_measure_ok 36 rfl
theorem dX0_measure_63 : decode cX0_measure 63 = .ok (.aload_n 0, 1) := dk_get kX0_measure_ok 37 rfl
theorem dX0_measure_64 : decode cX0_measure 64 = .ok (.getfield 21, 3) := dk_get kX0_measure_ok 38 rfl
theorem dX0_measure_67 : decode cX0_measure 67 = .ok (.getfield 39, 3) := dk_get kX0_measure_ok 39 rfl
theorem dX0_measure_70 : decode cX0_measure 70 = .ok (.if_icmp .ge 40, 3) := dk_get kX0_measure_ok 40 rfl
theorem dX0_measure_73 : decode cX0_measure 73 = .ok (.aload_n 0, 1) := dk_get kX0_measure_ok 41 rfl
theorem dX0_measure_74 : decode cX0_measure 74 = .ok (.getfield 18, 3) := dk_get kX0_measure_ok 42 rfl
theorem dX0_measure_77 : decode cX0_measure 77 = .ok (.iload_n 2, 1) := dk_get kX0_measure_ok 43 rfl
theorem dX0_measure_78 : decode cX0_measure 78 = .ok (.bipush 30, 2) := dk_get kX0_measure_ok 44 rfl
theorem dX0_measure_80 : decode cX0_measure 80 = .ok (.imul, 1) := dk_get kX0_measure_ok 45 rfl
theorem dX0_measure_81 : decode cX0_measure 81 = .ok (.aload_n 0, 1) := dk_get kX0_measure_ok 46 rfl
theorem dX0_measure_82 : decode cX0_measure 82 = .ok (.getfield 21, 3) := dk_get kX0_measure_ok 47 rfl
theorem dX0_measure_85 : decode cX0_measure 85 = .ok (.getfield 101, 3) := dk_get kX0_measure_ok 48 rfl
theorem dX0_measure_88 : decode cX0_measure 88 = .ok (.iload_n 1, 1) := dk_get kX0_measure_ok 49 rfl
theorem dX0_measure_89 : decode cX0_measure 89 = .ok (.iaload, 1) := dk_get kX0_measure_ok 50 rfl
theorem dX0_measure_90 : decode cX0_measure 90 = .ok (.iadd, 1) := dk_get kX0_measure_ok 51 rfl
theorem dX0_measure_91 : decode cX0_measure 91 = .ok (.dup2, 1) := dk_get kX0_measure_ok 52 rfl
theorem dX0_measure_92 : decode cX0_measure 92 = .ok (.iaload, 1) := dk_get kX0_measure_ok 53 rfl
theorem dX0_measure_93 : decode cX0_measure 93 = .ok (.aload_n 0, 1) := dk_get kX0_measure_ok 54 rfl
theorem dX0_measure_94 : decode cX0_measure 94 = .ok (.getfield 25, 3) := dk_get kX0_measure_ok 55 rfl
theorem dX0_measure_97 : decode cX0_measure 97 = .ok (.iload_n 2, 1) := dk_get kX0_measure_ok 56 rfl
theorem dX0_measure_98 : decode cX0_measure 98 = .ok (.iload_n 1, 1) := dk_get kX0_measure_ok 57 rfl
theorem dX0_measure_99 : decode cX0_measure 99 = .ok (.invokevirtual 104, 3) := dk_get kX0_measure_ok 58 rfl
theorem dX0_measure_102 : decode cX0_measure 102 = .ok (.iadd, 1) := dk_get kX0_measure_ok 59 rfl
theorem dX0_measure_103 : decode cX0_measure 103 = .ok (.iastore, 1) := dk_get kX0_measure_ok 60 rfl
theorem dX0_measure_104 : decode cX0_measure 104 = .ok (.iinc 2 1, 3) := dk_get kX0_measure_ok 61 rfl
theorem dX0_measure_107 : decode cX0_measure 107 = .ok (.goto (-45), 3) := dk_get kX0_measure_ok 62 rfl
theorem dX0_measure_110 : decode cX0_measure 110 = .ok (.iinc 1 1, 3) := dk_get kX0_measure_ok 63 rfl
theorem dX0_measure_113 : decode cX0_measure 113 = .ok (.goto (-84), 3) := dk_get kX0_measure_ok 64 rfl
theorem dX0_measure_116 : decode cX0_measure 116 = .ok (.return_, 1) := dk_get kX0_measure_ok 65 rfl
def kX0_pullTo : List (Nat × Instr × Nat) := [(0, .aload_n 0, 1), (1, .getfield 18, 3), (4, .iload_n 1, 1), (5, .bipush 30, 2), (7, .imul, 1), (8, .iload_n 2, 1), (9, .iadd, 1), (10, .iaload, 1), (11, .ireturn, 1)]
set_option maxRecDepth 100000 in
theorem kX0_pullTo_ok : kX0_pullTo.all (fun q => decide (decode cX0_pullTo q.1 = .ok q.2)) = true := by decide +kernel
theorem dX0_pullTo_0 : decode cX0_pullTo 0 = .ok (.aload_n 0, 1) := dk_get kX0_pullTo_ok 0 rfl
theorem dX0_pullTo_1 : decode cX0_pullTo 1 = .ok (.getfield 18, 3) := dk_get kX0_pullTo_ok 1 rfl
theorem dX0_pullTo_4 : decode cX0_pullTo 4 = .ok (.iload_n 1, 1) := dk_get kX0_pullTo_ok 2 rfl
theorem dX0_pullTo_5 : decode cX0_pullTo 5 = .ok (.bipush 30, 2) := dk_get kX0_pullTo_ok 3 rfl
theorem dX0_pullTo_7 : decode cX0_pullTo 7 = .ok (.imul, 1) := dk_get kX0_pullTo_ok 4 rfl
theorem dX0_pullTo_8 : decode cX0_pullTo 8 = .ok (.iload_n 2, 1) := dk_get kX0_pullTo_ok 5 rfl
theorem dX0_pullTo_9 : decode cX0_pullTo 9 = .ok (.iadd, 1) := dk_get kX0_pullTo_ok 6 rfl
theorem dX0_pullTo_10 : decode cX0_pullTo 10 = .ok (.iaload, 1) := dk_get kX0_pullTo_ok 7 rfl
theorem dX0_pullTo_11 : decode cX0_pullTo 11 = .ok (.ireturn, 1) := dk_get kX0_pullTo_ok 8 rfl
def kX0_offer : List (Nat × Instr × Nat) := [(0, .lload_n 1, 1), (1, .aload_n 0, 1), (2, .getfield 65, 3), (5, .lcmp, 1), (6, .ifCond .ge 25, 3), (9, .aload_n 0, 1), (10, .lload_n 1, 1), (11, .putfield 65, 3), (14, .aload_n 0, 1), (15, .iload_n 3, 1), (16, .putfield 58, 3), (19, .aload_n 0, 1), (20, .iload 4, 2), (22, .putfield 82, 3), (25, .aload_n 0, 1), (26, .iload 5, 2), (28, .putfield 79, 3), (31, .return_, 1)]
set_option maxRecDepth 100000 in
theorem kX0_offer_ok : kX0_offer.all (fun q => decide (decode cX0_offer q.1 = .ok q.2)) = true := by decide +kernel
theorem dX0_offer_0 : decode cX0_offer 0 = .ok (.lload_n 1, 1) := dk_get kX0_offer_ok 0 rfl
theorem dX0_offer_1 : decode cX0_offer 1 = .ok (.aload_n 0, 1) := dk_get kX0_offer_ok 1 rfl
theorem dX0_offer_2 : decode cX0_offer 2 = .ok (.getfield 65, 3) := dk_get kX0_offer_ok 2 rfl
theorem dX0_offer_5 : decode cX0_offer 5 = .ok (.lcmp, 1) := dk_get kX0_offer_ok 3 rfl
theorem dX0_offer_6 : decode cX0_offer 6 = .ok (.ifCond .ge 25, 3) := dk_get kX0_offer_ok 4 rfl
theorem dX0_offer_9 : decode cX0_offer 9 = .ok (.aload_n 0, 1) := dk_get kX0_offer_ok 5 rfl
theorem dX0_offer_10 : decode cX0_offer 10 = .ok (.lload_n 1, 1) := dk_get kX0_offer_ok 6 rfl
theorem dX0_offer_11 : decode cX0_offer 11 = .ok (.putfield 65, 3) := dk_get kX0_offer_ok 7 rfl
theorem dX0_offer_14 : decode cX0_offer 14 = .ok (.aload_n 0, 1) := dk_get kX0_offer_ok 8 rfl
theorem dX0_offer_15 : decode cX0_offer 15 = .ok (.iload_n 3, 1) := dk_get kX0_offer_ok 9 rfl
theorem dX0_offer_16 : decode cX0_offer 16 = .ok (.putfield 58, 3) := dk_get kX0_offer_ok 10 rfl
theorem dX0_offer_19 : decode cX0_offer 19 = .ok (.aload_n 0, 1) := dk_get kX0_offer_ok 11 rfl
theorem dX0_offer_20 : decode cX0_offer 20 = .ok (.iload 4, 2) := dk_get kX0_offer_ok 12 rfl
theorem dX0_offer_22 : decode cX0_offer 22 = .ok (.putfield 82, 3) := dk_get kX0_offer_ok 13 rfl
theorem dX0_offer_25 : decode cX0_offer 25 = .ok (.aload_n 0, 1) := dk_get kX0_offer_ok 14 rfl
theorem dX0_offer_26 : decode cX0_offer 26 = .ok (.iload 5, 2) := dk_get kX0_offer_ok 15 rfl
theorem dX0_offer_28 : decode cX0_offer 28 = .ok (.putfield 79, 3) := dk_get kX0_offer_ok 16 rfl
theorem dX0_offer_31 : decode cX0_offer 31 = .ok (.return_, 1) := dk_get kX0_offer_ok 17 rfl
def kX0_isHeldBack : List (Nat × Instr × Nat) := [(0, .aload_n 0, 1), (1, .getfield 29, 3), (4, .getfield 110, 3), (7, .iload_n 1, 1), (8, .iaload, 1), (9, .aload_n 0, 1), (10, .getfield 15, 3), (13, .aload_n 0, 1), (14, .getfield 21, 3), (17, .getfield 101, 3), (20, .iload_n 1, 1), (21, .iaload, 1), (22, .iaload, 1), (23, .iand, 1), (24, .ifCond .eq 7, 3), (27, .iconst 1, 1), (28, .goto 4, 3), (31, .iconst 0, 1), (32, .ireturn, 1)]
set_option maxRecDepth 100000 in
theorem kX0_isHeldBack_ok : kX0_isHeldBack.all (fun q => decide (decode cX0_isHeldBack q.1 = .ok q.2)) = true := by decide +kernel
theorem dX0_isHeldBack_0 : decode cX0_isHeldBack 0 = .ok (.aload_n 0, 1) := dk_get kX0_isHeldBack_ok 0 rfl
theorem dX0_isHeldBack_1 : decode cX0_isHeldBack 1 = .ok (.getfield 29, 3) := dk_get kX0_isHeldBack_ok 1 rfl
theorem dX0_isHeldBack_4 : decode cX0_isHeldBack 4 = .ok (.getfield 110, 3) := dk_get kX0_isHeldBack_ok 2 rfl
theorem dX0_isHeldBack_7 : decode cX0_isHeldBack 7 = .ok (.iload_n 1, 1) := dk_get kX0_isHeldBack_ok 3 rfl
theorem dX0_isHeldBack_8 : decode cX0_isHeldBack 8 = .ok (.iaload, 1) := dk_get kX0_isHeldBack_ok 4 rfl
theorem dX0_isHeldBack_9 : decode cX0_isHeldBack 9 = .ok (.aload_n 0, 1) := dk_get kX0_isHeldBack_ok 5 rfl
theorem dX0_isHeldBack_10 : decode cX0_isHeldBack 10 = .ok (.getfield 15, 3) := dk_get kX0_isHeldBack_ok 6 rfl
theorem dX0_isHeldBack_13 : decode cX0_isHeldBack 13 = .ok (.aload_n 0, 1) := dk_get kX0_isHeldBack_ok 7 rfl
theorem dX0_isHeldBack_14 : decode cX0_isHeldBack 14 = .ok (.getfield 21, 3) := dk_get kX0_isHeldBack_ok 8 rfl
theorem dX0_isHeldBack_17 : decode cX0_isHeldBack 17 = .ok (.getfield 101, 3) := dk_get kX0_isHeldBack_ok 9 rfl
theorem dX0_isHeldBack_20 : decode cX0_isHeldBack 20 = .ok (.iload_n 1, 1) := dk_get kX0_isHeldBack_ok 10 rfl
theorem dX0_isHeldBack_21 : decode cX0_isHeldBack 21 = .ok (.iaload, 1) := dk_get kX0_isHeldBack_ok 11 rfl
theorem dX0_isHeldBack_22 : decode cX0_isHeldBack 22 = .ok (.iaload, 1) := dk_get kX0_isHeldBack_ok 12 rfl
theorem dX0_isHeldBack_23 : decode cX0_isHeldBack 23 = .ok (.iand, 1) := dk_get kX0_isHeldBack_ok 13 rfl
theorem dX0_isHeldBack_24 : decode cX0_isHeldBack 24 = .ok (.ifCond .eq 7, 3) := dk_get kX0_isHeldBack_ok 14 rfl
theorem dX0_isHeldBack_27 : decode cX0_isHeldBack 27 = .ok (.iconst 1, 1) := dk_get kX0_isHeldBack_ok 15 rfl
theorem dX0_isHeldBack_28 : decode cX0_isHeldBack 28 = .ok (.goto 4, 3) := dk_get kX0_isHeldBack_ok 16 rfl
theorem dX0_isHeldBack_31 : decode cX0_isHeldBack 31 = .ok (.iconst 0, 1) := dk_get kX0_isHeldBack_ok 17 rfl
theorem dX0_isHeldBack_32 : decode cX0_isHeldBack 32 = .ok (.ireturn, 1) := dk_get kX0_isHeldBack_ok 18 rfl
def kX0_seekGoing : List (Nat × Instr × Nat) := [(0, .aload_n 0, 1), (1, .iload_n 1, 1), (2, .invokevirtual 113, 3), (5, .ifCond .eq 4, 3), (8, .return_, 1), (9, .aload_n 0, 1), (10, .getfield 21, 3), (13, .getfield 101, 3), (16, .iload_n 1, 1), (17, .iaload, 1), (18, .istore_n 2, 1), (19, .aload_n 0, 1), (20, .getfield 61, 3), (23, .aload_n 0, 1), (24, .iload_n 1, 1), (25, .iload_n 2, 1), (26, .invokevirtual 117, 3), (29, .i2l, 1), (30, .ladd, 1), (31, .lstore_n 3, 1), (32, .iconst 0, 1), (33, .istore 5, 2), (35, .iload 5, 2), (37, .aload_n 0, 1), (38, .getfield 21, 3), (41, .getfield 39, 3), (44, .if_icmp .ge 92, 3), (47, .iload 5, 2), (49, .iload_n 2, 1), (50, .if_icmp .eq 34, 3), (53, .aload_n 0, 1), (54, .getfield 15, 3), (57, .iload 5, 2), (59, .iaload, 1), (60, .ifCond .eq 24, 3), (63, .aload_n 0, 1), (64, .getfield 9, 3), (67, .iload_n 1, 1), (68, .iaload, 1), (69, .aload_n 0, 1), (70, .getfield 15, 3), (73, .iload 5, 2), (75, .iaload, 1), (76, .iand, 1), (77, .ifCond .ne 7, 3), (80, .iconst 1, 1), (81, .goto 4, 3), (84, .iconst 0, 1), (85, .istore 6, 2), (87, .iload 6, 2), (89, .ifCond .eq 41, 3), (92, .aload_n 0, 1), (93, .getfield 15, 3), (96, .iload 5, 2), (98, .iaload, 1), (99, .invokestatic 120, 3), (102, .aload_n 0, 1), (103, .getfield 29, 3), (106, .invokevirtual 126, 3), (109, .if_icmp .ge 21, 3), (112, .aload_n 0, 1), (113, .lload_n 3, 1), (114, .aload_n 0, 1), (115, .iload_n 1, 1), (116, .iload 5, 2), (118, .invokevirtual 117, 3), (121, .i2l, 1), (122, .lsub, 1), (123, .iconst 0, 1), (124, .iload_n 1, 1), (125, .iload 5, 2), (127, .invokevirtual 130, 3), (130, .iinc 5 1, 3), (133, .goto (-98), 3), (136, .aload_n 0, 1), (137, .getfield 15, 3), (140, .iload_n 2, 1), (141, .iaload, 1), (142, .iconst 1, 1), (143, .iload_n 1, 1), (144, .ishl, 1), (145, .if_icmp .eq 11, 3), (148, .aload_n 0, 1), (149, .lload_n 3, 1), (150, .iconst 0, 1), (151, .iload_n 1, 1), (152, .iconst (-1), 1), (153, .invokevirtual 130, 3), (156, .return_, 1)]
set_option maxRecDepth 100000 in
theorem kX0_seekGoing_ok : kX0_seekGoing.all (fun q => decide (decode cX0_seekGoing q.1 = .ok q.2)) = true := by decide +kernel
theorem dX0_seekGoing_0 : decode cX0_seekGoing 0 = .ok (.aload_n 0, 1) := dk_get kX0_seekGoing_ok 0 rfl
theorem dX0_seekGoing_1 : decode cX0_seekGoing 1 = .ok (.iload_n 1, 1) := dk_get kX0_seekGoing_ok 1 rfl
theorem dX0_seekGoing_2 : decode cX0_seekGoing 2 = .ok (.invokevirtual 113, 3) := dk_get kX0_seekGoing_ok 2 rfl
theorem dX0_seekGoing_5 : decode cX0_seekGoing 5 = .ok (.ifCond .eq 4, 3) := dk_get kX0_seekGoing_ok 3 rfl
theorem dX0_seekGoing_8 : decode cX0_seekGoing 8 = .ok (.return_, 1) := dk_get kX0_seekGoing_ok 4 rfl
theorem dX0_seekGoing_9 : decode cX0_seekGoing 9 = .ok (.aload_n 0, 1) := dk_get kX0_seekGoing_ok 5 rfl
theorem dX0_seekGoing_10 : decode cX0_seekGoing 10 = .ok (.getfield 21, 3) := dk_get kX0_seekGoing_ok 6 rfl
theorem dX0_seekGoing_13 : decode cX0_seekGoing 13 = .ok (.getfield 101, 3) := dk_get kX0_seekGoing_ok 7 rfl
theorem dX0_seekGoing_16 : decode cX0_seekGoing 16 = .ok (.iload_n 1, 1) := dk_get kX0_seekGoing_ok 8 rfl
theorem dX0_seekGoing_17 : decode cX0_seekGoing 17 = .ok (.iaload, 1) := dk_get kX0_seekGoing_ok 9 rfl
theorem dX0_seekGoing_18 : decode cX0_seekGoing 18 = .ok (.istore_n 2, 1) := dk_get kX0_seekGoing_ok 10 rfl
theorem dX0_seekGoing_19 : decode cX0_seekGoing 19 = .ok (.aload_n 0, 1) := dk_get kX0_seekGoing_ok 11 rfl
theorem dX0_seekGoing_20 : decode cX0_seekGoing 20 = .ok (.getfield 61, 3) := dk_get kX0_seekGoing_ok 12 rfl
theorem dX0_seekGoing_23 : decode cX0_seekGoing 23 = .ok (.aload_n 0, 1) := dk_get kX0_seekGoing_ok 13 rfl
theorem dX0_seekGoing_24 : decode cX0_seekGoing 24 = .ok (.iload_n 1, 1) := dk_get kX0_seekGoing_ok 14 rfl
theorem dX0_seekGoing_25 : decode cX0_seekGoing 25 = .ok (.iload_n 2, 1) := dk_get kX0_seekGoing_ok 15 rfl
theorem dX0_seekGoing_26 : decode cX0_seekGoing 26 = .ok (.invokevirtual 117, 3) := dk_get kX0_seekGoing_ok 16 rfl
theorem dX0_seekGoing_29 : decode cX0_seekGoing 29 = .ok (.i2l, 1) := dk_get kX0_seekGoing_ok 17 rfl
theorem dX0_seekGoing_30 : decode cX0_seekGoing 30 = .ok (.ladd, 1) := dk_get kX0_seekGoing_ok 18 rfl
theorem dX0_seekGoing_31 : decode cX0_seekGoing 31 = .ok (.lstore_n 3, 1) := dk_get kX0_seekGoing_ok 19 rfl
theorem dX0_seekGoing_32 : decode cX0_seekGoing 32 = .ok (.iconst 0, 1) := dk_get kX0_seekGoing_ok 20 rfl
theorem dX0_seekGoing_33 : decode cX0_seekGoing 33 = .ok (.istore 5, 2) := dk_get kX0_seekGoing_ok 21 rfl
theorem dX0_seekGoing_35 : decode cX0_seekGoing 35 = .ok (.iload 5, 2) := dk_get kX0_seekGoing_ok 22 rfl
theorem dX0_seekGoing_37 : decode cX0_seekGoing 37 = .ok (.aload_n 0, 1) := dk_get kX0_seekGoing_ok 23 rfl
theorem dX0_seekGoing_38 : decode cX0_seekGoing 38 = .ok (.getfield 21, 3) := dk_get kX0_seekGoing_ok 24 rfl
theorem dX0_seekGoing_41 : decode cX0_seekGoing 41 = .ok (.getfield 39, 3) := dk_get kX0_seekGoing_ok 25 rfl
theorem dX0_seekGoing_44 : decode cX0_seekGoing 44 = .ok (.if_icmp .ge 92, 3) := dk_get kX0_seekGoing_ok 26 rfl
theorem dX0_seekGoing_47 : decode cX0_seekGoing 47 = .ok (.iload 5, 2) := dk_get kX0_seekGoing_ok 27 rfl
theorem dX0_seekGoing_49 : decode cX0_seekGoing 49 = .ok (.iload_n 2, 1) := dk_get kX0_seekGoing_ok 28 rfl
theorem dX0_seekGoing_50 : decode cX0_seekGoing 50 = .ok (.if_icmp .eq 34, 3) := dk_get kX0_seekGoing_ok 29 rfl
theorem dX0_seekGoing_53 : decode cX0_seekGoing 53 = .ok (.aload_n 0, 1) := dk_get kX0_seekGoing_ok 30 rfl
theorem dX0_seekGoing_54 : decode cX0_seekGoing 54 = .ok (.getfield 15, 3) := dk_get kX0_seekGoing_ok 31 rfl
theorem dX0_seekGoing_57 : decode cX0_seekGoing 57 = .ok (.iload 5, 2) := dk_get kX0_seekGoing_ok 32 rfl
theorem dX0_seekGoing_59 : decode cX0_seekGoing 59 = .ok (.iaload, 1) := dk_get kX0_seekGoing_ok 33 rfl
theorem dX0_seekGoing_60 : decode cX0_seekGoing 60 = .ok (.ifCond .eq 24, 3) := dk_get kX0_seekGoing_ok 34 rfl
theorem dX0_seekGoing_63 : decode cX0_seekGoing 63 = .ok (.aload_n 0, 1) := dk_get kX0_seekGoing_ok 35 rfl
theorem dX0_seekGoing_64 : decode cX0_seekGoing 64 = .ok (.getfield 9, 3) := dk_get kX0_seekGoing_ok 36 rfl
theorem dX0_seekGoing_67 : decode cX0_seekGoing 67 = .ok (.iload_n 1, 1) := dk_get kX0_seekGoing_ok 37 rfl
theorem dX0_seekGoing_68 : decode cX0_seekGoing 68 = .ok (.iaload, 1) := dk_get kX0_seekGoing_ok 38 rfl
theorem dX0_seekGoing_69 : decode cX0_seekGoing 69 = .ok (.aload_n 0, 1) := dk_get kX0_seekGoing_ok 39 rfl
theorem dX0_seekGoing_70 : decode cX0_seekGoing 70 = .ok (.getfield 15, 3) := dk_get kX0_seekGoing_ok 40 rfl
theorem dX0_seekGoing_73 : decode cX0_seekGoing 73 = .ok (.iload 5, 2) := dk_get kX0_seekGoing_ok 41 rfl
theorem dX0_seekGoing_75 : decode cX0_seekGoing 75 = .ok (.iaload, 1) := dk_get kX0_seekGoing_ok 42 rfl
theorem dX0_seekGoing_76 : decode cX0_seekGoing 76 = .ok (.iand, 1) := dk_get kX0_seekGoing_ok 43 rfl
theorem dX0_seekGoing_77 : decode cX0_seekGoing 77 = .ok (.ifCond .ne 7, 3) := dk_get kX0_seekGoing_ok 44 rfl
theorem dX0_seekGoing_80 : decode cX0_seekGoing 80 = .ok (.iconst 1, 1) := dk_get kX0_seekGoing_ok 45 rfl
theorem dX0_seekGoing_81 : decode cX0_seekGoing 81 = .ok (.goto 4, 3) := dk_get kX0_seekGoing_ok 46 rfl
theorem dX0_seekGoing_84 : decode cX0_seekGoing 84 = .ok (.iconst 0, 1) := dk_get kX0_seekGoing_ok 47 rfl
theorem dX0_seekGoing_85 : decode cX0_seekGoing 85 = .ok (.istore 6, 2) := dk_get kX0_seekGoing_ok 48 rfl
theorem dX0_seekGoing_87 : decode cX0_seekGoing 87 = .ok (.iload 6, 2) := dk_get kX0_seekGoing_ok 49 rfl
theorem dX0_seekGoing_89 : decode cX0_seekGoing 89 = .ok (.ifCond .eq 41, 3) := dk_get kX0_seekGoing_ok 50 rfl
theorem dX0_seekGoing_92 : decode cX0_seekGoing 92 = .ok (.aload_n 0, 1) := dk_get kX0_seekGoing_ok 51 rfl
theorem dX0_seekGoing_93 : decode cX0_seekGoing 93 = .ok (.getfield 15, 3) := dk_get kX0_seekGoing_ok 52 rfl
theorem dX0_seekGoing_96 : decode cX0_seekGoing 96 = .ok (.iload 5, 2) := dk_get kX0_seekGoing_ok 53 rfl
theorem dX0_seekGoing_98 : decode cX0_seekGoing 98 = .ok (.iaload, 1) := dk_get kX0_seekGoing_ok 54 rfl
theorem dX0_seekGoing_99 : decode cX0_seekGoing 99 = .ok (.invokestatic 120, 3) := dk_get kX0_seekGoing_ok 55 rfl
theorem dX0_seekGoing_102 : decode cX0_seekGoing 102 = .ok (.aload_n 0, 1) := dk_get kX0_seekGoing_ok 56 rfl
theorem dX0_seekGoing_103 : decode cX0_seekGoing 103 = .ok (.getfield 29, 3) := dk_get kX0_seekGoing_ok 57 rfl
theorem dX0_seekGoing_106 : decode cX0_seekGoing 106 = .ok (.invokevirtual 126, 3) := dk_get kX0_seekGoing_ok 58 rfl
theorem dX0_seekGoing_109 : decode cX0_seekGoing 109 = .ok (.if_icmp .ge 21, 3) := dk_get kX0_seekGoing_ok 59 rfl
theorem dX0_seekGoing_112 : decode cX0_seekGoing 112 = .ok (.aload_n 0, 1) := dk_get kX0_seekGoing_ok 60 rfl
theorem dX0_seekGoing_113 : decode cX0_seekGoing 113 = .ok (.lload_n 3, 1) := dk_get kX0_seekGoing_ok 61 rfl
theorem dX0_seekGoing_114 : decode cX0_seekGoing 114 = .ok (.aload_n 0, 1) := dk_get kX0_seekGoing_ok 62 rfl
theorem dX0_seekGoing_115 : decode cX0_seekGoing 115 = .ok (.iload_n 1, 1) := dk_get kX0_seekGoing_ok 63 rfl
theorem dX0_seekGoing_116 : decode cX0_seekGoing 116 = .ok (.iload 5, 2) := dk_get kX0_seekGoing_ok 64 rfl
theorem dX0_seekGoing_118 : decode cX0_seekGoing 118 = .ok (.invokevirtual 117, 3) := dk_get kX0_seekGoing_ok 65 rfl
theorem dX0_seekGoing_121 : decode cX0_seekGoing 121 = .ok (.i2l, 1) := dk_get kX0_seekGoing_ok 66 rfl
theorem dX0_seekGoing_122 : decode cX0_seekGoing 122 = .ok (.lsub, 1) := dk_get kX0_seekGoing_ok 67 rfl
theorem dX0_seekGoing_123 : decode cX0_seekGoing 123 = .ok (.iconst 0, 1) := dk_get kX0_seekGoing_ok 68 rfl
theorem dX0_seekGoing_124 : decode cX0_seekGoing 124 = .ok (.iload_n 1, 1) := dk_get kX0_seekGoing_ok 69 rfl
theorem dX0_seekGoing_125 : decode cX0_seekGoing 125 = .ok (.iload 5, 2) := dk_get kX0_seekGoing_ok 70 rfl
theorem dX0_seekGoing_127 : decode cX0_seekGoing 127 = .ok (.invokevirtual 130, 3) := dk_get kX0_seekGoing_ok 71 rfl
theorem dX0_seekGoing_130 : decode cX0_seekGoing 130 = .ok (.iinc 5 1, 3) := dk_get kX0_seekGoing_ok 72 rfl
theorem dX0_seekGoing_133 : decode cX0_seekGoing 133 = .ok (.goto (-98), 3) := dk_get kX0_seekGoing_ok 73 rfl
theorem dX0_seekGoing_136 : decode cX0_seekGoing 136 = .ok (.aload_n 0, 1) := dk_get kX0_seekGoing_ok 74 rfl
theorem dX0_seekGoing_137 : decode cX0_seekGoing 137 = .ok (.getfield 15, 3) := dk_get kX0_seekGoing_ok 75 rfl
theorem dX0_seekGoing_140 : decode cX0_seekGoing 140 = .ok (.iload_n 2, 1) := dk_get kX0_seekGoing_ok 76 rfl
theorem dX0_seekGoing_141 : decode cX0_seekGoing 141 = .ok (.iaload, 1) := dk_get kX0_seekGoing_ok 77 rfl
theorem dX0_seekGoing_142 : decode cX0_seekGoing 142 = .ok (.iconst 1, 1) := dk_get kX0_seekGoing_ok 78 rfl
theorem dX0_seekGoing_143 : decode cX0_seekGoing 143 = .ok (.iload_n 1, 1) := dk_get kX0_seekGoing_ok 79 rfl
theorem dX0_seekGoing_144 : decode cX0_seekGoing 144 = .ok (.ishl, 1) := dk_get kX0_seekGoing_ok 80 rfl
theorem dX0_seekGoing_145 : decode cX0_seekGoing 145 = .ok (.if_icmp .eq 11, 3) := dk_get kX0_seekGoing_ok 81 rfl
theorem dX0_seekGoing_148 : decode cX0_seekGoing 148 = .ok (.aload_n 0, 1) := dk_get kX0_seekGoing_ok 82 rfl
theorem dX0_seekGoing_149 : decode cX0_seekGoing 149 = .ok (.lload_n 3, 1) := dk_get kX0_seekGoing_ok 83 rfl
theorem dX0_seekGoing_150 : decode cX0_seekGoing 150 = .ok (.iconst 0, 1) := dk_get kX0_seekGoing_ok 84 rfl
theorem dX0_seekGoing_151 : decode cX0_seekGoing 151 = .ok (.iload_n 1, 1) := dk_get kX0_seekGoing_ok 85 rfl
theorem dX0_seekGoing_152 : decode cX0_seekGoing 152 = .ok (.iconst (-1), 1) := dk_get kX0_seekGoing_ok 86 rfl
theorem dX0_seekGoing_153 : decode cX0_seekGoing 153 = .ok (.invokevirtual 130, 3) := dk_get kX0_seekGoing_ok 87 rfl
theorem dX0_seekGoing_156 : decode cX0_seekGoing 156 = .ok (.return_, 1) := dk_get kX0_seekGoing_ok 88 rfl
def kX0_seekJoining : List (Nat × Instr × Nat) := [(0, .aload_n 0, 1), (1, .getfield 15, 3), (4, .iload_n 1, 1), (5, .iaload, 1), (6, .ifCond .eq 12, 3), (9, .aload_n 0, 1), (10, .getfield 15, 3), (13, .iload_n 2, 1), (14, .iaload, 1), (15, .ifCond .ne 4, 3), (18, .return_, 1), (19, .aload_n 0, 1), (20, .getfield 15, 3), (23, .iload_n 1, 1), (24, .iaload, 1), (25, .invokestatic 120, 3), (28, .aload_n 0, 1), (29, .getfield 15, 3), (32, .iload_n 2, 1), (33, .iaload, 1), (34, .invokestatic 120, 3), (37, .iadd, 1), (38, .aload_n 0, 1), (39, .getfield 29, 3), (42, .invokevirtual 126, 3), (45, .if_icmp .le 4, 3), (48, .return_, 1), (49, .aload_n 0, 1), (50, .getfield 61, 3), (53, .lstore_n 3, 1), (54, .iconst 0, 1), (55, .istore 5, 2), (57, .iload 5, 2), (59, .aload_n 0, 1), (60, .getfield 21, 3), (63, .getfield 39, 3), (66, .if_icmp .ge 52, 3), (69, .aload_n 0, 1), (70, .getfield 21, 3), (73, .getfield 101, 3), (76, .iload 5, 2), (78, .iaload, 1), (79, .iload_n 1, 1), (80, .if_icmp .ne 32, 3), (83, .aload_n 0, 1), (84, .getfield 9, 3), (87, .iload 5, 2), (89, .iaload, 1), (90, .aload_n 0, 1), (91, .getfield 15, 3), (94, .iload_n 2, 1), (95, .iaload, 1), (96, .iand, 1), (97, .ifCond .eq 4, 3), (100, .return_, 1), (101, .lload_n 3, 1), (102, .aload_n 0, 1), (103, .iload 5, 2), (105, .iload_n 2, 1), (106, .invokevirtual 117, 3), (109, .i2l, 1), (110, .lsub, 1), (111, .lstore_n 3, 1), (112, .iinc 5 1, 3), (115, .goto (-58), 3), (118, .aload_n 0, 1), (119, .lload_n 3, 1), (120, .iconst 1, 1), (121, .iload_n 1, 1), (122, .iload_n 2, 1), (123, .invokevirtual 130, 3), (126, .return_, 1)]
set_option maxRecDepth 100000 in
theorem kX0_seekJoining_ok : kX0_seekJoining.all (fun q => decide (decode cX0_seekJoining q.1 = .ok q.2)) = true := by decide +kernel
theorem dX0_seekJoining_0 : decode cX0_seekJoining 0 = .ok (.aload_n 0, 1) := dk_get kX0_seekJoining_ok 0 rfl
theorem dX0_seekJoining_1 : decode cX0_seekJoining 1 = .ok (.getfield 15, 3) := dk_get kX0_seekJoining_ok 1 rfl
theorem dX0_seekJoining_4 : decode cX0_seekJoining 4 = .ok (.iload_n 1, 1) := dk_get kX0_seekJoining_ok 2 rfl
theorem dX0_seekJoining_5 : decode cX0_seekJoining 5 = .ok (.iaload, 1) := dk_get kX0_seekJoining_ok 3 rfl
theorem dX0_seekJoining_6 : decode cX0_seekJoining 6 = .ok (.ifCond .eq 12, 3) := dk_get kX0_seekJoining_ok 4 rfl
theorem dX0_seekJoining_9 : decode cX0_seekJoining 9 = .ok (.aload_n 0, 1) := dk_get kX0_seekJoining_ok 5 rfl
theorem dX0_seekJoining_10 : decode cX0_seekJoining 10 = .ok (.getfield 15, 3) := dk_get kX0_seekJoining_ok 6 rfl
theorem dX0_seekJoining_13 : decode cX0_seekJoining 13 = .ok (.iload_n 2, 1) := dk_get kX0_seekJoining_ok 7 rfl
theorem dX0_seekJoining_14 : decode cX0_seekJoining 14 = .ok (.iaload, 1) := dk_get kX0_seekJoining_ok 8 rfl
theorem dX0_seekJoining_15 : decode cX0_seekJoining 15 = .ok (.ifCond .ne 4, 3) := dk_get kX0_seekJoining_ok 9 rfl
theorem dX0_seekJoining_18 : decode cX0_seekJoining 18 = .ok (.return_, 1) := dk_get kX0_seekJoining_ok 10 rfl
theorem dX0_seekJoining_19 : decode cX0_seekJoining 19 = .ok (.aload_n 0, 1) := dk_get kX0_seekJoining_ok 11 rfl
theorem dX0_seekJoining_20 : decode cX0_seekJoining 20 = .ok (.getfield 15, 3) := dk_get kX0_seekJoining_ok 12 rfl
theorem dX0_seekJoining_23 : decode cX0_seekJoining 23 = .ok (.iload_n 1, 1) := dk_get kX0_seekJoining_ok 13 rfl
theorem dX0_seekJoining_24 : decode cX0_seekJoining 24 = .ok (.iaload, 1) := dk_get kX0_seekJoining_ok 14 rfl
theorem dX0_seekJoining_25 : decode cX0_seekJoining 25 = .ok (.invokestatic 120, 3) := dk_get kX0_seekJoining_ok 15 rfl
theorem dX0_seekJoining_28 : decode cX0_seekJoining 28 = .ok (.aload_n 0, 1) := dk_get kX0_seekJoining_ok 16 rfl
theorem dX0_seekJoining_29 : decode cX0_seekJoining 29 = .ok (.getfield 15, 3) := dk_get kX0_seekJoining_ok 17 rfl
theorem dX0_seekJoining_32 : decode cX0_seekJoining 32 = .ok (.iload_n 2, 1) := dk_get kX0_seekJoining_ok 18 rfl
theorem dX0_seekJoining_33 : decode cX0_seekJoining 33 = .ok (.iaload, 1) := dk_get kX0_seekJoining_ok 19 rfl
theorem dX0_seekJoining_34 : decode cX0_seekJoining 34 = .ok (.invokestatic 120, 3) := dk_get kX0_seekJoining_ok 20 rfl
theorem dX0_seekJoining_37 : decode cX0_seekJoining 37 = .ok (.iadd, 1) := dk_get kX0_seekJoining_ok 21 rfl
theorem dX0_seekJoining_38 : decode cX0_seekJoining 38 = .ok (.aload_n 0, 1) := dk_get kX0_seekJoining_ok 22 rfl
theorem dX0_seekJoining_39 : decode cX0_seekJoining 39 = .ok (.getfield 29, 3) := dk_get kX0_seekJoining_ok 23 rfl
theorem dX0_seekJoining_42 : decode cX0_seekJoining 42 = .ok (.invokevirtual 126, 3) := dk_get kX0_seekJoining_ok 24 rfl
theorem dX0_seekJoining_45 : decode cX0_seekJoining 45 = .ok (.if_icmp .le 4, 3) := dk_get kX0_seekJoining_ok 25 rfl
theorem dX0_seekJoining_48 : decode cX0_seekJoining 48 = .ok (.return_, 1) := dk_get kX0_seekJoining_ok 26 rfl
theorem dX0_seekJoining_49 : decode cX0_seekJoining 49 = .ok (.aload_n 0, 1) := dk_get kX0_seekJoining_ok 27 rfl
theorem dX0_seekJoining_50 : decode cX0_seekJoining 50 = .ok (.getfield 61, 3) := dk_get kX0_seekJoining_ok 28 rfl
theorem dX0_seekJoining_53 : decode cX0_seekJoining 53 = .ok (.lstore_n 3, 1) := dk_get kX0_seekJoining_ok 29 rfl
theorem dX0_seekJoining_54 : decode cX0_seekJoining 54 = .ok (.iconst 0, 1) := dk_get kX0_seekJoining_ok 30 rfl
theorem dX0_seekJoining_55 : decode cX0_seekJoining 55 = .ok (.istore 5, 2) := dk_get kX0_seekJoining_ok 31 rfl
theorem dX0_seekJoining_57 : decode cX0_seekJoining 57 = .ok (.iload 5, 2) := dk_get kX0_seekJoining_ok 32 rfl
theorem dX0_seekJoining_59 : decode cX0_seekJoining 59 = .ok (.aload_n 0, 1) := dk_get kX0_seekJoining_ok 33 rfl
theorem dX0_seekJoining_60 : decode cX0_seekJoining 60 = .ok (.getfield 21, 3) := dk_get kX0_seekJoining_ok 34 rfl
theorem dX0_seekJoining_63 : decode cX0_seekJoining 63 = .ok (.getfield 39, 3) := dk_get kX0_seekJoining_ok 35 rfl
theorem dX0_seekJoining_66 : decode cX0_seekJoining 66 = .ok (.if_icmp .ge 52, 3) := dk_get kX0_seekJoining_ok 36 rfl
theorem dX0_seekJoining_69 : decode cX0_seekJoining 69 = .ok (.aload_n 0, 1) := dk_get kX0_seekJoining_ok 37 rfl
theorem dX0_seekJoining_70 : decode cX0_seekJoining 70 = .ok (.getfield 21, 3) := dk_get kX0_seekJoining_ok 38 rfl
theorem dX0_seekJoining_73 : decode cX0_seekJoining 73 = .ok (.getfield 101, 3) := dk_get kX0_seekJoining_ok 39 rfl
theorem dX0_seekJoining_76 : decode cX0_seekJoining 76 = .ok (.iload 5, 2) := dk_get kX0_seekJoining_ok 40 rfl
theorem dX0_seekJoining_78 : decode cX0_seekJoining 78 = .ok (.iaload, 1) := dk_get kX0_seekJoining_ok 41 rfl
theorem dX0_seekJoining_79 : decode cX0_seekJoining 79 = .ok (.iload_n 1, 1) := dk_get kX0_seekJoining_ok 42 rfl
theorem dX0_seekJoining_80 : decode cX0_seekJoining 80 = .ok (.if_icmp .ne 32, 3) := dk_get kX0_seekJoining_ok 43 rfl
theorem dX0_seekJoining_83 : decode cX0_seekJoining 83 = .ok (.aload_n 0, 1) := dk_get kX0_seekJoining_ok 44 rfl
theorem dX0_seekJoining_84 : decode cX0_seekJoining 84 = .ok (.getfield 9, 3) := dk_get kX0_seekJoining_ok 45 rfl
theorem dX0_seekJoining_87 : decode cX0_seekJoining 87 = .ok (.iload 5, 2) := dk_get kX0_seekJoining_ok 46 rfl
theorem dX0_seekJoining_89 : decode cX0_seekJoining 89 = .ok (.iaload, 1) := dk_get kX0_seekJoining_ok 47 rfl
theorem dX0_seekJoining_90 : decode cX0_seekJoining 90 = .ok (.aload_n 0, 1) := dk_get kX0_seekJoining_ok 48 rfl
theorem dX0_seekJoining_91 : decode cX0_seekJoining 91 = .ok (.getfield 15, 3) := dk_get kX0_seekJoining_ok 49 rfl
theorem dX0_seekJoining_94 : decode cX0_seekJoining 94 = .ok (.iload_n 2, 1) := dk_get kX0_seekJoining_ok 50 rfl
theorem dX0_seekJoining_95 : decode cX0_seekJoining 95 = .ok (.iaload, 1) := dk_get kX0_seekJoining_ok 51 rfl
theorem dX0_seekJoining_96 : decode cX0_seekJoining 96 = .ok (.iand, 1) := dk_get kX0_seekJoining_ok 52 rfl
theorem dX0_seekJoining_97 : decode cX0_seekJoining 97 = .ok (.ifCond .eq 4, 3) := dk_get kX0_seekJoining_ok 53 rfl
theorem dX0_seekJoining_100 : decode cX0_seekJoining 100 = .ok (.return_, 1) := dk_get kX0_seekJoining_ok 54 rfl
theorem dX0_seekJoining_101 : decode cX0_seekJoining 101 = .ok (.lload_n 3, 1) := dk_get kX0_seekJoining_ok 55 rfl
theorem dX0_seekJoining_102 : decode cX0_seekJoining 102 = .ok (.aload_n 0, 1) := dk_get kX0_seekJoining_ok 56 rfl
theorem dX0_seekJoining_103 : decode cX0_seekJoining 103 = .ok (.iload 5, 2) := dk_get kX0_seekJoining_ok 57 rfl
theorem dX0_seekJoining_105 : decode cX0_seekJoining 105 = .ok (.iload_n 2, 1) := dk_get kX0_seekJoining_ok 58 rfl
theorem dX0_seekJoining_106 : decode cX0_seekJoining 106 = .ok (.invokevirtual 117, 3) := dk_get kX0_seekJoining_ok 59 rfl
theorem dX0_seekJoining_109 : decode cX0_seekJoining 109 = .ok (.i2l, 1) := dk_get kX0_seekJoining_ok 60 rfl
theorem dX0_seekJoining_110 : decode cX0_seekJoining 110 = .ok (.lsub, 1) := dk_get kX0_seekJoining_ok 61 rfl
theorem dX0_seekJoining_111 : decode cX0_seekJoining 111 = .ok (.lstore_n 3, 1) := dk_get kX0_seekJoining_ok 62 rfl
theorem dX0_seekJoining_112 : decode cX0_seekJoining 112 = .ok (.iinc 5 1, 3) := dk_get kX0_seekJoining_ok 63 rfl
theorem dX0_seekJoining_115 : decode cX0_seekJoining 115 = .ok (.goto (-58), 3) := dk_get kX0_seekJoining_ok 64 rfl
theorem dX0_seekJoining_118 : decode cX0_seekJoining 118 = .ok (.aload_n 0, 1) := dk_get kX0_seekJoining_ok 65 rfl
theorem dX0_seekJoining_119 : decode cX0_seekJoining 119 = .ok (.lload_n 3, 1) := dk_get kX0_seekJoining_ok 66 rfl
theorem dX0_seekJoining_120 : decode cX0_seekJoining 120 = .ok (.iconst 1, 1) := dk_get kX0_seekJoining_ok 67 rfl
theorem dX0_seekJoining_121 : decode cX0_seekJoining 121 = .ok (.iload_n 1, 1) := dk_get kX0_seekJoining_ok 68 rfl
theorem dX0_seekJoining_122 : decode cX0_seekJoining 122 = .ok (.iload_n 2, 1) := dk_get kX0_seekJoining_ok 69 rfl
theorem dX0_seekJoining_123 : decode cX0_seekJoining 123 = .ok (.invokevirtual 130, 3) := dk_get kX0_seekJoining_ok 70 rfl
theorem dX0_seekJoining_126 : decode cX0_seekJoining 126 = .ok (.return_, 1) := dk_get kX0_seekJoining_ok 71 rfl
def kX0_seekChanging : List (Nat × Instr × Nat) := [(0, .aload_n 0, 1), (1, .getfield 21, 3), (4, .getfield 101, 3), (7, .iload_n 1, 1), (8, .iaload, 1), (9, .istore_n 3, 1), (10, .aload_n 0, 1), (11, .getfield 21, 3), (14, .getfield 101, 3), (17, .iload_n 2, 1), (18, .iaload, 1), (19, .istore 4, 2), (21, .iload_n 3, 1), (22, .iload 4, 2), (24, .if_icmp .eq 19, 3), (27, .aload_n 0, 1), (28, .iload_n 1, 1), (29, .invokevirtual 113, 3), (32, .ifCond .ne 11, 3), (35, .aload_n 0, 1), (36, .iload_n 2, 1), (37, .invokevirtual 113, 3), (40, .ifCond .eq 4, 3), (43, .return_, 1), (44, .aload_n 0, 1), (45, .getfield 9, 3), (48, .iload_n 1, 1), (49, .iaload, 1), (50, .aload_n 0, 1), (51, .getfield 15, 3), (54, .iload 4, 2), (56, .iaload, 1), (57, .iand, 1), (58, .iconst 1, 1), (59, .iload_n 2, 1), (60, .ishl, 1), (61, .iconst (-1), 1), (62, .ixor, 1), (63, .iand, 1), (64, .ifCond .ne 25, 3), (67, .aload_n 0, 1), (68, .getfield 9, 3), (71, .iload_n 2, 1), (72, .iaload, 1), (73, .aload_n 0, 1), (74, .getfield 15, 3), (77, .iload_n 3, 1), (78, .iaload, 1), (79, .iand, 1), (80, .iconst 1, 1), (81, .iload_n 1, 1), (82, .ishl, 1), (83, .iconst (-1), 1), (84, .ixor, 1), (85, .iand, 1), (86, .ifCond .eq 7, 3), (89, .iconst 1, 1), (90, .goto 4, 3), (93, .iconst 0, 1), (94, .istore 5, 2), (96, .iload 5, 2), (98, .ifCond .ne 71, 3), (101, .aload_n 0, 1), (102, .iload_n 1, 1), (103, .iload_n 3, 1), (104, .invokevirtual 117, 3), (107, .i2l, 1), (108, .aload_n 0, 1), (109, .iload_n 2, 1), (110, .iload 4, 2), (112, .invokevirtual 117, 3), (115, .i2l, 1), (116, .ladd, 1), (117, .lstore 6, 2), (119, .aload_n 0, 1), (120, .iload_n 1, 1), (121, .iload 4, 2), (123, .invokevirtual 117, 3), (126, .i2l, 1), (127, .aload_n 0, 1), (128, .iload_n 2, 1), (129, .iload_n 3, 1), (130, .invokevirtual 117, 3), (133, .i2l, 1), (134, .ladd, 1), (135, .ldc2_w 134, 3), (138, .aload_n 0, 1), (139, .getfield 25, 3), (142, .iload_n 1, 1), (143, .iload_n 2, 1), (144, .invokevirtual 104, 3), (147, .i2l, 1), (148, .lmul, 1), (149, .lsub, 1), (150, .lstore 8, 2), (152, .aload_n 0, 1), (153, .aload_n 0, 1), (154, .getfield 61, 3), (157, .lload 6, 2), (159, .ladd, 1), (160, .lload 8, 2), (162, .lsub, 1), (163, .iconst 2, 1), (164, .iload_n 1, 1), (165, .iload_n 2, 1), (166, .invokevirtual 130, 3), (169, .return_, 1)]
set_option maxRecDepth 100000 in
theorem kX0_seekChanging_ok : kX0_seekChanging.all (fun q => decide (decode cX0_seekChanging q.1 = .ok q.2)) = true := by decide +kernel
theorem dX0_seekChanging_0 : decode cX0_seekChanging 0 = .ok (.aload_n 0, 1) := dk_get kX0_seekChanging_ok 0 rfl
theorem dX0_seekChanging_1 : decode cX0_seekChanging 1 = .ok (.getfield 21, 3) := dk_get kX0_seekChanging_ok 1 rfl
theorem dX0_seekChanging_4 : decode cX0_seekChanging 4 = .ok (.getfield 101, 3) := dk_get kX0_seekChanging_ok 2 rfl
theorem dX0_seekChanging_7 : decode cX0_seekChanging 7 = .ok (.iload_n 1, 1) := dk_get kX0_seekChanging_ok 3 rfl
theorem dX0_seekChanging_8 : decode cX0_seekChanging 8 = .ok (.iaload, 1) := dk_get kX0_seekChanging_ok 4 rfl
theorem dX0_seekChanging_9 : decode cX0_seekChanging 9 = .ok (.istore_n 3, 1) := dk_get kX0_seekChanging_ok 5 rfl
theorem dX0_seekChanging_10 : decode cX0_seekChanging 10 = .ok (.aload_n 0, 1) := dk_get kX0_seekChanging_ok 6 rfl
theorem dX0_seekChanging_11 : decode cX0_seekChanging 11 = .ok (.getfield 21, 3) := dk_get kX0_seekChanging_ok 7 rfl
theorem dX0_seekChanging_14 : decode cX0_seekChanging 14 = .ok (.getfield 101, 3) := dk_get kX0_seekChanging_ok 8 rfl
theorem dX0_seekChanging_17 : decode cX0_seekChanging 17 = .ok (.iload_n 2, 1) := dk_get kX0_seekChanging_ok 9 rfl
theorem dX0_seekChanging_18 : decode cX0_seekChanging 18 = .ok (.iaload, 1) := dk_get kX0_seekChanging_ok 10 rfl
theorem dX0_seekChanging_19 : decode cX0_seekChanging 19 = .ok (.istore 4, 2) := dk_get kX0_seekChanging_ok 11 rfl
theorem dX0_seekChanging_21 : decode cX0_seekChanging 21 = .ok (.iload_n 3, 1) := dk_get kX0_seekChanging_ok 12 rfl
theorem dX0_seekChanging_22 : decode cX0_seekChanging 22 = .ok (.iload 4, 2) := dk_get kX0_seekChanging_ok 13 rfl
theorem dX0_seekChanging_24 : decode cX0_seekChanging 24 = .ok (.if_icmp .eq 19, 3) := dk_get kX0_seekChanging_ok 14 rfl
theorem dX0_seekChanging_27 : decode cX0_seekChanging 27 = .ok (.aload_n 0, 1) := dk_get kX0_seekChanging_ok 15 rfl
theorem dX0_seekChanging_28 : decode cX0_seekChanging 28 = .ok (.iload_n 1, 1) := dk_get kX0_seekChanging_ok 16 rfl
theorem dX0_seekChanging_29 : decode cX0_seekChanging 29 = .ok (.invokevirtual 113, 3) := dk_get kX0_seekChanging_ok 17 rfl
theorem dX0_seekChanging_32 : decode cX0_seekChanging 32 = .ok (.ifCond .ne 11, 3) := dk_get kX0_seekChanging_ok 18 rfl
theorem dX0_seekChanging_35 : decode cX0_seekChanging 35 = .ok (.aload_n 0, 1) := dk_get kX0_seekChanging_ok 19 rfl
theorem dX0_seekChanging_36 : decode cX0_seekChanging 36 = .ok (.iload_n 2, 1) := dk_get kX0_seekChanging_ok 20 rfl
theorem dX0_seekChanging_37 : decode cX0_seekChanging 37 = .ok (.invokevirtual 113, 3) := dk_get kX0_seekChanging_ok 21 rfl
theorem dX0_seekChanging_40 : decode cX0_seekChanging 40 = .ok (.ifCond .eq 4, 3) := dk_get kX0_seekChanging_ok 22 rfl
theorem dX0_seekChanging_43 : decode cX0_seekChanging 43 = .ok (.return_, 1) := dk_get kX0_seekChanging_ok 23 rfl
theorem dX0_seekChanging_44 : decode cX0_seekChanging 44 = .ok (.aload_n 0, 1) := dk_get kX0_seekChanging_ok 24 rfl
theorem dX0_seekChanging_45 : decode cX0_seekChanging 45 = .ok (.getfield 9, 3) := dk_get kX0_seekChanging_ok 25 rfl
theorem dX0_seekChanging_48 : decode cX0_seekChanging 48 = .ok (.iload_n 1, 1) := dk_get kX0_seekChanging_ok 26 rfl
theorem dX0_seekChanging_49 : decode cX0_seekChanging 49 = .ok (.iaload, 1) := dk_get kX0_seekChanging_ok 27 rfl
theorem dX0_seekChanging_50 : decode cX0_seekChanging 50 = .ok (.aload_n 0, 1) := dk_get kX0_seekChanging_ok 28 rfl
theorem dX0_seekChanging_51 : decode cX0_seekChanging 51 = .ok (.getfield 15, 3) := dk_get kX0_seekChanging_ok 29 rfl
theorem dX0_seekChanging_54 : decode cX0_seekChanging 54 = .ok (.iload 4, 2) := dk_get kX0_seekChanging_ok 30 rfl
theorem dX0_seekChanging_56 : decode cX0_seekChanging 56 = .ok (.iaload, 1) := dk_get kX0_seekChanging_ok 31 rfl
theorem dX0_seekChanging_57 : decode cX0_seekChanging 57 = .ok (.iand, 1) := dk_get kX0_seekChanging_ok 32 rfl
theorem dX0_seekChanging_58 : decode cX0_seekChanging 58 = .ok (.iconst 1, 1) := dk_get kX0_seekChanging_ok 33 rfl
theorem dX0_seekChanging_59 : decode cX0_seekChanging 59 = .ok (.iload_n 2, 1) := dk_get kX0_seekChanging_ok 34 rfl
theorem dX0_seekChanging_60 : decode cX0_seekChanging 60 = .ok (.ishl, 1) := dk_get kX0_seekChanging_ok 35 rfl
theorem dX0_seekChanging_61 : decode cX0_seekChanging 61 = .ok (.iconst (-1), 1) := dk_get kX0_seekChanging_ok 36 rfl
theorem dX0_seekChanging_62 : decode cX0_seekChanging 62 = .ok (.ixor, 1) := dk_get kX0_seekChanging_ok 37 rfl
theorem dX0_seekChanging_63 : decode cX0_seekChanging 63 = .ok (.iand, 1) := dk_get kX0_seekChanging_ok 38 rfl
theorem dX0_seekChanging_64 : decode cX0_seekChanging 64 = .ok (.ifCond .ne 25, 3) := dk_get kX0_seekChanging_ok 39 rfl
theorem dX0_seekChanging_67 : decode cX0_seekChanging 67 = .ok (.aload_n 0, 1) := dk_get kX0_seekChanging_ok 40 rfl
theorem dX0_seekChanging_68 : decode cX0_seekChanging 68 = .ok (.getfield 9, 3) := dk_get kX0_seekChanging_ok 41 rfl
theorem dX0_seekChanging_71 : decode cX0_seekChanging 71 = .ok (.iload_n 2, 1) := dk_get kX0_seekChanging_ok 42 rfl
theorem dX0_seekChanging_72 : decode cX0_seekChanging 72 = .ok (.iaload, 1) := dk_get kX0_seekChanging_ok 43 rfl
theorem dX0_seekChanging_73 : decode cX0_seekChanging 73 = .ok (.aload_n 0, 1) := dk_get kX0_seekChanging_ok 44 rfl
theorem dX0_seekChanging_74 : decode cX0_seekChanging 74 = .ok (.getfield 15, 3) := dk_get kX0_seekChanging_ok 45 rfl
theorem dX0_seekChanging_77 : decode cX0_seekChanging 77 = .ok (.iload_n 3, 1) := dk_get kX0_seekChanging_ok 46 rfl
theorem dX0_seekChanging_78 : decode cX0_seekChanging 78 = .ok (.iaload, 1) := dk_get kX0_seekChanging_ok 47 rfl
theorem dX0_seekChanging_79 : decode cX0_seekChanging 79 = .ok (.iand, 1) := dk_get kX0_seekChanging_ok 48 rfl
theorem dX0_seekChanging_80 : decode cX0_seekChanging 80 = .ok (.iconst 1, 1) := dk_get kX0_seekChanging_ok 49 rfl
theorem dX0_seekChanging_81 : decode cX0_seekChanging 81 = .ok (.iload_n 1, 1) := dk_get kX0_seekChanging_ok 50 rfl
theorem dX0_seekChanging_82 : decode cX0_seekChanging 82 = .ok (.ishl, 1) := dk_get kX0_seekChanging_ok 51 rfl
theorem dX0_seekChanging_83 : decode cX0_seekChanging 83 = .ok (.iconst (-1), 1) := dk_get kX0_seekChanging_ok 52 rfl
theorem dX0_seekChanging_84 : decode cX0_seekChanging 84 = .ok (.ixor, 1) := dk_get kX0_seekChanging_ok 53 rfl
theorem dX0_seekChanging_85 : decode cX0_seekChanging 85 = .ok (.iand, 1) := dk_get kX0_seekChanging_ok 54 rfl
theorem dX0_seekChanging_86 : decode cX0_seekChanging 86 = .ok (.ifCond .eq 7, 3) := dk_get kX0_seekChanging_ok 55 rfl
theorem dX0_seekChanging_89 : decode cX0_seekChanging 89 = .ok (.iconst 1, 1) := dk_get kX0_seekChanging_ok 56 rfl
theorem dX0_seekChanging_90 : decode cX0_seekChanging 90 = .ok (.goto 4, 3) := dk_get kX0_seekChanging_ok 57 rfl
theorem dX0_seekChanging_93 : decode cX0_seekChanging 93 = .ok (.iconst 0, 1) := dk_get kX0_seekChanging_ok 58 rfl
theorem dX0_seekChanging_94 : decode cX0_seekChanging 94 = .ok (.istore 5, 2) := dk_get kX0_seekChanging_ok 59 rfl
theorem dX0_seekChanging_96 : decode cX0_seekChanging 96 = .ok (.iload 5, 2) := dk_get kX0_seekChanging_ok 60 rfl
theorem dX0_seekChanging_98 : decode cX0_seekChanging 98 = .ok (.ifCond .ne 71, 3) := dk_get kX0_seekChanging_ok 61 rfl
theorem dX0_seekChanging_101 : decode cX0_seekChanging 101 = .ok (.aload_n 0, 1) := dk_get kX0_seekChanging_ok 62 rfl
theorem dX0_seekChanging_102 : decode cX0_seekChanging 102 = .ok (.iload_n 1, 1) := dk_get kX0_seekChanging_ok 63 rfl
theorem dX0_seekChanging_103 : decode cX0_seekChanging 103 = .ok (.iload_n 3, 1) := dk_get kX0_seekChanging_ok 64 rfl
theorem dX0_seekChanging_104 : decode cX0_seekChanging 104 = .ok (.invokevirtual 117, 3) := dk_get kX0_seekChanging_ok 65 rfl
theorem dX0_seekChanging_107 : decode cX0_seekChanging 107 = .ok (.i2l, 1) := dk_get kX0_seekChanging_ok 66 rfl
theorem dX0_seekChanging_108 : decode cX0_seekChanging 108 = .ok (.aload_n 0, 1) := dk_get kX0_seekChanging_ok 67 rfl
theorem dX0_seekChanging_109 : decode cX0_seekChanging 109 = .ok (.iload_n 2, 1) := dk_get kX0_seekChanging_ok 68 rfl
theorem dX0_seekChanging_110 : decode cX0_seekChanging 110 = .ok (.iload 4, 2) := dk_get kX0_seekChanging_ok 69 rfl
theorem dX0_seekChanging_112 : decode cX0_seekChanging 112 = .ok (.invokevirtual 117, 3) := dk_get kX0_seekChanging_ok 70 rfl
theorem dX0_seekChanging_115 : decode cX0_seekChanging 115 = .ok (.i2l, 1) := dk_get kX0_seekChanging_ok 71 rfl
theorem dX0_seekChanging_116 : decode cX0_seekChanging 116 = .ok (.ladd, 1) := dk_get kX0_seekChanging_ok 72 rfl
theorem dX0_seekChanging_117 : decode cX0_seekChanging 117 = .ok (.lstore 6, 2) := dk_get kX0_seekChanging_ok 73 rfl
theorem dX0_seekChanging_119 : decode cX0_seekChanging 119 = .ok (.aload_n 0, 1) := dk_get kX0_seekChanging_ok 74 rfl
theorem dX0_seekChanging_120 : decode cX0_seekChanging 120 = .ok (.iload_n 1, 1) := dk_get kX0_seekChanging_ok 75 rfl
theorem dX0_seekChanging_121 : decode cX0_seekChanging 121 = .ok (.iload 4, 2) := dk_get kX0_seekChanging_ok 76 rfl
theorem dX0_seekChanging_123 : decode cX0_seekChanging 123 = .ok (.invokevirtual 117, 3) := dk_get kX0_seekChanging_ok 77 rfl
theorem dX0_seekChanging_126 : decode cX0_seekChanging 126 = .ok (.i2l, 1) := dk_get kX0_seekChanging_ok 78 rfl
theorem dX0_seekChanging_127 : decode cX0_seekChanging 127 = .ok (.aload_n 0, 1) := dk_get kX0_seekChanging_ok 79 rfl
theorem dX0_seekChanging_128 : decode cX0_seekChanging 128 = .ok (.iload_n 2, 1) := dk_get kX0_seekChanging_ok 80 rfl
theorem dX0_seekChanging_129 : decode cX0_seekChanging 129 = .ok (.iload_n 3, 1) := dk_get kX0_seekChanging_ok 81 rfl
theorem dX0_seekChanging_130 : decode cX0_seekChanging 130 = .ok (.invokevirtual 117, 3) := dk_get kX0_seekChanging_ok 82 rfl
theorem dX0_seekChanging_133 : decode cX0_seekChanging 133 = .ok (.i2l, 1) := dk_get kX0_seekChanging_ok 83 rfl
theorem dX0_seekChanging_134 : decode cX0_seekChanging 134 = .ok (.ladd, 1) := dk_get kX0_seekChanging_ok 84 rfl
theorem dX0_seekChanging_135 : decode cX0_seekChanging 135 = .ok (.ldc2_w 134, 3) := dk_get kX0_seekChanging_ok 85 rfl
theorem dX0_seekChanging_138 : decode cX0_seekChanging 138 = .ok (.aload_n 0, 1) := dk_get kX0_seekChanging_ok 86 rfl
theorem dX0_seekChanging_139 : decode cX0_seekChanging 139 = .ok (.getfield 25, 3) := dk_get kX0_seekChanging_ok 87 rfl
theorem dX0_seekChanging_142 : decode cX0_seekChanging 142 = .ok (.iload_n 1, 1) := dk_get kX0_seekChanging_ok 88 rfl
theorem dX0_seekChanging_143 : decode cX0_seekChanging 143 = .ok (.iload_n 2, 1) := dk_get kX0_seekChanging_ok 89 rfl
theorem dX0_seekChanging_144 : decode cX0_seekChanging 144 = .ok (.invokevirtual 104, 3) := dk_get kX0_seekChanging_ok 90 rfl
theorem dX0_seekChanging_147 : decode cX0_seekChanging 147 = .ok (.i2l, 1) := dk_get kX0_seekChanging_ok 91 rfl
theorem dX0_seekChanging_148 : decode cX0_seekChanging 148 = .ok (.lmul, 1) := dk_get kX0_seekChanging_ok 92 rfl
theorem dX0_seekChanging_149 : decode cX0_seekChanging 149 = .ok (.lsub, 1) := dk_get kX0_seekChanging_ok 93 rfl
theorem dX0_seekChanging_150 : decode cX0_seekChanging 150 = .ok (.lstore 8, 2) := dk_get kX0_seekChanging_ok 94 rfl
theorem dX0_seekChanging_152 : decode cX0_seekChanging 152 = .ok (.aload_n 0, 1) := dk_get kX0_seekChanging_ok 95 rfl
theorem dX0_seekChanging_153 : decode cX0_seekChanging 153 = .ok (.aload_n 0, 1) := dk_get kX0_seekChanging_ok 96 rfl
theorem dX0_seekChanging_154 : decode cX0_seekChanging 154 = .ok (.getfield 61, 3) := dk_get kX0_seekChanging_ok 97 rfl
theorem dX0_seekChanging_157 : decode cX0_seekChanging 157 = .ok (.lload 6, 2) := dk_get kX0_seekChanging_ok 98 rfl
theorem dX0_seekChanging_159 : decode cX0_seekChanging 159 = .ok (.ladd, 1) := dk_get kX0_seekChanging_ok 99 rfl
theorem dX0_seekChanging_160 : decode cX0_seekChanging 160 = .ok (.lload 8, 2) := dk_get kX0_seekChanging_ok 100 rfl
theorem dX0_seekChanging_162 : decode cX0_seekChanging 162 = .ok (.lsub, 1) := dk_get kX0_seekChanging_ok 101 rfl
theorem dX0_seekChanging_163 : decode cX0_seekChanging 163 = .ok (.iconst 2, 1) := dk_get kX0_seekChanging_ok 102 rfl
theorem dX0_seekChanging_164 : decode cX0_seekChanging 164 = .ok (.iload_n 1, 1) := dk_get kX0_seekChanging_ok 103 rfl
theorem dX0_seekChanging_165 : decode cX0_seekChanging 165 = .ok (.iload_n 2, 1) := dk_get kX0_seekChanging_ok 104 rfl
theorem dX0_seekChanging_166 : decode cX0_seekChanging 166 = .ok (.invokevirtual 130, 3) := dk_get kX0_seekChanging_ok 105 rfl
theorem dX0_seekChanging_169 : decode cX0_seekChanging 169 = .ok (.return_, 1) := dk_get kX0_seekChanging_ok 106 rfl
def kX1_init : List (Nat × Instr × Nat) := [(0, .aload_n 0, 1), (1, .invokespecial 3, 3), (4, .aload_n 0, 1), (5, .sipush 150, 3), (8, .newarray .int, 2), (10, .putfield 9, 3), (13, .aload_n 0, 1), (14, .sipush 256, 3), (17, .newarray .int, 2), (19, .putfield 15, 3), (22, .return_, 1)]
set_option maxRecDepth 100000 in
theorem kX1_init_ok : kX1_init.all (fun q => decide (decode cX1_init q.1 = .ok q.2)) = true := by decide +kernel
theorem dX1_init_0 : decode cX1_init 0 = .ok (.aload_n 0, 1) := dk_get kX1_init_ok 0 rfl
theorem dX1_init_1 : decode cX1_init 1 = .ok (.invokespecial 3, 3) := dk_get kX1_init_ok 1 rfl
theorem dX1_init_4 : decode cX1_init 4 = .ok (.aload_n 0, 1) := dk_get kX1_init_ok 2 rfl
theorem dX1_init_5 : decode cX1_init 5 = .ok (.sipush 150, 3) := dk_get kX1_init_ok 3 rfl
theorem dX1_init_8 : decode cX1_init 8 = .ok (.newarray .int, 2) := dk_get kX1_init_ok 4 rfl
theorem dX1_init_10 : decode cX1_init 10 = .ok (.putfield 9, 3) := dk_get kX1_init_ok 5 rfl
theorem dX1_init_13 : decode cX1_init 13 = .ok (.aload_n 0, 1) := dk_get kX1_init_ok 6 rfl
theorem dX1_init_14 : decode cX1_init 14 = .ok (.sipush 256, 3) := dk_get kX1_init_ok 7 rfl
theorem dX1_init_17 : decode cX1_init 17 = .ok (.newarray .int, 2) := dk_get kX1_init_ok 8 rfl
theorem dX1_init_19 : decode cX1_init 19 = .ok (.putfield 15, 3) := dk_get kX1_init_ok 9 rfl
theorem dX1_init_22 : decode cX1_init 22 = .ok (.return_, 1) := dk_get kX1_init_ok 10 rfl
def kX1_add : List (Nat × Instr × Nat) := [(0, .aload_n 0, 1), (1, .getfield 18, 3), (4, .iconst 5, 1), (5, .imul, 1), (6, .istore 6, 2), (8, .aload_n 0, 1), (9, .getfield 9, 3), (12, .iload 6, 2), (14, .iload_n 1, 1), (15, .iastore, 1), (16, .aload_n 0, 1), (17, .getfield 9, 3), (20, .iload 6, 2), (22, .iconst 1, 1), (23, .iadd, 1), (24, .iload_n 2, 1), (25, .iastore, 1), (26, .aload_n 0, 1), (27, .getfield 9, 3), (30, .iload 6, 2), (32, .iconst 2, 1), (33, .iadd, 1), (34, .iload_n 3, 1), (35, .iastore, 1), (36, .aload_n 0, 1), (37, .getfield 9, 3), (40, .iload 6, 2), (42, .iconst 3, 1), (43, .iadd, 1), (44, .iload 4, 2), (46, .iastore, 1), (47, .aload_n 0, 1), (48, .getfield 9, 3), (51, .iload 6, 2), (53, .iconst 4, 1), (54, .iadd, 1), (55, .iload 5, 2), (57, .iastore, 1), (58, .aload_n 0, 1), (59, .dup, 1), (60, .getfield 18, 3), (63, .iconst 1, 1), (64, .iadd, 1), (65, .putfield 18, 3), (68, .aload_n 0, 1), (69, .getfield 18, 3), (72, .iconst 1, 1), (73, .isub, 1), (74, .ireturn, 1)]
set_option maxRecDepth 100000 in
theorem kX1_add_ok : kX1_add.all (fun q => decide (decode cX1_add q.1 = .ok q.2)) = true := by decide +kernel
theorem dX1_add_0 : decode cX1_add 0 = .ok (.aload_n 0, 1) := dk_get kX1_add_ok 0 rfl
theorem dX1_add_1 : decode cX1_add 1 = .ok (.getfield 18, 3) := dk_get kX1_add_ok 1 rfl
theorem dX1_add_4 : decode cX1_add 4 = .ok (.iconst 5, 1) := dk_get kX1_add_ok 2 rfl
theorem dX1_add_5 : decode cX1_add 5 = .ok (.imul, 1) := dk_get kX1_add_ok 3 rfl
theorem dX1_add_6 : decode cX1_add 6 = .ok (.istore 6, 2) := dk_get kX1_add_ok 4 rfl
theorem dX1_add_8 : decode cX1_add 8 = .ok (.aload_n 0, 1) := dk_get kX1_add_ok 5 rfl
theorem dX1_add_9 : decode cX1_add 9 = .ok (.getfield 9, 3) := dk_get kX1_add_ok 6 rfl
theorem dX1_add_12 : decode cX1_add 12 = .ok (.iload 6, 2) := dk_get kX1_add_ok 7 rfl
theorem dX1_add_14 : decode cX1_add 14 = .ok (.iload_n 1, 1) := dk_get kX1_add_ok 8 rfl
theorem dX1_add_15 : decode cX1_add 15 = .ok (.iastore, 1) := dk_get kX1_add_ok 9 rfl
theorem dX1_add_16 : decode cX1_add 16 = .ok (.aload_n 0, 1) := dk_get kX1_add_ok 10 rfl
theorem dX1_add_17 : decode cX1_add 17 = .ok (.getfield 9, 3) := dk_get kX1_add_ok 11 rfl
theorem dX1_add_20 : decode cX1_add 20 = .ok (.iload 6, 2) := dk_get kX1_add_ok 12 rfl
theorem dX1_add_22 : decode cX1_add 22 = .ok (.iconst 1, 1) := dk_get kX1_add_ok 13 rfl
theorem dX1_add_23 : decode cX1_add 23 = .ok (.iadd, 1) := dk_get kX1_add_ok 14 rfl
theorem dX1_add_24 : decode cX1_add 24 = .ok (.iload_n 2, 1) := dk_get kX1_add_ok 15 rfl
theorem dX1_add_25 : decode cX1_add 25 = .ok (.iastore, 1) := dk_get kX1_add_ok 16 rfl
theorem dX1_add_26 : decode cX1_add 26 = .ok (.aload_n 0, 1) := dk_get kX1_add_ok 17 rfl
theorem dX1_add_27 : decode cX1_add 27 = .ok (.getfield 9, 3) := dk_get kX1_add_ok 18 rfl
theorem dX1_add_30 : decode cX1_add 30 = .ok (.iload 6, 2) := dk_get kX1_add_ok 19 rfl
theorem dX1_add_32 : decode cX1_add 32 = .ok (.iconst 2, 1) := dk_get kX1_add_ok 20 rfl
theorem dX1_add_33 : decode cX1_add 33 = .ok (.iadd, 1) := dk_get kX1_add_ok 21 rfl
theorem dX1_add_34 : decode cX1_add 34 = .ok (.iload_n 3, 1) := dk_get kX1_add_ok 22 rfl
theorem dX1_add_35 : decode cX1_add 35 = .ok (.iastore, 1) := dk_get kX1_add_ok 23 rfl
theorem dX1_add_36 : decode cX1_add 36 = .ok (.aload_n 0, 1) := dk_get kX1_add_ok 24 rfl
theorem dX1_add_37 : decode cX1_add 37 = .ok (.getfield 9, 3) := dk_get kX1_add_ok 25 rfl
theorem dX1_add_40 : decode cX1_add 40 = .ok (.iload 6, 2) := dk_get kX1_add_ok 26 rfl
theorem dX1_add_42 : decode cX1_add 42 = .ok (.iconst 3, 1) := dk_get kX1_add_ok 27 rfl
theorem dX1_add_43 : decode cX1_add 43 = .ok (.iadd, 1) := dk_get kX1_add_ok 28 rfl
theorem dX1_add_44 : decode cX1_add 44 = .ok (.iload 4, 2) := dk_get kX1_add_ok 29 rfl
theorem dX1_add_46 : decode cX1_add 46 = .ok (.iastore, 1) := dk_get kX1_add_ok 30 rfl
theorem dX1_add_47 : decode cX1_add 47 = .ok (.aload_n 0, 1) := dk_get kX1_add_ok 31 rfl
theorem dX1_add_48 : decode cX1_add 48 = .ok (.getfield 9, 3) := dk_get kX1_add_ok 32 rfl
theorem dX1_add_51 : decode cX1_add 51 = .ok (.iload 6, 2) := dk_get kX1_add_ok 33 rfl
theorem dX1_add_53 : decode cX1_add 53 = .ok (.iconst 4, 1) := dk_get kX1_add_ok 34 rfl
theorem dX1_add_54 : decode cX1_add 54 = .ok (.iadd, 1) := dk_get kX1_add_ok 35 rfl
theorem dX1_add_55 : decode cX1_add 55 = .ok (.iload 5, 2) := dk_get kX1_add_ok 36 rfl
theorem dX1_add_57 : decode cX1_add 57 = .ok (.iastore, 1) := dk_get kX1_add_ok 37 rfl
theorem dX1_add_58 : decode cX1_add 58 = .ok (.aload_n 0, 1) := dk_get kX1_add_ok 38 rfl
theorem dX1_add_59 : decode cX1_add 59 = .ok (.dup, 1) := dk_get kX1_add_ok 39 rfl
theorem dX1_add_60 : decode cX1_add 60 = .ok (.getfield 18, 3) := dk_get kX1_add_ok 40 rfl
theorem dX1_add_63 : decode cX1_add 63 = .ok (.iconst 1, 1) := dk_get kX1_add_ok 41 rfl
theorem dX1_add_64 : decode cX1_add 64 = .ok (.iadd, 1) := dk_get kX1_add_ok 42 rfl
theorem dX1_add_65 : decode cX1_add 65 = .ok (.putfield 18, 3) := dk_get kX1_add_ok 43 rfl
theorem dX1_add_68 : decode cX1_add 68 = .ok (.aload_n 0, 1) := dk_get kX1_add_ok 44 rfl
theorem dX1_add_69 : decode cX1_add 69 = .ok (.getfield 18, 3) := dk_get kX1_add_ok 45 rfl
theorem dX1_add_72 : decode cX1_add 72 = .ok (.iconst 1, 1) := dk_get kX1_add_ok 46 rfl
theorem dX1_add_73 : decode cX1_add 73 = .ok (.isub, 1) := dk_get kX1_add_ok 47 rfl
theorem dX1_add_74 : decode cX1_add 74 = .ok (.ireturn, 1) := dk_get kX1_add_ok 48 rfl
def kX1_trait : List (Nat × Instr × Nat) := [(0, .aload_n 0, 1), (1, .getfield 9, 3), (4, .iload_n 1, 1), (5, .iconst 5, 1), (6, .imul, 1), (7, .iload_n 2, 1), (8, .iadd, 1), (9, .iaload, 1), (10, .ireturn, 1)]
set_option maxRecDepth 100000 in
theorem kX1_trait_ok : kX1_trait.all (fun q => decide (decode cX1_trait q.1 = .ok q.2)) = true := by decide +kernel
theorem dX1_trait_0 : decode cX1_trait 0 = .ok (.aload_n 0, 1) := dk_get kX1_trait_ok 0 rfl
theorem dX1_trait_1 : decode cX1_trait 1 = .ok (.getfield 9, 3) := dk_get kX1_trait_ok 1 rfl
theorem dX1_trait_4 : decode cX1_trait 4 = .ok (.iload_n 1, 1) := dk_get kX1_trait_ok 2 rfl
theorem dX1_trait_5 : decode cX1_trait 5 = .ok (.iconst 5, 1) := dk_get kX1_trait_ok 3 rfl
theorem dX1_trait_6 : decode cX1_trait 6 = .ok (.imul, 1) := dk_get kX1_trait_ok 4 rfl
theorem dX1_trait_7 : decode cX1_trait 7 = .ok (.iload_n 2, 1) := dk_get kX1_trait_ok 5 rfl
theorem dX1_trait_8 : decode cX1_trait 8 = .ok (.iadd, 1) := dk_get kX1_trait_ok 6 rfl
theorem dX1_trait_9 : decode cX1_trait 9 = .ok (.iaload, 1) := dk_get kX1_trait_ok 7 rfl
theorem dX1_trait_10 : decode cX1_trait 10 = .ok (.ireturn, 1) := dk_get kX1_trait_ok 8 rfl
def kX1_setLikeness : List (Nat × Instr × Nat) := [(0, .aload_n 0, 1), (1, .getfield 15, 3), (4, .iload_n 1, 1), (5, .bipush 16, 2), (7, .imul, 1), (8, .iload_n 2, 1), (9, .iadd, 1), (10, .iaload, 1), (11, .istore 4, 2), (13, .aload_n 0, 1), (14, .getfield 15, 3), (17, .iload_n 1, 1), (18, .bipush 16, 2), (20, .imul, 1), (21, .iload_n 2, 1), (22, .iadd, 1), (23, .iload_n 3, 1), (24, .iastore, 1), (25, .aload_n 0, 1), (26, .getfield 15, 3), (29, .iload_n 2, 1), (30, .bipush 16, 2), (32, .imul, 1), (33, .iload_n 1, 1), (34, .iadd, 1), (35, .iload_n 3, 1), (36, .iastore, 1), (37, .iload 4, 2), (39, .ireturn, 1)]
set_option maxRecDepth 100000 in
theorem kX1_setLikeness_ok : kX1_setLikeness.all (fun q => decide (decode cX1_setLikeness q.1 = .ok q.2)) = true := by decide +kernel
theorem dX1_setLikeness_0 : decode cX1_setLikeness 0 = .ok (.aload_n 0, 1) := dk_get kX1_setLikeness_ok 0 rfl
theorem dX1_setLikeness_1 : decode cX1_setLikeness 1 = .ok (.getfield 15, 3) := dk_get kX1_setLikeness_ok 1 rfl
theorem dX1_setLikeness_4 : decode cX1_setLikeness 4 = .ok (.iload_n 1, 1) := dk_get kX1_setLikeness_ok 2 rfl
theorem dX1_setLikeness_5 : decode cX1_setLikeness 5 = .ok (.bipush 16, 2) := dk_get kX1_setLikeness_ok 3 rfl
theorem dX1_setLikeness_7 : decode cX1_setLikeness 7 = .ok (.imul, 1) := dk_get kX1_setLikeness_ok 4 rfl
theorem dX1_setLikeness_8 : decode cX1_setLikeness 8 = .ok (.iload_n 2, 1) := dk_get kX1_setLikeness_ok 5 rfl
theorem dX1_setLikeness_9 : decode cX1_setLikeness 9 = .ok (.iadd, 1) := dk_get kX1_setLikeness_ok 6 rfl
theorem dX1_setLikeness_10 : decode cX1_setLikeness 10 = .ok (.iaload, 1) := dk_get kX1_setLikeness_ok 7 rfl
theorem dX1_setLikeness_11 : decode cX1_setLikeness 11 = .ok (.istore 4, 2) := dk_get kX1_setLikeness_ok 8 rfl
theorem dX1_setLikeness_13 : decode cX1_setLikeness 13 = .ok (.aload_n 0, 1) := dk_get kX1_setLikeness_ok 9 rfl
theorem dX1_setLikeness_14 : decode cX1_setLikeness 14 = .ok (.getfield 15, 3) := dk_get kX1_setLikeness_ok 10 rfl
theorem dX1_setLikeness_17 : decode cX1_setLikeness 17 = .ok (.iload_n 1, 1) := dk_get kX1_setLikeness_ok 11 rfl
theorem dX1_setLikeness_18 : decode cX1_setLikeness 18 = .ok (.bipush 16, 2) := dk_get kX1_setLikeness_ok 12 rfl
theorem dX1_setLikeness_20 : decode cX1_setLikeness 20 = .ok (.imul, 1) := dk_get kX1_setLikeness_ok 13 rfl
theorem dX1_setLikeness_21 : decode cX1_setLikeness 21 = .ok (.iload_n 2, 1) := dk_get kX1_setLikeness_ok 14 rfl
theorem dX1_setLikeness_22 : decode cX1_setLikeness 22 = .ok (.iadd, 1) := dk_get kX1_setLikeness_ok 15 rfl
theorem dX1_setLikeness_23 : decode cX1_setLikeness 23 = .ok (.iload_n 3, 1) := dk_get kX1_setLikeness_ok 16 rfl
theorem dX1_setLikeness_24 : decode cX1_setLikeness 24 = .ok (.iastore, 1) := dk_get kX1_setLikeness_ok 17 rfl
theorem dX1_setLikeness_25 : decode cX1_setLikeness 25 = .ok (.aload_n 0, 1) := dk_get kX1_setLikeness_ok 18 rfl
theorem dX1_setLikeness_26 : decode cX1_setLikeness 26 = .ok (.getfield 15, 3) := dk_get kX1_setLikeness_ok 19 rfl
theorem dX1_setLikeness_29 : decode cX1_setLikeness 29 = .ok (.iload_n 2, 1) := dk_get kX1_setLikeness_ok 20 rfl
theorem dX1_setLikeness_30 : decode cX1_setLikeness 30 = .ok (.bipush 16, 2) := dk_get kX1_setLikeness_ok 21 rfl
theorem dX1_setLikeness_32 : decode cX1_setLikeness 32 = .ok (.imul, 1) := dk_get kX1_setLikeness_ok 22 rfl
theorem dX1_setLikeness_33 : decode cX1_setLikeness 33 = .ok (.iload_n 1, 1) := dk_get kX1_setLikeness_ok 23 rfl
theorem dX1_setLikeness_34 : decode cX1_setLikeness 34 = .ok (.iadd, 1) := dk_get kX1_setLikeness_ok 24 rfl
theorem dX1_setLikeness_35 : decode cX1_setLikeness 35 = .ok (.iload_n 3, 1) := dk_get kX1_setLikeness_ok 25 rfl
theorem dX1_setLikeness_36 : decode cX1_setLikeness 36 = .ok (.iastore, 1) := dk_get kX1_setLikeness_ok 26 rfl
theorem dX1_setLikeness_37 : decode cX1_setLikeness 37 = .ok (.iload 4, 2) := dk_get kX1_setLikeness_ok 27 rfl
theorem dX1_setLikeness_39 : decode cX1_setLikeness 39 = .ok (.ireturn, 1) := dk_get kX1_setLikeness_ok 28 rfl
def kX1_everyone : List (Nat × Instr × Nat) := [(0, .iconst 1, 1), (1, .aload_n 0, 1), (2, .getfield 18, 3), (5, .ishl, 1), (6, .iconst 1, 1), (7, .isub, 1), (8, .ireturn, 1)]
set_option maxRecDepth 100000 in
theorem kX1_everyone_ok : kX1_everyone.all (fun q => decide (decode cX1_everyone q.1 = .ok q.2)) = true := by decide +kernel
theorem dX1_everyone_0 : decode cX1_everyone 0 = .ok (.iconst 1, 1) := dk_get kX1_everyone_ok 0 rfl
theorem dX1_everyone_1 : decode cX1_everyone 1 = .ok (.aload_n 0, 1) := dk_get kX1_everyone_ok 1 rfl
theorem dX1_everyone_2 : decode cX1_everyone 2 = .ok (.getfield 18, 3) := dk_get kX1_everyone_ok 2 rfl
theorem dX1_everyone_5 : decode cX1_everyone 5 = .ok (.ishl, 1) := dk_get kX1_everyone_ok 3 rfl
theorem dX1_everyone_6 : decode cX1_everyone 6 = .ok (.iconst 1, 1) := dk_get kX1_everyone_ok 4 rfl
theorem dX1_everyone_7 : decode cX1_everyone 7 = .ok (.isub, 1) := dk_get kX1_everyone_ok 5 rfl
theorem dX1_everyone_8 : decode cX1_everyone 8 = .ok (.ireturn, 1) := dk_get kX1_everyone_ok 6 rfl
def kX1_notOfBook : List (Nat × Instr × Nat) := [(0, .iconst 0, 1), (1, .istore_n 2, 1), (2, .iconst 0, 1), (3, .istore_n 3, 1), (4, .iload_n 3, 1), (5, .aload_n 0, 1), (6, .getfield 18, 3), (9, .if_icmp .ge 25, 3), (12, .aload_n 0, 1), (13, .iload_n 3, 1), (14, .iconst 0, 1), (15, .invokevirtual 22, 3), (18, .iload_n 1, 1), (19, .if_icmp .eq 9, 3), (22, .iload_n 2, 1), (23, .iconst 1, 1), (24, .iload_n 3, 1), (25, .ishl, 1), (26, .ior, 1), (27, .istore_n 2, 1), (28, .iinc 3 1, 3), (31, .goto (-27), 3), (34, .iload_n 2, 1), (35, .ireturn, 1)]
set_option maxRecDepth 100000 in
theorem kX1_notOfBook_ok : kX1_notOfBook.all (fun q => decide (decode cX1_notOfBook q.1 = .ok q.2)) = true := by decide +kernel
theorem dX1_notOfBook_0 : decode cX1_notOfBook 0 = .ok (.iconst 0, 1) := dk_get kX1_notOfBook_ok 0 rfl
theorem dX1_notOfBook_1 : decode cX1_notOfBook 1 = .ok (.istore_n 2, 1) := dk_get kX1_notOfBook_ok 1 rfl
theorem dX1_notOfBook_2 : decode cX1_notOfBook 2 = .ok (.iconst 0, 1) := dk_get kX1_notOfBook_ok 2 rfl
theorem dX1_notOfBook_3 : decode cX1_notOfBook 3 = .ok (.istore_n 3, 1) := dk_get kX1_notOfBook_ok 3 rfl
theorem dX1_notOfBook_4 : decode cX1_notOfBook 4 = .ok (.iload_n 3, 1) := dk_get kX1_notOfBook_ok 4 rfl
theorem dX1_notOfBook_5 : decode cX1_notOfBook 5 = .ok (.aload_n 0, 1) := dk_get kX1_notOfBook_ok 5 rfl
theorem dX1_notOfBook_6 : decode cX1_notOfBook 6 = .ok (.getfield 18, 3) := dk_get kX1_notOfBook_ok 6 rfl
theorem dX1_notOfBook_9 : decode cX1_notOfBook 9 = .ok (.if_icmp .ge 25, 3) := dk_get kX1_notOfBook_ok 7 rfl
theorem dX1_notOfBook_12 : decode cX1_notOfBook 12 = .ok (.aload_n 0, 1) := dk_get kX1_notOfBook_ok 8 rfl
theorem dX1_notOfBook_13 : decode cX1_notOfBook 13 = .ok (.iload_n 3, 1) := dk_get kX1_notOfBook_ok 9 rfl
theorem dX1_notOfBook_14 : decode cX1_notOfBook 14 = .ok (.iconst 0, 1) := dk_get kX1_notOfBook_ok 10 rfl
theorem dX1_notOfBook_15 : decode cX1_notOfBook 15 = .ok (.invokevirtual 22, 3) := dk_get kX1_notOfBook_ok 11 rfl
theorem dX1_notOfBook_18 : decode cX1_notOfBook 18 = .ok (.iload_n 1, 1) := dk_get kX1_notOfBook_ok 12 rfl
theorem dX1_notOfBook_19 : decode cX1_notOfBook 19 = .ok (.if_icmp .eq 9, 3) := dk_get kX1_notOfBook_ok 13 rfl
theorem dX1_notOfBook_22 : decode cX1_notOfBook 22 = .ok (.iload_n 2, 1) := dk_get kX1_notOfBook_ok 14 rfl
theorem dX1_notOfBook_23 : decode cX1_notOfBook 23 = .ok (.iconst 1, 1) := dk_get kX1_notOfBook_ok 15 rfl
theorem dX1_notOfBook_24 : decode cX1_notOfBook 24 = .ok (.iload_n 3, 1) := dk_get kX1_notOfBook_ok 16 rfl
theorem dX1_notOfBook_25 : decode cX1_notOfBook 25 = .ok (.ishl, 1) := dk_get kX1_notOfBook_ok 17 rfl
theorem dX1_notOfBook_26 : decode cX1_notOfBook 26 = .ok (.ior, 1) := dk_get kX1_notOfBook_ok 18 rfl
theorem dX1_notOfBook_27 : decode cX1_notOfBook 27 = .ok (.istore_n 2, 1) := dk_get kX1_notOfBook_ok 19 rfl
theorem dX1_notOfBook_28 : decode cX1_notOfBook 28 = .ok (.iinc 3 1, 3) := dk_get kX1_notOfBook_ok 20 rfl
theorem dX1_notOfBook_31 : decode cX1_notOfBook 31 = .ok (.goto (-27), 3) := dk_get kX1_notOfBook_ok 21 rfl
theorem dX1_notOfBook_34 : decode cX1_notOfBook 34 = .ok (.iload_n 2, 1) := dk_get kX1_notOfBook_ok 22 rfl
theorem dX1_notOfBook_35 : decode cX1_notOfBook 35 = .ok (.ireturn, 1) := dk_get kX1_notOfBook_ok 23 rfl
def kX1_yearsBetween : List (Nat × Instr × Nat) := [(0, .aload_n 0, 1), (1, .iload_n 1, 1), (2, .iconst 3, 1), (3, .invokevirtual 22, 3), (6, .aload_n 0, 1), (7, .iload_n 2, 1), (8, .iconst 3, 1), (9, .invokevirtual 22, 3), (12, .isub, 1), (13, .invokestatic 26, 3), (16, .ireturn, 1)]
set_option maxRecDepth 100000 in
theorem kX1_yearsBetween_ok : kX1_yearsBetween.all (fun q => decide (decode cX1_yearsBetween q.1 = .ok q.2)) = true := by decide +kernel
theorem dX1_yearsBetween_0 : decode cX1_yearsBetween 0 = .ok (.aload_n 0, 1) := dk_get kX1_yearsBetween_ok 0 rfl
theorem dX1_yearsBetween_1 : decode cX1_yearsBetween 1 = .ok (.iload_n 1, 1) := dk_get kX1_yearsBetween_ok 1 rfl
theorem dX1_yearsBetween_2 : decode cX1_yearsBetween 2 = .ok (.iconst 3, 1) := dk_get kX1_yearsBetween_ok 2 rfl
theorem dX1_yearsBetween_3 : decode cX1_yearsBetween 3 = .ok (.invokevirtual 22, 3) := dk_get kX1_yearsBetween_ok 3 rfl
theorem dX1_yearsBetween_6 : decode cX1_yearsBetween 6 = .ok (.aload_n 0, 1) := dk_get kX1_yearsBetween_ok 4 rfl
theorem dX1_yearsBetween_7 : decode cX1_yearsBetween 7 = .ok (.iload_n 2, 1) := dk_get kX1_yearsBetween_ok 5 rfl
theorem dX1_yearsBetween_8 : decode cX1_yearsBetween 8 = .ok (.iconst 3, 1) := dk_get kX1_yearsBetween_ok 6 rfl
theorem dX1_yearsBetween_9 : decode cX1_yearsBetween 9 = .ok (.invokevirtual 22, 3) := dk_get kX1_yearsBetween_ok 7 rfl
theorem dX1_yearsBetween_12 : decode cX1_yearsBetween 12 = .ok (.isub, 1) := dk_get kX1_yearsBetween_ok 8 rfl
theorem dX1_yearsBetween_13 : decode cX1_yearsBetween 13 = .ok (.invokestatic 26, 3) := dk_get kX1_yearsBetween_ok 9 rfl
theorem dX1_yearsBetween_16 : decode cX1_yearsBetween 16 = .ok (.ireturn, 1) := dk_get kX1_yearsBetween_ok 10 rfl
def kX1_sameBook : List (Nat × Instr × Nat) := [(0, .aload_n 0, 1), (1, .iload_n 1, 1), (2, .iconst 0, 1), (3, .invokevirtual 22, 3), (6, .aload_n 0, 1), (7, .iload_n 2, 1), (8, .iconst 0, 1), (9, .invokevirtual 22, 3), (12, .if_icmp .ne 7, 3), (15, .iconst 1, 1), (16, .goto 4, 3), (19, .iconst 0, 1), (20, .ireturn, 1)]
set_option maxRecDepth 100000 in
theorem kX1_sameBook_ok : kX1_sameBook.all (fun q => decide (decode cX1_sameBook q.1 = .ok q.2)) = true := by decide +kernel
theorem dX1_sameBook_0 : decode cX1_sameBook 0 = .ok (.aload_n 0, 1) := dk_get kX1_sameBook_ok 0 rfl
theorem dX1_sameBook_1 : decode cX1_sameBook 1 = .ok (.iload_n 1, 1) := dk_get kX1_sameBook_ok 1 rfl
theorem dX1_sameBook_2 : decode cX1_sameBook 2 = .ok (.iconst 0, 1) := dk_get kX1_sameBook_ok 2 rfl
theorem dX1_sameBook_3 : decode cX1_sameBook 3 = .ok (.invokevirtual 22, 3) := dk_get kX1_sameBook_ok 3 rfl
theorem dX1_sameBook_6 : decode cX1_sameBook 6 = .ok (.aload_n 0, 1) := dk_get kX1_sameBook_ok 4 rfl
theorem dX1_sameBook_7 : decode cX1_sameBook 7 = .ok (.iload_n 2, 1) := dk_get kX1_sameBook_ok 5 rfl
theorem dX1_sameBook_8 : decode cX1_sameBook 8 = .ok (.iconst 0, 1) := dk_get kX1_sameBook_ok 6 rfl
theorem dX1_sameBook_9 : decode cX1_sameBook 9 = .ok (.invokevirtual 22, 3) := dk_get kX1_sameBook_ok 7 rfl
theorem dX1_sameBook_12 : decode cX1_sameBook 12 = .ok (.if_icmp .ne 7, 3) := dk_get kX1_sameBook_ok 8 rfl
theorem dX1_sameBook_15 : decode cX1_sameBook 15 = .ok (.iconst 1, 1) := dk_get kX1_sameBook_ok 9 rfl
theorem dX1_sameBook_16 : decode cX1_sameBook 16 = .ok (.goto 4, 3) := dk_get kX1_sameBook_ok 10 rfl
theorem dX1_sameBook_19 : decode cX1_sameBook 19 = .ok (.iconst 0, 1) := dk_get kX1_sameBook_ok 11 rfl
theorem dX1_sameBook_20 : decode cX1_sameBook 20 = .ok (.ireturn, 1) := dk_get kX1_sameBook_ok 12 rfl
def kX1_likeOf : List (Nat × Instr × Nat) := [(0, .aload_n 0, 1), (1, .iload_n 1, 1), (2, .iconst 1, 1), (3, .invokevirtual 22, 3), (6, .istore_n 3, 1), (7, .aload_n 0, 1), (8, .iload_n 2, 1), (9, .iconst 1, 1), (10, .invokevirtual 22, 3), (13, .istore 4, 2), (15, .iload_n 3, 1), (16, .iload 4, 2), (18, .if_icmp .ne 8, 3), (21, .bipush 100, 2), (23, .goto 15, 3), (26, .aload_n 0, 1), (27, .getfield 15, 3), (30, .iload_n 3, 1), (31, .bipush 16, 2), (33, .imul, 1), (34, .iload 4, 2), (36, .iadd, 1), (37, .iaload, 1), (38, .ireturn, 1)]
set_option maxRecDepth 100000 in
theorem kX1_likeOf_ok : kX1_likeOf.all (fun q => decide (decode cX1_likeOf q.1 = .ok q.2)) = true := by decide +kernel
theorem dX1_likeOf_0 : decode cX1_likeOf 0 = .ok (.aload_n 0, 1) := dk_get kX1_likeOf_ok 0 rfl
theorem dX1_likeOf_1 : decode cX1_likeOf 1 = .ok (.iload_n 1, 1) := dk_get kX1_likeOf_ok 1 rfl
theorem dX1_likeOf_2 : decode cX1_likeOf 2 = .ok (.iconst 1, 1) := dk_get kX1_likeOf_ok 2 rfl
theorem dX1_likeOf_3 : decode cX1_likeOf 3 = .ok (.invokevirtual 22, 3) := dk_get kX1_likeOf_ok 3 rfl
theorem dX1_likeOf_6 : decode cX1_likeOf 6 = .ok (.istore_n 3, 1) := dk_get kX1_likeOf_ok 4 rfl
theorem dX1_likeOf_7 : decode cX1_likeOf 7 = .ok (.aload_n 0, 1) := dk_get kX1_likeOf_ok 5 rfl
theorem dX1_likeOf_8 : decode cX1_likeOf 8 = .ok (.iload_n 2, 1) := dk_get kX1_likeOf_ok 6 rfl
theorem dX1_likeOf_9 : decode cX1_likeOf 9 = .ok (.iconst 1, 1) := dk_get kX1_likeOf_ok 7 rfl
theorem dX1_likeOf_10 : decode cX1_likeOf 10 = .ok (.invokevirtual 22, 3) := dk_get kX1_likeOf_ok 8 rfl
theorem dX1_likeOf_13 : decode cX1_likeOf 13 = .ok (.istore 4, 2) := dk_get kX1_likeOf_ok 9 rfl
theorem dX1_likeOf_15 : decode cX1_likeOf 15 = .ok (.iload_n 3, 1) := dk_get kX1_likeOf_ok 10 rfl
theorem dX1_likeOf_16 : decode cX1_likeOf 16 = .ok (.iload 4, 2) := dk_get kX1_likeOf_ok 11 rfl
theorem dX1_likeOf_18 : decode cX1_likeOf 18 = .ok (.if_icmp .ne 8, 3) := dk_get kX1_likeOf_ok 12 rfl
theorem dX1_likeOf_21 : decode cX1_likeOf 21 = .ok (.bipush 100, 2) := dk_get kX1_likeOf_ok 13 rfl
theorem dX1_likeOf_23 : decode cX1_likeOf 23 = .ok (.goto 15, 3) := dk_get kX1_likeOf_ok 14 rfl
theorem dX1_likeOf_26 : decode cX1_likeOf 26 = .ok (.aload_n 0, 1) := dk_get kX1_likeOf_ok 15 rfl
theorem dX1_likeOf_27 : decode cX1_likeOf 27 = .ok (.getfield 15, 3) := dk_get kX1_likeOf_ok 16 rfl
theorem dX1_likeOf_30 : decode cX1_likeOf 30 = .ok (.iload_n 3, 1) := dk_get kX1_likeOf_ok 17 rfl
theorem dX1_likeOf_31 : decode cX1_likeOf 31 = .ok (.bipush 16, 2) := dk_get kX1_likeOf_ok 18 rfl
theorem dX1_likeOf_33 : decode cX1_likeOf 33 = .ok (.imul, 1) := dk_get kX1_likeOf_ok 19 rfl
theorem dX1_likeOf_34 : decode cX1_likeOf 34 = .ok (.iload 4, 2) := dk_get kX1_likeOf_ok 20 rfl
theorem dX1_likeOf_36 : decode cX1_likeOf 36 = .ok (.iadd, 1) := dk_get kX1_likeOf_ok 21 rfl
theorem dX1_likeOf_37 : decode cX1_likeOf 37 = .ok (.iaload, 1) := dk_get kX1_likeOf_ok 22 rfl
theorem dX1_likeOf_38 : decode cX1_likeOf 38 = .ok (.ireturn, 1) := dk_get kX1_likeOf_ok 23 rfl
def kX1_compare : List (Nat × Instr × Nat) := [(0, .aload_n 0, 1), (1, .iload_n 1, 1), (2, .iconst 4, 1), (3, .invokevirtual 22, 3), (6, .istore 4, 2), (8, .aload_n 0, 1), (9, .iload_n 2, 1), (10, .iconst 4, 1), (11, .invokevirtual 22, 3), (14, .istore 5, 2), (16, .iload 4, 2), (18, .iconst (-1), 1), (19, .if_icmp .eq 13, 3), (22, .iload 5, 2), (24, .iconst (-1), 1), (25, .if_icmp .eq 7, 3), (28, .iconst 1, 1), (29, .goto 4, 3), (32, .iconst 0, 1), (33, .istore 6, 2), (35, .aload_n 3, 1), (36, .iconst 0, 1), (37, .aload_n 0, 1), (38, .iload_n 1, 1), (39, .iload_n 2, 1), (40, .invokevirtual 32, 3), (43, .iastore, 1), (44, .aload_n 3, 1), (45, .iconst 1, 1), (46, .aload_n 0, 1), (47, .iload_n 1, 1), (48, .iload_n 2, 1), (49, .invokevirtual 35, 3), (52, .iastore, 1), (53, .aload_n 3, 1), (54, .iconst 2, 1), (55, .aload_n 0, 1), (56, .iload_n 1, 1), (57, .iconst 2, 1), (58, .invokevirtual 22, 3), (61, .aload_n 0, 1), (62, .iload_n 2, 1), (63, .iconst 2, 1), (64, .invokevirtual 22, 3), (67, .if_icmp .ne 7, 3), (70, .iconst 1, 1), (71, .goto 4, 3), (74, .iconst 0, 1), (75, .iastore, 1), (76, .aload_n 3, 1), (77, .iconst 3, 1), (78, .aload_n 0, 1), (79, .iload_n 1, 1), (80, .iload_n 2, 1), (81, .invokevirtual 38, 3), (84, .ifCond .eq 7, 3), (87, .iconst 1, 1), (88, .goto 4, 3), (91, .iconst 0, 1), (92, .iastore, 1), (93, .aload_n 3, 1), (94, .iconst 4, 1), (95, .iload 6, 2), (97, .ifCond .eq 14, 3), (100, .iload 4, 2), (102, .iload 5, 2), (104, .if_icmp .ne 7, 3), (107, .iconst 1, 1), (108, .goto 4, 3), (111, .iconst 0, 1), (112, .iastore, 1), (113, .aload_n 3, 1), (114, .iconst 5, 1), (115, .iload 6, 2), (117, .ifCond .eq 14, 3), (120, .iload 4, 2), (122, .iload 5, 2), (124, .if_icmp .eq 7, 3), (127, .iconst 1, 1), (128, .goto 4, 3), (131, .iconst 0, 1), (132, .iastore, 1), (133, .return_, 1)]
set_option maxRecDepth 100000 in
theorem kX1_compare_ok : kX1_compare.all (fun q => decide (decode cX1_compare q.1 = .ok q.2)) = true := by decide +kernel
theorem dX1_compare_0 : decode cX1_compare 0 = .ok (.aload_n 0, 1) := dk_get kX1_compare_ok 0 rfl
theorem dX1_compare_1 : decode cX1_compare 1 = .ok (.iload_n 1, 1) := dk_get kX1_compare_ok 1 rfl
theorem dX1_compare_2 : decode cX1_compare 2 = .ok (.iconst 4, 1) := dk_get kX1_compare_ok 2 rfl
theorem dX1_compare_3 : decode cX1_compare 3 = .ok (.invokevirtual 22, 3) := dk_get kX1_compare_ok 3 rfl
theorem dX1_compare_6 : decode cX1_compare 6 = .ok (.istore 4, 2) := dk_get kX1_compare_ok 4 rfl
theorem dX1_compare_8 : decode cX1_compare 8 = .ok (.aload_n 0, 1) := dk_get kX1_compare_ok 5 rfl
theorem dX1_compare_9 : decode cX1_compare 9 = .ok (.iload_n 2, 1) := dk_get kX1_compare_ok 6 rfl
theorem dX1_compare_10 : decode cX1_compare 10 = .ok (.iconst 4, 1) := dk_get kX1_compare_ok 7 rfl
theorem dX1_compare_11 : decode cX1_compare 11 = .ok (.invokevirtual 22, 3) := dk_get kX1_compare_ok 8 rfl
theorem dX1_compare_14 : decode cX1_compare 14 = .ok (.istore 5, 2) := dk_get kX1_compare_ok 9 rfl
theorem dX1_compare_16 : decode cX1_compare 16 = .ok (.iload 4, 2) := dk_get kX1_compare_ok 10 rfl
theorem dX1_compare_18 : decode cX1_compare 18 = .ok (.iconst (-1), 1) := dk_get kX1_compare_ok 11 rfl
theorem dX1_compare_19 : decode cX1_compare 19 = .ok (.if_icmp .eq 13, 3) := dk_get kX1_compare_ok 12 rfl
theorem dX1_compare_22 : decode cX1_compare 22 = .ok (.iload 5, 2) := dk_get kX1_compare_ok 13 rfl
theorem dX1_compare_24 : decode cX1_compare 24 = .ok (.iconst (-1), 1) := dk_get kX1_compare_ok 14 rfl
theorem dX1_compare_25 : decode cX1_compare 25 = .ok (.if_icmp .eq 7, 3) := dk_get kX1_compare_ok 15 rfl
theorem dX1_compare_28 : decode cX1_compare 28 = .ok (.iconst 1, 1) := dk_get kX1_compare_ok 16 rfl
theorem dX1_compare_29 : decode cX1_compare 29 = .ok (.goto 4, 3) := dk_get kX1_compare_ok 17 rfl
theorem dX1_compare_32 : decode cX1_compare 32 = .ok (.iconst 0, 1) := dk_get kX1_compare_ok 18 rfl
theorem dX1_compare_33 : decode cX1_compare 33 = .ok (.istore 6, 2) := dk_get kX1_compare_ok 19 rfl
theorem dX1_compare_35 : decode cX1_compare 35 = .ok (.aload_n 3, 1) := dk_get kX1_compare_ok 20 rfl
theorem dX1_compare_36 : decode cX1_compare 36 = .ok (.iconst 0, 1) := dk_get kX1_compare_ok 21 rfl
theorem dX1_compare_37 : decode cX1_compare 37 = .ok (.aload_n 0, 1) := dk_get kX1_compare_ok 22 rfl
theorem dX1_compare_38 : decode cX1_compare 38 = .ok (.iload_n 1, 1) := dk_get kX1_compare_ok 23 rfl
theorem dX1_compare_39 : decode cX1_compare 39 = .ok (.iload_n 2, 1) := dk_get kX1_compare_ok 24 rfl
theorem dX1_compare_40 : decode cX1_compare 40 = .ok (.invokevirtual 32, 3) := dk_get kX1_compare_ok 25 rfl
theorem dX1_compare_43 : decode cX1_compare 43 = .ok (.iastore, 1) := dk_get kX1_compare_ok 26 rfl
theorem dX1_compare_44 : decode cX1_compare 44 = .ok (.aload_n 3, 1) := dk_get kX1_compare_ok 27 rfl
theorem dX1_compare_45 : decode cX1_compare 45 = .ok (.iconst 1, 1) := dk_get kX1_compare_ok 28 rfl
theorem dX1_compare_46 : decode cX1_compare 46 = .ok (.aload_n 0, 1) := dk_get kX1_compare_ok 29 rfl
theorem dX1_compare_47 : decode cX1_compare 47 = .ok (.iload_n 1, 1) := dk_get kX1_compare_ok 30 rfl
theorem dX1_compare_48 : decode cX1_compare 48 = .ok (.iload_n 2, 1) := dk_get kX1_compare_ok 31 rfl
theorem dX1_compare_49 : decode cX1_compare 49 = .ok (.invokevirtual 35, 3) := dk_get kX1_compare_ok 32 rfl
theorem dX1_compare_52 : decode cX1_compare 52 = .ok (.iastore, 1) := dk_get kX1_compare_ok 33 rfl
theorem dX1_compare_53 : decode cX1_compare 53 = .ok (.aload_n 3, 1) := dk_get kX1_compare_ok 34 rfl
theorem dX1_compare_54 : decode cX1_compare 54 = .ok (.iconst 2, 1) := dk_get kX1_compare_ok 35 rfl
theorem dX1_compare_55 : decode cX1_compare 55 = .ok (.aload_n 0, 1) := dk_get kX1_compare_ok 36 rfl
theorem dX1_compare_56 : decode cX1_compare 56 = .ok (.iload_n 1, 1) := dk_get kX1_compare_ok 37 rfl
theorem dX1_compare_57 : decode cX1_compare 57 = .ok (.iconst 2, 1) := dk_get kX1_compare_ok 38 rfl
theorem dX1_compare_58 : decode cX1_compare 58 = .ok (.invokevirtual 22, 3) := dk_get kX1_compare_ok 39 rfl
theorem dX1_compare_61 : decode cX1_compare 61 = .ok (.aload_n 0, 1) := dk_get kX1_compare_ok 40 rfl
theorem dX1_compare_62 : decode cX1_compare 62 = .ok (.iload_n 2, 1) := dk_get kX1_compare_ok 41 rfl
theorem dX1_compare_63 : decode cX1_compare 63 = .ok (.iconst 2, 1) := dk_get kX1_compare_ok 42 rfl
theorem dX1_compare_64 : decode cX1_compare 64 = .ok (.invokevirtual 22, 3) := dk_get kX1_compare_ok 43 rfl
theorem dX1_compare_67 : decode cX1_compare 67 = .ok (.if_icmp .ne 7, 3) := dk_get kX1_compare_ok 44 rfl
theorem dX1_compare_70 : decode cX1_compare 70 = .ok (.iconst 1, 1) := dk_get kX1_compare_ok 45 rfl
theorem dX1_compare_71 : decode cX1_compare 71 = .ok (.goto 4, 3) := dk_get kX1_compare_ok 46 rfl
theorem dX1_compare_74 : decode cX1_compare 74 = .ok (.iconst 0, 1) := dk_get kX1_compare_ok 47 rfl
theorem dX1_compare_75 : decode cX1_compare 75 = .ok (.iastore, 1) := dk_get kX1_compare_ok 48 rfl
theorem dX1_compare_76 : decode cX1_compare 76 = .ok (.aload_n 3, 1) := dk_get kX1_compare_ok 49 rfl
theorem dX1_compare_77 : decode cX1_compare 77 = .ok (.iconst 3, 1) := dk_get kX1_compare_ok 50 rfl
theorem dX1_compare_78 : decode cX1_compare 78 = .ok (.aload_n 0, 1) := dk_get kX1_compare_ok 51 rfl
theorem dX1_compare_79 : decode cX1_compare 79 = .ok (.iload_n 1, 1) := dk_get kX1_compare_ok 52 rfl
theorem dX1_compare_80 : decode cX1_compare 80 = .ok (.iload_n 2, 1) := dk_get kX1_compare_ok 53 rfl
theorem dX1_compare_81 : decode cX1_compare 81 = .ok (.invokevirtual 38, 3) := dk_get kX1_compare_ok 54 rfl
theorem dX1_compare_84 : decode cX1_compare 84 = .ok (.ifCond .eq 7, 3) := dk_get kX1_compare_ok 55 rfl
theorem dX1_compare_87 : decode cX1_compare 87 = .ok (.iconst 1, 1) := dk_get kX1_compare_ok 56 rfl
theorem dX1_compare_88 : decode cX1_compare 88 = .ok (.goto 4, 3) := dk_get kX1_compare_ok 57 rfl
theorem dX1_compare_91 : decode cX1_compare 91 = .ok (.iconst 0, 1) := dk_get kX1_compare_ok 58 rfl
theorem dX1_compare_92 : decode cX1_compare 92 = .ok (.iastore, 1) := dk_get kX1_compare_ok 59 rfl
theorem dX1_compare_93 : decode cX1_compare 93 = .ok (.aload_n 3, 1) := dk_get kX1_compare_ok 60 rfl
theorem dX1_compare_94 : decode cX1_compare 94 = .ok (.iconst 4, 1) := dk_get kX1_compare_ok 61 rfl
theorem dX1_compare_95 : decode cX1_compare 95 = .ok (.iload 6, 2) := dk_get kX1_compare_ok 62 rfl
theorem dX1_compare_97 : decode cX1_compare 97 = .ok (.ifCond .eq 14, 3) := dk_get kX1_compare_ok 63 rfl
theorem dX1_compare_100 : decode cX1_compare 100 = .ok (.iload 4, 2) := dk_get kX1_compare_ok 64 rfl
theorem dX1_compare_102 : decode cX1_compare 102 = .ok (.iload 5, 2) := dk_get kX1_compare_ok 65 rfl
theorem dX1_compare_104 : decode cX1_compare 104 = .ok (.if_icmp .ne 7, 3) := dk_get kX1_compare_ok 66 rfl
theorem dX1_compare_107 : decode cX1_compare 107 = .ok (.iconst 1, 1) := dk_get kX1_compare_ok 67 rfl
theorem dX1_compare_108 : decode cX1_compare 108 = .ok (.goto 4, 3) := dk_get kX1_compare_ok 68 rfl
theorem dX1_compare_111 : decode cX1_compare 111 = .ok (.iconst 0, 1) := dk_get kX1_compare_ok 69 rfl
theorem dX1_compare_112 : decode cX1_compare 112 = .ok (.iastore, 1) := dk_get kX1_compare_ok 70 rfl
theorem dX1_compare_113 : decode cX1_compare 113 = .ok (.aload_n 3, 1) := dk_get kX1_compare_ok 71 rfl
theorem dX1_compare_114 : decode cX1_compare 114 = .ok (.iconst 5, 1) := dk_get kX1_compare_ok 72 rfl
theorem dX1_compare_115 : decode cX1_compare 115 = .ok (.iload 6, 2) := dk_get kX1_compare_ok 73 rfl
theorem dX1_compare_117 : decode cX1_compare 117 = .ok (.ifCond .eq 14, 3) := dk_get kX1_compare_ok 74 rfl
theorem dX1_compare_120 : decode cX1_compare 120 = .ok (.iload 4, 2) := dk_get kX1_compare_ok 75 rfl
theorem dX1_compare_122 : decode cX1_compare 122 = .ok (.iload 5, 2) := dk_get kX1_compare_ok 76 rfl
theorem dX1_compare_124 : decode cX1_compare 124 = .ok (.if_icmp .eq 7, 3) := dk_get kX1_compare_ok 77 rfl
theorem dX1_compare_127 : decode cX1_compare 127 = .ok (.iconst 1, 1) := dk_get kX1_compare_ok 78 rfl
theorem dX1_compare_128 : decode cX1_compare 128 = .ok (.goto 4, 3) := dk_get kX1_compare_ok 79 rfl
theorem dX1_compare_131 : decode cX1_compare 131 = .ok (.iconst 0, 1) := dk_get kX1_compare_ok 80 rfl
theorem dX1_compare_132 : decode cX1_compare 132 = .ok (.iastore, 1) := dk_get kX1_compare_ok 81 rfl
theorem dX1_compare_133 : decode cX1_compare 133 = .ok (.return_, 1) := dk_get kX1_compare_ok 82 rfl
def kX2_init : List (Nat × Instr × Nat) := [(0, .aload_n 0, 1), (1, .invokespecial 3, 3), (4, .aload_n 0, 1), (5, .bipush 30, 2), (7, .newarray .int, 2), (9, .putfield 9, 3), (12, .aload_n 0, 1), (13, .bipush 31, 2), (15, .newarray .int, 2), (17, .putfield 15, 3), (20, .aload_n 0, 1), (21, .sipush 180, 3), (24, .newarray .int, 2), (26, .putfield 18, 3), (29, .aload_n 0, 1), (30, .bipush 6, 2), (32, .newarray .int, 2), (34, .putfield 21, 3), (37, .aload_n 0, 1), (38, .aload_n 1, 1), (39, .putfield 24, 3), (42, .aload_n 0, 1), (43, .aload_n 2, 1), (44, .putfield 28, 3), (47, .return_, 1)]
set_option maxRecDepth 100000 in
theorem kX2_init_ok : kX2_init.all (fun q => decide (decode cX2_init q.1 = .ok q.2)) = true := by decide +kernel
theorem dX2_init_0 : decode cX2_init 0 = .ok (.aload_n 0, 1) := dk_get kX2_init_ok 0 rfl
theorem dX2_init_1 : decode cX2_init 1 = .ok (.invokespecial 3, 3) := dk_get kX2_init_ok 1 rfl
theorem dX2_init_4 : decode cX2_init 4 = .ok (.aload_n 0, 1) := dk_get kX2_init_ok 2 rfl
theorem dX2_init_5 : decode cX2_init 5 = .ok (.bipush 30, 2) := dk_get kX2_init_ok 3 rfl
theorem dX2_init_7 : decode cX2_init 7 = .ok (.newarray .int, 2) := dk_get kX2_init_ok 4 rfl
theorem dX2_init_9 : decode cX2_init 9 = .ok (.putfield 9, 3) := dk_get kX2_init_ok 5 rfl
theorem dX2_init_12 : decode cX2_init 12 = .ok (.aload_n 0, 1) := dk_get kX2_init_ok 6 rfl
theorem dX2_init_13 : decode cX2_init 13 = .ok (.bipush 31, 2) := dk_get kX2_init_ok 7 rfl
theorem dX2_init_15 : decode cX2_init 15 = .ok (.newarray .int, 2) := dk_get kX2_init_ok 8 rfl
theorem dX2_init_17 : decode cX2_init 17 = .ok (.putfield 15, 3) := dk_get kX2_init_ok 9 rfl
theorem dX2_init_20 : decode cX2_init 20 = .ok (.aload_n 0, 1) := dk_get kX2_init_ok 10 rfl
theorem dX2_init_21 : decode cX2_init 21 = .ok (.sipush 180, 3) := dk_get kX2_init_ok 11 rfl
theorem dX2_init_24 : decode cX2_init 24 = .ok (.newarray .int, 2) := dk_get kX2_init_ok 12 rfl
theorem dX2_init_26 : decode cX2_init 26 = .ok (.putfield 18, 3) := dk_get kX2_init_ok 13 rfl
theorem dX2_init_29 : decode cX2_init 29 = .ok (.aload_n 0, 1) := dk_get kX2_init_ok 14 rfl
theorem dX2_init_30 : decode cX2_init 30 = .ok (.bipush 6, 2) := dk_get kX2_init_ok 15 rfl
theorem dX2_init_32 : decode cX2_init 32 = .ok (.newarray .int, 2) := dk_get kX2_init_ok 16 rfl
theorem dX2_init_34 : decode cX2_init 34 = .ok (.putfield 21, 3) := dk_get kX2_init_ok 17 rfl
theorem dX2_init_37 : decode cX2_init 37 = .ok (.aload_n 0, 1) := dk_get kX2_init_ok 18 rfl
theorem dX2_init_38 : decode cX2_init 38 = .ok (.aload_n 1, 1) := dk_get kX2_init_ok 19 rfl
theorem dX2_init_39 : decode cX2_init 39 = .ok (.putfield 24, 3) := dk_get kX2_init_ok 20 rfl
theorem dX2_init_42 : decode cX2_init 42 = .ok (.aload_n 0, 1) := dk_get kX2_init_ok 21 rfl
theorem dX2_init_43 : decode cX2_init 43 = .ok (.aload_n 2, 1) := dk_get kX2_init_ok 22 rfl
theorem dX2_init_44 : decode cX2_init 44 = .ok (.putfield 28, 3) := dk_get kX2_init_ok 23 rfl
theorem dX2_init_47 : decode cX2_init 47 = .ok (.return_, 1) := dk_get kX2_init_ok 24 rfl
def kX2_welcome : List (Nat × Instr × Nat) := [(0, .aload_n 0, 1), (1, .getfield 9, 3), (4, .aload_n 0, 1), (5, .getfield 32, 3), (8, .aload_n 0, 1), (9, .getfield 32, 3), (12, .iastore, 1), (13, .aload_n 0, 1), (14, .dup, 1), (15, .getfield 32, 3), (18, .iconst 1, 1), (19, .iadd, 1), (20, .putfield 32, 3), (23, .return_, 1)]
set_option maxRecDepth 100000 in
theorem kX2_welcome_ok : kX2_welcome.all (fun q => decide (decode cX2_welcome q.1 = .ok q.2)) = true := by decide +kernel
theorem dX2_welcome_0 : decode cX2_welcome 0 = .ok (.aload_n 0, 1) := dk_get kX2_welcome_ok 0 rfl
theorem dX2_welcome_1 : decode cX2_welcome 1 = .ok (.getfield 9, 3) := dk_get kX2_welcome_ok 1 rfl
theorem dX2_welcome_4 : decode cX2_welcome 4 = .ok (.aload_n 0, 1) := dk_get kX2_welcome_ok 2 rfl
theorem dX2_welcome_5 : decode cX2_welcome 5 = .ok (.getfield 32, 3) := dk_get kX2_welcome_ok 3 rfl
theorem dX2_welcome_8 : decode cX2_welcome 8 = .ok (.aload_n 0, 1) := dk_get kX2_welcome_ok 4 rfl
theorem dX2_welcome_9 : decode cX2_welcome 9 = .ok (.getfield 32, 3) := dk_get kX2_welcome_ok 5 rfl
theorem dX2_welcome_12 : decode cX2_welcome 12 = .ok (.iastore, 1) := dk_get kX2_welcome_ok 6 rfl
theorem dX2_welcome_13 : decode cX2_welcome 13 = .ok (.aload_n 0, 1) := dk_get kX2_welcome_ok 7 rfl
theorem dX2_welcome_14 : decode cX2_welcome 14 = .ok (.dup, 1) := dk_get kX2_welcome_ok 8 rfl
theorem dX2_welcome_15 : decode cX2_welcome 15 = .ok (.getfield 32, 3) := dk_get kX2_welcome_ok 9 rfl
theorem dX2_welcome_18 : decode cX2_welcome 18 = .ok (.iconst 1, 1) := dk_get kX2_welcome_ok 10 rfl
theorem dX2_welcome_19 : decode cX2_welcome 19 = .ok (.iadd, 1) := dk_get kX2_welcome_ok 11 rfl
theorem dX2_welcome_20 : decode cX2_welcome 20 = .ok (.putfield 32, 3) := dk_get kX2_welcome_ok 12 rfl
theorem dX2_welcome_23 : decode cX2_welcome 23 = .ok (.return_, 1) := dk_get kX2_welcome_ok 13 rfl
def kX2_renumber : List (Nat × Instr × Nat) := [(0, .aload_n 0, 1), (1, .getfield 15, 3), (4, .iconst (-1), 1), (5, .invokestatic 36, 3), (8, .iconst 0, 1), (9, .istore_n 1, 1), (10, .iload_n 1, 1), (11, .aload_n 0, 1), (12, .getfield 32, 3), (15, .if_icmp .ge 45, 3), (18, .aload_n 0, 1), (19, .getfield 9, 3), (22, .iload_n 1, 1), (23, .iaload, 1), (24, .istore_n 2, 1), (25, .aload_n 0, 1), (26, .getfield 15, 3), (29, .iload_n 2, 1), (30, .iaload, 1), (31, .iconst (-1), 1), (32, .if_icmp .ne 10, 3), (35, .aload_n 0, 1), (36, .getfield 15, 3), (39, .iload_n 2, 1), (40, .iload_n 1, 1), (41, .iastore, 1), (42, .aload_n 0, 1), (43, .getfield 9, 3), (46, .iload_n 1, 1), (47, .aload_n 0, 1), (48, .getfield 15, 3), (51, .iload_n 2, 1), (52, .iaload, 1), (53, .iastore, 1), (54, .iinc 1 1, 3), (57, .goto (-47), 3), (60, .return_, 1)]
set_option maxRecDepth 100000 in
theorem kX2_renumber_ok : kX2_renumber.all (fun q => decide (decode cX2_renumber q.1 = .ok q.2)) = true := by decide +kernel
theorem dX2_renumber_0 : decode cX2_renumber 0 = .ok (.aload_n 0, 1) := dk_get kX2_renumber_ok 0 rfl
theorem dX2_renumber_1 : decode cX2_renumber 1 = .ok (.getfield 15, 3) := dk_get kX2_renumber_ok 1 rfl
theorem dX2_renumber_4 : decode cX2_renumber 4 = .ok (.iconst (-1), 1) := dk_get kX2_renumber_ok 2 rfl
theorem dX2_renumber_5 : decode cX2_renumber 5 = .ok (.invokestatic 36, 3) := dk_get kX2_renumber_ok 3 rfl
theorem dX2_renumber_8 : decode cX2_renumber 8 = .ok (.iconst 0, 1) := dk_get kX2_renumber_ok 4 rfl
theorem dX2_renumber_9 : decode cX2_renumber 9 = .ok (.istore_n 1, 1) := dk_get kX2_renumber_ok 5 rfl
theorem dX2_renumber_10 : decode cX2_renumber 10 = .ok (.iload_n 1, 1) := dk_get kX2_renumber_ok 6 rfl
theorem dX2_renumber_11 : decode cX2_renumber 11 = .ok (.aload_n 0, 1) := dk_get kX2_renumber_ok 7 rfl
theorem dX2_renumber_12 : decode cX2_renumber 12 = .ok (.getfield 32, 3) := dk_get kX2_renumber_ok 8 rfl
theorem dX2_renumber_15 : decode cX2_renumber 15 = .ok (.if_icmp .ge 45, 3) := dk_get kX2_renumber_ok 9 rfl
theorem dX2_renumber_18 : decode cX2_renumber 18 = .ok (.aload_n 0, 1) := dk_get kX2_renumber_ok 10 rfl
theorem dX2_renumber_19 : decode cX2_renumber 19 = .ok (.getfield 9, 3) := dk_get kX2_renumber_ok 11 rfl
theorem dX2_renumber_22 : decode cX2_renumber 22 = .ok (.iload_n 1, 1) := dk_get kX2_renumber_ok 12 rfl
theorem dX2_renumber_23 : decode cX2_renumber 23 = .ok (.iaload, 1) := dk_get kX2_renumber_ok 13 rfl
theorem dX2_renumber_24 : decode cX2_renumber 24 = .ok (.istore_n 2, 1) := dk_get kX2_renumber_ok 14 rfl
theorem dX2_renumber_25 : decode cX2_renumber 25 = .ok (.aload_n 0, 1) := dk_get kX2_renumber_ok 15 rfl
theorem dX2_renumber_26 : decode cX2_renumber 26 = .ok (.getfield 15, 3) := dk_get kX2_renumber_ok 16 rfl
theorem dX2_renumber_29 : decode cX2_renumber 29 = .ok (.iload_n 2, 1) := dk_get kX2_renumber_ok 17 rfl
theorem dX2_renumber_30 : decode cX2_renumber 30 = .ok (.iaload, 1) := dk_get kX2_renumber_ok 18 rfl
theorem dX2_renumber_31 : decode cX2_renumber 31 = .ok (.iconst (-1), 1) := dk_get kX2_renumber_ok 19 rfl
theorem dX2_renumber_32 : decode cX2_renumber 32 = .ok (.if_icmp .ne 10, 3) := dk_get kX2_renumber_ok 20 rfl
theorem dX2_renumber_35 : decode cX2_renumber 35 = .ok (.aload_n 0, 1) := dk_get kX2_renumber_ok 21 rfl
theorem dX2_renumber_36 : decode cX2_renumber 36 = .ok (.getfield 15, 3) := dk_get kX2_renumber_ok 22 rfl
theorem dX2_renumber_39 : decode cX2_renumber 39 = .ok (.iload_n 2, 1) := dk_get kX2_renumber_ok 23 rfl
theorem dX2_renumber_40 : decode cX2_renumber 40 = .ok (.iload_n 1, 1) := dk_get kX2_renumber_ok 24 rfl
theorem dX2_renumber_41 : decode cX2_renumber 41 = .ok (.iastore, 1) := dk_get kX2_renumber_ok 25 rfl
theorem dX2_renumber_42 : decode cX2_renumber 42 = .ok (.aload_n 0, 1) := dk_get kX2_renumber_ok 26 rfl
theorem dX2_renumber_43 : decode cX2_renumber 43 = .ok (.getfield 9, 3) := dk_get kX2_renumber_ok 27 rfl
theorem dX2_renumber_46 : decode cX2_renumber 46 = .ok (.iload_n 1, 1) := dk_get kX2_renumber_ok 28 rfl
theorem dX2_renumber_47 : decode cX2_renumber 47 = .ok (.aload_n 0, 1) := dk_get kX2_renumber_ok 29 rfl
theorem dX2_renumber_48 : decode cX2_renumber 48 = .ok (.getfield 15, 3) := dk_get kX2_renumber_ok 30 rfl
theorem dX2_renumber_51 : decode cX2_renumber 51 = .ok (.iload_n 2, 1) := dk_get kX2_renumber_ok 31 rfl
theorem dX2_renumber_52 : decode cX2_renumber 52 = .ok (.iaload, 1) := dk_get kX2_renumber_ok 32 rfl
theorem dX2_renumber_53 : decode cX2_renumber 53 = .ok (.iastore, 1) := dk_get kX2_renumber_ok 33 rfl
theorem dX2_renumber_54 : decode cX2_renumber 54 = .ok (.iinc 1 1, 3) := dk_get kX2_renumber_ok 34 rfl
theorem dX2_renumber_57 : decode cX2_renumber 57 = .ok (.goto (-47), 3) := dk_get kX2_renumber_ok 35 rfl
theorem dX2_renumber_60 : decode cX2_renumber 60 = .ok (.return_, 1) := dk_get kX2_renumber_ok 36 rfl
def kX2_isAlone : List (Nat × Instr × Nat) := [(0, .aload_n 0, 1), (1, .aload_n 0, 1), (2, .getfield 9, 3), (5, .iload_n 1, 1), (6, .iaload, 1), (7, .invokevirtual 42, 3), (10, .iconst 1, 1), (11, .iload_n 1, 1), (12, .ishl, 1), (13, .if_icmp .ne 7, 3), (16, .iconst 1, 1), (17, .goto 4, 3), (20, .iconst 0, 1), (21, .ireturn, 1)]
set_option maxRecDepth 100000 in
theorem kX2_isAlone_ok : kX2_isAlone.all (fun q => decide (decode cX2_isAlone q.1 = .ok q.2)) = true := by decide +kernel
theorem dX2_isAlone_0 : decode cX2_isAlone 0 = .ok (.aload_n 0, 1) := dk_get kX2_isAlone_ok 0 rfl
theorem dX2_isAlone_1 : decode cX2_isAlone 1 = .ok (.aload_n 0, 1) := dk_get kX2_isAlone_ok 1 rfl
theorem dX2_isAlone_2 : decode cX2_isAlone 2 = .ok (.getfield 9, 3) := dk_get kX2_isAlone_ok 2 rfl
theorem dX2_isAlone_5 : decode cX2_isAlone 5 = .ok (.iload_n 1, 1) := dk_get kX2_isAlone_ok 3 rfl
theorem dX2_isAlone_6 : decode cX2_isAlone 6 = .ok (.iaload, 1) := dk_get kX2_isAlone_ok 4 rfl
theorem dX2_isAlone_7 : decode cX2_isAlone 7 = .ok (.invokevirtual 42, 3) := dk_get kX2_isAlone_ok 5 rfl
theorem dX2_isAlone_10 : decode cX2_isAlone 10 = .ok (.iconst 1, 1) := dk_get kX2_isAlone_ok 6 rfl
theorem dX2_isAlone_11 : decode cX2_isAlone 11 = .ok (.iload_n 1, 1) := dk_get kX2_isAlone_ok 7 rfl
theorem dX2_isAlone_12 : decode cX2_isAlone 12 = .ok (.ishl, 1) := dk_get kX2_isAlone_ok 8 rfl
theorem dX2_isAlone_13 : decode cX2_isAlone 13 = .ok (.if_icmp .ne 7, 3) := dk_get kX2_isAlone_ok 9 rfl
theorem dX2_isAlone_16 : decode cX2_isAlone 16 = .ok (.iconst 1, 1) := dk_get kX2_isAlone_ok 10 rfl
theorem dX2_isAlone_17 : decode cX2_isAlone 17 = .ok (.goto 4, 3) := dk_get kX2_isAlone_ok 11 rfl
theorem dX2_isAlone_20 : decode cX2_isAlone 20 = .ok (.iconst 0, 1) := dk_get kX2_isAlone_ok 12 rfl
theorem dX2_isAlone_21 : decode cX2_isAlone 21 = .ok (.ireturn, 1) := dk_get kX2_isAlone_ok 13 rfl
def kX2_maskOfHeap : List (Nat × Instr × Nat) := [(0, .iconst 0, 1), (1, .istore_n 2, 1), (2, .iconst 0, 1), (3, .istore_n 3, 1), (4, .iload_n 3, 1), (5, .aload_n 0, 1), (6, .getfield 32, 3), (9, .if_icmp .ge 25, 3), (12, .aload_n 0, 1), (13, .getfield 9, 3), (16, .iload_n 3, 1), (17, .iaload, 1), (18, .iload_n 1, 1), (19, .if_icmp .ne 9, 3), (22, .iload_n 2, 1), (23, .iconst 1, 1), (24, .iload_n 3, 1), (25, .ishl, 1), (26, .ior, 1), (27, .istore_n 2, 1), (28, .iinc 3 1, 3), (31, .goto (-27), 3), (34, .iload_n 2, 1), (35, .ireturn, 1)]
set_option maxRecDepth 100000 in
theorem kX2_maskOfHeap_ok : kX2_maskOfHeap.all (fun q => decide (decode cX2_maskOfHeap q.1 = .ok q.2)) = true := by decide +kernel
theorem dX2_maskOfHeap_0 : decode cX2_maskOfHeap 0 = .ok (.iconst 0, 1) := dk_get kX2_maskOfHeap_ok 0 rfl
theorem dX2_maskOfHeap_1 : decode cX2_maskOfHeap 1 = .ok (.istore_n 2, 1) := dk_get kX2_maskOfHeap_ok 1 rfl
theorem dX2_maskOfHeap_2 : decode cX2_maskOfHeap 2 = .ok (.iconst 0, 1) := dk_get kX2_maskOfHeap_ok 2 rfl
theorem dX2_maskOfHeap_3 : decode cX2_maskOfHeap 3 = .ok (.istore_n 3, 1) := dk_get kX2_maskOfHeap_ok 3 rfl
theorem dX2_maskOfHeap_4 : decode cX2_maskOfHeap 4 = .ok (.iload_n 3, 1) := dk_get kX2_maskOfHeap_ok 4 rfl
theorem dX2_maskOfHeap_5 : decode cX2_maskOfHeap 5 = .ok (.aload_n 0, 1) := dk_get kX2_maskOfHeap_ok 5 rfl
theorem dX2_maskOfHeap_6 : decode cX2_maskOfHeap 6 = .ok (.getfield 32, 3) := dk_get kX2_maskOfHeap_ok 6 rfl
theorem dX2_maskOfHeap_9 : decode cX2_maskOfHeap 9 = .ok (.if_icmp .ge 25, 3) := dk_get kX2_maskOfHeap_ok 7 rfl
theorem dX2_maskOfHeap_12 : decode cX2_maskOfHeap 12 = .ok (.aload_n 0, 1) := dk_get kX2_maskOfHeap_ok 8 rfl
theorem dX2_maskOfHeap_13 : decode cX2_maskOfHeap 13 = .ok (.getfield 9, 3) := dk_get kX2_maskOfHeap_ok 9 rfl
theorem dX2_maskOfHeap_16 : decode cX2_maskOfHeap 16 = .ok (.iload_n 3, 1) := dk_get kX2_maskOfHeap_ok 10 rfl
theorem dX2_maskOfHeap_17 : decode cX2_maskOfHeap 17 = .ok (.iaload, 1) := dk_get kX2_maskOfHeap_ok 11 rfl
theorem dX2_maskOfHeap_18 : decode cX2_maskOfHeap 18 = .ok (.iload_n 1, 1) := dk_get kX2_maskOfHeap_ok 12 rfl
theorem dX2_maskOfHeap_19 : decode cX2_maskOfHeap 19 = .ok (.if_icmp .ne 9, 3) := dk_get kX2_maskOfHeap_ok 13 rfl
theorem dX2_maskOfHeap_22 : decode cX2_maskOfHeap 22 = .ok (.iload_n 2, 1) := dk_get kX2_maskOfHeap_ok 14 rfl
theorem dX2_maskOfHeap_23 : decode cX2_maskOfHeap 23 = .ok (.iconst 1, 1) := dk_get kX2_maskOfHeap_ok 15 rfl
theorem dX2_maskOfHeap_24 : decode cX2_maskOfHeap 24 = .ok (.iload_n 3, 1) := dk_get kX2_maskOfHeap_ok 16 rfl
theorem dX2_maskOfHeap_25 : decode cX2_maskOfHeap 25 = .ok (.ishl, 1) := dk_get kX2_maskOfHeap_ok 17 rfl
theorem dX2_maskOfHeap_26 : decode cX2_maskOfHeap 26 = .ok (.ior, 1) := dk_get kX2_maskOfHeap_ok 18 rfl
theorem dX2_maskOfHeap_27 : decode cX2_maskOfHeap 27 = .ok (.istore_n 2, 1) := dk_get kX2_maskOfHeap_ok 19 rfl
theorem dX2_maskOfHeap_28 : decode cX2_maskOfHeap 28 = .ok (.iinc 3 1, 3) := dk_get kX2_maskOfHeap_ok 20 rfl
theorem dX2_maskOfHeap_31 : decode cX2_maskOfHeap 31 = .ok (.goto (-27), 3) := dk_get kX2_maskOfHeap_ok 21 rfl
theorem dX2_maskOfHeap_34 : decode cX2_maskOfHeap 34 = .ok (.iload_n 2, 1) := dk_get kX2_maskOfHeap_ok 22 rfl
theorem dX2_maskOfHeap_35 : decode cX2_maskOfHeap 35 = .ok (.ireturn, 1) := dk_get kX2_maskOfHeap_ok 23 rfl
def kX2_moveTo : List (Nat × Instr × Nat) := [(0, .aload_n 0, 1), (1, .getfield 9, 3), (4, .iload_n 1, 1), (5, .iload_n 2, 1), (6, .iastore, 1), (7, .aload_n 0, 1), (8, .invokevirtual 46, 3), (11, .return_, 1)]
set_option maxRecDepth 100000 in
theorem kX2_moveTo_ok : kX2_moveTo.all (fun q => decide (decode cX2_moveTo q.1 = .ok q.2)) = true := by decide +kernel
theorem dX2_moveTo_0 : decode cX2_moveTo 0 = .ok (.aload_n 0, 1) := dk_get kX2_moveTo_ok 0 rfl
theorem dX2_moveTo_1 : decode cX2_moveTo 1 = .ok (.getfield 9, 3) := dk_get kX2_moveTo_ok 1 rfl
theorem dX2_moveTo_4 : decode cX2_moveTo 4 = .ok (.iload_n 1, 1) := dk_get kX2_moveTo_ok 2 rfl
theorem dX2_moveTo_5 : decode cX2_moveTo 5 = .ok (.iload_n 2, 1) := dk_get kX2_moveTo_ok 3 rfl
theorem dX2_moveTo_6 : decode cX2_moveTo 6 = .ok (.iastore, 1) := dk_get kX2_moveTo_ok 4 rfl
theorem dX2_moveTo_7 : decode cX2_moveTo 7 = .ok (.aload_n 0, 1) := dk_get kX2_moveTo_ok 5 rfl
theorem dX2_moveTo_8 : decode cX2_moveTo 8 = .ok (.invokevirtual 46, 3) := dk_get kX2_moveTo_ok 6 rfl
theorem dX2_moveTo_11 : decode cX2_moveTo 11 = .ok (.return_, 1) := dk_get kX2_moveTo_ok 7 rfl
def kX2_moveOut : List (Nat × Instr × Nat) := [(0, .aload_n 0, 1), (1, .iload_n 1, 1), (2, .bipush 30, 2), (4, .invokevirtual 49, 3), (7, .return_, 1)]
set_option maxRecDepth 100000 in
theorem kX2_moveOut_ok : kX2_moveOut.all (fun q => decide (decode cX2_moveOut q.1 = .ok q.2)) = true := by decide +kernel
theorem dX2_moveOut_0 : decode cX2_moveOut 0 = .ok (.aload_n 0, 1) := dk_get kX2_moveOut_ok 0 rfl
theorem dX2_moveOut_1 : decode cX2_moveOut 1 = .ok (.iload_n 1, 1) := dk_get kX2_moveOut_ok 1 rfl
theorem dX2_moveOut_2 : decode cX2_moveOut 2 = .ok (.bipush 30, 2) := dk_get kX2_moveOut_ok 2 rfl
theorem dX2_moveOut_4 : decode cX2_moveOut 4 = .ok (.invokevirtual 49, 3) := dk_get kX2_moveOut_ok 3 rfl
theorem dX2_moveOut_7 : decode cX2_moveOut 7 = .ok (.return_, 1) := dk_get kX2_moveOut_ok 4 rfl
def kX2_unite : List (Nat × Instr × Nat) := [(0, .iconst 0, 1), (1, .istore_n 3, 1), (2, .iload_n 3, 1), (3, .aload_n 0, 1), (4, .getfield 32, 3), (7, .if_icmp .ge 26, 3), (10, .aload_n 0, 1), (11, .getfield 9, 3), (14, .iload_n 3, 1), (15, .iaload, 1), (16, .iload_n 2, 1), (17, .if_icmp .ne 10, 3), (20, .aload_n 0, 1), (21, .getfield 9, 3), (24, .iload_n 3, 1), (25, .iload_n 1, 1), (26, .iastore, 1), (27, .iinc 3 1, 3), (30, .goto (-28), 3), (33, .aload_n 0, 1), (34, .invokevirtual 46, 3), (37, .return_, 1)]
set_option maxRecDepth 100000 in
theorem kX2_unite_ok : kX2_unite.all (fun q => decide (decode cX2_unite q.1 = .ok q.2)) = true := by decide +kernel
theorem dX2_unite_0 : decode cX2_unite 0 = .ok (.iconst 0, 1) := dk_get kX2_unite_ok 0 rfl
theorem dX2_unite_1 : decode cX2_unite 1 = .ok (.istore_n 3, 1) := dk_get kX2_unite_ok 1 rfl
theorem dX2_unite_2 : decode cX2_unite 2 = .ok (.iload_n 3, 1) := dk_get kX2_unite_ok 2 rfl
theorem dX2_unite_3 : decode cX2_unite 3 = .ok (.aload_n 0, 1) := dk_get kX2_unite_ok 3 rfl
theorem dX2_unite_4 : decode cX2_unite 4 = .ok (.getfield 32, 3) := dk_get kX2_unite_ok 4 rfl
theorem dX2_unite_7 : decode cX2_unite 7 = .ok (.if_icmp .ge 26, 3) := dk_get kX2_unite_ok 5 rfl
theorem dX2_unite_10 : decode cX2_unite 10 = .ok (.aload_n 0, 1) := dk_get kX2_unite_ok 6 rfl
theorem dX2_unite_11 : decode cX2_unite 11 = .ok (.getfield 9, 3) := dk_get kX2_unite_ok 7 rfl
theorem dX2_unite_14 : decode cX2_unite 14 = .ok (.iload_n 3, 1) := dk_get kX2_unite_ok 8 rfl
theorem dX2_unite_15 : decode cX2_unite 15 = .ok (.iaload, 1) := dk_get kX2_unite_ok 9 rfl
theorem dX2_unite_16 : decode cX2_unite 16 = .ok (.iload_n 2, 1) := dk_get kX2_unite_ok 10 rfl
theorem dX2_unite_17 : decode cX2_unite 17 = .ok (.if_icmp .ne 10, 3) := dk_get kX2_unite_ok 11 rfl
theorem dX2_unite_20 : decode cX2_unite 20 = .ok (.aload_n 0, 1) := dk_get kX2_unite_ok 12 rfl
theorem dX2_unite_21 : decode cX2_unite 21 = .ok (.getfield 9, 3) := dk_get kX2_unite_ok 13 rfl
theorem dX2_unite_24 : decode cX2_unite 24 = .ok (.iload_n 3, 1) := dk_get kX2_unite_ok 14 rfl
theorem dX2_unite_25 : decode cX2_unite 25 = .ok (.iload_n 1, 1) := dk_get kX2_unite_ok 15 rfl
theorem dX2_unite_26 : decode cX2_unite 26 = .ok (.iastore, 1) := dk_get kX2_unite_ok 16 rfl
theorem dX2_unite_27 : decode cX2_unite 27 = .ok (.iinc 3 1, 3) := dk_get kX2_unite_ok 17 rfl
theorem dX2_unite_30 : decode cX2_unite 30 = .ok (.goto (-28), 3) := dk_get kX2_unite_ok 18 rfl
theorem dX2_unite_33 : decode cX2_unite 33 = .ok (.aload_n 0, 1) := dk_get kX2_unite_ok 19 rfl
theorem dX2_unite_34 : decode cX2_unite 34 = .ok (.invokevirtual 46, 3) := dk_get kX2_unite_ok 20 rfl
theorem dX2_unite_37 : decode cX2_unite 37 = .ok (.return_, 1) := dk_get kX2_unite_ok 21 rfl
def kX2_exchange : List (Nat × Instr × Nat) := [(0, .aload_n 0, 1), (1, .getfield 9, 3), (4, .iload_n 1, 1), (5, .iaload, 1), (6, .istore_n 3, 1), (7, .aload_n 0, 1), (8, .getfield 9, 3), (11, .iload_n 1, 1), (12, .aload_n 0, 1), (13, .getfield 9, 3), (16, .iload_n 2, 1), (17, .iaload, 1), (18, .iastore, 1), (19, .aload_n 0, 1), (20, .getfield 9, 3), (23, .iload_n 2, 1), (24, .iload_n 3, 1), (25, .iastore, 1), (26, .aload_n 0, 1), (27, .invokevirtual 46, 3), (30, .return_, 1)]
set_option maxRecDepth 100000 in
theorem kX2_exchange_ok : kX2_exchange.all (fun q => decide (decode cX2_exchange q.1 = .ok q.2)) = true := by decide +kernel
theorem dX2_exchange_0 : decode cX2_exchange 0 = .ok (.aload_n 0, 1) := dk_get kX2_exchange_ok 0 rfl
theorem dX2_exchange_1 : decode cX2_exchange 1 = .ok (.getfield 9, 3) := dk_get kX2_exchange_ok 1 rfl
theorem dX2_exchange_4 : decode cX2_exchange 4 = .ok (.iload_n 1, 1) := dk_get kX2_exchange_ok 2 rfl
theorem dX2_exchange_5 : decode cX2_exchange 5 = .ok (.iaload, 1) := dk_get kX2_exchange_ok 3 rfl
theorem dX2_exchange_6 : decode cX2_exchange 6 = .ok (.istore_n 3, 1) := dk_get kX2_exchange_ok 4 rfl
theorem dX2_exchange_7 : decode cX2_exchange 7 = .ok (.aload_n 0, 1) := dk_get kX2_exchange_ok 5 rfl
theorem dX2_exchange_8 : decode cX2_exchange 8 = .ok (.getfield 9, 3) := dk_get kX2_exchange_ok 6 rfl
theorem dX2_exchange_11 : decode cX2_exchange 11 = .ok (.iload_n 1, 1) := dk_get kX2_exchange_ok 7 rfl
theorem dX2_exchange_12 : decode cX2_exchange 12 = .ok (.aload_n 0, 1) := dk_get kX2_exchange_ok 8 rfl
theorem dX2_exchange_13 : decode cX2_exchange 13 = .ok (.getfield 9, 3) := dk_get kX2_exchange_ok 9 rfl
theorem dX2_exchange_16 : decode cX2_exchange 16 = .ok (.iload_n 2, 1) := dk_get kX2_exchange_ok 10 rfl
theorem dX2_exchange_17 : decode cX2_exchange 17 = .ok (.iaload, 1) := dk_get kX2_exchange_ok 11 rfl
theorem dX2_exchange_18 : decode cX2_exchange 18 = .ok (.iastore, 1) := dk_get kX2_exchange_ok 12 rfl
theorem dX2_exchange_19 : decode cX2_exchange 19 = .ok (.aload_n 0, 1) := dk_get kX2_exchange_ok 13 rfl
theorem dX2_exchange_20 : decode cX2_exchange 20 = .ok (.getfield 9, 3) := dk_get kX2_exchange_ok 14 rfl
theorem dX2_exchange_23 : decode cX2_exchange 23 = .ok (.iload_n 2, 1) := dk_get kX2_exchange_ok 15 rfl
theorem dX2_exchange_24 : decode cX2_exchange 24 = .ok (.iload_n 3, 1) := dk_get kX2_exchange_ok 16 rfl
theorem dX2_exchange_25 : decode cX2_exchange 25 = .ok (.iastore, 1) := dk_get kX2_exchange_ok 17 rfl
theorem dX2_exchange_26 : decode cX2_exchange 26 = .ok (.aload_n 0, 1) := dk_get kX2_exchange_ok 18 rfl
theorem dX2_exchange_27 : decode cX2_exchange 27 = .ok (.invokevirtual 46, 3) := dk_get kX2_exchange_ok 19 rfl
theorem dX2_exchange_30 : decode cX2_exchange 30 = .ok (.return_, 1) := dk_get kX2_exchange_ok 20 rfl
def kX2_become : List (Nat × Instr × Nat) := [(0, .aload_n 1, 1), (1, .iconst 0, 1), (2, .aload_n 0, 1), (3, .getfield 9, 3), (6, .iconst 0, 1), (7, .aload_n 0, 1), (8, .getfield 32, 3), (11, .invokestatic 53, 3), (14, .return_, 1)]
set_option maxRecDepth 100000 in
theorem kX2_become_ok : kX2_become.all (fun q => decide (decode cX2_become q.1 = .ok q.2)) = true := by decide +kernel
theorem dX2_become_0 : decode cX2_become 0 = .ok (.aload_n 1, 1) := dk_get kX2_become_ok 0 rfl
theorem dX2_become_1 : decode cX2_become 1 = .ok (.iconst 0, 1) := dk_get kX2_become_ok 1 rfl
theorem dX2_become_2 : decode cX2_become 2 = .ok (.aload_n 0, 1) := dk_get kX2_become_ok 2 rfl
theorem dX2_become_3 : decode cX2_become 3 = .ok (.getfield 9, 3) := dk_get kX2_become_ok 3 rfl
theorem dX2_become_6 : decode cX2_become 6 = .ok (.iconst 0, 1) := dk_get kX2_become_ok 4 rfl
theorem dX2_become_7 : decode cX2_become 7 = .ok (.aload_n 0, 1) := dk_get kX2_become_ok 5 rfl
theorem dX2_become_8 : decode cX2_become 8 = .ok (.getfield 32, 3) := dk_get kX2_become_ok 6 rfl
theorem dX2_become_11 : decode cX2_become 11 = .ok (.invokestatic 53, 3) := dk_get kX2_become_ok 7 rfl
theorem dX2_become_14 : decode cX2_become 14 = .ok (.return_, 1) := dk_get kX2_become_ok 8 rfl
def kX2_heapCount : List (Nat × Instr × Nat) := [(0, .iconst 0, 1), (1, .istore_n 1, 1), (2, .iconst 0, 1), (3, .istore_n 2, 1), (4, .iload_n 2, 1), (5, .aload_n 0, 1), (6, .getfield 32, 3), (9, .if_icmp .ge 22, 3), (12, .aload_n 0, 1), (13, .getfield 9, 3), (16, .iload_n 2, 1), (17, .iaload, 1), (18, .iload_n 2, 1), (19, .if_icmp .ne 6, 3), (22, .iinc 1 1, 3), (25, .iinc 2 1, 3), (28, .goto (-24), 3), (31, .iload_n 1, 1), (32, .ireturn, 1)]
set_option maxRecDepth 100000 in
theorem kX2_heapCount_ok : kX2_heapCount.all (fun q => decide (decode cX2_heapCount q.1 = .ok q.2)) = true := by decide +kernel
theorem dX2_heapCount_0 : decode cX2_heapCount 0 = .ok (.iconst 0, 1) := dk_get kX2_heapCount_ok 0 rfl
theorem dX2_heapCount_1 : decode cX2_heapCount 1 = .ok (.istore_n 1, 1) := dk_get kX2_heapCount_ok 1 rfl
theorem dX2_heapCount_2 : decode cX2_heapCount 2 = .ok (.iconst 0, 1) := dk_get kX2_heapCount_ok 2 rfl
theorem dX2_heapCount_3 : decode cX2_heapCount 3 = .ok (.istore_n 2, 1) := dk_get kX2_heapCount_ok 3 rfl
theorem dX2_heapCount_4 : decode cX2_heapCount 4 = .ok (.iload_n 2, 1) := dk_get kX2_heapCount_ok 4 rfl
theorem dX2_heapCount_5 : decode cX2_heapCount 5 = .ok (.aload_n 0, 1) := dk_get kX2_heapCount_ok 5 rfl
theorem dX2_heapCount_6 : decode cX2_heapCount 6 = .ok (.getfield 32, 3) := dk_get kX2_heapCount_ok 6 rfl
theorem dX2_heapCount_9 : decode cX2_heapCount 9 = .ok (.if_icmp .ge 22, 3) := dk_get kX2_heapCount_ok 7 rfl
theorem dX2_heapCount_12 : decode cX2_heapCount 12 = .ok (.aload_n 0, 1) := dk_get kX2_heapCount_ok 8 rfl
theorem dX2_heapCount_13 : decode cX2_heapCount 13 = .ok (.getfield 9, 3) := dk_get kX2_heapCount_ok 9 rfl
theorem dX2_heapCount_16 : decode cX2_heapCount 16 = .ok (.iload_n 2, 1) := dk_get kX2_heapCount_ok 10 rfl
theorem dX2_heapCount_17 : decode cX2_heapCount 17 = .ok (.iaload, 1) := dk_get kX2_heapCount_ok 11 rfl
theorem dX2_heapCount_18 : decode cX2_heapCount 18 = .ok (.iload_n 2, 1) := dk_get kX2_heapCount_ok 12 rfl
theorem dX2_heapCount_19 : decode cX2_heapCount 19 = .ok (.if_icmp .ne 6, 3) := dk_get kX2_heapCount_ok 13 rfl
theorem dX2_heapCount_22 : decode cX2_heapCount 22 = .ok (.iinc 1 1, 3) := dk_get kX2_heapCount_ok 14 rfl
theorem dX2_heapCount_25 : decode cX2_heapCount 25 = .ok (.iinc 2 1, 3) := dk_get kX2_heapCount_ok 15 rfl
theorem dX2_heapCount_28 : decode cX2_heapCount 28 = .ok (.goto (-24), 3) := dk_get kX2_heapCount_ok 16 rfl
theorem dX2_heapCount_31 : decode cX2_heapCount 31 = .ok (.iload_n 1, 1) := dk_get kX2_heapCount_ok 17 rfl
theorem dX2_heapCount_32 : decode cX2_heapCount 32 = .ok (.ireturn, 1) := dk_get kX2_heapCount_ok 18 rfl
def kX2_price : List (Nat × Instr × Nat) := [(0, .lconst 0, 1), (1, .lstore_n 1, 1), (2, .iconst 1, 1), (3, .istore_n 3, 1), (4, .iload_n 3, 1), (5, .aload_n 0, 1), (6, .getfield 32, 3), (9, .if_icmp .ge 73, 3), (12, .iconst 0, 1), (13, .istore 4, 2), (15, .iload 4, 2), (17, .iload_n 3, 1), (18, .if_icmp .ge 58, 3), (21, .aload_n 0, 1), (22, .getfield 24, 3), (25, .iload_n 3, 1), (26, .iload 4, 2), (28, .invokevirtual 59, 3), (31, .istore 5, 2), (33, .lload_n 1, 1), (34, .aload_n 0, 1), (35, .getfield 9, 3), (38, .iload_n 3, 1), (39, .iaload, 1), (40, .aload_n 0, 1), (41, .getfield 9, 3), (44, .iload 4, 2), (46, .iaload, 1), (47, .if_icmp .ne 14, 3), (50, .iload 5, 2), (52, .ineg, 1), (53, .iconst 0, 1), (54, .invokestatic 65, 3), (57, .i2l, 1), (58, .goto 10, 3), (61, .iload 5, 2), (63, .iconst 0, 1), (64, .invokestatic 65, 3), (67, .i2l, 1), (68, .ladd, 1), (69, .lstore_n 1, 1), (70, .iinc 4 1, 3), (73, .goto (-58), 3), (76, .iinc 3 1, 3), (79, .goto (-75), 3), (82, .lload_n 1, 1), (83, .lreturn, 1)]
set_option maxRecDepth 100000 in
theorem kX2_price_ok : kX2_price.all (fun q => decide (decode cX2_price q.1 = .ok q.2)) = true := by decide +kernel
theorem dX2_price_0 : decode cX2_price 0 = .ok (.lconst 0, 1) := dk_get kX2_price_ok 0 rfl
theorem dX2_price_1 : decode cX2_price 1 = .ok (.lstore_n 1, 1) := dk_get kX2_price_ok 1 rfl
theorem dX2_price_2 : decode cX2_price 2 = .ok (.iconst 1, 1) := dk_get kX2_price_ok 2 rfl
theorem dX2_price_3 : decode cX2_price 3 = .ok (.istore_n 3, 1) := dk_get kX2_price_ok 3 rfl
theorem dX2_price_4 : decode cX2_price 4 = .ok (.iload_n 3, 1) := dk_get kX2_price_ok 4 rfl
theorem dX2_price_5 : decode cX2_price 5 = .ok (.aload_n 0, 1) := dk_get kX2_price_ok 5 rfl
theorem dX2_price_6 : decode cX2_price 6 = .ok (.getfield 32, 3) := dk_get kX2_price_ok 6 rfl
theorem dX2_price_9 : decode cX2_price 9 = .ok (.if_icmp .ge 73, 3) := dk_get kX2_price_ok 7 rfl
theorem dX2_price_12 : decode cX2_price 12 = .ok (.iconst 0, 1) := dk_get kX2_price_ok 8 rfl
theorem dX2_price_13 : decode cX2_price 13 = .ok (.istore 4, 2) := dk_get kX2_price_ok 9 rfl
theorem dX2_price_15 : decode cX2_price 15 = .ok (.iload 4, 2) := dk_get kX2_price_ok 10 rfl
theorem dX2_price_17 : decode cX2_price 17 = .ok (.iload_n 3, 1) := dk_get kX2_price_ok 11 rfl
theorem dX2_price_18 : decode cX2_price 18 = .ok (.if_icmp .ge 58, 3) := dk_get kX2_price_ok 12 rfl
theorem dX2_price_21 : decode cX2_price 21 = .ok (.aload_n 0, 1) := dk_get kX2_price_ok 13 rfl
theorem dX2_price_22 : decode cX2_price 22 = .ok (.getfield 24, 3) := dk_get kX2_price_ok 14 rfl
theorem dX2_price_25 : decode cX2_price 25 = .ok (.iload_n 3, 1) := dk_get kX2_price_ok 15 rfl
theorem dX2_price_26 : decode cX2_price 26 = .ok (.iload 4, 2) := dk_get kX2_price_ok 16 rfl
theorem dX2_price_28 : decode cX2_price 28 = .ok (.invokevirtual 59, 3) := dk_get kX2_price_ok 17 rfl
theorem dX2_price_31 : decode cX2_price 31 = .ok (.istore 5, 2) := dk_get kX2_price_ok 18 rfl
theorem dX2_price_33 : decode cX2_price 33 = .ok (.lload_n 1, 1) := dk_get kX2_price_ok 19 rfl
theorem dX2_price_34 : decode cX2_price 34 = .ok (.aload_n 0, 1) := dk_get kX2_price_ok 20 rfl
theorem dX2_price_35 : decode cX2_price 35 = .ok (.getfield 9, 3) := dk_get kX2_price_ok 21 rfl
theorem dX2_price_38 : decode cX2_price 38 = .ok (.iload_n 3, 1) := dk_get kX2_price_ok 22 rfl
theorem dX2_price_39 : decode cX2_price 39 = .ok (.iaload, 1) := dk_get kX2_price_ok 23 rfl
theorem dX2_price_40 : decode cX2_price 40 = .ok (.aload_n 0, 1) := dk_get kX2_price_ok 24 rfl
theorem dX2_price_41 : decode cX2_price 41 = .ok (.getfield 9, 3) := dk_get kX2_price_ok 25 rfl
theorem dX2_price_44 : decode cX2_price 44 = .ok (.iload 4, 2) := dk_get kX2_price_ok 26 rfl
theorem dX2_price_46 : decode cX2_price 46 = .ok (.iaload, 1) := dk_get kX2_price_ok 27 rfl
theorem dX2_price_47 : decode cX2_price 47 = .ok (.if_icmp .ne 14, 3) := dk_get kX2_price_ok 28 rfl
theorem dX2_price_50 : decode cX2_price 50 = .ok (.iload 5, 2) := dk_get kX2_price_ok 29 rfl
theorem dX2_price_52 : decode cX2_price 52 = .ok (.ineg, 1) := dk_get kX2_price_ok 30 rfl
theorem dX2_price_53 : decode cX2_price 53 = .ok (.iconst 0, 1) := dk_get kX2_price_ok 31 rfl
theorem dX2_price_54 : decode cX2_price 54 = .ok (.invokestatic 65, 3) := dk_get kX2_price_ok 32 rfl
theorem dX2_price_57 : decode cX2_price 57 = .ok (.i2l, 1) := dk_get kX2_price_ok 33 rfl
theorem dX2_price_58 : decode cX2_price 58 = .ok (.goto 10, 3) := dk_get kX2_price_ok 34 rfl
theorem dX2_price_61 : decode cX2_price 61 = .ok (.iload 5, 2) := dk_get kX2_price_ok 35 rfl
theorem dX2_price_63 : decode cX2_price 63 = .ok (.iconst 0, 1) := dk_get kX2_price_ok 36 rfl
theorem dX2_price_64 : decode cX2_price 64 = .ok (.invokestatic 65, 3) := dk_get kX2_price_ok 37 rfl
theorem dX2_price_67 : decode cX2_price 67 = .ok (.i2l, 1) := dk_get kX2_price_ok 38 rfl
theorem dX2_price_68 : decode cX2_price 68 = .ok (.ladd, 1) := dk_get kX2_price_ok 39 rfl
theorem dX2_price_69 : decode cX2_price 69 = .ok (.lstore_n 1, 1) := dk_get kX2_price_ok 40 rfl
theorem dX2_price_70 : decode cX2_price 70 = .ok (.iinc 4 1, 3) := dk_get kX2_price_ok 41 rfl
theorem dX2_price_73 : decode cX2_price 73 = .ok (.goto (-58), 3) := dk_get kX2_price_ok 42 rfl
theorem dX2_price_76 : decode cX2_price 76 = .ok (.iinc 3 1, 3) := dk_get kX2_price_ok 43 rfl
theorem dX2_price_79 : decode cX2_price 79 = .ok (.goto (-75), 3) := dk_get kX2_price_ok 44 rfl
theorem dX2_price_82 : decode cX2_price 82 = .ok (.lload_n 1, 1) := dk_get kX2_price_ok 45 rfl
theorem dX2_price_83 : decode cX2_price 83 = .ok (.lreturn, 1) := dk_get kX2_price_ok 46 rfl
def kX2_offender : List (Nat × Instr × Nat) := [(0, .iconst 0, 1), (1, .istore_n 1, 1), (2, .iload_n 1, 1), (3, .aload_n 0, 1), (4, .getfield 32, 3), (7, .if_icmp .ge 19, 3), (10, .aload_n 0, 1), (11, .iload_n 1, 1), (12, .invokevirtual 70, 3), (15, .ifCond .eq 5, 3), (18, .iload_n 1, 1), (19, .ireturn, 1), (20, .iinc 1 1, 3), (23, .goto (-21), 3), (26, .iconst (-1), 1), (27, .ireturn, 1)]
set_option maxRecDepth 100000 in
theorem kX2_offender_ok : kX2_offender.all (fun q => decide (decode cX2_offender q.1 = .ok q.2)) = true := by decide +kernel
theorem dX2_offender_0 : decode cX2_offender 0 = .ok (.iconst 0, 1) := dk_get kX2_offender_ok 0 rfl
theorem dX2_offender_1 : decode cX2_offender 1 = .ok (.istore_n 1, 1) := dk_get kX2_offender_ok 1 rfl
theorem dX2_offender_2 : decode cX2_offender 2 = .ok (.iload_n 1, 1) := dk_get kX2_offender_ok 2 rfl
theorem dX2_offender_3 : decode cX2_offender 3 = .ok (.aload_n 0, 1) := dk_get kX2_offender_ok 3 rfl
theorem dX2_offender_4 : decode cX2_offender 4 = .ok (.getfield 32, 3) := dk_get kX2_offender_ok 4 rfl
theorem dX2_offender_7 : decode cX2_offender 7 = .ok (.if_icmp .ge 19, 3) := dk_get kX2_offender_ok 5 rfl
theorem dX2_offender_10 : decode cX2_offender 10 = .ok (.aload_n 0, 1) := dk_get kX2_offender_ok 6 rfl
theorem dX2_offender_11 : decode cX2_offender 11 = .ok (.iload_n 1, 1) := dk_get kX2_offender_ok 7 rfl
theorem dX2_offender_12 : decode cX2_offender 12 = .ok (.invokevirtual 70, 3) := dk_get kX2_offender_ok 8 rfl
theorem dX2_offender_15 : decode cX2_offender 15 = .ok (.ifCond .eq 5, 3) := dk_get kX2_offender_ok 9 rfl
theorem dX2_offender_18 : decode cX2_offender 18 = .ok (.iload_n 1, 1) := dk_get kX2_offender_ok 10 rfl
theorem dX2_offender_19 : decode cX2_offender 19 = .ok (.ireturn, 1) := dk_get kX2_offender_ok 11 rfl
theorem dX2_offender_20 : decode cX2_offender 20 = .ok (.iinc 1 1, 3) := dk_get kX2_offender_ok 12 rfl
theorem dX2_offender_23 : decode cX2_offender 23 = .ok (.goto (-21), 3) := dk_get kX2_offender_ok 13 rfl
theorem dX2_offender_26 : decode cX2_offender 26 = .ok (.iconst (-1), 1) := dk_get kX2_offender_ok 14 rfl
theorem dX2_offender_27 : decode cX2_offender 27 = .ok (.ireturn, 1) := dk_get kX2_offender_ok 15 rfl
def kX2_offends : List (Nat × Instr × Nat) := [(0, .iconst 0, 1), (1, .istore_n 2, 1), (2, .iconst 0, 1), (3, .istore_n 3, 1), (4, .iload_n 3, 1), (5, .iload_n 1, 1), (6, .if_icmp .ge 89, 3), (9, .aload_n 0, 1), (10, .getfield 9, 3), (13, .iload_n 3, 1), (14, .iaload, 1), (15, .aload_n 0, 1), (16, .getfield 9, 3), (19, .iload_n 1, 1), (20, .iaload, 1), (21, .if_icmp .ne 7, 3), (24, .iconst 1, 1), (25, .goto 4, 3), (28, .iconst 0, 1), (29, .istore 4, 2), (31, .iload 4, 2), (33, .ifCond .eq 6, 3), (36, .iinc 2 1, 3), (39, .aload_n 0, 1), (40, .getfield 28, 3), (43, .getfield 74, 3), (46, .iload_n 1, 1), (47, .iaload, 1), (48, .iload_n 3, 1), (49, .iushr, 1), (50, .iconst 1, 1), (51, .iand, 1), (52, .ifCond .eq 7, 3), (55, .iconst 1, 1), (56, .goto 4, 3), (59, .iconst 0, 1), (60, .istore 5, 2), (62, .iload 4, 2), (64, .ifCond .eq 18, 3), (67, .aload_n 0, 1), (68, .getfield 28, 3), (71, .iload_n 3, 1), (72, .iload_n 1, 1), (73, .invokevirtual 79, 3), (76, .ifCond .eq 13, 3), (79, .goto 8, 3), (82, .iload 5, 2), (84, .ifCond .eq 5, 3), (87, .iconst 1, 1), (88, .ireturn, 1), (89, .iinc 3 1, 3), (92, .goto (-88), 3), (95, .iload_n 2, 1), (96, .aload_n 0, 1), (97, .getfield 28, 3), (100, .invokevirtual 83, 3), (103, .if_icmp .lt 7, 3), (106, .iconst 1, 1), (107, .goto 4, 3), (110, .iconst 0, 1), (111, .ireturn, 1)]
set_option maxRecDepth 100000 in
theorem kX2_offends_ok : kX2_offends.all (fun q => decide (decode cX2_offends q.1 = .ok q.2)) = true := by decide +kernel
theorem dX2_offends_0 : decode cX2_offends 0 = .ok (.iconst 0, 1) := dk_get kX2_offends_ok 0 rfl
theorem dX2_offends_1 : decode cX2_offends 1 = .ok (.istore_n 2, 1) := dk_get kX2_offends_ok 1 rfl
theorem dX2_offends_2 : decode cX2_offends 2 = .ok (.iconst 0, 1) := dk_get kX2_offends_ok 2 rfl
theorem dX2_offends_3 : decode cX2_offends 3 = .ok (.istore_n 3, 1) := dk_get kX2_offends_ok 3 rfl
theorem dX2_offends_4 : decode cX2_offends 4 = .ok (.iload_n 3, 1) := dk_get kX2_offends_ok 4 rfl
theorem dX2_offends_5 : decode cX2_offends 5 = .ok (.iload_n 1, 1) := dk_get kX2_offends_ok 5 rfl
theorem dX2_offends_6 : decode cX2_offends 6 = .ok (.if_icmp .ge 89, 3) := dk_get kX2_offends_ok 6 rfl
theorem dX2_offends_9 : decode cX2_offends 9 = .ok (.aload_n 0, 1) := dk_get kX2_offends_ok 7 rfl
theorem dX2_offends_10 : decode cX2_offends 10 = .ok (.getfield 9, 3) := dk_get kX2_offends_ok 8 rfl
theorem dX2_offends_13 : decode cX2_offends 13 = .ok (.iload_n 3, 1) := dk_get kX2_offends_ok 9 rfl
theorem dX2_offends_14 : decode cX2_offends 14 = .ok (.iaload, 1) := dk_get kX2_offends_ok 10 rfl
theorem dX2_offends_15 : decode cX2_offends 15 = .ok (.aload_n 0, 1) := dk_get kX2_offends_ok 11 rfl
theorem dX2_offends_16 : decode cX2_offends 16 = .ok (.getfield 9, 3) := dk_get kX2_offends_ok 12 rfl
theorem dX2_offends_19 : decode cX2_offends 19 = .ok (.iload_n 1, 1) := dk_get kX2_offends_ok 13 rfl
theorem dX2_offends_20 : decode cX2_offends 20 = .ok (.iaload, 1) := dk_get kX2_offends_ok 14 rfl
theorem dX2_offends_21 : decode cX2_offends 21 = .ok (.if_icmp .ne 7, 3) := dk_get kX2_offends_ok 15 rfl
theorem dX2_offends_24 : decode cX2_offends 24 = .ok (.iconst 1, 1) := dk_get kX2_offends_ok 16 rfl
theorem dX2_offends_25 : decode cX2_offends 25 = .ok (.goto 4, 3) := dk_get kX2_offends_ok 17 rfl
theorem dX2_offends_28 : decode cX2_offends 28 = .ok (.iconst 0, 1) := dk_get kX2_offends_ok 18 rfl
theorem dX2_offends_29 : decode cX2_offends 29 = .ok (.istore 4, 2) := dk_get kX2_offends_ok 19 rfl
theorem dX2_offends_31 : decode cX2_offends 31 = .ok (.iload 4, 2) := dk_get kX2_offends_ok 20 rfl
theorem dX2_offends_33 : decode cX2_offends 33 = .ok (.ifCond .eq 6, 3) := dk_get kX2_offends_ok 21 rfl
theorem dX2_offends_36 : decode cX2_offends 36 = .ok (.iinc 2 1, 3) := dk_get kX2_offends_ok 22 rfl
theorem dX2_offends_39 : decode cX2_offends 39 = .ok (.aload_n 0, 1) := dk_get kX2_offends_ok 23 rfl
theorem dX2_offends_40 : decode cX2_offends 40 = .ok (.getfield 28, 3) := dk_get kX2_offends_ok 24 rfl
theorem dX2_offends_43 : decode cX2_offends 43 = .ok (.getfield 74, 3) := dk_get kX2_offends_ok 25 rfl
theorem dX2_offends_46 : decode cX2_offends 46 = .ok (.iload_n 1, 1) := dk_get kX2_offends_ok 26 rfl
theorem dX2_offends_47 : decode cX2_offends 47 = .ok (.iaload, 1) := dk_get kX2_offends_ok 27 rfl
theorem dX2_offends_48 : decode cX2_offends 48 = .ok (.iload_n 3, 1) := dk_get kX2_offends_ok 28 rfl
theorem dX2_offends_49 : decode cX2_offends 49 = .ok (.iushr, 1) := dk_get kX2_offends_ok 29 rfl
theorem dX2_offends_50 : decode cX2_offends 50 = .ok (.iconst 1, 1) := dk_get kX2_offends_ok 30 rfl
theorem dX2_offends_51 : decode cX2_offends 51 = .ok (.iand, 1) := dk_get kX2_offends_ok 31 rfl
theorem dX2_offends_52 : decode cX2_offends 52 = .ok (.ifCond .eq 7, 3) := dk_get kX2_offends_ok 32 rfl
theorem dX2_offends_55 : decode cX2_offends 55 = .ok (.iconst 1, 1) := dk_get kX2_offends_ok 33 rfl
theorem dX2_offends_56 : decode cX2_offends 56 = .ok (.goto 4, 3) := dk_get kX2_offends_ok 34 rfl
theorem dX2_offends_59 : decode cX2_offends 59 = .ok (.iconst 0, 1) := dk_get kX2_offends_ok 35 rfl
theorem dX2_offends_60 : decode cX2_offends 60 = .ok (.istore 5, 2) := dk_get kX2_offends_ok 36 rfl
theorem dX2_offends_62 : decode cX2_offends 62 = .ok (.iload 4, 2) := dk_get kX2_offends_ok 37 rfl
theorem dX2_offends_64 : decode cX2_offends 64 = .ok (.ifCond .eq 18, 3) := dk_get kX2_offends_ok 38 rfl
theorem dX2_offends_67 : decode cX2_offends 67 = .ok (.aload_n 0, 1) := dk_get kX2_offends_ok 39 rfl
theorem dX2_offends_68 : decode cX2_offends 68 = .ok (.getfield 28, 3) := dk_get kX2_offends_ok 40 rfl
theorem dX2_offends_71 : decode cX2_offends 71 = .ok (.iload_n 3, 1) := dk_get kX2_offends_ok 41 rfl
theorem dX2_offends_72 : decode cX2_offends 72 = .ok (.iload_n 1, 1) := dk_get kX2_offends_ok 42 rfl
theorem dX2_offends_73 : decode cX2_offends 73 = .ok (.invokevirtual 79, 3) := dk_get kX2_offends_ok 43 rfl
theorem dX2_offends_76 : decode cX2_offends 76 = .ok (.ifCond .eq 13, 3) := dk_get kX2_offends_ok 44 rfl
theorem dX2_offends_79 : decode cX2_offends 79 = .ok (.goto 8, 3) := dk_get kX2_offends_ok 45 rfl
theorem dX2_offends_82 : decode cX2_offends 82 = .ok (.iload 5, 2) := dk_get kX2_offends_ok 46 rfl
theorem dX2_offends_84 : decode cX2_offends 84 = .ok (.ifCond .eq 5, 3) := dk_get kX2_offends_ok 47 rfl
theorem dX2_offends_87 : decode cX2_offends 87 = .ok (.iconst 1, 1) := dk_get kX2_offends_ok 48 rfl
theorem dX2_offends_88 : decode cX2_offends 88 = .ok (.ireturn, 1) := dk_get kX2_offends_ok 49 rfl
theorem dX2_offends_89 : decode cX2_offends 89 = .ok (.iinc 3 1, 3) := dk_get kX2_offends_ok 50 rfl
theorem dX2_offends_92 : decode cX2_offends 92 = .ok (.goto (-88), 3) := dk_get kX2_offends_ok 51 rfl
theorem dX2_offends_95 : decode cX2_offends 95 = .ok (.iload_n 2, 1) := dk_get kX2_offends_ok 52 rfl
theorem dX2_offends_96 : decode cX2_offends 96 = .ok (.aload_n 0, 1) := dk_get kX2_offends_ok 53 rfl
theorem dX2_offends_97 : decode cX2_offends 97 = .ok (.getfield 28, 3) := dk_get kX2_offends_ok 54 rfl
theorem dX2_offends_100 : decode cX2_offends 100 = .ok (.invokevirtual 83, 3) := dk_get kX2_offends_ok 55 rfl
theorem dX2_offends_103 : decode cX2_offends 103 = .ok (.if_icmp .lt 7, 3) := dk_get kX2_offends_ok 56 rfl
theorem dX2_offends_106 : decode cX2_offends 106 = .ok (.iconst 1, 1) := dk_get kX2_offends_ok 57 rfl
theorem dX2_offends_107 : decode cX2_offends 107 = .ok (.goto 4, 3) := dk_get kX2_offends_ok 58 rfl
theorem dX2_offends_110 : decode cX2_offends 110 = .ok (.iconst 0, 1) := dk_get kX2_offends_ok 59 rfl
theorem dX2_offends_111 : decode cX2_offends 111 = .ok (.ireturn, 1) := dk_get kX2_offends_ok 60 rfl
def kX2_keep : List (Nat × Instr × Nat) := [(0, .aload_n 0, 1), (1, .getfield 87, 3), (4, .bipush 6, 2), (6, .if_icmp .lt 5, 3), (9, .iconst 0, 1), (10, .ireturn, 1), (11, .aload_n 0, 1), (12, .getfield 9, 3), (15, .iconst 0, 1), (16, .aload_n 0, 1), (17, .getfield 18, 3), (20, .aload_n 0, 1), (21, .getfield 87, 3), (24, .bipush 30, 2), (26, .imul, 1), (27, .aload_n 0, 1), (28, .getfield 32, 3), (31, .invokestatic 53, 3), (34, .aload_n 0, 1), (35, .getfield 21, 3), (38, .aload_n 0, 1), (39, .getfield 87, 3), (42, .aload_n 0, 1), (43, .getfield 32, 3), (46, .iastore, 1), (47, .aload_n 0, 1), (48, .dup, 1), (49, .getfield 87, 3), (52, .iconst 1, 1), (53, .iadd, 1), (54, .putfield 87, 3), (57, .iconst 1, 1), (58, .ireturn, 1)]
set_option maxRecDepth 100000 in
theorem kX2_keep_ok : kX2_keep.all (fun q => decide (decode cX2_keep q.1 = .ok q.2)) = true := by decide +kernel
theorem dX2_keep_0 : decode cX2_keep 0 = .ok (.aload_n 0, 1) := dk_get kX2_keep_ok 0 rfl
theorem dX2_keep_1 : decode cX2_keep 1 = .ok (.getfield 87, 3) := dk_get kX2_keep_ok 1 rfl
theorem dX2_keep_4 : decode cX2_keep 4 = .ok (.bipush 6, 2) := dk_get kX2_keep_ok 2 rfl
theorem dX2_keep_6 : decode cX2_keep 6 = .ok (.if_icmp .lt 5, 3) := dk_get kX2_keep_ok 3 rfl
theorem dX2_keep_9 : decode cX2_keep 9 = .ok (.iconst 0, 1) := dk_get kX2_keep_ok 4 rfl
theorem dX2_keep_10 : decode cX2_keep 10 = .ok (.ireturn, 1) := dk_get kX2_keep_ok 5 rfl
theorem dX2_keep_11 : decode cX2_keep 11 = .ok (.aload_n 0, 1) := dk_get kX2_keep_ok 6 rfl
theorem dX2_keep_12 : decode cX2_keep 12 = .ok (.getfield 9, 3) := dk_get kX2_keep_ok 7 rfl
theorem dX2_keep_15 : decode cX2_keep 15 = .ok (.iconst 0, 1) := dk_get kX2_keep_ok 8 rfl
theorem dX2_keep_16 : decode cX2_keep 16 = .ok (.aload_n 0, 1) := dk_get kX2_keep_ok 9 rfl
theorem dX2_keep_17 : decode cX2_keep 17 = .ok (.getfield 18, 3) := dk_get kX2_keep_ok 10 rfl
theorem dX2_keep_20 : decode cX2_keep 20 = .ok (.aload_n 0, 1) := dk_get kX2_keep_ok 11 rfl
theorem dX2_keep_21 : decode cX2_keep 21 = .ok (.getfield 87, 3) := dk_get kX2_keep_ok 12 rfl
theorem dX2_keep_24 : decode cX2_keep 24 = .ok (.bipush 30, 2) := dk_get kX2_keep_ok 13 rfl
theorem dX2_keep_26 : decode cX2_keep 26 = .ok (.imul, 1) := dk_get kX2_keep_ok 14 rfl
theorem dX2_keep_27 : decode cX2_keep 27 = .ok (.aload_n 0, 1) := dk_get kX2_keep_ok 15 rfl
theorem dX2_keep_28 : decode cX2_keep 28 = .ok (.getfield 32, 3) := dk_get kX2_keep_ok 16 rfl
theorem dX2_keep_31 : decode cX2_keep 31 = .ok (.invokestatic 53, 3) := dk_get kX2_keep_ok 17 rfl
theorem dX2_keep_34 : decode cX2_keep 34 = .ok (.aload_n 0, 1) := dk_get kX2_keep_ok 18 rfl
theorem dX2_keep_35 : decode cX2_keep 35 = .ok (.getfield 21, 3) := dk_get kX2_keep_ok 19 rfl
theorem dX2_keep_38 : decode cX2_keep 38 = .ok (.aload_n 0, 1) := dk_get kX2_keep_ok 20 rfl
theorem dX2_keep_39 : decode cX2_keep 39 = .ok (.getfield 87, 3) := dk_get kX2_keep_ok 21 rfl
theorem dX2_keep_42 : decode cX2_keep 42 = .ok (.aload_n 0, 1) := dk_get kX2_keep_ok 22 rfl
theorem dX2_keep_43 : decode cX2_keep 43 = .ok (.getfield 32, 3) := dk_get kX2_keep_ok 23 rfl
theorem dX2_keep_46 : decode cX2_keep 46 = .ok (.iastore, 1) := dk_get kX2_keep_ok 24 rfl
theorem dX2_keep_47 : decode cX2_keep 47 = .ok (.aload_n 0, 1) := dk_get kX2_keep_ok 25 rfl
theorem dX2_keep_48 : decode cX2_keep 48 = .ok (.dup, 1) := dk_get kX2_keep_ok 26 rfl
theorem dX2_keep_49 : decode cX2_keep 49 = .ok (.getfield 87, 3) := dk_get kX2_keep_ok 27 rfl
theorem dX2_keep_52 : decode cX2_keep 52 = .ok (.iconst 1, 1) := dk_get kX2_keep_ok 28 rfl
theorem dX2_keep_53 : decode cX2_keep 53 = .ok (.iadd, 1) := dk_get kX2_keep_ok 29 rfl
theorem dX2_keep_54 : decode cX2_keep 54 = .ok (.putfield 87, 3) := dk_get kX2_keep_ok 30 rfl
theorem dX2_keep_57 : decode cX2_keep 57 = .ok (.iconst 1, 1) := dk_get kX2_keep_ok 31 rfl
theorem dX2_keep_58 : decode cX2_keep 58 = .ok (.ireturn, 1) := dk_get kX2_keep_ok 32 rfl
def kX2_restore : List (Nat × Instr × Nat) := [(0, .aload_n 0, 1), (1, .getfield 87, 3), (4, .ifCond .gt 5, 3), (7, .iconst 0, 1), (8, .ireturn, 1), (9, .aload_n 0, 1), (10, .dup, 1), (11, .getfield 87, 3), (14, .iconst 1, 1), (15, .isub, 1), (16, .putfield 87, 3), (19, .aload_n 0, 1), (20, .getfield 21, 3), (23, .aload_n 0, 1), (24, .getfield 87, 3), (27, .iaload, 1), (28, .istore_n 1, 1), (29, .aload_n 0, 1), (30, .getfield 18, 3), (33, .aload_n 0, 1), (34, .getfield 87, 3), (37, .bipush 30, 2), (39, .imul, 1), (40, .aload_n 0, 1), (41, .getfield 9, 3), (44, .iconst 0, 1), (45, .iload_n 1, 1), (46, .invokestatic 53, 3), (49, .iload_n 1, 1), (50, .istore_n 2, 1), (51, .iload_n 2, 1), (52, .aload_n 0, 1), (53, .getfield 32, 3), (56, .if_icmp .ge 16, 3), (59, .aload_n 0, 1), (60, .getfield 9, 3), (63, .iload_n 2, 1), (64, .iload_n 2, 1), (65, .iastore, 1), (66, .iinc 2 1, 3), (69, .goto (-18), 3), (72, .iconst 1, 1), (73, .ireturn, 1)]
set_option maxRecDepth 100000 in
theorem kX2_restore_ok : kX2_restore.all (fun q => decide (decode cX2_restore q.1 = .ok q.2)) = true := by decide +kernel
theorem dX2_restore_0 : decode cX2_restore 0 = .ok (.aload_n 0, 1) := dk_get kX2_restore_ok 0 rfl
theorem dX2_restore_1 : decode cX2_restore 1 = .ok (.getfield 87, 3) := dk_get kX2_restore_ok 1 rfl
theorem dX2_restore_4 : decode cX2_restore 4 = .ok (.ifCond .gt 5, 3) := dk_get kX2_restore_ok 2 rfl
theorem dX2_restore_7 : decode cX2_restore 7 = .ok (.iconst 0, 1) := dk_get kX2_restore_ok 3 rfl
theorem dX2_restore_8 : decode cX2_restore 8 = .ok (.ireturn, 1) := dk_get kX2_restore_ok 4 rfl
theorem dX2_restore_9 : decode cX2_restore 9 = .ok (.aload_n 0, 1) := dk_get kX2_restore_ok 5 rfl
theorem dX2_restore_10 : decode cX2_restore 10 = .ok (.dup, 1) := dk_get kX2_restore_ok 6 rfl
theorem dX2_restore_11 : decode cX2_restore 11 = .ok (.getfield 87, 3) := dk_get kX2_restore_ok 7 rfl
theorem dX2_restore_14 : decode cX2_restore 14 = .ok (.iconst 1, 1) := dk_get kX2_restore_ok 8 rfl
theorem dX2_restore_15 : decode cX2_restore 15 = .ok (.isub, 1) := dk_get kX2_restore_ok 9 rfl
theorem dX2_restore_16 : decode cX2_restore 16 = .ok (.putfield 87, 3) := dk_get kX2_restore_ok 10 rfl
theorem dX2_restore_19 : decode cX2_restore 19 = .ok (.aload_n 0, 1) := dk_get kX2_restore_ok 11 rfl
theorem dX2_restore_20 : decode cX2_restore 20 = .ok (.getfield 21, 3) := dk_get kX2_restore_ok 12 rfl
theorem dX2_restore_23 : decode cX2_restore 23 = .ok (.aload_n 0, 1) := dk_get kX2_restore_ok 13 rfl
theorem dX2_restore_24 : decode cX2_restore 24 = .ok (.getfield 87, 3) := dk_get kX2_restore_ok 14 rfl
theorem dX2_restore_27 : decode cX2_restore 27 = .ok (.iaload, 1) := dk_get kX2_restore_ok 15 rfl
theorem dX2_restore_28 : decode cX2_restore 28 = .ok (.istore_n 1, 1) := dk_get kX2_restore_ok 16 rfl
theorem dX2_restore_29 : decode cX2_restore 29 = .ok (.aload_n 0, 1) := dk_get kX2_restore_ok 17 rfl
theorem dX2_restore_30 : decode cX2_restore 30 = .ok (.getfield 18, 3) := dk_get kX2_restore_ok 18 rfl
theorem dX2_restore_33 : decode cX2_restore 33 = .ok (.aload_n 0, 1) := dk_get kX2_restore_ok 19 rfl
theorem dX2_restore_34 : decode cX2_restore 34 = .ok (.getfield 87, 3) := dk_get kX2_restore_ok 20 rfl
theorem dX2_restore_37 : decode cX2_restore 37 = .ok (.bipush 30, 2) := dk_get kX2_restore_ok 21 rfl
theorem dX2_restore_39 : decode cX2_restore 39 = .ok (.imul, 1) := dk_get kX2_restore_ok 22 rfl
theorem dX2_restore_40 : decode cX2_restore 40 = .ok (.aload_n 0, 1) := dk_get kX2_restore_ok 23 rfl
theorem dX2_restore_41 : decode cX2_restore 41 = .ok (.getfield 9, 3) := dk_get kX2_restore_ok 24 rfl
theorem dX2_restore_44 : decode cX2_restore 44 = .ok (.iconst 0, 1) := dk_get kX2_restore_ok 25 rfl
theorem dX2_restore_45 : decode cX2_restore 45 = .ok (.iload_n 1, 1) := dk_get kX2_restore_ok 26 rfl
theorem dX2_restore_46 : decode cX2_restore 46 = .ok (.invokestatic 53, 3) := dk_get kX2_restore_ok 27 rfl
theorem dX2_restore_49 : decode cX2_restore 49 = .ok (.iload_n 1, 1) := dk_get kX2_restore_ok 28 rfl
theorem dX2_restore_50 : decode cX2_restore 50 = .ok (.istore_n 2, 1) := dk_get kX2_restore_ok 29 rfl
theorem dX2_restore_51 : decode cX2_restore 51 = .ok (.iload_n 2, 1) := dk_get kX2_restore_ok 30 rfl
theorem dX2_restore_52 : decode cX2_restore 52 = .ok (.aload_n 0, 1) := dk_get kX2_restore_ok 31 rfl
theorem dX2_restore_53 : decode cX2_restore 53 = .ok (.getfield 32, 3) := dk_get kX2_restore_ok 32 rfl
theorem dX2_restore_56 : decode cX2_restore 56 = .ok (.if_icmp .ge 16, 3) := dk_get kX2_restore_ok 33 rfl
theorem dX2_restore_59 : decode cX2_restore 59 = .ok (.aload_n 0, 1) := dk_get kX2_restore_ok 34 rfl
theorem dX2_restore_60 : decode cX2_restore 60 = .ok (.getfield 9, 3) := dk_get kX2_restore_ok 35 rfl
theorem dX2_restore_63 : decode cX2_restore 63 = .ok (.iload_n 2, 1) := dk_get kX2_restore_ok 36 rfl
theorem dX2_restore_64 : decode cX2_restore 64 = .ok (.iload_n 2, 1) := dk_get kX2_restore_ok 37 rfl
theorem dX2_restore_65 : decode cX2_restore 65 = .ok (.iastore, 1) := dk_get kX2_restore_ok 38 rfl
theorem dX2_restore_66 : decode cX2_restore 66 = .ok (.iinc 2 1, 3) := dk_get kX2_restore_ok 39 rfl
theorem dX2_restore_69 : decode cX2_restore 69 = .ok (.goto (-18), 3) := dk_get kX2_restore_ok 40 rfl
theorem dX2_restore_72 : decode cX2_restore 72 = .ok (.iconst 1, 1) := dk_get kX2_restore_ok 41 rfl
theorem dX2_restore_73 : decode cX2_restore 73 = .ok (.ireturn, 1) := dk_get kX2_restore_ok 42 rfl
def kX3_init : List (Nat × Instr × Nat) := [(0, .aload_n 0, 1), (1, .invokespecial 3, 3), (4, .aload_n 0, 1), (5, .bipush 30, 2), (7, .newarray .int, 2), (9, .putfield 9, 3), (12, .aload_n 0, 1), (13, .bipush 30, 2), (15, .newarray .int, 2), (17, .putfield 15, 3), (20, .aload_n 0, 1), (21, .iconst (-1), 1), (22, .putfield 18, 3), (25, .aload_n 0, 1), (26, .aload_n 1, 1), (27, .putfield 22, 3), (30, .aload_n 0, 1), (31, .aload_n 2, 1), (32, .putfield 26, 3), (35, .return_, 1)]
set_option maxRecDepth 100000 in
theorem kX3_init_ok : kX3_init.all (fun q => decide (decode cX3_init q.1 = .ok q.2)) = true := by decide +kernel
theorem dX3_init_0 : decode cX3_init 0 = .ok (.aload_n 0, 1) := dk_get kX3_init_ok 0 rfl
theorem dX3_init_1 : decode cX3_init 1 = .ok (.invokespecial 3, 3) := dk_get kX3_init_ok 1 rfl
theorem dX3_init_4 : decode cX3_init 4 = .ok (.aload_n 0, 1) := dk_get kX3_init_ok 2 rfl
theorem dX3_init_5 : decode cX3_init 5 = .ok (.bipush 30, 2) := dk_get kX3_init_ok 3 rfl
theorem dX3_init_7 : decode cX3_init 7 = .ok (.newarray .int, 2) := dk_get kX3_init_ok 4 rfl
theorem dX3_init_9 : decode cX3_init 9 = .ok (.putfield 9, 3) := dk_get kX3_init_ok 5 rfl
theorem dX3_init_12 : decode cX3_init 12 = .ok (.aload_n 0, 1) := dk_get kX3_init_ok 6 rfl
theorem dX3_init_13 : decode cX3_init 13 = .ok (.bipush 30, 2) := dk_get kX3_init_ok 7 rfl
theorem dX3_init_15 : decode cX3_init 15 = .ok (.newarray .int, 2) := dk_get kX3_init_ok 8 rfl
theorem dX3_init_17 : decode cX3_init 17 = .ok (.putfield 15, 3) := dk_get kX3_init_ok 9 rfl
theorem dX3_init_20 : decode cX3_init 20 = .ok (.aload_n 0, 1) := dk_get kX3_init_ok 10 rfl
theorem dX3_init_21 : decode cX3_init 21 = .ok (.iconst (-1), 1) := dk_get kX3_init_ok 11 rfl
theorem dX3_init_22 : decode cX3_init 22 = .ok (.putfield 18, 3) := dk_get kX3_init_ok 12 rfl
theorem dX3_init_25 : decode cX3_init 25 = .ok (.aload_n 0, 1) := dk_get kX3_init_ok 13 rfl
theorem dX3_init_26 : decode cX3_init 26 = .ok (.aload_n 1, 1) := dk_get kX3_init_ok 14 rfl
theorem dX3_init_27 : decode cX3_init 27 = .ok (.putfield 22, 3) := dk_get kX3_init_ok 15 rfl
theorem dX3_init_30 : decode cX3_init 30 = .ok (.aload_n 0, 1) := dk_get kX3_init_ok 16 rfl
theorem dX3_init_31 : decode cX3_init 31 = .ok (.aload_n 2, 1) := dk_get kX3_init_ok 17 rfl
theorem dX3_init_32 : decode cX3_init 32 = .ok (.putfield 26, 3) := dk_get kX3_init_ok 18 rfl
theorem dX3_init_35 : decode cX3_init 35 = .ok (.return_, 1) := dk_get kX3_init_ok 19 rfl
def kX3_change : List (Nat × Instr × Nat) := [(0, .iload_n 1, 1), (1, .ifCond .ne 10, 3), (4, .aload_n 0, 1), (5, .getfield 30, 3), (8, .goto 19, 3), (11, .iload_n 1, 1), (12, .iconst 1, 1), (13, .if_icmp .ne 10, 3), (16, .aload_n 0, 1), (17, .getfield 33, 3), (20, .goto 7, 3), (23, .aload_n 0, 1), (24, .getfield 18, 3), (27, .istore_n 3, 1), (28, .iload_n 1, 1), (29, .ifCond .ne 11, 3), (32, .aload_n 0, 1), (33, .iload_n 2, 1), (34, .putfield 30, 3), (37, .goto 21, 3), (40, .iload_n 1, 1), (41, .iconst 1, 1), (42, .if_icmp .ne 11, 3), (45, .aload_n 0, 1), (46, .iload_n 2, 1), (47, .putfield 33, 3), (50, .goto 8, 3), (53, .aload_n 0, 1), (54, .iload_n 2, 1), (55, .putfield 18, 3), (58, .iload_n 3, 1), (59, .ireturn, 1)]
set_option maxRecDepth 100000 in
theorem kX3_change_ok : kX3_change.all (fun q => decide (decode cX3_change q.1 = .ok q.2)) = true := by decide +kernel
theorem dX3_change_0 : decode cX3_change 0 = .ok (.iload_n 1, 1) := dk_get kX3_change_ok 0 rfl
theorem dX3_change_1 : decode cX3_change 1 = .ok (.ifCond .ne 10, 3) := dk_get kX3_change_ok 1 rfl
theorem dX3_change_4 : decode cX3_change 4 = .ok (.aload_n 0, 1) := dk_get kX3_change_ok 2 rfl
theorem dX3_change_5 : decode cX3_change 5 = .ok (.getfield 30, 3) := dk_get kX3_change_ok 3 rfl
theorem dX3_change_8 : decode cX3_change 8 = .ok (.goto 19, 3) := dk_get kX3_change_ok 4 rfl
theorem dX3_change_11 : decode cX3_change 11 = .ok (.iload_n 1, 1) := dk_get kX3_change_ok 5 rfl
theorem dX3_change_12 : decode cX3_change 12 = .ok (.iconst 1, 1) := dk_get kX3_change_ok 6 rfl
theorem dX3_change_13 : decode cX3_change 13 = .ok (.if_icmp .ne 10, 3) := dk_get kX3_change_ok 7 rfl
theorem dX3_change_16 : decode cX3_change 16 = .ok (.aload_n 0, 1) := dk_get kX3_change_ok 8 rfl
theorem dX3_change_17 : decode cX3_change 17 = .ok (.getfield 33, 3) := dk_get kX3_change_ok 9 rfl
theorem dX3_change_20 : decode cX3_change 20 = .ok (.goto 7, 3) := dk_get kX3_change_ok 10 rfl
theorem dX3_change_23 : decode cX3_change 23 = .ok (.aload_n 0, 1) := dk_get kX3_change_ok 11 rfl
theorem dX3_change_24 : decode cX3_change 24 = .ok (.getfield 18, 3) := dk_get kX3_change_ok 12 rfl
theorem dX3_change_27 : decode cX3_change 27 = .ok (.istore_n 3, 1) := dk_get kX3_change_ok 13 rfl
theorem dX3_change_28 : decode cX3_change 28 = .ok (.iload_n 1, 1) := dk_get kX3_change_ok 14 rfl
theorem dX3_change_29 : decode cX3_change 29 = .ok (.ifCond .ne 11, 3) := dk_get kX3_change_ok 15 rfl
theorem dX3_change_32 : decode cX3_change 32 = .ok (.aload_n 0, 1) := dk_get kX3_change_ok 16 rfl
theorem dX3_change_33 : decode cX3_change 33 = .ok (.iload_n 2, 1) := dk_get kX3_change_ok 17 rfl
theorem dX3_change_34 : decode cX3_change 34 = .ok (.putfield 30, 3) := dk_get kX3_change_ok 18 rfl
theorem dX3_change_37 : decode cX3_change 37 = .ok (.goto 21, 3) := dk_get kX3_change_ok 19 rfl
theorem dX3_change_40 : decode cX3_change 40 = .ok (.iload_n 1, 1) := dk_get kX3_change_ok 20 rfl
theorem dX3_change_41 : decode cX3_change 41 = .ok (.iconst 1, 1) := dk_get kX3_change_ok 21 rfl
theorem dX3_change_42 : decode cX3_change 42 = .ok (.if_icmp .ne 11, 3) := dk_get kX3_change_ok 22 rfl
theorem dX3_change_45 : decode cX3_change 45 = .ok (.aload_n 0, 1) := dk_get kX3_change_ok 23 rfl
theorem dX3_change_46 : decode cX3_change 46 = .ok (.iload_n 2, 1) := dk_get kX3_change_ok 24 rfl
theorem dX3_change_47 : decode cX3_change 47 = .ok (.putfield 33, 3) := dk_get kX3_change_ok 25 rfl
theorem dX3_change_50 : decode cX3_change 50 = .ok (.goto 8, 3) := dk_get kX3_change_ok 26 rfl
theorem dX3_change_53 : decode cX3_change 53 = .ok (.aload_n 0, 1) := dk_get kX3_change_ok 27 rfl
theorem dX3_change_54 : decode cX3_change 54 = .ok (.iload_n 2, 1) := dk_get kX3_change_ok 28 rfl
theorem dX3_change_55 : decode cX3_change 55 = .ok (.putfield 18, 3) := dk_get kX3_change_ok 29 rfl
theorem dX3_change_58 : decode cX3_change 58 = .ok (.iload_n 3, 1) := dk_get kX3_change_ok 30 rfl
theorem dX3_change_59 : decode cX3_change 59 = .ok (.ireturn, 1) := dk_get kX3_change_ok 31 rfl
def kX3_roomOfHeap : List (Nat × Instr × Nat) := [(0, .aload_n 0, 1), (1, .getfield 30, 3), (4, .ifCond .ne 8, 3), (7, .bipush 30, 2), (9, .goto 7, 3), (12, .aload_n 0, 1), (13, .getfield 30, 3), (16, .ireturn, 1)]
set_option maxRecDepth 100000 in
theorem kX3_roomOfHeap_ok : kX3_roomOfHeap.all (fun q => decide (decode cX3_roomOfHeap q.1 = .ok q.2)) = true := by decide +kernel
theorem dX3_roomOfHeap_0 : decode cX3_roomOfHeap 0 = .ok (.aload_n 0, 1) := dk_get kX3_roomOfHeap_ok 0 rfl
theorem dX3_roomOfHeap_1 : decode cX3_roomOfHeap 1 = .ok (.getfield 30, 3) := dk_get kX3_roomOfHeap_ok 1 rfl
theorem dX3_roomOfHeap_4 : decode cX3_roomOfHeap 4 = .ok (.ifCond .ne 8, 3) := dk_get kX3_roomOfHeap_ok 2 rfl
theorem dX3_roomOfHeap_7 : decode cX3_roomOfHeap 7 = .ok (.bipush 30, 2) := dk_get kX3_roomOfHeap_ok 3 rfl
theorem dX3_roomOfHeap_9 : decode cX3_roomOfHeap 9 = .ok (.goto 7, 3) := dk_get kX3_roomOfHeap_ok 4 rfl
theorem dX3_roomOfHeap_12 : decode cX3_roomOfHeap 12 = .ok (.aload_n 0, 1) := dk_get kX3_roomOfHeap_ok 5 rfl
theorem dX3_roomOfHeap_13 : decode cX3_roomOfHeap 13 = .ok (.getfield 30, 3) := dk_get kX3_roomOfHeap_ok 6 rfl
theorem dX3_roomOfHeap_16 : decode cX3_roomOfHeap 16 = .ok (.ireturn, 1) := dk_get kX3_roomOfHeap_ok 7 rfl
def kX3_isFixed : List (Nat × Instr × Nat) := [(0, .aload_n 0, 1), (1, .getfield 9, 3), (4, .iload_n 1, 1), (5, .iaload, 1), (6, .aload_n 0, 1), (7, .getfield 15, 3), (10, .iload_n 1, 1), (11, .iaload, 1), (12, .ior, 1), (13, .iload_n 2, 1), (14, .iushr, 1), (15, .iconst 1, 1), (16, .iand, 1), (17, .ifCond .eq 7, 3), (20, .iconst 1, 1), (21, .goto 4, 3), (24, .iconst 0, 1), (25, .ireturn, 1)]
set_option maxRecDepth 100000 in
theorem kX3_isFixed_ok : kX3_isFixed.all (fun q => decide (decode cX3_isFixed q.1 = .ok q.2)) = true := by decide +kernel
theorem dX3_isFixed_0 : decode cX3_isFixed 0 = .ok (.aload_n 0, 1) := dk_get kX3_isFixed_ok 0 rfl
theorem dX3_isFixed_1 : decode cX3_isFixed 1 = .ok (.getfield 9, 3) := dk_get kX3_isFixed_ok 1 rfl
theorem dX3_isFixed_4 : decode cX3_isFixed 4 = .ok (.iload_n 1, 1) := dk_get kX3_isFixed_ok 2 rfl
theorem dX3_isFixed_5 : decode cX3_isFixed 5 = .ok (.iaload, 1) := dk_get kX3_isFixed_ok 3 rfl
theorem dX3_isFixed_6 : decode cX3_isFixed 6 = .ok (.aload_n 0, 1) := dk_get kX3_isFixed_ok 4 rfl
theorem dX3_isFixed_7 : decode cX3_isFixed 7 = .ok (.getfield 15, 3) := dk_get kX3_isFixed_ok 5 rfl
theorem dX3_isFixed_10 : decode cX3_isFixed 10 = .ok (.iload_n 1, 1) := dk_get kX3_isFixed_ok 6 rfl
theorem dX3_isFixed_11 : decode cX3_isFixed 11 = .ok (.iaload, 1) := dk_get kX3_isFixed_ok 7 rfl
theorem dX3_isFixed_12 : decode cX3_isFixed 12 = .ok (.ior, 1) := dk_get kX3_isFixed_ok 8 rfl
theorem dX3_isFixed_13 : decode cX3_isFixed 13 = .ok (.iload_n 2, 1) := dk_get kX3_isFixed_ok 9 rfl
theorem dX3_isFixed_14 : decode cX3_isFixed 14 = .ok (.iushr, 1) := dk_get kX3_isFixed_ok 10 rfl
theorem dX3_isFixed_15 : decode cX3_isFixed 15 = .ok (.iconst 1, 1) := dk_get kX3_isFixed_ok 11 rfl
theorem dX3_isFixed_16 : decode cX3_isFixed 16 = .ok (.iand, 1) := dk_get kX3_isFixed_ok 12 rfl
theorem dX3_isFixed_17 : decode cX3_isFixed 17 = .ok (.ifCond .eq 7, 3) := dk_get kX3_isFixed_ok 13 rfl
theorem dX3_isFixed_20 : decode cX3_isFixed 20 = .ok (.iconst 1, 1) := dk_get kX3_isFixed_ok 14 rfl
theorem dX3_isFixed_21 : decode cX3_isFixed 21 = .ok (.goto 4, 3) := dk_get kX3_isFixed_ok 15 rfl
theorem dX3_isFixed_24 : decode cX3_isFixed 24 = .ok (.iconst 0, 1) := dk_get kX3_isFixed_ok 16 rfl
theorem dX3_isFixed_25 : decode cX3_isFixed 25 = .ok (.ireturn, 1) := dk_get kX3_isFixed_ok 17 rfl
def kX3_bind : List (Nat × Instr × Nat) := [(0, .iload_n 3, 1), (1, .ifCond .eq 10, 3), (4, .aload_n 0, 1), (5, .getfield 9, 3), (8, .goto 7, 3), (11, .aload_n 0, 1), (12, .getfield 15, 3), (15, .iload_n 1, 1), (16, .iload_n 2, 1), (17, .iconst 1, 1), (18, .invokestatic 36, 3), (21, .aload_n 0, 1), (22, .dup, 1), (23, .getfield 40, 3), (26, .iconst 1, 1), (27, .iadd, 1), (28, .putfield 40, 3), (31, .return_, 1)]
set_option maxRecDepth 100000 in
theorem kX3_bind_ok : kX3_bind.all (fun q => decide (decode cX3_bind q.1 = .ok q.2)) = true := by decide +kernel
theorem dX3_bind_0 : decode cX3_bind 0 = .ok (.iload_n 3, 1) := dk_get kX3_bind_ok 0 rfl
theorem dX3_bind_1 : decode cX3_bind 1 = .ok (.ifCond .eq 10, 3) := dk_get kX3_bind_ok 1 rfl
theorem dX3_bind_4 : decode cX3_bind 4 = .ok (.aload_n 0, 1) := dk_get kX3_bind_ok 2 rfl
theorem dX3_bind_5 : decode cX3_bind 5 = .ok (.getfield 9, 3) := dk_get kX3_bind_ok 3 rfl
theorem dX3_bind_8 : decode cX3_bind 8 = .ok (.goto 7, 3) := dk_get kX3_bind_ok 4 rfl
theorem dX3_bind_11 : decode cX3_bind 11 = .ok (.aload_n 0, 1) := dk_get kX3_bind_ok 5 rfl
theorem dX3_bind_12 : decode cX3_bind 12 = .ok (.getfield 15, 3) := dk_get kX3_bind_ok 6 rfl
theorem dX3_bind_15 : decode cX3_bind 15 = .ok (.iload_n 1, 1) := dk_get kX3_bind_ok 7 rfl
theorem dX3_bind_16 : decode cX3_bind 16 = .ok (.iload_n 2, 1) := dk_get kX3_bind_ok 8 rfl
theorem dX3_bind_17 : decode cX3_bind 17 = .ok (.iconst 1, 1) := dk_get kX3_bind_ok 9 rfl
theorem dX3_bind_18 : decode cX3_bind 18 = .ok (.invokestatic 36, 3) := dk_get kX3_bind_ok 10 rfl
theorem dX3_bind_21 : decode cX3_bind 21 = .ok (.aload_n 0, 1) := dk_get kX3_bind_ok 11 rfl
theorem dX3_bind_22 : decode cX3_bind 22 = .ok (.dup, 1) := dk_get kX3_bind_ok 12 rfl
theorem dX3_bind_23 : decode cX3_bind 23 = .ok (.getfield 40, 3) := dk_get kX3_bind_ok 13 rfl
theorem dX3_bind_26 : decode cX3_bind 26 = .ok (.iconst 1, 1) := dk_get kX3_bind_ok 14 rfl
theorem dX3_bind_27 : decode cX3_bind 27 = .ok (.iadd, 1) := dk_get kX3_bind_ok 15 rfl
theorem dX3_bind_28 : decode cX3_bind 28 = .ok (.putfield 40, 3) := dk_get kX3_bind_ok 16 rfl
theorem dX3_bind_31 : decode cX3_bind 31 = .ok (.return_, 1) := dk_get kX3_bind_ok 17 rfl
def kX3_unbind : List (Nat × Instr × Nat) := [(0, .aload_n 0, 1), (1, .getfield 9, 3), (4, .iload_n 1, 1), (5, .iload_n 2, 1), (6, .iconst 0, 1), (7, .invokestatic 36, 3), (10, .aload_n 0, 1), (11, .getfield 15, 3), (14, .iload_n 1, 1), (15, .iload_n 2, 1), (16, .iconst 0, 1), (17, .invokestatic 36, 3), (20, .aload_n 0, 1), (21, .dup, 1), (22, .getfield 40, 3), (25, .iconst 1, 1), (26, .isub, 1), (27, .putfield 40, 3), (30, .return_, 1)]
set_option maxRecDepth 100000 in
theorem kX3_unbind_ok : kX3_unbind.all (fun q => decide (decode cX3_unbind q.1 = .ok q.2)) = true := by decide +kernel
theorem dX3_unbind_0 : decode cX3_unbind 0 = .ok (.aload_n 0, 1) := dk_get kX3_unbind_ok 0 rfl
theorem dX3_unbind_1 : decode cX3_unbind 1 = .ok (.getfield 9, 3) := dk_get kX3_unbind_ok 1 rfl
theorem dX3_unbind_4 : decode cX3_unbind 4 = .ok (.iload_n 1, 1) := dk_get kX3_unbind_ok 2 rfl
theorem dX3_unbind_5 : decode cX3_unbind 5 = .ok (.iload_n 2, 1) := dk_get kX3_unbind_ok 3 rfl
theorem dX3_unbind_6 : decode cX3_unbind 6 = .ok (.iconst 0, 1) := dk_get kX3_unbind_ok 4 rfl
theorem dX3_unbind_7 : decode cX3_unbind 7 = .ok (.invokestatic 36, 3) := dk_get kX3_unbind_ok 5 rfl
theorem dX3_unbind_10 : decode cX3_unbind 10 = .ok (.aload_n 0, 1) := dk_get kX3_unbind_ok 6 rfl
theorem dX3_unbind_11 : decode cX3_unbind 11 = .ok (.getfield 15, 3) := dk_get kX3_unbind_ok 7 rfl
theorem dX3_unbind_14 : decode cX3_unbind 14 = .ok (.iload_n 1, 1) := dk_get kX3_unbind_ok 8 rfl
theorem dX3_unbind_15 : decode cX3_unbind 15 = .ok (.iload_n 2, 1) := dk_get kX3_unbind_ok 9 rfl
theorem dX3_unbind_16 : decode cX3_unbind 16 = .ok (.iconst 0, 1) := dk_get kX3_unbind_ok 10 rfl
theorem dX3_unbind_17 : decode cX3_unbind 17 = .ok (.invokestatic 36, 3) := dk_get kX3_unbind_ok 11 rfl
theorem dX3_unbind_20 : decode cX3_unbind 20 = .ok (.aload_n 0, 1) := dk_get kX3_unbind_ok 12 rfl
theorem dX3_unbind_21 : decode cX3_unbind 21 = .ok (.dup, 1) := dk_get kX3_unbind_ok 13 rfl
theorem dX3_unbind_22 : decode cX3_unbind 22 = .ok (.getfield 40, 3) := dk_get kX3_unbind_ok 14 rfl
theorem dX3_unbind_25 : decode cX3_unbind 25 = .ok (.iconst 1, 1) := dk_get kX3_unbind_ok 15 rfl
theorem dX3_unbind_26 : decode cX3_unbind 26 = .ok (.isub, 1) := dk_get kX3_unbind_ok 16 rfl
theorem dX3_unbind_27 : decode cX3_unbind 27 = .ok (.putfield 40, 3) := dk_get kX3_unbind_ok 17 rfl
theorem dX3_unbind_30 : decode cX3_unbind 30 = .ok (.return_, 1) := dk_get kX3_unbind_ok 18 rfl
def kX3_partsThem : List (Nat × Instr × Nat) := [(0, .aload_n 0, 1), (1, .getfield 26, 3), (4, .iload_n 1, 1), (5, .iload_n 2, 1), (6, .invokevirtual 43, 3), (9, .ifCond .ne 60, 3), (12, .aload_n 0, 1), (13, .getfield 15, 3), (16, .iload_n 1, 1), (17, .iaload, 1), (18, .iload_n 2, 1), (19, .iushr, 1), (20, .iconst 1, 1), (21, .iand, 1), (22, .ifCond .ne 47, 3), (25, .aload_n 0, 1), (26, .getfield 33, 3), (29, .iconst 1, 1), (30, .if_icmp .ne 15, 3), (33, .aload_n 0, 1), (34, .getfield 22, 3), (37, .iload_n 1, 1), (38, .iload_n 2, 1), (39, .invokevirtual 49, 3), (42, .ifCond .ne 27, 3), (45, .aload_n 0, 1), (46, .getfield 18, 3), (49, .iconst (-1), 1), (50, .if_icmp .eq 23, 3), (53, .aload_n 0, 1), (54, .getfield 22, 3), (57, .iload_n 1, 1), (58, .iload_n 2, 1), (59, .invokevirtual 54, 3), (62, .aload_n 0, 1), (63, .getfield 18, 3), (66, .if_icmp .le 7, 3), (69, .iconst 1, 1), (70, .goto 4, 3), (73, .iconst 0, 1), (74, .ireturn, 1)]
set_option maxRecDepth 100000 in
theorem kX3_partsThem_ok : kX3_partsThem.all (fun q => decide (decode cX3_partsThem q.1 = .ok q.2)) = true := by decide +kernel
theorem dX3_partsThem_0 : decode cX3_partsThem 0 = .ok (.aload_n 0, 1) := dk_get kX3_partsThem_ok 0 rfl
theorem dX3_partsThem_1 : decode cX3_partsThem 1 = .ok (.getfield 26, 3) := dk_get kX3_partsThem_ok 1 rfl
theorem dX3_partsThem_4 : decode cX3_partsThem 4 = .ok (.iload_n 1, 1) := dk_get kX3_partsThem_ok 2 rfl
theorem dX3_partsThem_5 : decode cX3_partsThem 5 = .ok (.iload_n 2, 1) := dk_get kX3_partsThem_ok 3 rfl
theorem dX3_partsThem_6 : decode cX3_partsThem 6 = .ok (.invokevirtual 43, 3) := dk_get kX3_partsThem_ok 4 rfl
theorem dX3_partsThem_9 : decode cX3_partsThem 9 = .ok (.ifCond .ne 60, 3) := dk_get kX3_partsThem_ok 5 rfl
theorem dX3_partsThem_12 : decode cX3_partsThem 12 = .ok (.aload_n 0, 1) := dk_get kX3_partsThem_ok 6 rfl
theorem dX3_partsThem_13 : decode cX3_partsThem 13 = .ok (.getfield 15, 3) := dk_get kX3_partsThem_ok 7 rfl
theorem dX3_partsThem_16 : decode cX3_partsThem 16 = .ok (.iload_n 1, 1) := dk_get kX3_partsThem_ok 8 rfl
theorem dX3_partsThem_17 : decode cX3_partsThem 17 = .ok (.iaload, 1) := dk_get kX3_partsThem_ok 9 rfl
theorem dX3_partsThem_18 : decode cX3_partsThem 18 = .ok (.iload_n 2, 1) := dk_get kX3_partsThem_ok 10 rfl
theorem dX3_partsThem_19 : decode cX3_partsThem 19 = .ok (.iushr, 1) := dk_get kX3_partsThem_ok 11 rfl
theorem dX3_partsThem_20 : decode cX3_partsThem 20 = .ok (.iconst 1, 1) := dk_get kX3_partsThem_ok 12 rfl
theorem dX3_partsThem_21 : decode cX3_partsThem 21 = .ok (.iand, 1) := dk_get kX3_partsThem_ok 13 rfl
theorem dX3_partsThem_22 : decode cX3_partsThem 22 = .ok (.ifCond .ne 47, 3) := dk_get kX3_partsThem_ok 14 rfl
theorem dX3_partsThem_25 : decode cX3_partsThem 25 = .ok (.aload_n 0, 1) := dk_get kX3_partsThem_ok 15 rfl
theorem dX3_partsThem_26 : decode cX3_partsThem 26 = .ok (.getfield 33, 3) := dk_get kX3_partsThem_ok 16 rfl
theorem dX3_partsThem_29 : decode cX3_partsThem 29 = .ok (.iconst 1, 1) := dk_get kX3_partsThem_ok 17 rfl
theorem dX3_partsThem_30 : decode cX3_partsThem 30 = .ok (.if_icmp .ne 15, 3) := dk_get kX3_partsThem_ok 18 rfl
theorem dX3_partsThem_33 : decode cX3_partsThem 33 = .ok (.aload_n 0, 1) := dk_get kX3_partsThem_ok 19 rfl
theorem dX3_partsThem_34 : decode cX3_partsThem 34 = .ok (.getfield 22, 3) := dk_get kX3_partsThem_ok 20 rfl
theorem dX3_partsThem_37 : decode cX3_partsThem 37 = .ok (.iload_n 1, 1) := dk_get kX3_partsThem_ok 21 rfl
theorem dX3_partsThem_38 : decode cX3_partsThem 38 = .ok (.iload_n 2, 1) := dk_get kX3_partsThem_ok 22 rfl
theorem dX3_partsThem_39 : decode cX3_partsThem 39 = .ok (.invokevirtual 49, 3) := dk_get kX3_partsThem_ok 23 rfl
theorem dX3_partsThem_42 : decode cX3_partsThem 42 = .ok (.ifCond .ne 27, 3) := dk_get kX3_partsThem_ok 24 rfl
theorem dX3_partsThem_45 : decode cX3_partsThem 45 = .ok (.aload_n 0, 1) := dk_get kX3_partsThem_ok 25 rfl
theorem dX3_partsThem_46 : decode cX3_partsThem 46 = .ok (.getfield 18, 3) := dk_get kX3_partsThem_ok 26 rfl
theorem dX3_partsThem_49 : decode cX3_partsThem 49 = .ok (.iconst (-1), 1) := dk_get kX3_partsThem_ok 27 rfl
theorem dX3_partsThem_50 : decode cX3_partsThem 50 = .ok (.if_icmp .eq 23, 3) := dk_get kX3_partsThem_ok 28 rfl
theorem dX3_partsThem_53 : decode cX3_partsThem 53 = .ok (.aload_n 0, 1) := dk_get kX3_partsThem_ok 29 rfl
theorem dX3_partsThem_54 : decode cX3_partsThem 54 = .ok (.getfield 22, 3) := dk_get kX3_partsThem_ok 30 rfl
theorem dX3_partsThem_57 : decode cX3_partsThem 57 = .ok (.iload_n 1, 1) := dk_get kX3_partsThem_ok 31 rfl
theorem dX3_partsThem_58 : decode cX3_partsThem 58 = .ok (.iload_n 2, 1) := dk_get kX3_partsThem_ok 32 rfl
theorem dX3_partsThem_59 : decode cX3_partsThem 59 = .ok (.invokevirtual 54, 3) := dk_get kX3_partsThem_ok 33 rfl
theorem dX3_partsThem_62 : decode cX3_partsThem 62 = .ok (.aload_n 0, 1) := dk_get kX3_partsThem_ok 34 rfl
theorem dX3_partsThem_63 : decode cX3_partsThem 63 = .ok (.getfield 18, 3) := dk_get kX3_partsThem_ok 35 rfl
theorem dX3_partsThem_66 : decode cX3_partsThem 66 = .ok (.if_icmp .le 7, 3) := dk_get kX3_partsThem_ok 36 rfl
theorem dX3_partsThem_69 : decode cX3_partsThem 69 = .ok (.iconst 1, 1) := dk_get kX3_partsThem_ok 37 rfl
theorem dX3_partsThem_70 : decode cX3_partsThem 70 = .ok (.goto 4, 3) := dk_get kX3_partsThem_ok 38 rfl
theorem dX3_partsThem_73 : decode cX3_partsThem 73 = .ok (.iconst 0, 1) := dk_get kX3_partsThem_ok 39 rfl
theorem dX3_partsThem_74 : decode cX3_partsThem 74 = .ok (.ireturn, 1) := dk_get kX3_partsThem_ok 40 rfl
def kX4_init : List (Nat × Instr × Nat) := [(0, .aload_n 0, 1), (1, .invokespecial 3, 3), (4, .aload_n 0, 1), (5, .new 9, 3), (8, .dup, 1), (9, .invokespecial 11, 3), (12, .putfield 12, 3), (15, .aload_n 0, 1), (16, .sipush 900, 3), (19, .newarray .int, 2), (21, .putfield 18, 3), (24, .aload_n 0, 1), (25, .sipush 900, 3), (28, .newarray .int, 2), (30, .putfield 22, 3), (33, .aload_n 0, 1), (34, .bipush 30, 2), (36, .newarray .int, 2), (38, .putfield 25, 3), (41, .aload_n 0, 1), (42, .bipush 30, 2), (44, .newarray .int, 2), (46, .putfield 28, 3), (49, .aload_n 0, 1), (50, .bipush 30, 2), (52, .newarray .int, 2), (54, .putfield 31, 3), (57, .aload_n 0, 1), (58, .bipush 6, 2), (60, .newarray .int, 2), (62, .putfield 34, 3), (65, .aload_n 0, 1), (66, .aload_n 1, 1), (67, .putfield 37, 3), (70, .return_, 1)]
set_option maxRecDepth 100000 in
theorem kX4_init_ok : kX4_init.all (fun q => decide (decode cX4_init q.1 = .ok q.2)) = true := by decide +kernel
theorem dX4_init_0 : decode cX4_init 0 = .ok (.aload_n 0, 1) := dk_get kX4_init_ok 0 rfl
theorem dX4_init_1 : decode cX4_init 1 = .ok (.invokespecial 3, 3) := dk_get kX4_init_ok 1 rfl
theorem dX4_init_4 : decode cX4_init 4 = .ok (.aload_n 0, 1) := dk_get kX4_init_ok 2 rfl
theorem dX4_init_5 : decode cX4_init 5 = .ok (.new 9, 3) := dk_get kX4_init_ok 3 rfl
theorem dX4_init_8 : decode cX4_init 8 = .ok (.dup, 1) := dk_get kX4_init_ok 4 rfl
theorem dX4_init_9 : decode cX4_init 9 = .ok (.invokespecial 11, 3) := dk_get kX4_init_ok 5 rfl
theorem dX4_init_12 : decode cX4_init 12 = .ok (.putfield 12, 3) := dk_get kX4_init_ok 6 rfl
theorem dX4_init_15 : decode cX4_init 15 = .ok (.aload_n 0, 1) := dk_get kX4_init_ok 7 rfl
theorem dX4_init_16 : decode cX4_init 16 = .ok (.sipush 900, 3) := dk_get kX4_init_ok 8 rfl
theorem dX4_init_19 : decode cX4_init 19 = .ok (.newarray .int, 2) := dk_get kX4_init_ok 9 rfl
theorem dX4_init_21 : decode cX4_init 21 = .ok (.putfield 18, 3) := dk_get kX4_init_ok 10 rfl
theorem dX4_init_24 : decode cX4_init 24 = .ok (.aload_n 0, 1) := dk_get kX4_init_ok 11 rfl
theorem dX4_init_25 : decode cX4_init 25 = .ok (.sipush 900, 3) := dk_get kX4_init_ok 12 rfl
theorem dX4_init_28 : decode cX4_init 28 = .ok (.newarray .int, 2) := dk_get kX4_init_ok 13 rfl
theorem dX4_init_30 : decode cX4_init 30 = .ok (.putfield 22, 3) := dk_get kX4_init_ok 14 rfl
theorem dX4_init_33 : decode cX4_init 33 = .ok (.aload_n 0, 1) := dk_get kX4_init_ok 15 rfl
theorem dX4_init_34 : decode cX4_init 34 = .ok (.bipush 30, 2) := dk_get kX4_init_ok 16 rfl
theorem dX4_init_36 : decode cX4_init 36 = .ok (.newarray .int, 2) := dk_get kX4_init_ok 17 rfl
theorem dX4_init_38 : decode cX4_init 38 = .ok (.putfield 25, 3) := dk_get kX4_init_ok 18 rfl
theorem dX4_init_41 : decode cX4_init 41 = .ok (.aload_n 0, 1) := dk_get kX4_init_ok 19 rfl
theorem dX4_init_42 : decode cX4_init 42 = .ok (.bipush 30, 2) := dk_get kX4_init_ok 20 rfl
theorem dX4_init_44 : decode cX4_init 44 = .ok (.newarray .int, 2) := dk_get kX4_init_ok 21 rfl
theorem dX4_init_46 : decode cX4_init 46 = .ok (.putfield 28, 3) := dk_get kX4_init_ok 22 rfl
theorem dX4_init_49 : decode cX4_init 49 = .ok (.aload_n 0, 1) := dk_get kX4_init_ok 23 rfl
theorem dX4_init_50 : decode cX4_init 50 = .ok (.bipush 30, 2) := dk_get kX4_init_ok 24 rfl
theorem dX4_init_52 : decode cX4_init 52 = .ok (.newarray .int, 2) := dk_get kX4_init_ok 25 rfl
theorem dX4_init_54 : decode cX4_init 54 = .ok (.putfield 31, 3) := dk_get kX4_init_ok 26 rfl
theorem dX4_init_57 : decode cX4_init 57 = .ok (.aload_n 0, 1) := dk_get kX4_init_ok 27 rfl
theorem dX4_init_58 : decode cX4_init 58 = .ok (.bipush 6, 2) := dk_get kX4_init_ok 28 rfl
theorem dX4_init_60 : decode cX4_init 60 = .ok (.newarray .int, 2) := dk_get kX4_init_ok 29 rfl
theorem dX4_init_62 : decode cX4_init 62 = .ok (.putfield 34, 3) := dk_get kX4_init_ok 30 rfl
theorem dX4_init_65 : decode cX4_init 65 = .ok (.aload_n 0, 1) := dk_get kX4_init_ok 31 rfl
theorem dX4_init_66 : decode cX4_init 66 = .ok (.aload_n 1, 1) := dk_get kX4_init_ok 32 rfl
theorem dX4_init_67 : decode cX4_init 67 = .ok (.putfield 37, 3) := dk_get kX4_init_ok 33 rfl
theorem dX4_init_70 : decode cX4_init 70 = .ok (.return_, 1) := dk_get kX4_init_ok 34 rfl
def kX4_pull : List (Nat × Instr × Nat) := [(0, .aload_n 0, 1), (1, .getfield 18, 3), (4, .iload_n 1, 1), (5, .bipush 30, 2), (7, .imul, 1), (8, .iload_n 2, 1), (9, .iadd, 1), (10, .iaload, 1), (11, .ireturn, 1)]
set_option maxRecDepth 100000 in
theorem kX4_pull_ok : kX4_pull.all (fun q => decide (decode cX4_pull q.1 = .ok q.2)) = true := by decide +kernel
theorem dX4_pull_0 : decode cX4_pull 0 = .ok (.aload_n 0, 1) := dk_get kX4_pull_ok 0 rfl
theorem dX4_pull_1 : decode cX4_pull 1 = .ok (.getfield 18, 3) := dk_get kX4_pull_ok 1 rfl
theorem dX4_pull_4 : decode cX4_pull 4 = .ok (.iload_n 1, 1) := dk_get kX4_pull_ok 2 rfl
theorem dX4_pull_5 : decode cX4_pull 5 = .ok (.bipush 30, 2) := dk_get kX4_pull_ok 3 rfl
theorem dX4_pull_7 : decode cX4_pull 7 = .ok (.imul, 1) := dk_get kX4_pull_ok 4 rfl
theorem dX4_pull_8 : decode cX4_pull 8 = .ok (.iload_n 2, 1) := dk_get kX4_pull_ok 5 rfl
theorem dX4_pull_9 : decode cX4_pull 9 = .ok (.iadd, 1) := dk_get kX4_pull_ok 6 rfl
theorem dX4_pull_10 : decode cX4_pull 10 = .ok (.iaload, 1) := dk_get kX4_pull_ok 7 rfl
theorem dX4_pull_11 : decode cX4_pull 11 = .ok (.ireturn, 1) := dk_get kX4_pull_ok 8 rfl
def kX4_reasons : List (Nat × Instr × Nat) := [(0, .aload_n 0, 1), (1, .getfield 22, 3), (4, .iload_n 1, 1), (5, .bipush 30, 2), (7, .imul, 1), (8, .iload_n 2, 1), (9, .iadd, 1), (10, .iaload, 1), (11, .ireturn, 1)]
set_option maxRecDepth 100000 in
theorem kX4_reasons_ok : kX4_reasons.all (fun q => decide (decode cX4_reasons q.1 = .ok q.2)) = true := by decide +kernel
theorem dX4_reasons_0 : decode cX4_reasons 0 = .ok (.aload_n 0, 1) := dk_get kX4_reasons_ok 0 rfl
theorem dX4_reasons_1 : decode cX4_reasons 1 = .ok (.getfield 22, 3) := dk_get kX4_reasons_ok 1 rfl
theorem dX4_reasons_4 : decode cX4_reasons 4 = .ok (.iload_n 1, 1) := dk_get kX4_reasons_ok 2 rfl
theorem dX4_reasons_5 : decode cX4_reasons 5 = .ok (.bipush 30, 2) := dk_get kX4_reasons_ok 3 rfl
theorem dX4_reasons_7 : decode cX4_reasons 7 = .ok (.imul, 1) := dk_get kX4_reasons_ok 4 rfl
theorem dX4_reasons_8 : decode cX4_reasons 8 = .ok (.iload_n 2, 1) := dk_get kX4_reasons_ok 5 rfl
theorem dX4_reasons_9 : decode cX4_reasons 9 = .ok (.iadd, 1) := dk_get kX4_reasons_ok 6 rfl
theorem dX4_reasons_10 : decode cX4_reasons 10 = .ok (.iaload, 1) := dk_get kX4_reasons_ok 7 rfl
theorem dX4_reasons_11 : decode cX4_reasons 11 = .ok (.ireturn, 1) := dk_get kX4_reasons_ok 8 rfl
def kX4_isNever : List (Nat × Instr × Nat) := [(0, .aload_n 0, 1), (1, .getfield 25, 3), (4, .iload_n 1, 1), (5, .iaload, 1), (6, .iload_n 2, 1), (7, .iushr, 1), (8, .iconst 1, 1), (9, .iand, 1), (10, .ifCond .eq 7, 3), (13, .iconst 1, 1), (14, .goto 4, 3), (17, .iconst 0, 1), (18, .ireturn, 1)]
set_option maxRecDepth 100000 in
theorem kX4_isNever_ok : kX4_isNever.all (fun q => decide (decode cX4_isNever q.1 = .ok q.2)) = true := by decide +kernel
theorem dX4_isNever_0 : decode cX4_isNever 0 = .ok (.aload_n 0, 1) := dk_get kX4_isNever_ok 0 rfl
theorem dX4_isNever_1 : decode cX4_isNever 1 = .ok (.getfield 25, 3) := dk_get kX4_isNever_ok 1 rfl
theorem dX4_isNever_4 : decode cX4_isNever 4 = .ok (.iload_n 1, 1) := dk_get kX4_isNever_ok 2 rfl
theorem dX4_isNever_5 : decode cX4_isNever 5 = .ok (.iaload, 1) := dk_get kX4_isNever_ok 3 rfl
theorem dX4_isNever_6 : decode cX4_isNever 6 = .ok (.iload_n 2, 1) := dk_get kX4_isNever_ok 4 rfl
theorem dX4_isNever_7 : decode cX4_isNever 7 = .ok (.iushr, 1) := dk_get kX4_isNever_ok 5 rfl
theorem dX4_isNever_8 : decode cX4_isNever 8 = .ok (.iconst 1, 1) := dk_get kX4_isNever_ok 6 rfl
theorem dX4_isNever_9 : decode cX4_isNever 9 = .ok (.iand, 1) := dk_get kX4_isNever_ok 7 rfl
theorem dX4_isNever_10 : decode cX4_isNever 10 = .ok (.ifCond .eq 7, 3) := dk_get kX4_isNever_ok 8 rfl
theorem dX4_isNever_13 : decode cX4_isNever 13 = .ok (.iconst 1, 1) := dk_get kX4_isNever_ok 9 rfl
theorem dX4_isNever_14 : decode cX4_isNever 14 = .ok (.goto 4, 3) := dk_get kX4_isNever_ok 10 rfl
theorem dX4_isNever_17 : decode cX4_isNever 17 = .ok (.iconst 0, 1) := dk_get kX4_isNever_ok 11 rfl
theorem dX4_isNever_18 : decode cX4_isNever 18 = .ok (.ireturn, 1) := dk_get kX4_isNever_ok 12 rfl
def kX4_isByHand : List (Nat × Instr × Nat) := [(0, .aload_n 0, 1), (1, .getfield 31, 3), (4, .iload_n 1, 1), (5, .iaload, 1), (6, .iload_n 2, 1), (7, .iushr, 1), (8, .iconst 1, 1), (9, .iand, 1), (10, .ifCond .eq 7, 3), (13, .iconst 1, 1), (14, .goto 4, 3), (17, .iconst 0, 1), (18, .ireturn, 1)]
set_option maxRecDepth 100000 in
theorem kX4_isByHand_ok : kX4_isByHand.all (fun q => decide (decode cX4_isByHand q.1 = .ok q.2)) = true := by decide +kernel
theorem dX4_isByHand_0 : decode cX4_isByHand 0 = .ok (.aload_n 0, 1) := dk_get kX4_isByHand_ok 0 rfl
theorem dX4_isByHand_1 : decode cX4_isByHand 1 = .ok (.getfield 31, 3) := dk_get kX4_isByHand_ok 1 rfl
theorem dX4_isByHand_4 : decode cX4_isByHand 4 = .ok (.iload_n 1, 1) := dk_get kX4_isByHand_ok 2 rfl
theorem dX4_isByHand_5 : decode cX4_isByHand 5 = .ok (.iaload, 1) := dk_get kX4_isByHand_ok 3 rfl
theorem dX4_isByHand_6 : decode cX4_isByHand 6 = .ok (.iload_n 2, 1) := dk_get kX4_isByHand_ok 4 rfl
theorem dX4_isByHand_7 : decode cX4_isByHand 7 = .ok (.iushr, 1) := dk_get kX4_isByHand_ok 5 rfl
theorem dX4_isByHand_8 : decode cX4_isByHand 8 = .ok (.iconst 1, 1) := dk_get kX4_isByHand_ok 6 rfl
theorem dX4_isByHand_9 : decode cX4_isByHand 9 = .ok (.iand, 1) := dk_get kX4_isByHand_ok 7 rfl
theorem dX4_isByHand_10 : decode cX4_isByHand 10 = .ok (.ifCond .eq 7, 3) := dk_get kX4_isByHand_ok 8 rfl
theorem dX4_isByHand_13 : decode cX4_isByHand 13 = .ok (.iconst 1, 1) := dk_get kX4_isByHand_ok 9 rfl
theorem dX4_isByHand_14 : decode cX4_isByHand 14 = .ok (.goto 4, 3) := dk_get kX4_isByHand_ok 10 rfl
theorem dX4_isByHand_17 : decode cX4_isByHand 17 = .ok (.iconst 0, 1) := dk_get kX4_isByHand_ok 11 rfl
theorem dX4_isByHand_18 : decode cX4_isByHand 18 = .ok (.ireturn, 1) := dk_get kX4_isByHand_ok 12 rfl
def kX4_judgeFrom : List (Nat × Instr × Nat) := [(0, .iload_n 1, 1), (1, .istore_n 2, 1), (2, .iload_n 2, 1), (3, .aload_n 0, 1), (4, .getfield 37, 3), (7, .getfield 41, 3), (10, .if_icmp .ge 37, 3), (13, .iconst 0, 1), (14, .istore_n 3, 1), (15, .iload_n 3, 1), (16, .iload_n 2, 1), (17, .if_icmp .ge 24, 3), (20, .aload_n 0, 1), (21, .iload_n 2, 1), (22, .iload_n 3, 1), (23, .invokevirtual 47, 3), (26, .ifCond .ne 9, 3), (29, .aload_n 0, 1), (30, .iload_n 2, 1), (31, .iload_n 3, 1), (32, .invokevirtual 51, 3), (35, .iinc 3 1, 3), (38, .goto (-23), 3), (41, .iinc 2 1, 3), (44, .goto (-42), 3), (47, .return_, 1)]
set_option maxRecDepth 100000 in
theorem kX4_judgeFrom_ok : kX4_judgeFrom.all (fun q => decide (decode cX4_judgeFrom q.1 = .ok q.2)) = true := by decide +kernel
theorem dX4_judgeFrom_0 : decode cX4_judgeFrom 0 = .ok (.iload_n 1, 1) := dk_get kX4_judgeFrom_ok 0 rfl
theorem dX4_judgeFrom_1 : decode cX4_judgeFrom 1 = .ok (.istore_n 2, 1) := dk_get kX4_judgeFrom_ok 1 rfl
theorem dX4_judgeFrom_2 : decode cX4_judgeFrom 2 = .ok (.iload_n 2, 1) := dk_get kX4_judgeFrom_ok 2 rfl
theorem dX4_judgeFrom_3 : decode cX4_judgeFrom 3 = .ok (.aload_n 0, 1) := dk_get kX4_judgeFrom_ok 3 rfl
theorem dX4_judgeFrom_4 : decode cX4_judgeFrom 4 = .ok (.getfield 37, 3) := dk_get kX4_judgeFrom_ok 4 rfl
theorem dX4_judgeFrom_7 : decode cX4_judgeFrom 7 = .ok (.getfield 41, 3) := dk_get kX4_judgeFrom_ok 5 rfl
theorem dX4_judgeFrom_10 : decode cX4_judgeFrom 10 = .ok (.if_icmp .ge 37, 3) := dk_get kX4_judgeFrom_ok 6 rfl
theorem dX4_judgeFrom_13 : decode cX4_judgeFrom 13 = .ok (.iconst 0, 1) := dk_get kX4_judgeFrom_ok 7 rfl
theorem dX4_judgeFrom_14 : decode cX4_judgeFrom 14 = .ok (.istore_n 3, 1) := dk_get kX4_judgeFrom_ok 8 rfl
theorem dX4_judgeFrom_15 : decode cX4_judgeFrom 15 = .ok (.iload_n 3, 1) := dk_get kX4_judgeFrom_ok 9 rfl
theorem dX4_judgeFrom_16 : decode cX4_judgeFrom 16 = .ok (.iload_n 2, 1) := dk_get kX4_judgeFrom_ok 10 rfl
theorem dX4_judgeFrom_17 : decode cX4_judgeFrom 17 = .ok (.if_icmp .ge 24, 3) := dk_get kX4_judgeFrom_ok 11 rfl
theorem dX4_judgeFrom_20 : decode cX4_judgeFrom 20 = .ok (.aload_n 0, 1) := dk_get kX4_judgeFrom_ok 12 rfl
theorem dX4_judgeFrom_21 : decode cX4_judgeFrom 21 = .ok (.iload_n 2, 1) := dk_get kX4_judgeFrom_ok 13 rfl
theorem dX4_judgeFrom_22 : decode cX4_judgeFrom 22 = .ok (.iload_n 3, 1) := dk_get kX4_judgeFrom_ok 14 rfl
theorem dX4_judgeFrom_23 : decode cX4_judgeFrom 23 = .ok (.invokevirtual 47, 3) := dk_get kX4_judgeFrom_ok 15 rfl
theorem dX4_judgeFrom_26 : decode cX4_judgeFrom 26 = .ok (.ifCond .ne 9, 3) := dk_get kX4_judgeFrom_ok 16 rfl
theorem dX4_judgeFrom_29 : decode cX4_judgeFrom 29 = .ok (.aload_n 0, 1) := dk_get kX4_judgeFrom_ok 17 rfl
theorem dX4_judgeFrom_30 : decode cX4_judgeFrom 30 = .ok (.iload_n 2, 1) := dk_get kX4_judgeFrom_ok 18 rfl
theorem dX4_judgeFrom_31 : decode cX4_judgeFrom 31 = .ok (.iload_n 3, 1) := dk_get kX4_judgeFrom_ok 19 rfl
theorem dX4_judgeFrom_32 : decode cX4_judgeFrom 32 = .ok (.invokevirtual 51, 3) := dk_get kX4_judgeFrom_ok 20 rfl
theorem dX4_judgeFrom_35 : decode cX4_judgeFrom 35 = .ok (.iinc 3 1, 3) := dk_get kX4_judgeFrom_ok 21 rfl
theorem dX4_judgeFrom_38 : decode cX4_judgeFrom 38 = .ok (.goto (-23), 3) := dk_get kX4_judgeFrom_ok 22 rfl
theorem dX4_judgeFrom_41 : decode cX4_judgeFrom 41 = .ok (.iinc 2 1, 3) := dk_get kX4_judgeFrom_ok 23 rfl
theorem dX4_judgeFrom_44 : decode cX4_judgeFrom 44 = .ok (.goto (-42), 3) := dk_get kX4_judgeFrom_ok 24 rfl
theorem dX4_judgeFrom_47 : decode cX4_judgeFrom 47 = .ok (.return_, 1) := dk_get kX4_judgeFrom_ok 25 rfl
def kX4_tellByHand : List (Nat × Instr × Nat) := [(0, .aload_n 0, 1), (1, .iload_n 1, 1), (2, .iload_n 2, 1), (3, .invokevirtual 47, 3), (6, .ifCond .ne 13, 3), (9, .aload_n 0, 1), (10, .dup, 1), (11, .getfield 55, 3), (14, .iconst 1, 1), (15, .iadd, 1), (16, .putfield 55, 3), (19, .aload_n 0, 1), (20, .getfield 31, 3), (23, .iload_n 1, 1), (24, .iload_n 2, 1), (25, .iconst 1, 1), (26, .invokestatic 58, 3), (29, .aload_n 0, 1), (30, .getfield 28, 3), (33, .iload_n 1, 1), (34, .iload_n 2, 1), (35, .iconst 0, 1), (36, .invokestatic 58, 3), (39, .aload_n 0, 1), (40, .iload_n 1, 1), (41, .iload_n 2, 1), (42, .iload_n 3, 1), (43, .ldc 62, 2), (45, .if_icmp .ne 7, 3), (48, .iconst 0, 1), (49, .goto 4, 3), (52, .iload_n 3, 1), (53, .iconst 0, 1), (54, .iload_n 3, 1), (55, .ldc 62, 2), (57, .if_icmp .ne 7, 3), (60, .iconst 1, 1), (61, .goto 4, 3), (64, .iconst 0, 1), (65, .invokevirtual 63, 3), (68, .return_, 1)]
set_option maxRecDepth 100000 in
theorem kX4_tellByHand_ok : kX4_tellByHand.all (fun q => decide (decode cX4_tellByHand q.1 = .ok q.2)) = true := by decide +kernel
theorem dX4_tellByHand_0 : decode cX4_tellByHand 0 = .ok (.aload_n 0, 1) := dk_get kX4_tellByHand_ok 0 rfl
theorem dX4_tellByHand_1 : decode cX4_tellByHand 1 = .ok (.iload_n 1, 1) := dk_get kX4_tellByHand_ok 1 rfl
theorem dX4_tellByHand_2 : decode cX4_tellByHand 2 = .ok (.iload_n 2, 1) := dk_get kX4_tellByHand_ok 2 rfl
theorem dX4_tellByHand_3 : decode cX4_tellByHand 3 = .ok (.invokevirtual 47, 3) := dk_get kX4_tellByHand_ok 3 rfl
theorem dX4_tellByHand_6 : decode cX4_tellByHand 6 = .ok (.ifCond .ne 13, 3) := dk_get kX4_tellByHand_ok 4 rfl
theorem dX4_tellByHand_9 : decode cX4_tellByHand 9 = .ok (.aload_n 0, 1) := dk_get kX4_tellByHand_ok 5 rfl
theorem dX4_tellByHand_10 : decode cX4_tellByHand 10 = .ok (.dup, 1) := dk_get kX4_tellByHand_ok 6 rfl
theorem dX4_tellByHand_11 : decode cX4_tellByHand 11 = .ok (.getfield 55, 3) := dk_get kX4_tellByHand_ok 7 rfl
theorem dX4_tellByHand_14 : decode cX4_tellByHand 14 = .ok (.iconst 1, 1) := dk_get kX4_tellByHand_ok 8 rfl
theorem dX4_tellByHand_15 : decode cX4_tellByHand 15 = .ok (.iadd, 1) := dk_get kX4_tellByHand_ok 9 rfl
theorem dX4_tellByHand_16 : decode cX4_tellByHand 16 = .ok (.putfield 55, 3) := dk_get kX4_tellByHand_ok 10 rfl
theorem dX4_tellByHand_19 : decode cX4_tellByHand 19 = .ok (.aload_n 0, 1) := dk_get kX4_tellByHand_ok 11 rfl
theorem dX4_tellByHand_20 : decode cX4_tellByHand 20 = .ok (.getfield 31, 3) := dk_get kX4_tellByHand_ok 12 rfl
theorem dX4_tellByHand_23 : decode cX4_tellByHand 23 = .ok (.iload_n 1, 1) := dk_get kX4_tellByHand_ok 13 rfl
theorem dX4_tellByHand_24 : decode cX4_tellByHand 24 = .ok (.iload_n 2, 1) := dk_get kX4_tellByHand_ok 14 rfl
theorem dX4_tellByHand_25 : decode cX4_tellByHand 25 = .ok (.iconst 1, 1) := dk_get kX4_tellByHand_ok 15 rfl
theorem dX4_tellByHand_26 : decode cX4_tellByHand 26 = .ok (.invokestatic 58, 3) := dk_get kX4_tellByHand_ok 16 rfl
theorem dX4_tellByHand_29 : decode cX4_tellByHand 29 = .ok (.aload_n 0, 1) := dk_get kX4_tellByHand_ok 17 rfl
theorem dX4_tellByHand_30 : decode cX4_tellByHand 30 = .ok (.getfield 28, 3) := dk_get kX4_tellByHand_ok 18 rfl
theorem dX4_tellByHand_33 : decode cX4_tellByHand 33 = .ok (.iload_n 1, 1) := dk_get kX4_tellByHand_ok 19 rfl
theorem dX4_tellByHand_34 : decode cX4_tellByHand 34 = .ok (.iload_n 2, 1) := dk_get kX4_tellByHand_ok 20 rfl
theorem dX4_tellByHand_35 : decode cX4_tellByHand 35 = .ok (.iconst 0, 1) := dk_get kX4_tellByHand_ok 21 rfl
theorem dX4_tellByHand_36 : decode cX4_tellByHand 36 = .ok (.invokestatic 58, 3) := dk_get kX4_tellByHand_ok 22 rfl
theorem dX4_tellByHand_39 : decode cX4_tellByHand 39 = .ok (.aload_n 0, 1) := dk_get kX4_tellByHand_ok 23 rfl
theorem dX4_tellByHand_40 : decode cX4_tellByHand 40 = .ok (.iload_n 1, 1) := dk_get kX4_tellByHand_ok 24 rfl
theorem dX4_tellByHand_41 : decode cX4_tellByHand 41 = .ok (.iload_n 2, 1) := dk_get kX4_tellByHand_ok 25 rfl
theorem dX4_tellByHand_42 : decode cX4_tellByHand 42 = .ok (.iload_n 3, 1) := dk_get kX4_tellByHand_ok 26 rfl
theorem dX4_tellByHand_43 : decode cX4_tellByHand 43 = .ok (.ldc 62, 2) := dk_get kX4_tellByHand_ok 27 rfl
theorem dX4_tellByHand_45 : decode cX4_tellByHand 45 = .ok (.if_icmp .ne 7, 3) := dk_get kX4_tellByHand_ok 28 rfl
theorem dX4_tellByHand_48 : decode cX4_tellByHand 48 = .ok (.iconst 0, 1) := dk_get kX4_tellByHand_ok 29 rfl
theorem dX4_tellByHand_49 : decode cX4_tellByHand 49 = .ok (.goto 4, 3) := dk_get kX4_tellByHand_ok 30 rfl
theorem dX4_tellByHand_52 : decode cX4_tellByHand 52 = .ok (.iload_n 3, 1) := dk_get kX4_tellByHand_ok 31 rfl
theorem dX4_tellByHand_53 : decode cX4_tellByHand 53 = .ok (.iconst 0, 1) := dk_get kX4_tellByHand_ok 32 rfl
theorem dX4_tellByHand_54 : decode cX4_tellByHand 54 = .ok (.iload_n 3, 1) := dk_get kX4_tellByHand_ok 33 rfl
theorem dX4_tellByHand_55 : decode cX4_tellByHand 55 = .ok (.ldc 62, 2) := dk_get kX4_tellByHand_ok 34 rfl
theorem dX4_tellByHand_57 : decode cX4_tellByHand 57 = .ok (.if_icmp .ne 7, 3) := dk_get kX4_tellByHand_ok 35 rfl
theorem dX4_tellByHand_60 : decode cX4_tellByHand 60 = .ok (.iconst 1, 1) := dk_get kX4_tellByHand_ok 36 rfl
theorem dX4_tellByHand_61 : decode cX4_tellByHand 61 = .ok (.goto 4, 3) := dk_get kX4_tellByHand_ok 37 rfl
theorem dX4_tellByHand_64 : decode cX4_tellByHand 64 = .ok (.iconst 0, 1) := dk_get kX4_tellByHand_ok 38 rfl
theorem dX4_tellByHand_65 : decode cX4_tellByHand 65 = .ok (.invokevirtual 63, 3) := dk_get kX4_tellByHand_ok 39 rfl
theorem dX4_tellByHand_68 : decode cX4_tellByHand 68 = .ok (.return_, 1) := dk_get kX4_tellByHand_ok 40 rfl
def kX4_forgetByHand : List (Nat × Instr × Nat) := [(0, .aload_n 0, 1), (1, .dup, 1), (2, .getfield 55, 3), (5, .iconst 1, 1), (6, .isub, 1), (7, .putfield 55, 3), (10, .aload_n 0, 1), (11, .getfield 31, 3), (14, .iload_n 1, 1), (15, .iload_n 2, 1), (16, .iconst 0, 1), (17, .invokestatic 58, 3), (20, .aload_n 0, 1), (21, .iload_n 1, 1), (22, .iload_n 2, 1), (23, .invokevirtual 51, 3), (26, .return_, 1)]
set_option maxRecDepth 100000 in
theorem kX4_forgetByHand_ok : kX4_forgetByHand.all (fun q => decide (decode cX4_forgetByHand q.1 = .ok q.2)) = true := by decide +kernel
theorem dX4_forgetByHand_0 : decode cX4_forgetByHand 0 = .ok (.aload_n 0, 1) := dk_get kX4_forgetByHand_ok 0 rfl
theorem dX4_forgetByHand_1 : decode cX4_forgetByHand 1 = .ok (.dup, 1) := dk_get kX4_forgetByHand_ok 1 rfl
theorem dX4_forgetByHand_2 : decode cX4_forgetByHand 2 = .ok (.getfield 55, 3) := dk_get kX4_forgetByHand_ok 2 rfl
theorem dX4_forgetByHand_5 : decode cX4_forgetByHand 5 = .ok (.iconst 1, 1) := dk_get kX4_forgetByHand_ok 3 rfl
theorem dX4_forgetByHand_6 : decode cX4_forgetByHand 6 = .ok (.isub, 1) := dk_get kX4_forgetByHand_ok 4 rfl
theorem dX4_forgetByHand_7 : decode cX4_forgetByHand 7 = .ok (.putfield 55, 3) := dk_get kX4_forgetByHand_ok 5 rfl
theorem dX4_forgetByHand_10 : decode cX4_forgetByHand 10 = .ok (.aload_n 0, 1) := dk_get kX4_forgetByHand_ok 6 rfl
theorem dX4_forgetByHand_11 : decode cX4_forgetByHand 11 = .ok (.getfield 31, 3) := dk_get kX4_forgetByHand_ok 7 rfl
theorem dX4_forgetByHand_14 : decode cX4_forgetByHand 14 = .ok (.iload_n 1, 1) := dk_get kX4_forgetByHand_ok 8 rfl
theorem dX4_forgetByHand_15 : decode cX4_forgetByHand 15 = .ok (.iload_n 2, 1) := dk_get kX4_forgetByHand_ok 9 rfl
theorem dX4_forgetByHand_16 : decode cX4_forgetByHand 16 = .ok (.iconst 0, 1) := dk_get kX4_forgetByHand_ok 10 rfl
theorem dX4_forgetByHand_17 : decode cX4_forgetByHand 17 = .ok (.invokestatic 58, 3) := dk_get kX4_forgetByHand_ok 11 rfl
theorem dX4_forgetByHand_20 : decode cX4_forgetByHand 20 = .ok (.aload_n 0, 1) := dk_get kX4_forgetByHand_ok 12 rfl
theorem dX4_forgetByHand_21 : decode cX4_forgetByHand 21 = .ok (.iload_n 1, 1) := dk_get kX4_forgetByHand_ok 13 rfl
theorem dX4_forgetByHand_22 : decode cX4_forgetByHand 22 = .ok (.iload_n 2, 1) := dk_get kX4_forgetByHand_ok 14 rfl
theorem dX4_forgetByHand_23 : decode cX4_forgetByHand 23 = .ok (.invokevirtual 51, 3) := dk_get kX4_forgetByHand_ok 15 rfl
theorem dX4_forgetByHand_26 : decode cX4_forgetByHand 26 = .ok (.return_, 1) := dk_get kX4_forgetByHand_ok 16 rfl
def kX4_passedCount : List (Nat × Instr × Nat) := [(0, .iconst 0, 1), (1, .istore_n 1, 1), (2, .iconst 0, 1), (3, .istore_n 2, 1), (4, .iload_n 2, 1), (5, .aload_n 0, 1), (6, .getfield 37, 3), (9, .getfield 41, 3), (12, .if_icmp .ge 21, 3), (15, .iload_n 1, 1), (16, .aload_n 0, 1), (17, .getfield 28, 3), (20, .iload_n 2, 1), (21, .iaload, 1), (22, .invokestatic 67, 3), (25, .iadd, 1), (26, .istore_n 1, 1), (27, .iinc 2 1, 3), (30, .goto (-26), 3), (33, .iload_n 1, 1), (34, .iconst 2, 1), (35, .idiv, 1), (36, .ireturn, 1)]
set_option maxRecDepth 100000 in
theorem kX4_passedCount_ok : kX4_passedCount.all (fun q => decide (decode cX4_passedCount q.1 = .ok q.2)) = true := by decide +kernel
theorem dX4_passedCount_0 : decode cX4_passedCount 0 = .ok (.iconst 0, 1) := dk_get kX4_passedCount_ok 0 rfl
theorem dX4_passedCount_1 : decode cX4_passedCount 1 = .ok (.istore_n 1, 1) := dk_get kX4_passedCount_ok 1 rfl
theorem dX4_passedCount_2 : decode cX4_passedCount 2 = .ok (.iconst 0, 1) := dk_get kX4_passedCount_ok 2 rfl
theorem dX4_passedCount_3 : decode cX4_passedCount 3 = .ok (.istore_n 2, 1) := dk_get kX4_passedCount_ok 3 rfl
theorem dX4_passedCount_4 : decode cX4_passedCount 4 = .ok (.iload_n 2, 1) := dk_get kX4_passedCount_ok 4 rfl
theorem dX4_passedCount_5 : decode cX4_passedCount 5 = .ok (.aload_n 0, 1) := dk_get kX4_passedCount_ok 5 rfl
theorem dX4_passedCount_6 : decode cX4_passedCount 6 = .ok (.getfield 37, 3) := dk_get kX4_passedCount_ok 6 rfl
theorem dX4_passedCount_9 : decode cX4_passedCount 9 = .ok (.getfield 41, 3) := dk_get kX4_passedCount_ok 7 rfl
theorem dX4_passedCount_12 : decode cX4_passedCount 12 = .ok (.if_icmp .ge 21, 3) := dk_get kX4_passedCount_ok 8 rfl
theorem dX4_passedCount_15 : decode cX4_passedCount 15 = .ok (.iload_n 1, 1) := dk_get kX4_passedCount_ok 9 rfl
theorem dX4_passedCount_16 : decode cX4_passedCount 16 = .ok (.aload_n 0, 1) := dk_get kX4_passedCount_ok 10 rfl
theorem dX4_passedCount_17 : decode cX4_passedCount 17 = .ok (.getfield 28, 3) := dk_get kX4_passedCount_ok 11 rfl
theorem dX4_passedCount_20 : decode cX4_passedCount 20 = .ok (.iload_n 2, 1) := dk_get kX4_passedCount_ok 12 rfl
theorem dX4_passedCount_21 : decode cX4_passedCount 21 = .ok (.iaload, 1) := dk_get kX4_passedCount_ok 13 rfl
theorem dX4_passedCount_22 : decode cX4_passedCount 22 = .ok (.invokestatic 67, 3) := dk_get kX4_passedCount_ok 14 rfl
theorem dX4_passedCount_25 : decode cX4_passedCount 25 = .ok (.iadd, 1) := dk_get kX4_passedCount_ok 15 rfl
theorem dX4_passedCount_26 : decode cX4_passedCount 26 = .ok (.istore_n 1, 1) := dk_get kX4_passedCount_ok 16 rfl
theorem dX4_passedCount_27 : decode cX4_passedCount 27 = .ok (.iinc 2 1, 3) := dk_get kX4_passedCount_ok 17 rfl
theorem dX4_passedCount_30 : decode cX4_passedCount 30 = .ok (.goto (-26), 3) := dk_get kX4_passedCount_ok 18 rfl
theorem dX4_passedCount_33 : decode cX4_passedCount 33 = .ok (.iload_n 1, 1) := dk_get kX4_passedCount_ok 19 rfl
theorem dX4_passedCount_34 : decode cX4_passedCount 34 = .ok (.iconst 2, 1) := dk_get kX4_passedCount_ok 20 rfl
theorem dX4_passedCount_35 : decode cX4_passedCount 35 = .ok (.idiv, 1) := dk_get kX4_passedCount_ok 21 rfl
theorem dX4_passedCount_36 : decode cX4_passedCount 36 = .ok (.ireturn, 1) := dk_get kX4_passedCount_ok 22 rfl
def kX4_judge : List (Nat × Instr × Nat) := [(0, .aload_n 0, 1), (1, .getfield 37, 3), (4, .iload_n 1, 1), (5, .iload_n 2, 1), (6, .aload_n 0, 1), (7, .getfield 34, 3), (10, .invokevirtual 73, 3), (13, .aload_n 0, 1), (14, .getfield 12, 3), (17, .aload_n 0, 1), (18, .getfield 34, 3), (21, .invokevirtual 77, 3), (24, .aload_n 0, 1), (25, .getfield 28, 3), (28, .iload_n 1, 1), (29, .iload_n 2, 1), (30, .aload_n 0, 1), (31, .getfield 12, 3), (34, .getfield 80, 3), (37, .invokestatic 58, 3), (40, .aload_n 0, 1), (41, .iload_n 1, 1), (42, .iload_n 2, 1), (43, .aload_n 0, 1), (44, .getfield 12, 3), (47, .getfield 84, 3), (50, .ifCond .eq 7, 3), (53, .iconst 0, 1), (54, .goto 10, 3), (57, .aload_n 0, 1), (58, .getfield 12, 3), (61, .getfield 87, 3), (64, .aload_n 0, 1), (65, .getfield 12, 3), (68, .getfield 90, 3), (71, .aload_n 0, 1), (72, .getfield 12, 3), (75, .getfield 84, 3), (78, .invokevirtual 63, 3), (81, .return_, 1)]
set_option maxRecDepth 100000 in
theorem kX4_judge_ok : kX4_judge.all (fun q => decide (decode cX4_judge q.1 = .ok q.2)) = true := by decide +kernel
theorem dX4_judge_0 : decode cX4_judge 0 = .ok (.aload_n 0, 1) := dk_get kX4_judge_ok 0 rfl
theorem dX4_judge_1 : decode cX4_judge 1 = .ok (.getfield 37, 3) := dk_get kX4_judge_ok 1 rfl
theorem dX4_judge_4 : decode cX4_judge 4 = .ok (.iload_n 1, 1) := dk_get kX4_judge_ok 2 rfl
theorem dX4_judge_5 : decode cX4_judge 5 = .ok (.iload_n 2, 1) := dk_get kX4_judge_ok 3 rfl
theorem dX4_judge_6 : decode cX4_judge 6 = .ok (.aload_n 0, 1) := dk_get kX4_judge_ok 4 rfl
theorem dX4_judge_7 : decode cX4_judge 7 = .ok (.getfield 34, 3) := dk_get kX4_judge_ok 5 rfl
theorem dX4_judge_10 : decode cX4_judge 10 = .ok (.invokevirtual 73, 3) := dk_get kX4_judge_ok 6 rfl
theorem dX4_judge_13 : decode cX4_judge 13 = .ok (.aload_n 0, 1) := dk_get kX4_judge_ok 7 rfl
theorem dX4_judge_14 : decode cX4_judge 14 = .ok (.getfield 12, 3) := dk_get kX4_judge_ok 8 rfl
theorem dX4_judge_17 : decode cX4_judge 17 = .ok (.aload_n 0, 1) := dk_get kX4_judge_ok 9 rfl
theorem dX4_judge_18 : decode cX4_judge 18 = .ok (.getfield 34, 3) := dk_get kX4_judge_ok 10 rfl
theorem dX4_judge_21 : decode cX4_judge 21 = .ok (.invokevirtual 77, 3) := dk_get kX4_judge_ok 11 rfl
theorem dX4_judge_24 : decode cX4_judge 24 = .ok (.aload_n 0, 1) := dk_get kX4_judge_ok 12 rfl
theorem dX4_judge_25 : decode cX4_judge 25 = .ok (.getfield 28, 3) := dk_get kX4_judge_ok 13 rfl
theorem dX4_judge_28 : decode cX4_judge 28 = .ok (.iload_n 1, 1) := dk_get kX4_judge_ok 14 rfl
theorem dX4_judge_29 : decode cX4_judge 29 = .ok (.iload_n 2, 1) := dk_get kX4_judge_ok 15 rfl
theorem dX4_judge_30 : decode cX4_judge 30 = .ok (.aload_n 0, 1) := dk_get kX4_judge_ok 16 rfl
theorem dX4_judge_31 : decode cX4_judge 31 = .ok (.getfield 12, 3) := dk_get kX4_judge_ok 17 rfl
theorem dX4_judge_34 : decode cX4_judge 34 = .ok (.getfield 80, 3) := dk_get kX4_judge_ok 18 rfl
theorem dX4_judge_37 : decode cX4_judge 37 = .ok (.invokestatic 58, 3) := dk_get kX4_judge_ok 19 rfl
theorem dX4_judge_40 : decode cX4_judge 40 = .ok (.aload_n 0, 1) := dk_get kX4_judge_ok 20 rfl
theorem dX4_judge_41 : decode cX4_judge 41 = .ok (.iload_n 1, 1) := dk_get kX4_judge_ok 21 rfl
theorem dX4_judge_42 : decode cX4_judge 42 = .ok (.iload_n 2, 1) := dk_get kX4_judge_ok 22 rfl
theorem dX4_judge_43 : decode cX4_judge 43 = .ok (.aload_n 0, 1) := dk_get kX4_judge_ok 23 rfl
theorem dX4_judge_44 : decode cX4_judge 44 = .ok (.getfield 12, 3) := dk_get kX4_judge_ok 24 rfl
theorem dX4_judge_47 : decode cX4_judge 47 = .ok (.getfield 84, 3) := dk_get kX4_judge_ok 25 rfl
theorem dX4_judge_50 : decode cX4_judge 50 = .ok (.ifCond .eq 7, 3) := dk_get kX4_judge_ok 26 rfl
theorem dX4_judge_53 : decode cX4_judge 53 = .ok (.iconst 0, 1) := dk_get kX4_judge_ok 27 rfl
theorem dX4_judge_54 : decode cX4_judge 54 = .ok (.goto 10, 3) := dk_get kX4_judge_ok 28 rfl
theorem dX4_judge_57 : decode cX4_judge 57 = .ok (.aload_n 0, 1) := dk_get kX4_judge_ok 29 rfl
theorem dX4_judge_58 : decode cX4_judge 58 = .ok (.getfield 12, 3) := dk_get kX4_judge_ok 30 rfl
theorem dX4_judge_61 : decode cX4_judge 61 = .ok (.getfield 87, 3) := dk_get kX4_judge_ok 31 rfl
theorem dX4_judge_64 : decode cX4_judge 64 = .ok (.aload_n 0, 1) := dk_get kX4_judge_ok 32 rfl
theorem dX4_judge_65 : decode cX4_judge 65 = .ok (.getfield 12, 3) := dk_get kX4_judge_ok 33 rfl
theorem dX4_judge_68 : decode cX4_judge 68 = .ok (.getfield 90, 3) := dk_get kX4_judge_ok 34 rfl
theorem dX4_judge_71 : decode cX4_judge 71 = .ok (.aload_n 0, 1) := dk_get kX4_judge_ok 35 rfl
theorem dX4_judge_72 : decode cX4_judge 72 = .ok (.getfield 12, 3) := dk_get kX4_judge_ok 36 rfl
theorem dX4_judge_75 : decode cX4_judge 75 = .ok (.getfield 84, 3) := dk_get kX4_judge_ok 37 rfl
theorem dX4_judge_78 : decode cX4_judge 78 = .ok (.invokevirtual 63, 3) := dk_get kX4_judge_ok 38 rfl
theorem dX4_judge_81 : decode cX4_judge 81 = .ok (.return_, 1) := dk_get kX4_judge_ok 39 rfl
def kX4_write : List (Nat × Instr × Nat) := [(0, .aload_n 0, 1), (1, .getfield 18, 3), (4, .iload_n 1, 1), (5, .bipush 30, 2), (7, .imul, 1), (8, .iload_n 2, 1), (9, .iadd, 1), (10, .iload_n 3, 1), (11, .iastore, 1), (12, .aload_n 0, 1), (13, .getfield 18, 3), (16, .iload_n 2, 1), (17, .bipush 30, 2), (19, .imul, 1), (20, .iload_n 1, 1), (21, .iadd, 1), (22, .iload_n 3, 1), (23, .iastore, 1), (24, .aload_n 0, 1), (25, .getfield 22, 3), (28, .iload_n 1, 1), (29, .bipush 30, 2), (31, .imul, 1), (32, .iload_n 2, 1), (33, .iadd, 1), (34, .iload 4, 2), (36, .iastore, 1), (37, .aload_n 0, 1), (38, .getfield 22, 3), (41, .iload_n 2, 1), (42, .bipush 30, 2), (44, .imul, 1), (45, .iload_n 1, 1), (46, .iadd, 1), (47, .iload 4, 2), (49, .iastore, 1), (50, .aload_n 0, 1), (51, .getfield 25, 3), (54, .iload_n 1, 1), (55, .iload_n 2, 1), (56, .iload 5, 2), (58, .invokestatic 58, 3), (61, .return_, 1)]
set_option maxRecDepth 100000 in
theorem kX4_write_ok : kX4_write.all (fun q => decide (decode cX4_write q.1 = .ok q.2)) = true := by decide +kernel
theorem dX4_write_0 : decode cX4_write 0 = .ok (.aload_n 0, 1) := dk_get kX4_write_ok 0 rfl
theorem dX4_write_1 : decode cX4_write 1 = .ok (.getfield 18, 3) := dk_get kX4_write_ok 1 rfl
theorem dX4_write_4 : decode cX4_write 4 = .ok (.iload_n 1, 1) := dk_get kX4_write_ok 2 rfl
theorem dX4_write_5 : decode cX4_write 5 = .ok (.bipush 30, 2) := dk_get kX4_write_ok 3 rfl
theorem dX4_write_7 : decode cX4_write 7 = .ok (.imul, 1) := dk_get kX4_write_ok 4 rfl
theorem dX4_write_8 : decode cX4_write 8 = .ok (.iload_n 2, 1) := dk_get kX4_write_ok 5 rfl
theorem dX4_write_9 : decode cX4_write 9 = .ok (.iadd, 1) := dk_get kX4_write_ok 6 rfl
theorem dX4_write_10 : decode cX4_write 10 = .ok (.iload_n 3, 1) := dk_get kX4_write_ok 7 rfl
theorem dX4_write_11 : decode cX4_write 11 = .ok (.iastore, 1) := dk_get kX4_write_ok 8 rfl
theorem dX4_write_12 : decode cX4_write 12 = .ok (.aload_n 0, 1) := dk_get kX4_write_ok 9 rfl
theorem dX4_write_13 : decode cX4_write 13 = .ok (.getfield 18, 3) := dk_get kX4_write_ok 10 rfl
theorem dX4_write_16 : decode cX4_write 16 = .ok (.iload_n 2, 1) := dk_get kX4_write_ok 11 rfl
theorem dX4_write_17 : decode cX4_write 17 = .ok (.bipush 30, 2) := dk_get kX4_write_ok 12 rfl
theorem dX4_write_19 : decode cX4_write 19 = .ok (.imul, 1) := dk_get kX4_write_ok 13 rfl
theorem dX4_write_20 : decode cX4_write 20 = .ok (.iload_n 1, 1) := dk_get kX4_write_ok 14 rfl
theorem dX4_write_21 : decode cX4_write 21 = .ok (.iadd, 1) := dk_get kX4_write_ok 15 rfl
theorem dX4_write_22 : decode cX4_write 22 = .ok (.iload_n 3, 1) := dk_get kX4_write_ok 16 rfl
theorem dX4_write_23 : decode cX4_write 23 = .ok (.iastore, 1) := dk_get kX4_write_ok 17 rfl
theorem dX4_write_24 : decode cX4_write 24 = .ok (.aload_n 0, 1) := dk_get kX4_write_ok 18 rfl
theorem dX4_write_25 : decode cX4_write 25 = .ok (.getfield 22, 3) := dk_get kX4_write_ok 19 rfl
theorem dX4_write_28 : decode cX4_write 28 = .ok (.iload_n 1, 1) := dk_get kX4_write_ok 20 rfl
theorem dX4_write_29 : decode cX4_write 29 = .ok (.bipush 30, 2) := dk_get kX4_write_ok 21 rfl
theorem dX4_write_31 : decode cX4_write 31 = .ok (.imul, 1) := dk_get kX4_write_ok 22 rfl
theorem dX4_write_32 : decode cX4_write 32 = .ok (.iload_n 2, 1) := dk_get kX4_write_ok 23 rfl
theorem dX4_write_33 : decode cX4_write 33 = .ok (.iadd, 1) := dk_get kX4_write_ok 24 rfl
theorem dX4_write_34 : decode cX4_write 34 = .ok (.iload 4, 2) := dk_get kX4_write_ok 25 rfl
theorem dX4_write_36 : decode cX4_write 36 = .ok (.iastore, 1) := dk_get kX4_write_ok 26 rfl
theorem dX4_write_37 : decode cX4_write 37 = .ok (.aload_n 0, 1) := dk_get kX4_write_ok 27 rfl
theorem dX4_write_38 : decode cX4_write 38 = .ok (.getfield 22, 3) := dk_get kX4_write_ok 28 rfl
theorem dX4_write_41 : decode cX4_write 41 = .ok (.iload_n 2, 1) := dk_get kX4_write_ok 29 rfl
theorem dX4_write_42 : decode cX4_write 42 = .ok (.bipush 30, 2) := dk_get kX4_write_ok 30 rfl
theorem dX4_write_44 : decode cX4_write 44 = .ok (.imul, 1) := dk_get kX4_write_ok 31 rfl
theorem dX4_write_45 : decode cX4_write 45 = .ok (.iload_n 1, 1) := dk_get kX4_write_ok 32 rfl
theorem dX4_write_46 : decode cX4_write 46 = .ok (.iadd, 1) := dk_get kX4_write_ok 33 rfl
theorem dX4_write_47 : decode cX4_write 47 = .ok (.iload 4, 2) := dk_get kX4_write_ok 34 rfl
theorem dX4_write_49 : decode cX4_write 49 = .ok (.iastore, 1) := dk_get kX4_write_ok 35 rfl
theorem dX4_write_50 : decode cX4_write 50 = .ok (.aload_n 0, 1) := dk_get kX4_write_ok 36 rfl
theorem dX4_write_51 : decode cX4_write 51 = .ok (.getfield 25, 3) := dk_get kX4_write_ok 37 rfl
theorem dX4_write_54 : decode cX4_write 54 = .ok (.iload_n 1, 1) := dk_get kX4_write_ok 38 rfl
theorem dX4_write_55 : decode cX4_write 55 = .ok (.iload_n 2, 1) := dk_get kX4_write_ok 39 rfl
theorem dX4_write_56 : decode cX4_write 56 = .ok (.iload 5, 2) := dk_get kX4_write_ok 40 rfl
theorem dX4_write_58 : decode cX4_write 58 = .ok (.invokestatic 58, 3) := dk_get kX4_write_ok 41 rfl
theorem dX4_write_61 : decode cX4_write 61 = .ok (.return_, 1) := dk_get kX4_write_ok 42 rfl
def kX5_init : List (Nat × Instr × Nat) := [(0, .aload_n 0, 1), (1, .invokespecial 3, 3), (4, .aload_n 0, 1), (5, .bipush 10, 2), (7, .newarray .int, 2), (9, .putfield 9, 3), (12, .aload_n 0, 1), (13, .bipush 100, 2), (15, .newarray .int, 2), (17, .putfield 15, 3), (20, .aload_n 0, 1), (21, .bipush 10, 2), (23, .newarray .int, 2), (25, .putfield 18, 3), (28, .aload_n 0, 1), (29, .bipush 10, 2), (31, .newarray .int, 2), (33, .putfield 21, 3), (36, .aload_n 0, 1), (37, .bipush 10, 2), (39, .newarray .int, 2), (41, .putfield 24, 3), (44, .aload_n 0, 1), (45, .aload_n 1, 1), (46, .putfield 27, 3), (49, .aload_n 0, 1), (50, .aload_n 2, 1), (51, .putfield 31, 3), (54, .return_, 1)]
set_option maxRecDepth 100000 in
theorem kX5_init_ok : kX5_init.all (fun q => decide (decode cX5_init q.1 = .ok q.2)) = true := by decide +kernel
theorem dX5_init_0 : decode cX5_init 0 = .ok (.aload_n 0, 1) := dk_get kX5_init_ok 0 rfl
theorem dX5_init_1 : decode cX5_init 1 = .ok (.invokespecial 3, 3) := dk_get kX5_init_ok 1 rfl
theorem dX5_init_4 : decode cX5_init 4 = .ok (.aload_n 0, 1) := dk_get kX5_init_ok 2 rfl
theorem dX5_init_5 : decode cX5_init 5 = .ok (.bipush 10, 2) := dk_get kX5_init_ok 3 rfl
theorem dX5_init_7 : decode cX5_init 7 = .ok (.newarray .int, 2) := dk_get kX5_init_ok 4 rfl
theorem dX5_init_9 : decode cX5_init 9 = .ok (.putfield 9, 3) := dk_get kX5_init_ok 5 rfl
theorem dX5_init_12 : decode cX5_init 12 = .ok (.aload_n 0, 1) := dk_get kX5_init_ok 6 rfl
theorem dX5_init_13 : decode cX5_init 13 = .ok (.bipush 100, 2) := dk_get kX5_init_ok 7 rfl
theorem dX5_init_15 : decode cX5_init 15 = .ok (.newarray .int, 2) := dk_get kX5_init_ok 8 rfl
theorem dX5_init_17 : decode cX5_init 17 = .ok (.putfield 15, 3) := dk_get kX5_init_ok 9 rfl
theorem dX5_init_20 : decode cX5_init 20 = .ok (.aload_n 0, 1) := dk_get kX5_init_ok 10 rfl
theorem dX5_init_21 : decode cX5_init 21 = .ok (.bipush 10, 2) := dk_get kX5_init_ok 11 rfl
theorem dX5_init_23 : decode cX5_init 23 = .ok (.newarray .int, 2) := dk_get kX5_init_ok 12 rfl
theorem dX5_init_25 : decode cX5_init 25 = .ok (.putfield 18, 3) := dk_get kX5_init_ok 13 rfl
theorem dX5_init_28 : decode cX5_init 28 = .ok (.aload_n 0, 1) := dk_get kX5_init_ok 14 rfl
theorem dX5_init_29 : decode cX5_init 29 = .ok (.bipush 10, 2) := dk_get kX5_init_ok 15 rfl
theorem dX5_init_31 : decode cX5_init 31 = .ok (.newarray .int, 2) := dk_get kX5_init_ok 16 rfl
theorem dX5_init_33 : decode cX5_init 33 = .ok (.putfield 21, 3) := dk_get kX5_init_ok 17 rfl
theorem dX5_init_36 : decode cX5_init 36 = .ok (.aload_n 0, 1) := dk_get kX5_init_ok 18 rfl
theorem dX5_init_37 : decode cX5_init 37 = .ok (.bipush 10, 2) := dk_get kX5_init_ok 19 rfl
theorem dX5_init_39 : decode cX5_init 39 = .ok (.newarray .int, 2) := dk_get kX5_init_ok 20 rfl
theorem dX5_init_41 : decode cX5_init 41 = .ok (.putfield 24, 3) := dk_get kX5_init_ok 21 rfl
theorem dX5_init_44 : decode cX5_init 44 = .ok (.aload_n 0, 1) := dk_get kX5_init_ok 22 rfl
theorem dX5_init_45 : decode cX5_init 45 = .ok (.aload_n 1, 1) := dk_get kX5_init_ok 23 rfl
theorem dX5_init_46 : decode cX5_init 46 = .ok (.putfield 27, 3) := dk_get kX5_init_ok 24 rfl
theorem dX5_init_49 : decode cX5_init 49 = .ok (.aload_n 0, 1) := dk_get kX5_init_ok 25 rfl
theorem dX5_init_50 : decode cX5_init 50 = .ok (.aload_n 2, 1) := dk_get kX5_init_ok 26 rfl
theorem dX5_init_51 : decode cX5_init 51 = .ok (.putfield 31, 3) := dk_get kX5_init_ok 27 rfl
theorem dX5_init_54 : decode cX5_init 54 = .ok (.return_, 1) := dk_get kX5_init_ok 28 rfl
def kX5_load : List (Nat × Instr × Nat) := [(0, .aload_n 0, 1), (1, .iconst 0, 1), (2, .putfield 35, 3), (5, .aload_n 0, 1), (6, .aload_n 0, 1), (7, .getfield 31, 3), (10, .invokevirtual 39, 3), (13, .putfield 45, 3), (16, .iconst 0, 1), (17, .istore_n 2, 1), (18, .iload_n 2, 1), (19, .bipush 30, 2), (21, .if_icmp .ge 46, 3), (24, .iload_n 1, 1), (25, .iload_n 2, 1), (26, .iushr, 1), (27, .iconst 1, 1), (28, .iand, 1), (29, .ifCond .eq 32, 3), (32, .aload_n 0, 1), (33, .getfield 35, 3), (36, .bipush 10, 2), (38, .if_icmp .ge 23, 3), (41, .aload_n 0, 1), (42, .getfield 9, 3), (45, .aload_n 0, 1), (46, .getfield 35, 3), (49, .iload_n 2, 1), (50, .iastore, 1), (51, .aload_n 0, 1), (52, .dup, 1), (53, .getfield 35, 3), (56, .iconst 1, 1), (57, .iadd, 1), (58, .putfield 35, 3), (61, .iinc 2 1, 3), (64, .goto (-46), 3), (67, .aload_n 0, 1), (68, .getfield 18, 3), (71, .iconst 0, 1), (72, .invokestatic 48, 3), (75, .aload_n 0, 1), (76, .getfield 21, 3), (79, .iconst 0, 1), (80, .invokestatic 48, 3), (83, .iconst 1, 1), (84, .istore_n 2, 1), (85, .iload_n 2, 1), (86, .aload_n 0, 1), (87, .getfield 35, 3), (90, .if_icmp .ge 114, 3), (93, .aload_n 0, 1), (94, .getfield 9, 3), (97, .iload_n 2, 1), (98, .iaload, 1), (99, .istore_n 3, 1), (100, .iconst 0, 1), (101, .istore 4, 2), (103, .iload 4, 2), (105, .iload_n 2, 1), (106, .if_icmp .ge 92, 3), (109, .aload_n 0, 1), (110, .getfield 9, 3), (113, .iload 4, 2), (115, .iaload, 1), (116, .istore 5, 2), (118, .aload_n 0, 1), (119, .getfield 15, 3), (122, .iload_n 2, 1), (123, .bipush 10, 2), (125, .imul, 1), (126, .iload 4, 2), (128, .iadd, 1), (129, .aload_n 0, 1), (130, .getfield 27, 3), (133, .iload_n 3, 1), (134, .iload 5, 2), (136, .invokevirtual 54, 3), (139, .iastore, 1), (140, .aload_n 0, 1), (141, .getfield 18, 3), (144, .iload_n 2, 1), (145, .iload 4, 2), (147, .aload_n 0, 1), (148, .getfield 31, 3), (151, .iload_n 3, 1), (152, .iload 5, 2), (154, .invokevirtual 60, 3), (157, .invokestatic 64, 3), (160, .aload_n 0, 1), (161, .getfield 21, 3), (164, .iload_n 2, 1), (165, .iload 4, 2), (167, .aload_n 0, 1), (168, .getfield 31, 3), (171, .getfield 68, 3), (174, .iload_n 3, 1), (175, .iaload, 1), (176, .iload 5, 2), (178, .iushr, 1), (179, .iconst 1, 1), (180, .iand, 1), (181, .ifCond .eq 7, 3), (184, .iconst 1, 1), (185, .goto 4, 3), (188, .iconst 0, 1), (189, .invokestatic 64, 3), (192, .iinc 4 1, 3), (195, .goto (-92), 3), (198, .iinc 2 1, 3), (201, .goto (-116), 3), (204, .return_, 1)]
set_option maxRecDepth 100000 in
theorem kX5_load_ok : kX5_load.all (fun q => decide (decode cX5_load q.1 = .ok q.2)) = true := by decide +kernel
theorem dX5_load_0 : decode cX5_load 0 = .ok (.aload_n 0, 1) := dk_get kX5_load_ok 0 rfl
theorem dX5_load_1 : decode cX5_load 1 = .ok (.iconst 0, 1) := dk_get kX5_load_ok 1 rfl
theorem dX5_load_2 : decode cX5_load 2 = .ok (.putfield 35, 3) := dk_get kX5_load_ok 2 rfl
theorem dX5_load_5 : decode cX5_load 5 = .ok (.aload_n 0, 1) := dk_get kX5_load_ok 3 rfl
theorem dX5_load_6 : decode cX5_load 6 = .ok (.aload_n 0, 1) := dk_get kX5_load_ok 4 rfl
theorem dX5_load_7 : decode cX5_load 7 = .ok (.getfield 31, 3) := dk_get kX5_load_ok 5 rfl
theorem dX5_load_10 : decode cX5_load 10 = .ok (.invokevirtual 39, 3) := dk_get kX5_load_ok 6 rfl
theorem dX5_load_13 : decode cX5_load 13 = .ok (.putfield 45, 3) := dk_get kX5_load_ok 7 rfl
theorem dX5_load_16 : decode cX5_load 16 = .ok (.iconst 0, 1) := dk_get kX5_load_ok 8 rfl
theorem dX5_load_17 : decode cX5_load 17 = .ok (.istore_n 2, 1) := dk_get kX5_load_ok 9 rfl
theorem dX5_load_18 : decode cX5_load 18 = .ok (.iload_n 2, 1) := dk_get kX5_load_ok 10 rfl
theorem dX5_load_19 : decode cX5_load 19 = .ok (.bipush 30, 2) := dk_get kX5_load_ok 11 rfl
theorem dX5_load_21 : decode cX5_load 21 = .ok (.if_icmp .ge 46, 3) := dk_get kX5_load_ok 12 rfl
theorem dX5_load_24 : decode cX5_load 24 = .ok (.iload_n 1, 1) := dk_get kX5_load_ok 13 rfl
theorem dX5_load_25 : decode cX5_load 25 = .ok (.iload_n 2, 1) := dk_get kX5_load_ok 14 rfl
theorem dX5_load_26 : decode cX5_load 26 = .ok (.iushr, 1) := dk_get kX5_load_ok 15 rfl
theorem dX5_load_27 : decode cX5_load 27 = .ok (.iconst 1, 1) := dk_get kX5_load_ok 16 rfl
theorem dX5_load_28 : decode cX5_load 28 = .ok (.iand, 1) := dk_get kX5_load_ok 17 rfl
theorem dX5_load_29 : decode cX5_load 29 = .ok (.ifCond .eq 32, 3) := dk_get kX5_load_ok 18 rfl
theorem dX5_load_32 : decode cX5_load 32 = .ok (.aload_n 0, 1) := dk_get kX5_load_ok 19 rfl
theorem dX5_load_33 : decode cX5_load 33 = .ok (.getfield 35, 3) := dk_get kX5_load_ok 20 rfl
theorem dX5_load_36 : decode cX5_load 36 = .ok (.bipush 10, 2) := dk_get kX5_load_ok 21 rfl
theorem dX5_load_38 : decode cX5_load 38 = .ok (.if_icmp .ge 23, 3) := dk_get kX5_load_ok 22 rfl
theorem dX5_load_41 : decode cX5_load 41 = .ok (.aload_n 0, 1) := dk_get kX5_load_ok 23 rfl
theorem dX5_load_42 : decode cX5_load 42 = .ok (.getfield 9, 3) := dk_get kX5_load_ok 24 rfl
theorem dX5_load_45 : decode cX5_load 45 = .ok (.aload_n 0, 1) := dk_get kX5_load_ok 25 rfl
theorem dX5_load_46 : decode cX5_load 46 = .ok (.getfield 35, 3) := dk_get kX5_load_ok 26 rfl
theorem dX5_load_49 : decode cX5_load 49 = .ok (.iload_n 2, 1) := dk_get kX5_load_ok 27 rfl
theorem dX5_load_50 : decode cX5_load 50 = .ok (.iastore, 1) := dk_get kX5_load_ok 28 rfl
theorem dX5_load_51 : decode cX5_load 51 = .ok (.aload_n 0, 1) := dk_get kX5_load_ok 29 rfl
theorem dX5_load_52 : decode cX5_load 52 = .ok (.dup, 1) := dk_get kX5_load_ok 30 rfl
theorem dX5_load_53 : decode cX5_load 53 = .ok (.getfield 35, 3) := dk_get kX5_load_ok 31 rfl
theorem dX5_load_56 : decode cX5_load 56 = .ok (.iconst 1, 1) := dk_get kX5_load_ok 32 rfl
theorem dX5_load_57 : decode cX5_load 57 = .ok (.iadd, 1) := dk_get kX5_load_ok 33 rfl
theorem dX5_load_58 : decode cX5_load 58 = .ok (.putfield 35, 3) := dk_get kX5_load_ok 34 rfl
theorem dX5_load_61 : decode cX5_load 61 = .ok (.iinc 2 1, 3) := dk_get kX5_load_ok 35 rfl
theorem dX5_load_64 : decode cX5_load 64 = .ok (.goto (-46), 3) := dk_get kX5_load_ok 36 rfl
theorem dX5_load_67 : decode cX5_load 67 = .ok (.aload_n 0, 1) := dk_get kX5_load_ok 37 rfl
theorem dX5_load_68 : decode cX5_load 68 = .ok (.getfield 18, 3) := dk_get kX5_load_ok 38 rfl
theorem dX5_load_71 : decode cX5_load 71 = .ok (.iconst 0, 1) := dk_get kX5_load_ok 39 rfl
theorem dX5_load_72 : decode cX5_load 72 = .ok (.invokestatic 48, 3) := dk_get kX5_load_ok 40 rfl
theorem dX5_load_75 : decode cX5_load 75 = .ok (.aload_n 0, 1) := dk_get kX5_load_ok 41 rfl
theorem dX5_load_76 : decode cX5_load 76 = .ok (.getfield 21, 3) := dk_get kX5_load_ok 42 rfl
theorem dX5_load_79 : decode cX5_load 79 = .ok (.iconst 0, 1) := dk_get kX5_load_ok 43 rfl
theorem dX5_load_80 : decode cX5_load 80 = .ok (.invokestatic 48, 3) := dk_get kX5_load_ok 44 rfl
theorem dX5_load_83 : decode cX5_load 83 = .ok (.iconst 1, 1) := dk_get kX5_load_ok 45 rfl
theorem dX5_load_84 : decode cX5_load 84 = .ok (.istore_n 2, 1) := dk_get kX5_load_ok 46 rfl
theorem dX5_load_85 : decode cX5_load 85 = .ok (.iload_n 2, 1) := dk_get kX5_load_ok 47 rfl
theorem dX5_load_86 : decode cX5_load 86 = .ok (.aload_n 0, 1) := dk_get kX5_load_ok 48 rfl
theorem dX5_load_87 : decode cX5_load 87 = .ok (.getfield 35, 3) := dk_get kX5_load_ok 49 rfl
theorem dX5_load_90 : decode cX5_load 90 = .ok (.if_icmp .ge 114, 3) := dk_get kX5_load_ok 50 rfl
theorem dX5_load_93 : decode cX5_load 93 = .ok (.aload_n 0, 1) := dk_get kX5_load_ok 51 rfl
theorem dX5_load_94 : decode cX5_load 94 = .ok (.getfield 9, 3) := dk_get kX5_load_ok 52 rfl
theorem dX5_load_97 : decode cX5_load 97 = .ok (.iload_n 2, 1) := dk_get kX5_load_ok 53 rfl
theorem dX5_load_98 : decode cX5_load 98 = .ok (.iaload, 1) := dk_get kX5_load_ok 54 rfl
theorem dX5_load_99 : decode cX5_load 99 = .ok (.istore_n 3, 1) := dk_get kX5_load_ok 55 rfl
theorem dX5_load_100 : decode cX5_load 100 = .ok (.iconst 0, 1) := dk_get kX5_load_ok 56 rfl
theorem dX5_load_101 : decode cX5_load 101 = .ok (.istore 4, 2) := dk_get kX5_load_ok 57 rfl
theorem dX5_load_103 : decode cX5_load 103 = .ok (.iload 4, 2) := dk_get kX5_load_ok 58 rfl
theorem dX5_load_105 : decode cX5_load 105 = .ok (.iload_n 2, 1) := dk_get kX5_load_ok 59 rfl
theorem dX5_load_106 : decode cX5_load 106 = .ok (.if_icmp .ge 92, 3) := dk_get kX5_load_ok 60 rfl
theorem dX5_load_109 : decode cX5_load 109 = .ok (.aload_n 0, 1) := dk_get kX5_load_ok 61 rfl
theorem dX5_load_110 : decode cX5_load 110 = .ok (.getfield 9, 3) := dk_get kX5_load_ok 62 rfl
theorem dX5_load_113 : decode cX5_load 113 = .ok (.iload 4, 2) := dk_get kX5_load_ok 63 rfl
theorem dX5_load_115 : decode cX5_load 115 = .ok (.iaload, 1) := dk_get kX5_load_ok 64 rfl
theorem dX5_load_116 : decode cX5_load 116 = .ok (.istore 5, 2) := dk_get kX5_load_ok 65 rfl
theorem dX5_load_118 : decode cX5_load 118 = .ok (.aload_n 0, 1) := dk_get kX5_load_ok 66 rfl
theorem dX5_load_119 : decode cX5_load 119 = .ok (.getfield 15, 3) := dk_get kX5_load_ok 67 rfl
theorem dX5_load_122 : decode cX5_load 122 = .ok (.iload_n 2, 1) := dk_get kX5_load_ok 68 rfl
theorem dX5_load_123 : decode cX5_load 123 = .ok (.bipush 10, 2) := dk_get kX5_load_ok 69 rfl
theorem dX5_load_125 : decode cX5_load 125 = .ok (.imul, 1) := dk_get kX5_load_ok 70 rfl
theorem dX5_load_126 : decode cX5_load 126 = .ok (.iload 4, 2) := dk_get kX5_load_ok 71 rfl
theorem dX5_load_128 : decode cX5_load 128 = .ok (.iadd, 1) := dk_get kX5_load_ok 72 rfl
theorem dX5_load_129 : decode cX5_load 129 = .ok (.aload_n 0, 1) := dk_get kX5_load_ok 73 rfl
theorem dX5_load_130 : decode cX5_load 130 = .ok (.getfield 27, 3) := dk_get kX5_load_ok 74 rfl
theorem dX5_load_133 : decode cX5_load 133 = .ok (.iload_n 3, 1) := dk_get kX5_load_ok 75 rfl
theorem dX5_load_134 : decode cX5_load 134 = .ok (.iload 5, 2) := dk_get kX5_load_ok 76 rfl
theorem dX5_load_136 : decode cX5_load 136 = .ok (.invokevirtual 54, 3) := dk_get kX5_load_ok 77 rfl
theorem dX5_load_139 : decode cX5_load 139 = .ok (.iastore, 1) := dk_get kX5_load_ok 78 rfl
theorem dX5_load_140 : decode cX5_load 140 = .ok (.aload_n 0, 1) := dk_get kX5_load_ok 79 rfl
theorem dX5_load_141 : decode cX5_load 141 = .ok (.getfield 18, 3) := dk_get kX5_load_ok 80 rfl
theorem dX5_load_144 : decode cX5_load 144 = .ok (.iload_n 2, 1) := dk_get kX5_load_ok 81 rfl
theorem dX5_load_145 : decode cX5_load 145 = .ok (.iload 4, 2) := dk_get kX5_load_ok 82 rfl
theorem dX5_load_147 : decode cX5_load 147 = .ok (.aload_n 0, 1) := dk_get kX5_load_ok 83 rfl
theorem dX5_load_148 : decode cX5_load 148 = .ok (.getfield 31, 3) := dk_get kX5_load_ok 84 rfl
theorem dX5_load_151 : decode cX5_load 151 = .ok (.iload_n 3, 1) := dk_get kX5_load_ok 85 rfl
theorem dX5_load_152 : decode cX5_load 152 = .ok (.iload 5, 2) := dk_get kX5_load_ok 86 rfl
theorem dX5_load_154 : decode cX5_load 154 = .ok (.invokevirtual 60, 3) := dk_get kX5_load_ok 87 rfl
theorem dX5_load_157 : decode cX5_load 157 = .ok (.invokestatic 64, 3) := dk_get kX5_load_ok 88 rfl
theorem dX5_load_160 : decode cX5_load 160 = .ok (.aload_n 0, 1) := dk_get kX5_load_ok 89 rfl
theorem dX5_load_161 : decode cX5_load 161 = .ok (.getfield 21, 3) := dk_get kX5_load_ok 90 rfl
theorem dX5_load_164 : decode cX5_load 164 = .ok (.iload_n 2, 1) := dk_get kX5_load_ok 91 rfl
theorem dX5_load_165 : decode cX5_load 165 = .ok (.iload 4, 2) := dk_get kX5_load_ok 92 rfl
theorem dX5_load_167 : decode cX5_load 167 = .ok (.aload_n 0, 1) := dk_get kX5_load_ok 93 rfl
theorem dX5_load_168 : decode cX5_load 168 = .ok (.getfield 31, 3) := dk_get kX5_load_ok 94 rfl
theorem dX5_load_171 : decode cX5_load 171 = .ok (.getfield 68, 3) := dk_get kX5_load_ok 95 rfl
theorem dX5_load_174 : decode cX5_load 174 = .ok (.iload_n 3, 1) := dk_get kX5_load_ok 96 rfl
theorem dX5_load_175 : decode cX5_load 175 = .ok (.iaload, 1) := dk_get kX5_load_ok 97 rfl
theorem dX5_load_176 : decode cX5_load 176 = .ok (.iload 5, 2) := dk_get kX5_load_ok 98 rfl
theorem dX5_load_178 : decode cX5_load 178 = .ok (.iushr, 1) := dk_get kX5_load_ok 99 rfl
theorem dX5_load_179 : decode cX5_load 179 = .ok (.iconst 1, 1) := dk_get kX5_load_ok 100 rfl
theorem dX5_load_180 : decode cX5_load 180 = .ok (.iand, 1) := dk_get kX5_load_ok 101 rfl
theorem dX5_load_181 : decode cX5_load 181 = .ok (.ifCond .eq 7, 3) := dk_get kX5_load_ok 102 rfl
theorem dX5_load_184 : decode cX5_load 184 = .ok (.iconst 1, 1) := dk_get kX5_load_ok 103 rfl
theorem dX5_load_185 : decode cX5_load 185 = .ok (.goto 4, 3) := dk_get kX5_load_ok 104 rfl
theorem dX5_load_188 : decode cX5_load 188 = .ok (.iconst 0, 1) := dk_get kX5_load_ok 105 rfl
theorem dX5_load_189 : decode cX5_load 189 = .ok (.invokestatic 64, 3) := dk_get kX5_load_ok 106 rfl
theorem dX5_load_192 : decode cX5_load 192 = .ok (.iinc 4 1, 3) := dk_get kX5_load_ok 107 rfl
theorem dX5_load_195 : decode cX5_load 195 = .ok (.goto (-92), 3) := dk_get kX5_load_ok 108 rfl
theorem dX5_load_198 : decode cX5_load 198 = .ok (.iinc 2 1, 3) := dk_get kX5_load_ok 109 rfl
theorem dX5_load_201 : decode cX5_load 201 = .ok (.goto (-116), 3) := dk_get kX5_load_ok 110 rfl
theorem dX5_load_204 : decode cX5_load 204 = .ok (.return_, 1) := dk_get kX5_load_ok 111 rfl
def kX5_pull : List (Nat × Instr × Nat) := [(0, .aload_n 0, 1), (1, .getfield 15, 3), (4, .iload_n 1, 1), (5, .bipush 10, 2), (7, .imul, 1), (8, .iload_n 2, 1), (9, .iadd, 1), (10, .iaload, 1), (11, .ireturn, 1)]
set_option maxRecDepth 100000 in
theorem kX5_pull_ok : kX5_pull.all (fun q => decide (decode cX5_pull q.1 = .ok q.2)) = true := by decide +kernel
theorem dX5_pull_0 : decode cX5_pull 0 = .ok (.aload_n 0, 1) := dk_get kX5_pull_ok 0 rfl
theorem dX5_pull_1 : decode cX5_pull 1 = .ok (.getfield 15, 3) := dk_get kX5_pull_ok 1 rfl
theorem dX5_pull_4 : decode cX5_pull 4 = .ok (.iload_n 1, 1) := dk_get kX5_pull_ok 2 rfl
theorem dX5_pull_5 : decode cX5_pull 5 = .ok (.bipush 10, 2) := dk_get kX5_pull_ok 3 rfl
theorem dX5_pull_7 : decode cX5_pull 7 = .ok (.imul, 1) := dk_get kX5_pull_ok 4 rfl
theorem dX5_pull_8 : decode cX5_pull 8 = .ok (.iload_n 2, 1) := dk_get kX5_pull_ok 5 rfl
theorem dX5_pull_9 : decode cX5_pull 9 = .ok (.iadd, 1) := dk_get kX5_pull_ok 6 rfl
theorem dX5_pull_10 : decode cX5_pull 10 = .ok (.iaload, 1) := dk_get kX5_pull_ok 7 rfl
theorem dX5_pull_11 : decode cX5_pull 11 = .ok (.ireturn, 1) := dk_get kX5_pull_ok 8 rfl
def kX5_placeOf : List (Nat × Instr × Nat) := [(0, .iconst 0, 1), (1, .istore_n 2, 1), (2, .iload_n 2, 1), (3, .aload_n 0, 1), (4, .getfield 35, 3), (7, .if_icmp .ge 21, 3), (10, .aload_n 0, 1), (11, .getfield 9, 3), (14, .iload_n 2, 1), (15, .iaload, 1), (16, .iload_n 1, 1), (17, .if_icmp .ne 5, 3), (20, .iload_n 2, 1), (21, .ireturn, 1), (22, .iinc 2 1, 3), (25, .goto (-23), 3), (28, .iconst (-1), 1), (29, .ireturn, 1)]
set_option maxRecDepth 100000 in
theorem kX5_placeOf_ok : kX5_placeOf.all (fun q => decide (decode cX5_placeOf q.1 = .ok q.2)) = true := by decide +kernel
theorem dX5_placeOf_0 : decode cX5_placeOf 0 = .ok (.iconst 0, 1) := dk_get kX5_placeOf_ok 0 rfl
theorem dX5_placeOf_1 : decode cX5_placeOf 1 = .ok (.istore_n 2, 1) := dk_get kX5_placeOf_ok 1 rfl
theorem dX5_placeOf_2 : decode cX5_placeOf 2 = .ok (.iload_n 2, 1) := dk_get kX5_placeOf_ok 2 rfl
theorem dX5_placeOf_3 : decode cX5_placeOf 3 = .ok (.aload_n 0, 1) := dk_get kX5_placeOf_ok 3 rfl
theorem dX5_placeOf_4 : decode cX5_placeOf 4 = .ok (.getfield 35, 3) := dk_get kX5_placeOf_ok 4 rfl
theorem dX5_placeOf_7 : decode cX5_placeOf 7 = .ok (.if_icmp .ge 21, 3) := dk_get kX5_placeOf_ok 5 rfl
theorem dX5_placeOf_10 : decode cX5_placeOf 10 = .ok (.aload_n 0, 1) := dk_get kX5_placeOf_ok 6 rfl
theorem dX5_placeOf_11 : decode cX5_placeOf 11 = .ok (.getfield 9, 3) := dk_get kX5_placeOf_ok 7 rfl
theorem dX5_placeOf_14 : decode cX5_placeOf 14 = .ok (.iload_n 2, 1) := dk_get kX5_placeOf_ok 8 rfl
theorem dX5_placeOf_15 : decode cX5_placeOf 15 = .ok (.iaload, 1) := dk_get kX5_placeOf_ok 9 rfl
theorem dX5_placeOf_16 : decode cX5_placeOf 16 = .ok (.iload_n 1, 1) := dk_get kX5_placeOf_ok 10 rfl
theorem dX5_placeOf_17 : decode cX5_placeOf 17 = .ok (.if_icmp .ne 5, 3) := dk_get kX5_placeOf_ok 11 rfl
theorem dX5_placeOf_20 : decode cX5_placeOf 20 = .ok (.iload_n 2, 1) := dk_get kX5_placeOf_ok 12 rfl
theorem dX5_placeOf_21 : decode cX5_placeOf 21 = .ok (.ireturn, 1) := dk_get kX5_placeOf_ok 13 rfl
theorem dX5_placeOf_22 : decode cX5_placeOf 22 = .ok (.iinc 2 1, 3) := dk_get kX5_placeOf_ok 14 rfl
theorem dX5_placeOf_25 : decode cX5_placeOf 25 = .ok (.goto (-23), 3) := dk_get kX5_placeOf_ok 15 rfl
theorem dX5_placeOf_28 : decode cX5_placeOf 28 = .ok (.iconst (-1), 1) := dk_get kX5_placeOf_ok 16 rfl
theorem dX5_placeOf_29 : decode cX5_placeOf 29 = .ok (.ireturn, 1) := dk_get kX5_placeOf_ok 17 rfl
def kX5_settle : List (Nat × Instr × Nat) := [(0, .aload_n 0, 1), (1, .iload_n 1, 1), (2, .invokevirtual 71, 3), (5, .istore 4, 2), (7, .aload_n 0, 1), (8, .iload_n 2, 1), (9, .invokevirtual 71, 3), (12, .istore 5, 2), (14, .iload 4, 2), (16, .iconst (-1), 1), (17, .if_icmp .eq 32, 3), (20, .iload 5, 2), (22, .iconst (-1), 1), (23, .if_icmp .eq 26, 3), (26, .iload_n 3, 1), (27, .ifCond .eq 10, 3), (30, .aload_n 0, 1), (31, .getfield 21, 3), (34, .goto 7, 3), (37, .aload_n 0, 1), (38, .getfield 18, 3), (41, .iload 4, 2), (43, .iload 5, 2), (45, .iconst 1, 1), (46, .invokestatic 64, 3), (49, .return_, 1)]
set_option maxRecDepth 100000 in
theorem kX5_settle_ok : kX5_settle.all (fun q => decide (decode cX5_settle q.1 = .ok q.2)) = true := by decide +kernel
theorem dX5_settle_0 : decode cX5_settle 0 = .ok (.aload_n 0, 1) := dk_get kX5_settle_ok 0 rfl
theorem dX5_settle_1 : decode cX5_settle 1 = .ok (.iload_n 1, 1) := dk_get kX5_settle_ok 1 rfl
theorem dX5_settle_2 : decode cX5_settle 2 = .ok (.invokevirtual 71, 3) := dk_get kX5_settle_ok 2 rfl
theorem dX5_settle_5 : decode cX5_settle 5 = .ok (.istore 4, 2) := dk_get kX5_settle_ok 3 rfl
theorem dX5_settle_7 : decode cX5_settle 7 = .ok (.aload_n 0, 1) := dk_get kX5_settle_ok 4 rfl
theorem dX5_settle_8 : decode cX5_settle 8 = .ok (.iload_n 2, 1) := dk_get kX5_settle_ok 5 rfl
theorem dX5_settle_9 : decode cX5_settle 9 = .ok (.invokevirtual 71, 3) := dk_get kX5_settle_ok 6 rfl
theorem dX5_settle_12 : decode cX5_settle 12 = .ok (.istore 5, 2) := dk_get kX5_settle_ok 7 rfl
theorem dX5_settle_14 : decode cX5_settle 14 = .ok (.iload 4, 2) := dk_get kX5_settle_ok 8 rfl
theorem dX5_settle_16 : decode cX5_settle 16 = .ok (.iconst (-1), 1) := dk_get kX5_settle_ok 9 rfl
theorem dX5_settle_17 : decode cX5_settle 17 = .ok (.if_icmp .eq 32, 3) := dk_get kX5_settle_ok 10 rfl
theorem dX5_settle_20 : decode cX5_settle 20 = .ok (.iload 5, 2) := dk_get kX5_settle_ok 11 rfl
theorem dX5_settle_22 : decode cX5_settle 22 = .ok (.iconst (-1), 1) := dk_get kX5_settle_ok 12 rfl
theorem dX5_settle_23 : decode cX5_settle 23 = .ok (.if_icmp .eq 26, 3) := dk_get kX5_settle_ok 13 rfl
theorem dX5_settle_26 : decode cX5_settle 26 = .ok (.iload_n 3, 1) := dk_get kX5_settle_ok 14 rfl
theorem dX5_settle_27 : decode cX5_settle 27 = .ok (.ifCond .eq 10, 3) := dk_get kX5_settle_ok 15 rfl
theorem dX5_settle_30 : decode cX5_settle 30 = .ok (.aload_n 0, 1) := dk_get kX5_settle_ok 16 rfl
theorem dX5_settle_31 : decode cX5_settle 31 = .ok (.getfield 21, 3) := dk_get kX5_settle_ok 17 rfl
theorem dX5_settle_34 : decode cX5_settle 34 = .ok (.goto 7, 3) := dk_get kX5_settle_ok 18 rfl
theorem dX5_settle_37 : decode cX5_settle 37 = .ok (.aload_n 0, 1) := dk_get kX5_settle_ok 19 rfl
theorem dX5_settle_38 : decode cX5_settle 38 = .ok (.getfield 18, 3) := dk_get kX5_settle_ok 20 rfl
theorem dX5_settle_41 : decode cX5_settle 41 = .ok (.iload 4, 2) := dk_get kX5_settle_ok 21 rfl
theorem dX5_settle_43 : decode cX5_settle 43 = .ok (.iload 5, 2) := dk_get kX5_settle_ok 22 rfl
theorem dX5_settle_45 : decode cX5_settle 45 = .ok (.iconst 1, 1) := dk_get kX5_settle_ok 23 rfl
theorem dX5_settle_46 : decode cX5_settle 46 = .ok (.invokestatic 64, 3) := dk_get kX5_settle_ok 24 rfl
theorem dX5_settle_49 : decode cX5_settle 49 = .ok (.return_, 1) := dk_get kX5_settle_ok 25 rfl
def kX5_lookAt : List (Nat × Instr × Nat) := [(0, .aload_n 0, 1), (1, .getfield 24, 3), (4, .iconst 0, 1), (5, .invokestatic 48, 3), (8, .iconst 1, 1), (9, .istore_n 2, 1), (10, .iload_n 2, 1), (11, .aload_n 0, 1), (12, .getfield 35, 3), (15, .if_icmp .ge 55, 3), (18, .iconst 0, 1), (19, .istore_n 3, 1), (20, .iload_n 3, 1), (21, .iload_n 2, 1), (22, .if_icmp .ge 42, 3), (25, .aload_n 0, 1), (26, .getfield 24, 3), (29, .iload_n 2, 1), (30, .iload_n 3, 1), (31, .aload_n 1, 1), (32, .aload_n 0, 1), (33, .getfield 9, 3), (36, .iload_n 2, 1), (37, .iaload, 1), (38, .iaload, 1), (39, .aload_n 1, 1), (40, .aload_n 0, 1), (41, .getfield 9, 3), (44, .iload_n 3, 1), (45, .iaload, 1), (46, .iaload, 1), (47, .if_icmp .ne 7, 3), (50, .iconst 1, 1), (51, .goto 4, 3), (54, .iconst 0, 1), (55, .invokestatic 64, 3), (58, .iinc 3 1, 3), (61, .goto (-41), 3), (64, .iinc 2 1, 3), (67, .goto (-57), 3), (70, .return_, 1)]
set_option maxRecDepth 100000 in
theorem kX5_lookAt_ok : kX5_lookAt.all (fun q => decide (decode cX5_lookAt q.1 = .ok q.2)) = true := by decide +kernel
theorem dX5_lookAt_0 : decode cX5_lookAt 0 = .ok (.aload_n 0, 1) := dk_get kX5_lookAt_ok 0 rfl
theorem dX5_lookAt_1 : decode cX5_lookAt 1 = .ok (.getfield 24, 3) := dk_get kX5_lookAt_ok 1 rfl
theorem dX5_lookAt_4 : decode cX5_lookAt 4 = .ok (.iconst 0, 1) := dk_get kX5_lookAt_ok 2 rfl
theorem dX5_lookAt_5 : decode cX5_lookAt 5 = .ok (.invokestatic 48, 3) := dk_get kX5_lookAt_ok 3 rfl
theorem dX5_lookAt_8 : decode cX5_lookAt 8 = .ok (.iconst 1, 1) := dk_get kX5_lookAt_ok 4 rfl
theorem dX5_lookAt_9 : decode cX5_lookAt 9 = .ok (.istore_n 2, 1) := dk_get kX5_lookAt_ok 5 rfl
theorem dX5_lookAt_10 : decode cX5_lookAt 10 = .ok (.iload_n 2, 1) := dk_get kX5_lookAt_ok 6 rfl
theorem dX5_lookAt_11 : decode cX5_lookAt 11 = .ok (.aload_n 0, 1) := dk_get kX5_lookAt_ok 7 rfl
theorem dX5_lookAt_12 : decode cX5_lookAt 12 = .ok (.getfield 35, 3) := dk_get kX5_lookAt_ok 8 rfl
theorem dX5_lookAt_15 : decode cX5_lookAt 15 = .ok (.if_icmp .ge 55, 3) := dk_get kX5_lookAt_ok 9 rfl
theorem dX5_lookAt_18 : decode cX5_lookAt 18 = .ok (.iconst 0, 1) := dk_get kX5_lookAt_ok 10 rfl
theorem dX5_lookAt_19 : decode cX5_lookAt 19 = .ok (.istore_n 3, 1) := dk_get kX5_lookAt_ok 11 rfl
theorem dX5_lookAt_20 : decode cX5_lookAt 20 = .ok (.iload_n 3, 1) := dk_get kX5_lookAt_ok 12 rfl
theorem dX5_lookAt_21 : decode cX5_lookAt 21 = .ok (.iload_n 2, 1) := dk_get kX5_lookAt_ok 13 rfl
theorem dX5_lookAt_22 : decode cX5_lookAt 22 = .ok (.if_icmp .ge 42, 3) := dk_get kX5_lookAt_ok 14 rfl
theorem dX5_lookAt_25 : decode cX5_lookAt 25 = .ok (.aload_n 0, 1) := dk_get kX5_lookAt_ok 15 rfl
theorem dX5_lookAt_26 : decode cX5_lookAt 26 = .ok (.getfield 24, 3) := dk_get kX5_lookAt_ok 16 rfl
theorem dX5_lookAt_29 : decode cX5_lookAt 29 = .ok (.iload_n 2, 1) := dk_get kX5_lookAt_ok 17 rfl
theorem dX5_lookAt_30 : decode cX5_lookAt 30 = .ok (.iload_n 3, 1) := dk_get kX5_lookAt_ok 18 rfl
theorem dX5_lookAt_31 : decode cX5_lookAt 31 = .ok (.aload_n 1, 1) := dk_get kX5_lookAt_ok 19 rfl
theorem dX5_lookAt_32 : decode cX5_lookAt 32 = .ok (.aload_n 0, 1) := dk_get kX5_lookAt_ok 20 rfl
theorem dX5_lookAt_33 : decode cX5_lookAt 33 = .ok (.getfield 9, 3) := dk_get kX5_lookAt_ok 21 rfl
theorem dX5_lookAt_36 : decode cX5_lookAt 36 = .ok (.iload_n 2, 1) := dk_get kX5_lookAt_ok 22 rfl
theorem dX5_lookAt_37 : decode cX5_lookAt 37 = .ok (.iaload, 1) := dk_get kX5_lookAt_ok 23 rfl
theorem dX5_lookAt_38 : decode cX5_lookAt 38 = .ok (.iaload, 1) := dk_get kX5_lookAt_ok 24 rfl
theorem dX5_lookAt_39 : decode cX5_lookAt 39 = .ok (.aload_n 1, 1) := dk_get kX5_lookAt_ok 25 rfl
theorem dX5_lookAt_40 : decode cX5_lookAt 40 = .ok (.aload_n 0, 1) := dk_get kX5_lookAt_ok 26 rfl
theorem dX5_lookAt_41 : decode cX5_lookAt 41 = .ok (.getfield 9, 3) := dk_get kX5_lookAt_ok 27 rfl
theorem dX5_lookAt_44 : decode cX5_lookAt 44 = .ok (.iload_n 3, 1) := dk_get kX5_lookAt_ok 28 rfl
theorem dX5_lookAt_45 : decode cX5_lookAt 45 = .ok (.iaload, 1) := dk_get kX5_lookAt_ok 29 rfl
theorem dX5_lookAt_46 : decode cX5_lookAt 46 = .ok (.iaload, 1) := dk_get kX5_lookAt_ok 30 rfl
theorem dX5_lookAt_47 : decode cX5_lookAt 47 = .ok (.if_icmp .ne 7, 3) := dk_get kX5_lookAt_ok 31 rfl
theorem dX5_lookAt_50 : decode cX5_lookAt 50 = .ok (.iconst 1, 1) := dk_get kX5_lookAt_ok 32 rfl
theorem dX5_lookAt_51 : decode cX5_lookAt 51 = .ok (.goto 4, 3) := dk_get kX5_lookAt_ok 33 rfl
theorem dX5_lookAt_54 : decode cX5_lookAt 54 = .ok (.iconst 0, 1) := dk_get kX5_lookAt_ok 34 rfl
theorem dX5_lookAt_55 : decode cX5_lookAt 55 = .ok (.invokestatic 64, 3) := dk_get kX5_lookAt_ok 35 rfl
theorem dX5_lookAt_58 : decode cX5_lookAt 58 = .ok (.iinc 3 1, 3) := dk_get kX5_lookAt_ok 36 rfl
theorem dX5_lookAt_61 : decode cX5_lookAt 61 = .ok (.goto (-41), 3) := dk_get kX5_lookAt_ok 37 rfl
theorem dX5_lookAt_64 : decode cX5_lookAt 64 = .ok (.iinc 2 1, 3) := dk_get kX5_lookAt_ok 38 rfl
theorem dX5_lookAt_67 : decode cX5_lookAt 67 = .ok (.goto (-57), 3) := dk_get kX5_lookAt_ok 39 rfl
theorem dX5_lookAt_70 : decode cX5_lookAt 70 = .ok (.return_, 1) := dk_get kX5_lookAt_ok 40 rfl
def kX5_amounts : List (Nat × Instr × Nat) := [(0, .lconst 0, 1), (1, .lstore_n 1, 1), (2, .iconst 1, 1), (3, .istore_n 3, 1), (4, .iload_n 3, 1), (5, .aload_n 0, 1), (6, .getfield 35, 3), (9, .if_icmp .ge 38, 3), (12, .iconst 0, 1), (13, .istore 4, 2), (15, .iload 4, 2), (17, .iload_n 3, 1), (18, .if_icmp .ge 23, 3), (21, .lload_n 1, 1), (22, .aload_n 0, 1), (23, .iload_n 3, 1), (24, .iload 4, 2), (26, .invokevirtual 75, 3), (29, .invokestatic 76, 3), (32, .i2l, 1), (33, .ladd, 1), (34, .lstore_n 1, 1), (35, .iinc 4 1, 3), (38, .goto (-23), 3), (41, .iinc 3 1, 3), (44, .goto (-40), 3), (47, .lload_n 1, 1), (48, .lreturn, 1)]
set_option maxRecDepth 100000 in
theorem kX5_amounts_ok : kX5_amounts.all (fun q => decide (decode cX5_amounts q.1 = .ok q.2)) = true := by decide +kernel
theorem dX5_amounts_0 : decode cX5_amounts 0 = .ok (.lconst 0, 1) := dk_get kX5_amounts_ok 0 rfl
theorem dX5_amounts_1 : decode cX5_amounts 1 = .ok (.lstore_n 1, 1) := dk_get kX5_amounts_ok 1 rfl
theorem dX5_amounts_2 : decode cX5_amounts 2 = .ok (.iconst 1, 1) := dk_get kX5_amounts_ok 2 rfl
theorem dX5_amounts_3 : decode cX5_amounts 3 = .ok (.istore_n 3, 1) := dk_get kX5_amounts_ok 3 rfl
theorem dX5_amounts_4 : decode cX5_amounts 4 = .ok (.iload_n 3, 1) := dk_get kX5_amounts_ok 4 rfl
theorem dX5_amounts_5 : decode cX5_amounts 5 = .ok (.aload_n 0, 1) := dk_get kX5_amounts_ok 5 rfl
theorem dX5_amounts_6 : decode cX5_amounts 6 = .ok (.getfield 35, 3) := dk_get kX5_amounts_ok 6 rfl
theorem dX5_amounts_9 : decode cX5_amounts 9 = .ok (.if_icmp .ge 38, 3) := dk_get kX5_amounts_ok 7 rfl
theorem dX5_amounts_12 : decode cX5_amounts 12 = .ok (.iconst 0, 1) := dk_get kX5_amounts_ok 8 rfl
theorem dX5_amounts_13 : decode cX5_amounts 13 = .ok (.istore 4, 2) := dk_get kX5_amounts_ok 9 rfl
theorem dX5_amounts_15 : decode cX5_amounts 15 = .ok (.iload 4, 2) := dk_get kX5_amounts_ok 10 rfl
theorem dX5_amounts_17 : decode cX5_amounts 17 = .ok (.iload_n 3, 1) := dk_get kX5_amounts_ok 11 rfl
theorem dX5_amounts_18 : decode cX5_amounts 18 = .ok (.if_icmp .ge 23, 3) := dk_get kX5_amounts_ok 12 rfl
theorem dX5_amounts_21 : decode cX5_amounts 21 = .ok (.lload_n 1, 1) := dk_get kX5_amounts_ok 13 rfl
theorem dX5_amounts_22 : decode cX5_amounts 22 = .ok (.aload_n 0, 1) := dk_get kX5_amounts_ok 14 rfl
theorem dX5_amounts_23 : decode cX5_amounts 23 = .ok (.iload_n 3, 1) := dk_get kX5_amounts_ok 15 rfl
theorem dX5_amounts_24 : decode cX5_amounts 24 = .ok (.iload 4, 2) := dk_get kX5_amounts_ok 16 rfl
theorem dX5_amounts_26 : decode cX5_amounts 26 = .ok (.invokevirtual 75, 3) := dk_get kX5_amounts_ok 17 rfl
theorem dX5_amounts_29 : decode cX5_amounts 29 = .ok (.invokestatic 76, 3) := dk_get kX5_amounts_ok 18 rfl
theorem dX5_amounts_32 : decode cX5_amounts 32 = .ok (.i2l, 1) := dk_get kX5_amounts_ok 19 rfl
theorem dX5_amounts_33 : decode cX5_amounts 33 = .ok (.ladd, 1) := dk_get kX5_amounts_ok 20 rfl
theorem dX5_amounts_34 : decode cX5_amounts 34 = .ok (.lstore_n 1, 1) := dk_get kX5_amounts_ok 21 rfl
theorem dX5_amounts_35 : decode cX5_amounts 35 = .ok (.iinc 4 1, 3) := dk_get kX5_amounts_ok 22 rfl
theorem dX5_amounts_38 : decode cX5_amounts 38 = .ok (.goto (-23), 3) := dk_get kX5_amounts_ok 23 rfl
theorem dX5_amounts_41 : decode cX5_amounts 41 = .ok (.iinc 3 1, 3) := dk_get kX5_amounts_ok 24 rfl
theorem dX5_amounts_44 : decode cX5_amounts 44 = .ok (.goto (-40), 3) := dk_get kX5_amounts_ok 25 rfl
theorem dX5_amounts_47 : decode cX5_amounts 47 = .ok (.lload_n 1, 1) := dk_get kX5_amounts_ok 26 rfl
theorem dX5_amounts_48 : decode cX5_amounts 48 = .ok (.lreturn, 1) := dk_get kX5_amounts_ok 27 rfl
def kX6_init : List (Nat × Instr × Nat) := [(0, .aload_n 0, 1), (1, .invokespecial 3, 3), (4, .aload_n 0, 1), (5, .bipush 30, 2), (7, .newarray .int, 2), (9, .putfield 9, 3), (12, .aload_n 0, 1), (13, .bipush 30, 2), (15, .newarray .int, 2), (17, .putfield 15, 3), (20, .aload_n 0, 1), (21, .bipush 30, 2), (23, .newarray .int, 2), (25, .putfield 18, 3), (28, .aload_n 0, 1), (29, .aload_n 1, 1), (30, .putfield 21, 3), (33, .aload_n 0, 1), (34, .aload_n 2, 1), (35, .putfield 25, 3), (38, .return_, 1)]
set_option maxRecDepth 100000 in
theorem kX6_init_ok : kX6_init.all (fun q => decide (decode cX6_init q.1 = .ok q.2)) = true := by decide +kernel
theorem dX6_init_0 : decode cX6_init 0 = .ok (.aload_n 0, 1) := dk_get kX6_init_ok 0 rfl
theorem dX6_init_1 : decode cX6_init 1 = .ok (.invokespecial 3, 3) := dk_get kX6_init_ok 1 rfl
theorem dX6_init_4 : decode cX6_init 4 = .ok (.aload_n 0, 1) := dk_get kX6_init_ok 2 rfl
theorem dX6_init_5 : decode cX6_init 5 = .ok (.bipush 30, 2) := dk_get kX6_init_ok 3 rfl
theorem dX6_init_7 : decode cX6_init 7 = .ok (.newarray .int, 2) := dk_get kX6_init_ok 4 rfl
theorem dX6_init_9 : decode cX6_init 9 = .ok (.putfield 9, 3) := dk_get kX6_init_ok 5 rfl
theorem dX6_init_12 : decode cX6_init 12 = .ok (.aload_n 0, 1) := dk_get kX6_init_ok 6 rfl
theorem dX6_init_13 : decode cX6_init 13 = .ok (.bipush 30, 2) := dk_get kX6_init_ok 7 rfl
theorem dX6_init_15 : decode cX6_init 15 = .ok (.newarray .int, 2) := dk_get kX6_init_ok 8 rfl
theorem dX6_init_17 : decode cX6_init 17 = .ok (.putfield 15, 3) := dk_get kX6_init_ok 9 rfl
theorem dX6_init_20 : decode cX6_init 20 = .ok (.aload_n 0, 1) := dk_get kX6_init_ok 10 rfl
theorem dX6_init_21 : decode cX6_init 21 = .ok (.bipush 30, 2) := dk_get kX6_init_ok 11 rfl
theorem dX6_init_23 : decode cX6_init 23 = .ok (.newarray .int, 2) := dk_get kX6_init_ok 12 rfl
theorem dX6_init_25 : decode cX6_init 25 = .ok (.putfield 18, 3) := dk_get kX6_init_ok 13 rfl
theorem dX6_init_28 : decode cX6_init 28 = .ok (.aload_n 0, 1) := dk_get kX6_init_ok 14 rfl
theorem dX6_init_29 : decode cX6_init 29 = .ok (.aload_n 1, 1) := dk_get kX6_init_ok 15 rfl
theorem dX6_init_30 : decode cX6_init 30 = .ok (.putfield 21, 3) := dk_get kX6_init_ok 16 rfl
theorem dX6_init_33 : decode cX6_init 33 = .ok (.aload_n 0, 1) := dk_get kX6_init_ok 17 rfl
theorem dX6_init_34 : decode cX6_init 34 = .ok (.aload_n 2, 1) := dk_get kX6_init_ok 18 rfl
theorem dX6_init_35 : decode cX6_init 35 = .ok (.putfield 25, 3) := dk_get kX6_init_ok 19 rfl
theorem dX6_init_38 : decode cX6_init 38 = .ok (.return_, 1) := dk_get kX6_init_ok 20 rfl
def kX6_find : List (Nat × Instr × Nat) := [(0, .aload_n 0, 1), (1, .iload_n 1, 1), (2, .invokevirtual 29, 3), (5, .aload_n 0, 1), (6, .getfield 9, 3), (9, .iconst (-1), 1), (10, .invokestatic 33, 3), (13, .iconst 0, 1), (14, .istore_n 2, 1), (15, .iconst 0, 1), (16, .istore_n 3, 1), (17, .iload_n 3, 1), (18, .aload_n 0, 1), (19, .getfield 21, 3), (22, .getfield 39, 3), (25, .getfield 45, 3), (28, .if_icmp .ge 35, 3), (31, .iload_n 1, 1), (32, .iload_n 3, 1), (33, .iushr, 1), (34, .iconst 1, 1), (35, .iand, 1), (36, .ifCond .eq 21, 3), (39, .aload_n 0, 1), (40, .getfield 9, 3), (43, .iload_n 3, 1), (44, .iaload, 1), (45, .iconst (-1), 1), (46, .if_icmp .ne 11, 3), (49, .aload_n 0, 1), (50, .iload_n 3, 1), (51, .invokevirtual 51, 3), (54, .iinc 2 1, 3), (57, .iinc 3 1, 3), (60, .goto (-43), 3), (63, .iload_n 2, 1), (64, .ireturn, 1)]
set_option maxRecDepth 100000 in
theorem kX6_find_ok : kX6_find.all (fun q => decide (decode cX6_find q.1 = .ok q.2)) = true := by decide +kernel
theorem dX6_find_0 : decode cX6_find 0 = .ok (.aload_n 0, 1) := dk_get kX6_find_ok 0 rfl
theorem dX6_find_1 : decode cX6_find 1 = .ok (.iload_n 1, 1) := dk_get kX6_find_ok 1 rfl
theorem dX6_find_2 : decode cX6_find 2 = .ok (.invokevirtual 29, 3) := dk_get kX6_find_ok 2 rfl
theorem dX6_find_5 : decode cX6_find 5 = .ok (.aload_n 0, 1) := dk_get kX6_find_ok 3 rfl
theorem dX6_find_6 : decode cX6_find 6 = .ok (.getfield 9, 3) := dk_get kX6_find_ok 4 rfl
theorem dX6_find_9 : decode cX6_find 9 = .ok (.iconst (-1), 1) := dk_get kX6_find_ok 5 rfl
theorem dX6_find_10 : decode cX6_find 10 = .ok (.invokestatic 33, 3) := dk_get kX6_find_ok 6 rfl
theorem dX6_find_13 : decode cX6_find 13 = .ok (.iconst 0, 1) := dk_get kX6_find_ok 7 rfl
theorem dX6_find_14 : decode cX6_find 14 = .ok (.istore_n 2, 1) := dk_get kX6_find_ok 8 rfl
theorem dX6_find_15 : decode cX6_find 15 = .ok (.iconst 0, 1) := dk_get kX6_find_ok 9 rfl
theorem dX6_find_16 : decode cX6_find 16 = .ok (.istore_n 3, 1) := dk_get kX6_find_ok 10 rfl
theorem dX6_find_17 : decode cX6_find 17 = .ok (.iload_n 3, 1) := dk_get kX6_find_ok 11 rfl
theorem dX6_find_18 : decode cX6_find 18 = .ok (.aload_n 0, 1) := dk_get kX6_find_ok 12 rfl
theorem dX6_find_19 : decode cX6_find 19 = .ok (.getfield 21, 3) := dk_get kX6_find_ok 13 rfl
theorem dX6_find_22 : decode cX6_find 22 = .ok (.getfield 39, 3) := dk_get kX6_find_ok 14 rfl
theorem dX6_find_25 : decode cX6_find 25 = .ok (.getfield 45, 3) := dk_get kX6_find_ok 15 rfl
theorem dX6_find_28 : decode cX6_find 28 = .ok (.if_icmp .ge 35, 3) := dk_get kX6_find_ok 16 rfl
theorem dX6_find_31 : decode cX6_find 31 = .ok (.iload_n 1, 1) := dk_get kX6_find_ok 17 rfl
theorem dX6_find_32 : decode cX6_find 32 = .ok (.iload_n 3, 1) := dk_get kX6_find_ok 18 rfl
theorem dX6_find_33 : decode cX6_find 33 = .ok (.iushr, 1) := dk_get kX6_find_ok 19 rfl
theorem dX6_find_34 : decode cX6_find 34 = .ok (.iconst 1, 1) := dk_get kX6_find_ok 20 rfl
theorem dX6_find_35 : decode cX6_find 35 = .ok (.iand, 1) := dk_get kX6_find_ok 21 rfl
theorem dX6_find_36 : decode cX6_find 36 = .ok (.ifCond .eq 21, 3) := dk_get kX6_find_ok 22 rfl
theorem dX6_find_39 : decode cX6_find 39 = .ok (.aload_n 0, 1) := dk_get kX6_find_ok 23 rfl
theorem dX6_find_40 : decode cX6_find 40 = .ok (.getfield 9, 3) := dk_get kX6_find_ok 24 rfl
theorem dX6_find_43 : decode cX6_find 43 = .ok (.iload_n 3, 1) := dk_get kX6_find_ok 25 rfl
theorem dX6_find_44 : decode cX6_find 44 = .ok (.iaload, 1) := dk_get kX6_find_ok 26 rfl
theorem dX6_find_45 : decode cX6_find 45 = .ok (.iconst (-1), 1) := dk_get kX6_find_ok 27 rfl
theorem dX6_find_46 : decode cX6_find 46 = .ok (.if_icmp .ne 11, 3) := dk_get kX6_find_ok 28 rfl
theorem dX6_find_49 : decode cX6_find 49 = .ok (.aload_n 0, 1) := dk_get kX6_find_ok 29 rfl
theorem dX6_find_50 : decode cX6_find 50 = .ok (.iload_n 3, 1) := dk_get kX6_find_ok 30 rfl
theorem dX6_find_51 : decode cX6_find 51 = .ok (.invokevirtual 51, 3) := dk_get kX6_find_ok 31 rfl
theorem dX6_find_54 : decode cX6_find 54 = .ok (.iinc 2 1, 3) := dk_get kX6_find_ok 32 rfl
theorem dX6_find_57 : decode cX6_find 57 = .ok (.iinc 3 1, 3) := dk_get kX6_find_ok 33 rfl
theorem dX6_find_60 : decode cX6_find 60 = .ok (.goto (-43), 3) := dk_get kX6_find_ok 34 rfl
theorem dX6_find_63 : decode cX6_find 63 = .ok (.iload_n 2, 1) := dk_get kX6_find_ok 35 rfl
theorem dX6_find_64 : decode cX6_find 64 = .ok (.ireturn, 1) := dk_get kX6_find_ok 36 rfl
def kX6_membersWith : List (Nat × Instr × Nat) := [(0, .aload_n 0, 1), (1, .getfield 9, 3), (4, .iload_n 1, 1), (5, .iaload, 1), (6, .iconst (-1), 1), (7, .if_icmp .ne 7, 3), (10, .iconst 0, 1), (11, .goto 14, 3), (14, .aload_n 0, 1), (15, .getfield 18, 3), (18, .aload_n 0, 1), (19, .getfield 9, 3), (22, .iload_n 1, 1), (23, .iaload, 1), (24, .iaload, 1), (25, .ireturn, 1)]
set_option maxRecDepth 100000 in
theorem kX6_membersWith_ok : kX6_membersWith.all (fun q => decide (decode cX6_membersWith q.1 = .ok q.2)) = true := by decide +kernel
theorem dX6_membersWith_0 : decode cX6_membersWith 0 = .ok (.aload_n 0, 1) := dk_get kX6_membersWith_ok 0 rfl
theorem dX6_membersWith_1 : decode cX6_membersWith 1 = .ok (.getfield 9, 3) := dk_get kX6_membersWith_ok 1 rfl
theorem dX6_membersWith_4 : decode cX6_membersWith 4 = .ok (.iload_n 1, 1) := dk_get kX6_membersWith_ok 2 rfl
theorem dX6_membersWith_5 : decode cX6_membersWith 5 = .ok (.iaload, 1) := dk_get kX6_membersWith_ok 3 rfl
theorem dX6_membersWith_6 : decode cX6_membersWith 6 = .ok (.iconst (-1), 1) := dk_get kX6_membersWith_ok 4 rfl
theorem dX6_membersWith_7 : decode cX6_membersWith 7 = .ok (.if_icmp .ne 7, 3) := dk_get kX6_membersWith_ok 5 rfl
theorem dX6_membersWith_10 : decode cX6_membersWith 10 = .ok (.iconst 0, 1) := dk_get kX6_membersWith_ok 6 rfl
theorem dX6_membersWith_11 : decode cX6_membersWith 11 = .ok (.goto 14, 3) := dk_get kX6_membersWith_ok 7 rfl
theorem dX6_membersWith_14 : decode cX6_membersWith 14 = .ok (.aload_n 0, 1) := dk_get kX6_membersWith_ok 8 rfl
theorem dX6_membersWith_15 : decode cX6_membersWith 15 = .ok (.getfield 18, 3) := dk_get kX6_membersWith_ok 9 rfl
theorem dX6_membersWith_18 : decode cX6_membersWith 18 = .ok (.aload_n 0, 1) := dk_get kX6_membersWith_ok 10 rfl
theorem dX6_membersWith_19 : decode cX6_membersWith 19 = .ok (.getfield 9, 3) := dk_get kX6_membersWith_ok 11 rfl
theorem dX6_membersWith_22 : decode cX6_membersWith 22 = .ok (.iload_n 1, 1) := dk_get kX6_membersWith_ok 12 rfl
theorem dX6_membersWith_23 : decode cX6_membersWith 23 = .ok (.iaload, 1) := dk_get kX6_membersWith_ok 13 rfl
theorem dX6_membersWith_24 : decode cX6_membersWith 24 = .ok (.iaload, 1) := dk_get kX6_membersWith_ok 14 rfl
theorem dX6_membersWith_25 : decode cX6_membersWith 25 = .ok (.ireturn, 1) := dk_get kX6_membersWith_ok 15 rfl
def kX6_link : List (Nat × Instr × Nat) := [(0, .aload_n 0, 1), (1, .getfield 21, 3), (4, .getfield 39, 3), (7, .getfield 45, 3), (10, .istore_n 2, 1), (11, .iconst 0, 1), (12, .istore_n 3, 1), (13, .iload_n 3, 1), (14, .iload_n 2, 1), (15, .if_icmp .ge 75, 3), (18, .aload_n 0, 1), (19, .getfield 15, 3), (22, .iload_n 3, 1), (23, .aload_n 0, 1), (24, .getfield 25, 3), (27, .getfield 54, 3), (30, .iload_n 3, 1), (31, .iaload, 1), (32, .iastore, 1), (33, .iconst 0, 1), (34, .istore 4, 2), (36, .iload 4, 2), (38, .iload_n 2, 1), (39, .if_icmp .ge 35, 3), (42, .aload_n 0, 1), (43, .getfield 21, 3), (46, .iload_n 3, 1), (47, .iload 4, 2), (49, .invokevirtual 59, 3), (52, .ifCond .le 16, 3), (55, .aload_n 0, 1), (56, .getfield 15, 3), (59, .iload_n 3, 1), (60, .dup2, 1), (61, .iaload, 1), (62, .iconst 1, 1), (63, .iload 4, 2), (65, .ishl, 1), (66, .ior, 1), (67, .iastore, 1), (68, .iinc 4 1, 3), (71, .goto (-35), 3), (74, .aload_n 0, 1), (75, .getfield 15, 3), (78, .iload_n 3, 1), (79, .dup2, 1), (80, .iaload, 1), (81, .iload_n 1, 1), (82, .iand, 1), (83, .iastore, 1), (84, .iinc 3 1, 3), (87, .goto (-74), 3), (90, .return_, 1)]
set_option maxRecDepth 100000 in
theorem kX6_link_ok : kX6_link.all (fun q => decide (decode cX6_link q.1 = .ok q.2)) = true := by decide +kernel
theorem dX6_link_0 : decode cX6_link 0 = .ok (.aload_n 0, 1) := dk_get kX6_link_ok 0 rfl
theorem dX6_link_1 : decode cX6_link 1 = .ok (.getfield 21, 3) := dk_get kX6_link_ok 1 rfl
theorem dX6_link_4 : decode cX6_link 4 = .ok (.getfield 39, 3) := dk_get kX6_link_ok 2 rfl
theorem dX6_link_7 : decode cX6_link 7 = .ok (.getfield 45, 3) := dk_get kX6_link_ok 3 rfl
theorem dX6_link_10 : decode cX6_link 10 = .ok (.istore_n 2, 1) := dk_get kX6_link_ok 4 rfl
theorem dX6_link_11 : decode cX6_link 11 = .ok (.iconst 0, 1) := dk_get kX6_link_ok 5 rfl
theorem dX6_link_12 : decode cX6_link 12 = .ok (.istore_n 3, 1) := dk_get kX6_link_ok 6 rfl
theorem dX6_link_13 : decode cX6_link 13 = .ok (.iload_n 3, 1) := dk_get kX6_link_ok 7 rfl
theorem dX6_link_14 : decode cX6_link 14 = .ok (.iload_n 2, 1) := dk_get kX6_link_ok 8 rfl
theorem dX6_link_15 : decode cX6_link 15 = .ok (.if_icmp .ge 75, 3) := dk_get kX6_link_ok 9 rfl
theorem dX6_link_18 : decode cX6_link 18 = .ok (.aload_n 0, 1) := dk_get kX6_link_ok 10 rfl
theorem dX6_link_19 : decode cX6_link 19 = .ok (.getfield 15, 3) := dk_get kX6_link_ok 11 rfl
theorem dX6_link_22 : decode cX6_link 22 = .ok (.iload_n 3, 1) := dk_get kX6_link_ok 12 rfl
theorem dX6_link_23 : decode cX6_link 23 = .ok (.aload_n 0, 1) := dk_get kX6_link_ok 13 rfl
theorem dX6_link_24 : decode cX6_link 24 = .ok (.getfield 25, 3) := dk_get kX6_link_ok 14 rfl
theorem dX6_link_27 : decode cX6_link 27 = .ok (.getfield 54, 3) := dk_get kX6_link_ok 15 rfl
theorem dX6_link_30 : decode cX6_link 30 = .ok (.iload_n 3, 1) := dk_get kX6_link_ok 16 rfl
theorem dX6_link_31 : decode cX6_link 31 = .ok (.iaload, 1) := dk_get kX6_link_ok 17 rfl
theorem dX6_link_32 : decode cX6_link 32 = .ok (.iastore, 1) := dk_get kX6_link_ok 18 rfl
theorem dX6_link_33 : decode cX6_link 33 = .ok (.iconst 0, 1) := dk_get kX6_link_ok 19 rfl
theorem dX6_link_34 : decode cX6_link 34 = .ok (.istore 4, 2) := dk_get kX6_link_ok 20 rfl
theorem dX6_link_36 : decode cX6_link 36 = .ok (.iload 4, 2) := dk_get kX6_link_ok 21 rfl
theorem dX6_link_38 : decode cX6_link 38 = .ok (.iload_n 2, 1) := dk_get kX6_link_ok 22 rfl
theorem dX6_link_39 : decode cX6_link 39 = .ok (.if_icmp .ge 35, 3) := dk_get kX6_link_ok 23 rfl
theorem dX6_link_42 : decode cX6_link 42 = .ok (.aload_n 0, 1) := dk_get kX6_link_ok 24 rfl
theorem dX6_link_43 : decode cX6_link 43 = .ok (.getfield 21, 3) := dk_get kX6_link_ok 25 rfl
theorem dX6_link_46 : decode cX6_link 46 = .ok (.iload_n 3, 1) := dk_get kX6_link_ok 26 rfl
theorem dX6_link_47 : decode cX6_link 47 = .ok (.iload 4, 2) := dk_get kX6_link_ok 27 rfl
theorem dX6_link_49 : decode cX6_link 49 = .ok (.invokevirtual 59, 3) := dk_get kX6_link_ok 28 rfl
theorem dX6_link_52 : decode cX6_link 52 = .ok (.ifCond .le 16, 3) := dk_get kX6_link_ok 29 rfl
theorem dX6_link_55 : decode cX6_link 55 = .ok (.aload_n 0, 1) := dk_get kX6_link_ok 30 rfl
theorem dX6_link_56 : decode cX6_link 56 = .ok (.getfield 15, 3) := dk_get kX6_link_ok 31 rfl
theorem dX6_link_59 : decode cX6_link 59 = .ok (.iload_n 3, 1) := dk_get kX6_link_ok 32 rfl
theorem dX6_link_60 : decode cX6_link 60 = .ok (.dup2, 1) := dk_get kX6_link_ok 33 rfl
theorem dX6_link_61 : decode cX6_link 61 = .ok (.iaload, 1) := dk_get kX6_link_ok 34 rfl
theorem dX6_link_62 : decode cX6_link 62 = .ok (.iconst 1, 1) := dk_get kX6_link_ok 35 rfl
theorem dX6_link_63 : decode cX6_link 63 = .ok (.iload 4, 2) := dk_get kX6_link_ok 36 rfl
theorem dX6_link_65 : decode cX6_link 65 = .ok (.ishl, 1) := dk_get kX6_link_ok 37 rfl
theorem dX6_link_66 : decode cX6_link 66 = .ok (.ior, 1) := dk_get kX6_link_ok 38 rfl
theorem dX6_link_67 : decode cX6_link 67 = .ok (.iastore, 1) := dk_get kX6_link_ok 39 rfl
theorem dX6_link_68 : decode cX6_link 68 = .ok (.iinc 4 1, 3) := dk_get kX6_link_ok 40 rfl
theorem dX6_link_71 : decode cX6_link 71 = .ok (.goto (-35), 3) := dk_get kX6_link_ok 41 rfl
theorem dX6_link_74 : decode cX6_link 74 = .ok (.aload_n 0, 1) := dk_get kX6_link_ok 42 rfl
theorem dX6_link_75 : decode cX6_link 75 = .ok (.getfield 15, 3) := dk_get kX6_link_ok 43 rfl
theorem dX6_link_78 : decode cX6_link 78 = .ok (.iload_n 3, 1) := dk_get kX6_link_ok 44 rfl
theorem dX6_link_79 : decode cX6_link 79 = .ok (.dup2, 1) := dk_get kX6_link_ok 45 rfl
theorem dX6_link_80 : decode cX6_link 80 = .ok (.iaload, 1) := dk_get kX6_link_ok 46 rfl
theorem dX6_link_81 : decode cX6_link 81 = .ok (.iload_n 1, 1) := dk_get kX6_link_ok 47 rfl
theorem dX6_link_82 : decode cX6_link 82 = .ok (.iand, 1) := dk_get kX6_link_ok 48 rfl
theorem dX6_link_83 : decode cX6_link 83 = .ok (.iastore, 1) := dk_get kX6_link_ok 49 rfl
theorem dX6_link_84 : decode cX6_link 84 = .ok (.iinc 3 1, 3) := dk_get kX6_link_ok 50 rfl
theorem dX6_link_87 : decode cX6_link 87 = .ok (.goto (-74), 3) := dk_get kX6_link_ok 51 rfl
theorem dX6_link_90 : decode cX6_link 90 = .ok (.return_, 1) := dk_get kX6_link_ok 52 rfl
def kX6_spread : List (Nat × Instr × Nat) := [(0, .iconst 1, 1), (1, .iload_n 1, 1), (2, .ishl, 1), (3, .istore_n 2, 1), (4, .aload_n 0, 1), (5, .getfield 9, 3), (8, .iload_n 1, 1), (9, .iload_n 1, 1), (10, .iastore, 1), (11, .iconst 0, 1), (12, .istore_n 3, 1), (13, .iload_n 3, 1), (14, .bipush 30, 2), (16, .if_icmp .ge 72, 3), (19, .iload_n 2, 1), (20, .istore 4, 2), (22, .iconst 0, 1), (23, .istore 5, 2), (25, .iload 5, 2), (27, .aload_n 0, 1), (28, .getfield 21, 3), (31, .getfield 39, 3), (34, .getfield 45, 3), (37, .if_icmp .ge 36, 3), (40, .iload_n 2, 1), (41, .iload 5, 2), (43, .iushr, 1), (44, .iconst 1, 1), (45, .iand, 1), (46, .ifCond .eq 21, 3), (49, .aload_n 0, 1), (50, .getfield 9, 3), (53, .iload 5, 2), (55, .iload_n 1, 1), (56, .iastore, 1), (57, .iload_n 2, 1), (58, .aload_n 0, 1), (59, .getfield 15, 3), (62, .iload 5, 2), (64, .iaload, 1), (65, .ior, 1), (66, .istore_n 2, 1), (67, .iinc 5 1, 3), (70, .goto (-45), 3), (73, .iload 4, 2), (75, .iload_n 2, 1), (76, .if_icmp .ne 6, 3), (79, .goto 9, 3), (82, .iinc 3 1, 3), (85, .goto (-72), 3), (88, .aload_n 0, 1), (89, .getfield 18, 3), (92, .iload_n 1, 1), (93, .iload_n 2, 1), (94, .iastore, 1), (95, .return_, 1)]
set_option maxRecDepth 100000 in
theorem kX6_spread_ok : kX6_spread.all (fun q => decide (decode cX6_spread q.1 = .ok q.2)) = true := by decide +kernel
theorem dX6_spread_0 : decode cX6_spread 0 = .ok (.iconst 1, 1) := dk_get kX6_spread_ok 0 rfl
theorem dX6_spread_1 : decode cX6_spread 1 = .ok (.iload_n 1, 1) := dk_get kX6_spread_ok 1 rfl
theorem dX6_spread_2 : decode cX6_spread 2 = .ok (.ishl, 1) := dk_get kX6_spread_ok 2 rfl
theorem dX6_spread_3 : decode cX6_spread 3 = .ok (.istore_n 2, 1) := dk_get kX6_spread_ok 3 rfl
theorem dX6_spread_4 : decode cX6_spread 4 = .ok (.aload_n 0, 1) := dk_get kX6_spread_ok 4 rfl
theorem dX6_spread_5 : decode cX6_spread 5 = .ok (.getfield 9, 3) := dk_get kX6_spread_ok 5 rfl
theorem dX6_spread_8 : decode cX6_spread 8 = .ok (.iload_n 1, 1) := dk_get kX6_spread_ok 6 rfl
theorem dX6_spread_9 : decode cX6_spread 9 = .ok (.iload_n 1, 1) := dk_get kX6_spread_ok 7 rfl
theorem dX6_spread_10 : decode cX6_spread 10 = .ok (.iastore, 1) := dk_get kX6_spread_ok 8 rfl
theorem dX6_spread_11 : decode cX6_spread 11 = .ok (.iconst 0, 1) := dk_get kX6_spread_ok 9 rfl
theorem dX6_spread_12 : decode cX6_spread 12 = .ok (.istore_n 3, 1) := dk_get kX6_spread_ok 10 rfl
theorem dX6_spread_13 : decode cX6_spread 13 = .ok (.iload_n 3, 1) := dk_get kX6_spread_ok 11 rfl
theorem dX6_spread_14 : decode cX6_spread 14 = .ok (.bipush 30, 2) := dk_get kX6_spread_ok 12 rfl
theorem dX6_spread_16 : decode cX6_spread 16 = .ok (.if_icmp .ge 72, 3) := dk_get kX6_spread_ok 13 rfl
theorem dX6_spread_19 : decode cX6_spread 19 = .ok (.iload_n 2, 1) := dk_get kX6_spread_ok 14 rfl
theorem dX6_spread_20 : decode cX6_spread 20 = .ok (.istore 4, 2) := dk_get kX6_spread_ok 15 rfl
theorem dX6_spread_22 : decode cX6_spread 22 = .ok (.iconst 0, 1) := dk_get kX6_spread_ok 16 rfl
theorem dX6_spread_23 : decode cX6_spread 23 = .ok (.istore 5, 2) := dk_get kX6_spread_ok 17 rfl
theorem dX6_spread_25 : decode cX6_spread 25 = .ok (.iload 5, 2) := dk_get kX6_spread_ok 18 rfl
theorem dX6_spread_27 : decode cX6_spread 27 = .ok (.aload_n 0, 1) := dk_get kX6_spread_ok 19 rfl
theorem dX6_spread_28 : decode cX6_spread 28 = .ok (.getfield 21, 3) := dk_get kX6_spread_ok 20 rfl
theorem dX6_spread_31 : decode cX6_spread 31 = .ok (.getfield 39, 3) := dk_get kX6_spread_ok 21 rfl
theorem dX6_spread_34 : decode cX6_spread 34 = .ok (.getfield 45, 3) := dk_get kX6_spread_ok 22 rfl
theorem dX6_spread_37 : decode cX6_spread 37 = .ok (.if_icmp .ge 36, 3) := dk_get kX6_spread_ok 23 rfl
theorem dX6_spread_40 : decode cX6_spread 40 = .ok (.iload_n 2, 1) := dk_get kX6_spread_ok 24 rfl
theorem dX6_spread_41 : decode cX6_spread 41 = .ok (.iload 5, 2) := dk_get kX6_spread_ok 25 rfl
theorem dX6_spread_43 : decode cX6_spread 43 = .ok (.iushr, 1) := dk_get kX6_spread_ok 26 rfl
theorem dX6_spread_44 : decode cX6_spread 44 = .ok (.iconst 1, 1) := dk_get kX6_spread_ok 27 rfl
theorem dX6_spread_45 : decode cX6_spread 45 = .ok (.iand, 1) := dk_get kX6_spread_ok 28 rfl
theorem dX6_spread_46 : decode cX6_spread 46 = .ok (.ifCond .eq 21, 3) := dk_get kX6_spread_ok 29 rfl
theorem dX6_spread_49 : decode cX6_spread 49 = .ok (.aload_n 0, 1) := dk_get kX6_spread_ok 30 rfl
theorem dX6_spread_50 : decode cX6_spread 50 = .ok (.getfield 9, 3) := dk_get kX6_spread_ok 31 rfl
theorem dX6_spread_53 : decode cX6_spread 53 = .ok (.iload 5, 2) := dk_get kX6_spread_ok 32 rfl
theorem dX6_spread_55 : decode cX6_spread 55 = .ok (.iload_n 1, 1) := dk_get kX6_spread_ok 33 rfl
theorem dX6_spread_56 : decode cX6_spread 56 = .ok (.iastore, 1) := dk_get kX6_spread_ok 34 rfl
theorem dX6_spread_57 : decode cX6_spread 57 = .ok (.iload_n 2, 1) := dk_get kX6_spread_ok 35 rfl
theorem dX6_spread_58 : decode cX6_spread 58 = .ok (.aload_n 0, 1) := dk_get kX6_spread_ok 36 rfl
theorem dX6_spread_59 : decode cX6_spread 59 = .ok (.getfield 15, 3) := dk_get kX6_spread_ok 37 rfl
theorem dX6_spread_62 : decode cX6_spread 62 = .ok (.iload 5, 2) := dk_get kX6_spread_ok 38 rfl
theorem dX6_spread_64 : decode cX6_spread 64 = .ok (.iaload, 1) := dk_get kX6_spread_ok 39 rfl
theorem dX6_spread_65 : decode cX6_spread 65 = .ok (.ior, 1) := dk_get kX6_spread_ok 40 rfl
theorem dX6_spread_66 : decode cX6_spread 66 = .ok (.istore_n 2, 1) := dk_get kX6_spread_ok 41 rfl
theorem dX6_spread_67 : decode cX6_spread 67 = .ok (.iinc 5 1, 3) := dk_get kX6_spread_ok 42 rfl
theorem dX6_spread_70 : decode cX6_spread 70 = .ok (.goto (-45), 3) := dk_get kX6_spread_ok 43 rfl
theorem dX6_spread_73 : decode cX6_spread 73 = .ok (.iload 4, 2) := dk_get kX6_spread_ok 44 rfl
theorem dX6_spread_75 : decode cX6_spread 75 = .ok (.iload_n 2, 1) := dk_get kX6_spread_ok 45 rfl
theorem dX6_spread_76 : decode cX6_spread 76 = .ok (.if_icmp .ne 6, 3) := dk_get kX6_spread_ok 46 rfl
theorem dX6_spread_79 : decode cX6_spread 79 = .ok (.goto 9, 3) := dk_get kX6_spread_ok 47 rfl
theorem dX6_spread_82 : decode cX6_spread 82 = .ok (.iinc 3 1, 3) := dk_get kX6_spread_ok 48 rfl
theorem dX6_spread_85 : decode cX6_spread 85 = .ok (.goto (-72), 3) := dk_get kX6_spread_ok 49 rfl
theorem dX6_spread_88 : decode cX6_spread 88 = .ok (.aload_n 0, 1) := dk_get kX6_spread_ok 50 rfl
theorem dX6_spread_89 : decode cX6_spread 89 = .ok (.getfield 18, 3) := dk_get kX6_spread_ok 51 rfl
theorem dX6_spread_92 : decode cX6_spread 92 = .ok (.iload_n 1, 1) := dk_get kX6_spread_ok 52 rfl
theorem dX6_spread_93 : decode cX6_spread 93 = .ok (.iload_n 2, 1) := dk_get kX6_spread_ok 53 rfl
theorem dX6_spread_94 : decode cX6_spread 94 = .ok (.iastore, 1) := dk_get kX6_spread_ok 54 rfl
theorem dX6_spread_95 : decode cX6_spread 95 = .ok (.return_, 1) := dk_get kX6_spread_ok 55 rfl
