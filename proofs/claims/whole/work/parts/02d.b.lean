def kX7_init : List (Nat × Instr × Nat) := [(0, .aload_n 0, 1), (1, .invokespecial 3, 3), (4, .aload_n 0, 1), (5, .iconst (-1), 1), (6, .putfield 9, 3), (9, .aload_n 0, 1), (10, .new 15, 3), (13, .dup, 1), (14, .invokespecial 17, 3), (17, .putfield 18, 3), (20, .aload_n 0, 1), (21, .sipush 400, 3), (24, .newarray .int, 2), (26, .putfield 22, 3), (29, .aload_n 0, 1), (30, .sipush 401, 3), (33, .newarray .int, 2), (35, .putfield 26, 3), (38, .aload_n 0, 1), (39, .sipush 401, 3), (42, .newarray .int, 2), (44, .putfield 29, 3), (47, .aload_n 0, 1), (48, .sipush 401, 3), (51, .newarray .int, 2), (53, .putfield 32, 3), (56, .return_, 1)]
set_option maxRecDepth 100000 in
theorem kX7_init_ok : kX7_init.all (fun q => decide (decode cX7_init q.1 = .ok q.2)) = true := by decide +kernel
theorem dX7_init_0 : decode cX7_init 0 = .ok (.aload_n 0, 1) := dk_get kX7_init_ok 0 rfl
theorem dX7_init_1 : decode cX7_init 1 = .ok (.invokespecial 3, 3) := dk_get kX7_init_ok 1 rfl
theorem dX7_init_4 : decode cX7_init 4 = .ok (.aload_n 0, 1) := dk_get kX7_init_ok 2 rfl
theorem dX7_init_5 : decode cX7_init 5 = .ok (.iconst (-1), 1) := dk_get kX7_init_ok 3 rfl
theorem dX7_init_6 : decode cX7_init 6 = .ok (.putfield 9, 3) := dk_get kX7_init_ok 4 rfl
theorem dX7_init_9 : decode cX7_init 9 = .ok (.aload_n 0, 1) := dk_get kX7_init_ok 5 rfl
theorem dX7_init_10 : decode cX7_init 10 = .ok (.new 15, 3) := dk_get kX7_init_ok 6 rfl
theorem dX7_init_13 : decode cX7_init 13 = .ok (.dup, 1) := dk_get kX7_init_ok 7 rfl
theorem dX7_init_14 : decode cX7_init 14 = .ok (.invokespecial 17, 3) := dk_get kX7_init_ok 8 rfl
theorem dX7_init_17 : decode cX7_init 17 = .ok (.putfield 18, 3) := dk_get kX7_init_ok 9 rfl
theorem dX7_init_20 : decode cX7_init 20 = .ok (.aload_n 0, 1) := dk_get kX7_init_ok 10 rfl
theorem dX7_init_21 : decode cX7_init 21 = .ok (.sipush 400, 3) := dk_get kX7_init_ok 11 rfl
theorem dX7_init_24 : decode cX7_init 24 = .ok (.newarray .int, 2) := dk_get kX7_init_ok 12 rfl
theorem dX7_init_26 : decode cX7_init 26 = .ok (.putfield 22, 3) := dk_get kX7_init_ok 13 rfl
theorem dX7_init_29 : decode cX7_init 29 = .ok (.aload_n 0, 1) := dk_get kX7_init_ok 14 rfl
theorem dX7_init_30 : decode cX7_init 30 = .ok (.sipush 401, 3) := dk_get kX7_init_ok 15 rfl
theorem dX7_init_33 : decode cX7_init 33 = .ok (.newarray .int, 2) := dk_get kX7_init_ok 16 rfl
theorem dX7_init_35 : decode cX7_init 35 = .ok (.putfield 26, 3) := dk_get kX7_init_ok 17 rfl
theorem dX7_init_38 : decode cX7_init 38 = .ok (.aload_n 0, 1) := dk_get kX7_init_ok 18 rfl
theorem dX7_init_39 : decode cX7_init 39 = .ok (.sipush 401, 3) := dk_get kX7_init_ok 19 rfl
theorem dX7_init_42 : decode cX7_init 42 = .ok (.newarray .int, 2) := dk_get kX7_init_ok 20 rfl
theorem dX7_init_44 : decode cX7_init 44 = .ok (.putfield 29, 3) := dk_get kX7_init_ok 21 rfl
theorem dX7_init_47 : decode cX7_init 47 = .ok (.aload_n 0, 1) := dk_get kX7_init_ok 22 rfl
theorem dX7_init_48 : decode cX7_init 48 = .ok (.sipush 401, 3) := dk_get kX7_init_ok 23 rfl
theorem dX7_init_51 : decode cX7_init 51 = .ok (.newarray .int, 2) := dk_get kX7_init_ok 24 rfl
theorem dX7_init_53 : decode cX7_init 53 = .ok (.putfield 32, 3) := dk_get kX7_init_ok 25 rfl
theorem dX7_init_56 : decode cX7_init 56 = .ok (.return_, 1) := dk_get kX7_init_ok 26 rfl
def kX7_takeIn : List (Nat × Instr × Nat) := [(0, .bipush 24, 2), (2, .istore_n 2, 1), (3, .iload_n 2, 1), (4, .ifCond .lt 45, 3), (7, .aload_n 0, 1), (8, .getfield 35, 3), (11, .sipush 400, 3), (14, .if_icmp .ge 29, 3), (17, .aload_n 0, 1), (18, .getfield 22, 3), (21, .aload_n 0, 1), (22, .getfield 35, 3), (25, .iload_n 1, 1), (26, .iload_n 2, 1), (27, .iushr, 1), (28, .sipush 255, 3), (31, .iand, 1), (32, .iastore, 1), (33, .aload_n 0, 1), (34, .dup, 1), (35, .getfield 35, 3), (38, .iconst 1, 1), (39, .iadd, 1), (40, .putfield 35, 3), (43, .iinc 2 (-8), 3), (46, .goto (-43), 3), (49, .return_, 1)]
set_option maxRecDepth 100000 in
theorem kX7_takeIn_ok : kX7_takeIn.all (fun q => decide (decode cX7_takeIn q.1 = .ok q.2)) = true := by decide +kernel
theorem dX7_takeIn_0 : decode cX7_takeIn 0 = .ok (.bipush 24, 2) := dk_get kX7_takeIn_ok 0 rfl
theorem dX7_takeIn_2 : decode cX7_takeIn 2 = .ok (.istore_n 2, 1) := dk_get kX7_takeIn_ok 1 rfl
theorem dX7_takeIn_3 : decode cX7_takeIn 3 = .ok (.iload_n 2, 1) := dk_get kX7_takeIn_ok 2 rfl
theorem dX7_takeIn_4 : decode cX7_takeIn 4 = .ok (.ifCond .lt 45, 3) := dk_get kX7_takeIn_ok 3 rfl
theorem dX7_takeIn_7 : decode cX7_takeIn 7 = .ok (.aload_n 0, 1) := dk_get kX7_takeIn_ok 4 rfl
theorem dX7_takeIn_8 : decode cX7_takeIn 8 = .ok (.getfield 35, 3) := dk_get kX7_takeIn_ok 5 rfl
theorem dX7_takeIn_11 : decode cX7_takeIn 11 = .ok (.sipush 400, 3) := dk_get kX7_takeIn_ok 6 rfl
theorem dX7_takeIn_14 : decode cX7_takeIn 14 = .ok (.if_icmp .ge 29, 3) := dk_get kX7_takeIn_ok 7 rfl
theorem dX7_takeIn_17 : decode cX7_takeIn 17 = .ok (.aload_n 0, 1) := dk_get kX7_takeIn_ok 8 rfl
theorem dX7_takeIn_18 : decode cX7_takeIn 18 = .ok (.getfield 22, 3) := dk_get kX7_takeIn_ok 9 rfl
theorem dX7_takeIn_21 : decode cX7_takeIn 21 = .ok (.aload_n 0, 1) := dk_get kX7_takeIn_ok 10 rfl
theorem dX7_takeIn_22 : decode cX7_takeIn 22 = .ok (.getfield 35, 3) := dk_get kX7_takeIn_ok 11 rfl
theorem dX7_takeIn_25 : decode cX7_takeIn 25 = .ok (.iload_n 1, 1) := dk_get kX7_takeIn_ok 12 rfl
theorem dX7_takeIn_26 : decode cX7_takeIn 26 = .ok (.iload_n 2, 1) := dk_get kX7_takeIn_ok 13 rfl
theorem dX7_takeIn_27 : decode cX7_takeIn 27 = .ok (.iushr, 1) := dk_get kX7_takeIn_ok 14 rfl
theorem dX7_takeIn_28 : decode cX7_takeIn 28 = .ok (.sipush 255, 3) := dk_get kX7_takeIn_ok 15 rfl
theorem dX7_takeIn_31 : decode cX7_takeIn 31 = .ok (.iand, 1) := dk_get kX7_takeIn_ok 16 rfl
theorem dX7_takeIn_32 : decode cX7_takeIn 32 = .ok (.iastore, 1) := dk_get kX7_takeIn_ok 17 rfl
theorem dX7_takeIn_33 : decode cX7_takeIn 33 = .ok (.aload_n 0, 1) := dk_get kX7_takeIn_ok 18 rfl
theorem dX7_takeIn_34 : decode cX7_takeIn 34 = .ok (.dup, 1) := dk_get kX7_takeIn_ok 19 rfl
theorem dX7_takeIn_35 : decode cX7_takeIn 35 = .ok (.getfield 35, 3) := dk_get kX7_takeIn_ok 20 rfl
theorem dX7_takeIn_38 : decode cX7_takeIn 38 = .ok (.iconst 1, 1) := dk_get kX7_takeIn_ok 21 rfl
theorem dX7_takeIn_39 : decode cX7_takeIn 39 = .ok (.iadd, 1) := dk_get kX7_takeIn_ok 22 rfl
theorem dX7_takeIn_40 : decode cX7_takeIn 40 = .ok (.putfield 35, 3) := dk_get kX7_takeIn_ok 23 rfl
theorem dX7_takeIn_43 : decode cX7_takeIn 43 = .ok (.iinc 2 (-8), 3) := dk_get kX7_takeIn_ok 24 rfl
theorem dX7_takeIn_46 : decode cX7_takeIn 46 = .ok (.goto (-43), 3) := dk_get kX7_takeIn_ok 25 rfl
theorem dX7_takeIn_49 : decode cX7_takeIn 49 = .ok (.return_, 1) := dk_get kX7_takeIn_ok 26 rfl
def kX7_read : List (Nat × Instr × Nat) := [(0, .aload_n 0, 1), (1, .iload_n 1, 1), (2, .invokevirtual 38, 3), (5, .aload_n 0, 1), (6, .iconst 0, 1), (7, .putfield 35, 3), (10, .aload_n 0, 1), (11, .iconst 0, 1), (12, .putfield 42, 3), (15, .aload_n 0, 1), (16, .iconst (-1), 1), (17, .putfield 9, 3), (20, .aload_n 0, 1), (21, .getfield 18, 3), (24, .invokevirtual 45, 3), (27, .aload_n 0, 1), (28, .iconst 0, 1), (29, .putfield 48, 3), (32, .aload_n 0, 1), (33, .aload_n 0, 1), (34, .getfield 26, 3), (37, .iconst 0, 1), (38, .iaload, 1), (39, .putfield 51, 3), (42, .iconst 0, 1), (43, .istore_n 2, 1), (44, .iload_n 2, 1), (45, .bipush 16, 2), (47, .if_icmp .gt 27, 3), (50, .aload_n 0, 1), (51, .getfield 51, 3), (54, .bipush (-18), 2), (56, .if_icmp .eq 18, 3), (59, .aload_n 0, 1), (60, .invokevirtual 54, 3), (63, .ifCond .ne 5, 3), (66, .iconst 0, 1), (67, .ireturn, 1), (68, .iinc 2 1, 3), (71, .goto (-27), 3), (74, .iconst 1, 1), (75, .ireturn, 1)]
set_option maxRecDepth 100000 in
theorem kX7_read_ok : kX7_read.all (fun q => decide (decode cX7_read q.1 = .ok q.2)) = true := by decide +kernel
theorem dX7_read_0 : decode cX7_read 0 = .ok (.aload_n 0, 1) := dk_get kX7_read_ok 0 rfl
theorem dX7_read_1 : decode cX7_read 1 = .ok (.iload_n 1, 1) := dk_get kX7_read_ok 1 rfl
theorem dX7_read_2 : decode cX7_read 2 = .ok (.invokevirtual 38, 3) := dk_get kX7_read_ok 2 rfl
theorem dX7_read_5 : decode cX7_read 5 = .ok (.aload_n 0, 1) := dk_get kX7_read_ok 3 rfl
theorem dX7_read_6 : decode cX7_read 6 = .ok (.iconst 0, 1) := dk_get kX7_read_ok 4 rfl
theorem dX7_read_7 : decode cX7_read 7 = .ok (.putfield 35, 3) := dk_get kX7_read_ok 5 rfl
theorem dX7_read_10 : decode cX7_read 10 = .ok (.aload_n 0, 1) := dk_get kX7_read_ok 6 rfl
theorem dX7_read_11 : decode cX7_read 11 = .ok (.iconst 0, 1) := dk_get kX7_read_ok 7 rfl
theorem dX7_read_12 : decode cX7_read 12 = .ok (.putfield 42, 3) := dk_get kX7_read_ok 8 rfl
theorem dX7_read_15 : decode cX7_read 15 = .ok (.aload_n 0, 1) := dk_get kX7_read_ok 9 rfl
theorem dX7_read_16 : decode cX7_read 16 = .ok (.iconst (-1), 1) := dk_get kX7_read_ok 10 rfl
theorem dX7_read_17 : decode cX7_read 17 = .ok (.putfield 9, 3) := dk_get kX7_read_ok 11 rfl
theorem dX7_read_20 : decode cX7_read 20 = .ok (.aload_n 0, 1) := dk_get kX7_read_ok 12 rfl
theorem dX7_read_21 : decode cX7_read 21 = .ok (.getfield 18, 3) := dk_get kX7_read_ok 13 rfl
theorem dX7_read_24 : decode cX7_read 24 = .ok (.invokevirtual 45, 3) := dk_get kX7_read_ok 14 rfl
theorem dX7_read_27 : decode cX7_read 27 = .ok (.aload_n 0, 1) := dk_get kX7_read_ok 15 rfl
theorem dX7_read_28 : decode cX7_read 28 = .ok (.iconst 0, 1) := dk_get kX7_read_ok 16 rfl
theorem dX7_read_29 : decode cX7_read 29 = .ok (.putfield 48, 3) := dk_get kX7_read_ok 17 rfl
theorem dX7_read_32 : decode cX7_read 32 = .ok (.aload_n 0, 1) := dk_get kX7_read_ok 18 rfl
theorem dX7_read_33 : decode cX7_read 33 = .ok (.aload_n 0, 1) := dk_get kX7_read_ok 19 rfl
theorem dX7_read_34 : decode cX7_read 34 = .ok (.getfield 26, 3) := dk_get kX7_read_ok 20 rfl
theorem dX7_read_37 : decode cX7_read 37 = .ok (.iconst 0, 1) := dk_get kX7_read_ok 21 rfl
theorem dX7_read_38 : decode cX7_read 38 = .ok (.iaload, 1) := dk_get kX7_read_ok 22 rfl
theorem dX7_read_39 : decode cX7_read 39 = .ok (.putfield 51, 3) := dk_get kX7_read_ok 23 rfl
theorem dX7_read_42 : decode cX7_read 42 = .ok (.iconst 0, 1) := dk_get kX7_read_ok 24 rfl
theorem dX7_read_43 : decode cX7_read 43 = .ok (.istore_n 2, 1) := dk_get kX7_read_ok 25 rfl
theorem dX7_read_44 : decode cX7_read 44 = .ok (.iload_n 2, 1) := dk_get kX7_read_ok 26 rfl
theorem dX7_read_45 : decode cX7_read 45 = .ok (.bipush 16, 2) := dk_get kX7_read_ok 27 rfl
theorem dX7_read_47 : decode cX7_read 47 = .ok (.if_icmp .gt 27, 3) := dk_get kX7_read_ok 28 rfl
theorem dX7_read_50 : decode cX7_read 50 = .ok (.aload_n 0, 1) := dk_get kX7_read_ok 29 rfl
theorem dX7_read_51 : decode cX7_read 51 = .ok (.getfield 51, 3) := dk_get kX7_read_ok 30 rfl
theorem dX7_read_54 : decode cX7_read 54 = .ok (.bipush (-18), 2) := dk_get kX7_read_ok 31 rfl
theorem dX7_read_56 : decode cX7_read 56 = .ok (.if_icmp .eq 18, 3) := dk_get kX7_read_ok 32 rfl
theorem dX7_read_59 : decode cX7_read 59 = .ok (.aload_n 0, 1) := dk_get kX7_read_ok 33 rfl
theorem dX7_read_60 : decode cX7_read 60 = .ok (.invokevirtual 54, 3) := dk_get kX7_read_ok 34 rfl
theorem dX7_read_63 : decode cX7_read 63 = .ok (.ifCond .ne 5, 3) := dk_get kX7_read_ok 35 rfl
theorem dX7_read_66 : decode cX7_read 66 = .ok (.iconst 0, 1) := dk_get kX7_read_ok 36 rfl
theorem dX7_read_67 : decode cX7_read 67 = .ok (.ireturn, 1) := dk_get kX7_read_ok 37 rfl
theorem dX7_read_68 : decode cX7_read 68 = .ok (.iinc 2 1, 3) := dk_get kX7_read_ok 38 rfl
theorem dX7_read_71 : decode cX7_read 71 = .ok (.goto (-27), 3) := dk_get kX7_read_ok 39 rfl
theorem dX7_read_74 : decode cX7_read 74 = .ok (.iconst 1, 1) := dk_get kX7_read_ok 40 rfl
theorem dX7_read_75 : decode cX7_read 75 = .ok (.ireturn, 1) := dk_get kX7_read_ok 41 rfl
def kX7_scan : List (Nat × Instr × Nat) := [(0, .iconst 0, 1), (1, .istore_n 2, 1), (2, .iconst 0, 1), (3, .istore_n 3, 1), (4, .iload_n 3, 1), (5, .iload_n 1, 1), (6, .if_icmp .ge 119, 3), (9, .aload_n 0, 1), (10, .getfield 22, 3), (13, .iload_n 3, 1), (14, .iaload, 1), (15, .istore 4, 2), (17, .iload 4, 2), (19, .bipush 32, 2), (21, .if_icmp .eq 98, 3), (24, .iload_n 3, 1), (25, .ifCond .le 22, 3), (28, .aload_n 0, 1), (29, .getfield 22, 3), (32, .iload_n 3, 1), (33, .iconst 1, 1), (34, .isub, 1), (35, .iaload, 1), (36, .iload 4, 2), (38, .invokestatic 58, 3), (41, .ifCond .eq 6, 3), (44, .goto 75, 3), (47, .aload_n 0, 1), (48, .getfield 29, 3), (51, .iload_n 2, 1), (52, .iload_n 3, 1), (53, .iastore, 1), (54, .aload_n 0, 1), (55, .getfield 26, 3), (58, .iload_n 2, 1), (59, .iload 4, 2), (61, .invokestatic 62, 3), (64, .ifCond .eq 12, 3), (67, .aload_n 0, 1), (68, .iload_n 3, 1), (69, .iload_n 1, 1), (70, .invokevirtual 66, 3), (73, .goto 18, 3), (76, .iload 4, 2), (78, .invokestatic 70, 3), (81, .ifCond .eq 8, 3), (84, .bipush (-17), 2), (86, .goto 5, 3), (89, .iload 4, 2), (91, .iastore, 1), (92, .aload_n 0, 1), (93, .getfield 32, 3), (96, .iload_n 2, 1), (97, .iload 4, 2), (99, .invokestatic 70, 3), (102, .ifCond .eq 12, 3), (105, .aload_n 0, 1), (106, .iload_n 3, 1), (107, .iload_n 1, 1), (108, .invokevirtual 73, 3), (111, .goto 4, 3), (114, .iconst 0, 1), (115, .iastore, 1), (116, .iinc 2 1, 3), (119, .iinc 3 1, 3), (122, .goto (-118), 3), (125, .aload_n 0, 1), (126, .getfield 29, 3), (129, .iload_n 2, 1), (130, .iload_n 1, 1), (131, .iastore, 1), (132, .aload_n 0, 1), (133, .getfield 26, 3), (136, .iload_n 2, 1), (137, .bipush (-18), 2), (139, .iastore, 1), (140, .return_, 1)]
set_option maxRecDepth 100000 in
theorem kX7_scan_ok : kX7_scan.all (fun q => decide (decode cX7_scan q.1 = .ok q.2)) = true := by decide +kernel
theorem dX7_scan_0 : decode cX7_scan 0 = .ok (.iconst 0, 1) := dk_get kX7_scan_ok 0 rfl
theorem dX7_scan_1 : decode cX7_scan 1 = .ok (.istore_n 2, 1) := dk_get kX7_scan_ok 1 rfl
theorem dX7_scan_2 : decode cX7_scan 2 = .ok (.iconst 0, 1) := dk_get kX7_scan_ok 2 rfl
theorem dX7_scan_3 : decode cX7_scan 3 = .ok (.istore_n 3, 1) := dk_get kX7_scan_ok 3 rfl
theorem dX7_scan_4 : decode cX7_scan 4 = .ok (.iload_n 3, 1) := dk_get kX7_scan_ok 4 rfl
theorem dX7_scan_5 : decode cX7_scan 5 = .ok (.iload_n 1, 1) := dk_get kX7_scan_ok 5 rfl
theorem dX7_scan_6 : decode cX7_scan 6 = .ok (.if_icmp .ge 119, 3) := dk_get kX7_scan_ok 6 rfl
theorem dX7_scan_9 : decode cX7_scan 9 = .ok (.aload_n 0, 1) := dk_get kX7_scan_ok 7 rfl
theorem dX7_scan_10 : decode cX7_scan 10 = .ok (.getfield 22, 3) := dk_get kX7_scan_ok 8 rfl
theorem dX7_scan_13 : decode cX7_scan 13 = .ok (.iload_n 3, 1) := dk_get kX7_scan_ok 9 rfl
theorem dX7_scan_14 : decode cX7_scan 14 = .ok (.iaload, 1) := dk_get kX7_scan_ok 10 rfl
theorem dX7_scan_15 : decode cX7_scan 15 = .ok (.istore 4, 2) := dk_get kX7_scan_ok 11 rfl
theorem dX7_scan_17 : decode cX7_scan 17 = .ok (.iload 4, 2) := dk_get kX7_scan_ok 12 rfl
theorem dX7_scan_19 : decode cX7_scan 19 = .ok (.bipush 32, 2) := dk_get kX7_scan_ok 13 rfl
theorem dX7_scan_21 : decode cX7_scan 21 = .ok (.if_icmp .eq 98, 3) := dk_get kX7_scan_ok 14 rfl
theorem dX7_scan_24 : decode cX7_scan 24 = .ok (.iload_n 3, 1) := dk_get kX7_scan_ok 15 rfl
theorem dX7_scan_25 : decode cX7_scan 25 = .ok (.ifCond .le 22, 3) := dk_get kX7_scan_ok 16 rfl
theorem dX7_scan_28 : decode cX7_scan 28 = .ok (.aload_n 0, 1) := dk_get kX7_scan_ok 17 rfl
theorem dX7_scan_29 : decode cX7_scan 29 = .ok (.getfield 22, 3) := dk_get kX7_scan_ok 18 rfl
theorem dX7_scan_32 : decode cX7_scan 32 = .ok (.iload_n 3, 1) := dk_get kX7_scan_ok 19 rfl
theorem dX7_scan_33 : decode cX7_scan 33 = .ok (.iconst 1, 1) := dk_get kX7_scan_ok 20 rfl
theorem dX7_scan_34 : decode cX7_scan 34 = .ok (.isub, 1) := dk_get kX7_scan_ok 21 rfl
theorem dX7_scan_35 : decode cX7_scan 35 = .ok (.iaload, 1) := dk_get kX7_scan_ok 22 rfl
theorem dX7_scan_36 : decode cX7_scan 36 = .ok (.iload 4, 2) := dk_get kX7_scan_ok 23 rfl
theorem dX7_scan_38 : decode cX7_scan 38 = .ok (.invokestatic 58, 3) := dk_get kX7_scan_ok 24 rfl
theorem dX7_scan_41 : decode cX7_scan 41 = .ok (.ifCond .eq 6, 3) := dk_get kX7_scan_ok 25 rfl
theorem dX7_scan_44 : decode cX7_scan 44 = .ok (.goto 75, 3) := dk_get kX7_scan_ok 26 rfl
theorem dX7_scan_47 : decode cX7_scan 47 = .ok (.aload_n 0, 1) := dk_get kX7_scan_ok 27 rfl
theorem dX7_scan_48 : decode cX7_scan 48 = .ok (.getfield 29, 3) := dk_get kX7_scan_ok 28 rfl
theorem dX7_scan_51 : decode cX7_scan 51 = .ok (.iload_n 2, 1) := dk_get kX7_scan_ok 29 rfl
theorem dX7_scan_52 : decode cX7_scan 52 = .ok (.iload_n 3, 1) := dk_get kX7_scan_ok 30 rfl
theorem dX7_scan_53 : decode cX7_scan 53 = .ok (.iastore, 1) := dk_get kX7_scan_ok 31 rfl
theorem dX7_scan_54 : decode cX7_scan 54 = .ok (.aload_n 0, 1) := dk_get kX7_scan_ok 32 rfl
theorem dX7_scan_55 : decode cX7_scan 55 = .ok (.getfield 26, 3) := dk_get kX7_scan_ok 33 rfl
theorem dX7_scan_58 : decode cX7_scan 58 = .ok (.iload_n 2, 1) := dk_get kX7_scan_ok 34 rfl
theorem dX7_scan_59 : decode cX7_scan 59 = .ok (.iload 4, 2) := dk_get kX7_scan_ok 35 rfl
theorem dX7_scan_61 : decode cX7_scan 61 = .ok (.invokestatic 62, 3) := dk_get kX7_scan_ok 36 rfl
theorem dX7_scan_64 : decode cX7_scan 64 = .ok (.ifCond .eq 12, 3) := dk_get kX7_scan_ok 37 rfl
theorem dX7_scan_67 : decode cX7_scan 67 = .ok (.aload_n 0, 1) := dk_get kX7_scan_ok 38 rfl
theorem dX7_scan_68 : decode cX7_scan 68 = .ok (.iload_n 3, 1) := dk_get kX7_scan_ok 39 rfl
theorem dX7_scan_69 : decode cX7_scan 69 = .ok (.iload_n 1, 1) := dk_get kX7_scan_ok 40 rfl
theorem dX7_scan_70 : decode cX7_scan 70 = .ok (.invokevirtual 66, 3) := dk_get kX7_scan_ok 41 rfl
theorem dX7_scan_73 : decode cX7_scan 73 = .ok (.goto 18, 3) := dk_get kX7_scan_ok 42 rfl
theorem dX7_scan_76 : decode cX7_scan 76 = .ok (.iload 4, 2) := dk_get kX7_scan_ok 43 rfl
theorem dX7_scan_78 : decode cX7_scan 78 = .ok (.invokestatic 70, 3) := dk_get kX7_scan_ok 44 rfl
theorem dX7_scan_81 : decode cX7_scan 81 = .ok (.ifCond .eq 8, 3) := dk_get kX7_scan_ok 45 rfl
theorem dX7_scan_84 : decode cX7_scan 84 = .ok (.bipush (-17), 2) := dk_get kX7_scan_ok 46 rfl
theorem dX7_scan_86 : decode cX7_scan 86 = .ok (.goto 5, 3) := dk_get kX7_scan_ok 47 rfl
theorem dX7_scan_89 : decode cX7_scan 89 = .ok (.iload 4, 2) := dk_get kX7_scan_ok 48 rfl
theorem dX7_scan_91 : decode cX7_scan 91 = .ok (.iastore, 1) := dk_get kX7_scan_ok 49 rfl
theorem dX7_scan_92 : decode cX7_scan 92 = .ok (.aload_n 0, 1) := dk_get kX7_scan_ok 50 rfl
theorem dX7_scan_93 : decode cX7_scan 93 = .ok (.getfield 32, 3) := dk_get kX7_scan_ok 51 rfl
theorem dX7_scan_96 : decode cX7_scan 96 = .ok (.iload_n 2, 1) := dk_get kX7_scan_ok 52 rfl
theorem dX7_scan_97 : decode cX7_scan 97 = .ok (.iload 4, 2) := dk_get kX7_scan_ok 53 rfl
theorem dX7_scan_99 : decode cX7_scan 99 = .ok (.invokestatic 70, 3) := dk_get kX7_scan_ok 54 rfl
theorem dX7_scan_102 : decode cX7_scan 102 = .ok (.ifCond .eq 12, 3) := dk_get kX7_scan_ok 55 rfl
theorem dX7_scan_105 : decode cX7_scan 105 = .ok (.aload_n 0, 1) := dk_get kX7_scan_ok 56 rfl
theorem dX7_scan_106 : decode cX7_scan 106 = .ok (.iload_n 3, 1) := dk_get kX7_scan_ok 57 rfl
theorem dX7_scan_107 : decode cX7_scan 107 = .ok (.iload_n 1, 1) := dk_get kX7_scan_ok 58 rfl
theorem dX7_scan_108 : decode cX7_scan 108 = .ok (.invokevirtual 73, 3) := dk_get kX7_scan_ok 59 rfl
theorem dX7_scan_111 : decode cX7_scan 111 = .ok (.goto 4, 3) := dk_get kX7_scan_ok 60 rfl
theorem dX7_scan_114 : decode cX7_scan 114 = .ok (.iconst 0, 1) := dk_get kX7_scan_ok 61 rfl
theorem dX7_scan_115 : decode cX7_scan 115 = .ok (.iastore, 1) := dk_get kX7_scan_ok 62 rfl
theorem dX7_scan_116 : decode cX7_scan 116 = .ok (.iinc 2 1, 3) := dk_get kX7_scan_ok 63 rfl
theorem dX7_scan_119 : decode cX7_scan 119 = .ok (.iinc 3 1, 3) := dk_get kX7_scan_ok 64 rfl
theorem dX7_scan_122 : decode cX7_scan 122 = .ok (.goto (-118), 3) := dk_get kX7_scan_ok 65 rfl
theorem dX7_scan_125 : decode cX7_scan 125 = .ok (.aload_n 0, 1) := dk_get kX7_scan_ok 66 rfl
theorem dX7_scan_126 : decode cX7_scan 126 = .ok (.getfield 29, 3) := dk_get kX7_scan_ok 67 rfl
theorem dX7_scan_129 : decode cX7_scan 129 = .ok (.iload_n 2, 1) := dk_get kX7_scan_ok 68 rfl
theorem dX7_scan_130 : decode cX7_scan 130 = .ok (.iload_n 1, 1) := dk_get kX7_scan_ok 69 rfl
theorem dX7_scan_131 : decode cX7_scan 131 = .ok (.iastore, 1) := dk_get kX7_scan_ok 70 rfl
theorem dX7_scan_132 : decode cX7_scan 132 = .ok (.aload_n 0, 1) := dk_get kX7_scan_ok 71 rfl
theorem dX7_scan_133 : decode cX7_scan 133 = .ok (.getfield 26, 3) := dk_get kX7_scan_ok 72 rfl
theorem dX7_scan_136 : decode cX7_scan 136 = .ok (.iload_n 2, 1) := dk_get kX7_scan_ok 73 rfl
theorem dX7_scan_137 : decode cX7_scan 137 = .ok (.bipush (-18), 2) := dk_get kX7_scan_ok 74 rfl
theorem dX7_scan_139 : decode cX7_scan 139 = .ok (.iastore, 1) := dk_get kX7_scan_ok 75 rfl
theorem dX7_scan_140 : decode cX7_scan 140 = .ok (.return_, 1) := dk_get kX7_scan_ok 76 rfl
def kX7_goesOn : List (Nat × Instr × Nat) := [(0, .iload_n 0, 1), (1, .invokestatic 62, 3), (4, .ifCond .eq 10, 3), (7, .iload_n 1, 1), (8, .invokestatic 62, 3), (11, .ifCond .ne 17, 3), (14, .iload_n 0, 1), (15, .invokestatic 70, 3), (18, .ifCond .eq 14, 3), (21, .iload_n 1, 1), (22, .invokestatic 70, 3), (25, .ifCond .eq 7, 3), (28, .iconst 1, 1), (29, .goto 4, 3), (32, .iconst 0, 1), (33, .ireturn, 1)]
set_option maxRecDepth 100000 in
theorem kX7_goesOn_ok : kX7_goesOn.all (fun q => decide (decode cX7_goesOn q.1 = .ok q.2)) = true := by decide +kernel
theorem dX7_goesOn_0 : decode cX7_goesOn 0 = .ok (.iload_n 0, 1) := dk_get kX7_goesOn_ok 0 rfl
theorem dX7_goesOn_1 : decode cX7_goesOn 1 = .ok (.invokestatic 62, 3) := dk_get kX7_goesOn_ok 1 rfl
theorem dX7_goesOn_4 : decode cX7_goesOn 4 = .ok (.ifCond .eq 10, 3) := dk_get kX7_goesOn_ok 2 rfl
theorem dX7_goesOn_7 : decode cX7_goesOn 7 = .ok (.iload_n 1, 1) := dk_get kX7_goesOn_ok 3 rfl
theorem dX7_goesOn_8 : decode cX7_goesOn 8 = .ok (.invokestatic 62, 3) := dk_get kX7_goesOn_ok 4 rfl
theorem dX7_goesOn_11 : decode cX7_goesOn 11 = .ok (.ifCond .ne 17, 3) := dk_get kX7_goesOn_ok 5 rfl
theorem dX7_goesOn_14 : decode cX7_goesOn 14 = .ok (.iload_n 0, 1) := dk_get kX7_goesOn_ok 6 rfl
theorem dX7_goesOn_15 : decode cX7_goesOn 15 = .ok (.invokestatic 70, 3) := dk_get kX7_goesOn_ok 7 rfl
theorem dX7_goesOn_18 : decode cX7_goesOn 18 = .ok (.ifCond .eq 14, 3) := dk_get kX7_goesOn_ok 8 rfl
theorem dX7_goesOn_21 : decode cX7_goesOn 21 = .ok (.iload_n 1, 1) := dk_get kX7_goesOn_ok 9 rfl
theorem dX7_goesOn_22 : decode cX7_goesOn 22 = .ok (.invokestatic 70, 3) := dk_get kX7_goesOn_ok 10 rfl
theorem dX7_goesOn_25 : decode cX7_goesOn 25 = .ok (.ifCond .eq 7, 3) := dk_get kX7_goesOn_ok 11 rfl
theorem dX7_goesOn_28 : decode cX7_goesOn 28 = .ok (.iconst 1, 1) := dk_get kX7_goesOn_ok 12 rfl
theorem dX7_goesOn_29 : decode cX7_goesOn 29 = .ok (.goto 4, 3) := dk_get kX7_goesOn_ok 13 rfl
theorem dX7_goesOn_32 : decode cX7_goesOn 32 = .ok (.iconst 0, 1) := dk_get kX7_goesOn_ok 14 rfl
theorem dX7_goesOn_33 : decode cX7_goesOn 33 = .ok (.ireturn, 1) := dk_get kX7_goesOn_ok 15 rfl
def kX7_isLetter : List (Nat × Instr × Nat) := [(0, .iload_n 0, 1), (1, .bipush 97, 2), (3, .if_icmp .lt 13, 3), (6, .iload_n 0, 1), (7, .bipush 122, 2), (9, .if_icmp .gt 7, 3), (12, .iconst 1, 1), (13, .goto 4, 3), (16, .iconst 0, 1), (17, .ireturn, 1)]
set_option maxRecDepth 100000 in
theorem kX7_isLetter_ok : kX7_isLetter.all (fun q => decide (decode cX7_isLetter q.1 = .ok q.2)) = true := by decide +kernel
theorem dX7_isLetter_0 : decode cX7_isLetter 0 = .ok (.iload_n 0, 1) := dk_get kX7_isLetter_ok 0 rfl
theorem dX7_isLetter_1 : decode cX7_isLetter 1 = .ok (.bipush 97, 2) := dk_get kX7_isLetter_ok 1 rfl
theorem dX7_isLetter_3 : decode cX7_isLetter 3 = .ok (.if_icmp .lt 13, 3) := dk_get kX7_isLetter_ok 2 rfl
theorem dX7_isLetter_6 : decode cX7_isLetter 6 = .ok (.iload_n 0, 1) := dk_get kX7_isLetter_ok 3 rfl
theorem dX7_isLetter_7 : decode cX7_isLetter 7 = .ok (.bipush 122, 2) := dk_get kX7_isLetter_ok 4 rfl
theorem dX7_isLetter_9 : decode cX7_isLetter 9 = .ok (.if_icmp .gt 7, 3) := dk_get kX7_isLetter_ok 5 rfl
theorem dX7_isLetter_12 : decode cX7_isLetter 12 = .ok (.iconst 1, 1) := dk_get kX7_isLetter_ok 6 rfl
theorem dX7_isLetter_13 : decode cX7_isLetter 13 = .ok (.goto 4, 3) := dk_get kX7_isLetter_ok 7 rfl
theorem dX7_isLetter_16 : decode cX7_isLetter 16 = .ok (.iconst 0, 1) := dk_get kX7_isLetter_ok 8 rfl
theorem dX7_isLetter_17 : decode cX7_isLetter 17 = .ok (.ireturn, 1) := dk_get kX7_isLetter_ok 9 rfl
def kX7_isDigit : List (Nat × Instr × Nat) := [(0, .iload_n 0, 1), (1, .bipush 48, 2), (3, .if_icmp .lt 13, 3), (6, .iload_n 0, 1), (7, .bipush 57, 2), (9, .if_icmp .gt 7, 3), (12, .iconst 1, 1), (13, .goto 4, 3), (16, .iconst 0, 1), (17, .ireturn, 1)]
set_option maxRecDepth 100000 in
theorem kX7_isDigit_ok : kX7_isDigit.all (fun q => decide (decode cX7_isDigit q.1 = .ok q.2)) = true := by decide +kernel
theorem dX7_isDigit_0 : decode cX7_isDigit 0 = .ok (.iload_n 0, 1) := dk_get kX7_isDigit_ok 0 rfl
theorem dX7_isDigit_1 : decode cX7_isDigit 1 = .ok (.bipush 48, 2) := dk_get kX7_isDigit_ok 1 rfl
theorem dX7_isDigit_3 : decode cX7_isDigit 3 = .ok (.if_icmp .lt 13, 3) := dk_get kX7_isDigit_ok 2 rfl
theorem dX7_isDigit_6 : decode cX7_isDigit 6 = .ok (.iload_n 0, 1) := dk_get kX7_isDigit_ok 3 rfl
theorem dX7_isDigit_7 : decode cX7_isDigit 7 = .ok (.bipush 57, 2) := dk_get kX7_isDigit_ok 4 rfl
theorem dX7_isDigit_9 : decode cX7_isDigit 9 = .ok (.if_icmp .gt 7, 3) := dk_get kX7_isDigit_ok 5 rfl
theorem dX7_isDigit_12 : decode cX7_isDigit 12 = .ok (.iconst 1, 1) := dk_get kX7_isDigit_ok 6 rfl
theorem dX7_isDigit_13 : decode cX7_isDigit 13 = .ok (.goto 4, 3) := dk_get kX7_isDigit_ok 7 rfl
theorem dX7_isDigit_16 : decode cX7_isDigit 16 = .ok (.iconst 0, 1) := dk_get kX7_isDigit_ok 8 rfl
theorem dX7_isDigit_17 : decode cX7_isDigit 17 = .ok (.ireturn, 1) := dk_get kX7_isDigit_ok 9 rfl
def kX7_numberAt : List (Nat × Instr × Nat) := [(0, .iconst 0, 1), (1, .istore_n 3, 1), (2, .iload_n 1, 1), (3, .istore 4, 2), (5, .iload 4, 2), (7, .iload_n 2, 1), (8, .if_icmp .ge 45, 3), (11, .aload_n 0, 1), (12, .getfield 22, 3), (15, .iload 4, 2), (17, .iaload, 1), (18, .invokestatic 70, 3), (21, .ifCond .eq 32, 3), (24, .iload_n 3, 1), (25, .sipush 9999, 3), (28, .if_icmp .gt 25, 3), (31, .iload_n 3, 1), (32, .bipush 10, 2), (34, .imul, 1), (35, .aload_n 0, 1), (36, .getfield 22, 3), (39, .iload 4, 2), (41, .iaload, 1), (42, .iadd, 1), (43, .bipush 48, 2), (45, .isub, 1), (46, .istore_n 3, 1), (47, .iinc 4 1, 3), (50, .goto (-45), 3), (53, .iload_n 3, 1), (54, .ireturn, 1)]
set_option maxRecDepth 100000 in
theorem kX7_numberAt_ok : kX7_numberAt.all (fun q => decide (decode cX7_numberAt q.1 = .ok q.2)) = true := by decide +kernel
theorem dX7_numberAt_0 : decode cX7_numberAt 0 = .ok (.iconst 0, 1) := dk_get kX7_numberAt_ok 0 rfl
theorem dX7_numberAt_1 : decode cX7_numberAt 1 = .ok (.istore_n 3, 1) := dk_get kX7_numberAt_ok 1 rfl
theorem dX7_numberAt_2 : decode cX7_numberAt 2 = .ok (.iload_n 1, 1) := dk_get kX7_numberAt_ok 2 rfl
theorem dX7_numberAt_3 : decode cX7_numberAt 3 = .ok (.istore 4, 2) := dk_get kX7_numberAt_ok 3 rfl
theorem dX7_numberAt_5 : decode cX7_numberAt 5 = .ok (.iload 4, 2) := dk_get kX7_numberAt_ok 4 rfl
theorem dX7_numberAt_7 : decode cX7_numberAt 7 = .ok (.iload_n 2, 1) := dk_get kX7_numberAt_ok 5 rfl
theorem dX7_numberAt_8 : decode cX7_numberAt 8 = .ok (.if_icmp .ge 45, 3) := dk_get kX7_numberAt_ok 6 rfl
theorem dX7_numberAt_11 : decode cX7_numberAt 11 = .ok (.aload_n 0, 1) := dk_get kX7_numberAt_ok 7 rfl
theorem dX7_numberAt_12 : decode cX7_numberAt 12 = .ok (.getfield 22, 3) := dk_get kX7_numberAt_ok 8 rfl
theorem dX7_numberAt_15 : decode cX7_numberAt 15 = .ok (.iload 4, 2) := dk_get kX7_numberAt_ok 9 rfl
theorem dX7_numberAt_17 : decode cX7_numberAt 17 = .ok (.iaload, 1) := dk_get kX7_numberAt_ok 10 rfl
theorem dX7_numberAt_18 : decode cX7_numberAt 18 = .ok (.invokestatic 70, 3) := dk_get kX7_numberAt_ok 11 rfl
theorem dX7_numberAt_21 : decode cX7_numberAt 21 = .ok (.ifCond .eq 32, 3) := dk_get kX7_numberAt_ok 12 rfl
theorem dX7_numberAt_24 : decode cX7_numberAt 24 = .ok (.iload_n 3, 1) := dk_get kX7_numberAt_ok 13 rfl
theorem dX7_numberAt_25 : decode cX7_numberAt 25 = .ok (.sipush 9999, 3) := dk_get kX7_numberAt_ok 14 rfl
theorem dX7_numberAt_28 : decode cX7_numberAt 28 = .ok (.if_icmp .gt 25, 3) := dk_get kX7_numberAt_ok 15 rfl
theorem dX7_numberAt_31 : decode cX7_numberAt 31 = .ok (.iload_n 3, 1) := dk_get kX7_numberAt_ok 16 rfl
theorem dX7_numberAt_32 : decode cX7_numberAt 32 = .ok (.bipush 10, 2) := dk_get kX7_numberAt_ok 17 rfl
theorem dX7_numberAt_34 : decode cX7_numberAt 34 = .ok (.imul, 1) := dk_get kX7_numberAt_ok 18 rfl
theorem dX7_numberAt_35 : decode cX7_numberAt 35 = .ok (.aload_n 0, 1) := dk_get kX7_numberAt_ok 19 rfl
theorem dX7_numberAt_36 : decode cX7_numberAt 36 = .ok (.getfield 22, 3) := dk_get kX7_numberAt_ok 20 rfl
theorem dX7_numberAt_39 : decode cX7_numberAt 39 = .ok (.iload 4, 2) := dk_get kX7_numberAt_ok 21 rfl
theorem dX7_numberAt_41 : decode cX7_numberAt 41 = .ok (.iaload, 1) := dk_get kX7_numberAt_ok 22 rfl
theorem dX7_numberAt_42 : decode cX7_numberAt 42 = .ok (.iadd, 1) := dk_get kX7_numberAt_ok 23 rfl
theorem dX7_numberAt_43 : decode cX7_numberAt 43 = .ok (.bipush 48, 2) := dk_get kX7_numberAt_ok 24 rfl
theorem dX7_numberAt_45 : decode cX7_numberAt 45 = .ok (.isub, 1) := dk_get kX7_numberAt_ok 25 rfl
theorem dX7_numberAt_46 : decode cX7_numberAt 46 = .ok (.istore_n 3, 1) := dk_get kX7_numberAt_ok 26 rfl
theorem dX7_numberAt_47 : decode cX7_numberAt 47 = .ok (.iinc 4 1, 3) := dk_get kX7_numberAt_ok 27 rfl
theorem dX7_numberAt_50 : decode cX7_numberAt 50 = .ok (.goto (-45), 3) := dk_get kX7_numberAt_ok 28 rfl
theorem dX7_numberAt_53 : decode cX7_numberAt 53 = .ok (.iload_n 3, 1) := dk_get kX7_numberAt_ok 29 rfl
theorem dX7_numberAt_54 : decode cX7_numberAt 54 = .ok (.ireturn, 1) := dk_get kX7_numberAt_ok 30 rfl
def kX7_wordAt : List (Nat × Instr × Nat) := [(0, .iload_n 1, 1), (1, .istore_n 3, 1), (2, .iload_n 3, 1), (3, .iload_n 2, 1), (4, .if_icmp .ge 21, 3), (7, .aload_n 0, 1), (8, .getfield 22, 3), (11, .iload_n 3, 1), (12, .iaload, 1), (13, .invokestatic 62, 3), (16, .ifCond .eq 9, 3), (19, .iinc 3 1, 3), (22, .goto (-20), 3), (25, .iconst (-1), 1), (26, .istore 4, 2), (28, .iload 4, 2), (30, .bipush (-16), 2), (32, .if_icmp .lt 26, 3), (35, .aload_n 0, 1), (36, .iload 4, 2), (38, .invokestatic 76, 3), (41, .iload_n 1, 1), (42, .iload_n 3, 1), (43, .invokevirtual 80, 3), (46, .ifCond .eq 6, 3), (49, .iload 4, 2), (51, .ireturn, 1), (52, .iinc 4 (-1), 3), (55, .goto (-27), 3), (58, .bipush (-19), 2), (60, .ireturn, 1)]
set_option maxRecDepth 100000 in
theorem kX7_wordAt_ok : kX7_wordAt.all (fun q => decide (decode cX7_wordAt q.1 = .ok q.2)) = true := by decide +kernel
theorem dX7_wordAt_0 : decode cX7_wordAt 0 = .ok (.iload_n 1, 1) := dk_get kX7_wordAt_ok 0 rfl
theorem dX7_wordAt_1 : decode cX7_wordAt 1 = .ok (.istore_n 3, 1) := dk_get kX7_wordAt_ok 1 rfl
theorem dX7_wordAt_2 : decode cX7_wordAt 2 = .ok (.iload_n 3, 1) := dk_get kX7_wordAt_ok 2 rfl
theorem dX7_wordAt_3 : decode cX7_wordAt 3 = .ok (.iload_n 2, 1) := dk_get kX7_wordAt_ok 3 rfl
theorem dX7_wordAt_4 : decode cX7_wordAt 4 = .ok (.if_icmp .ge 21, 3) := dk_get kX7_wordAt_ok 4 rfl
theorem dX7_wordAt_7 : decode cX7_wordAt 7 = .ok (.aload_n 0, 1) := dk_get kX7_wordAt_ok 5 rfl
theorem dX7_wordAt_8 : decode cX7_wordAt 8 = .ok (.getfield 22, 3) := dk_get kX7_wordAt_ok 6 rfl
theorem dX7_wordAt_11 : decode cX7_wordAt 11 = .ok (.iload_n 3, 1) := dk_get kX7_wordAt_ok 7 rfl
theorem dX7_wordAt_12 : decode cX7_wordAt 12 = .ok (.iaload, 1) := dk_get kX7_wordAt_ok 8 rfl
theorem dX7_wordAt_13 : decode cX7_wordAt 13 = .ok (.invokestatic 62, 3) := dk_get kX7_wordAt_ok 9 rfl
theorem dX7_wordAt_16 : decode cX7_wordAt 16 = .ok (.ifCond .eq 9, 3) := dk_get kX7_wordAt_ok 10 rfl
theorem dX7_wordAt_19 : decode cX7_wordAt 19 = .ok (.iinc 3 1, 3) := dk_get kX7_wordAt_ok 11 rfl
theorem dX7_wordAt_22 : decode cX7_wordAt 22 = .ok (.goto (-20), 3) := dk_get kX7_wordAt_ok 12 rfl
theorem dX7_wordAt_25 : decode cX7_wordAt 25 = .ok (.iconst (-1), 1) := dk_get kX7_wordAt_ok 13 rfl
theorem dX7_wordAt_26 : decode cX7_wordAt 26 = .ok (.istore 4, 2) := dk_get kX7_wordAt_ok 14 rfl
theorem dX7_wordAt_28 : decode cX7_wordAt 28 = .ok (.iload 4, 2) := dk_get kX7_wordAt_ok 15 rfl
theorem dX7_wordAt_30 : decode cX7_wordAt 30 = .ok (.bipush (-16), 2) := dk_get kX7_wordAt_ok 16 rfl
theorem dX7_wordAt_32 : decode cX7_wordAt 32 = .ok (.if_icmp .lt 26, 3) := dk_get kX7_wordAt_ok 17 rfl
theorem dX7_wordAt_35 : decode cX7_wordAt 35 = .ok (.aload_n 0, 1) := dk_get kX7_wordAt_ok 18 rfl
theorem dX7_wordAt_36 : decode cX7_wordAt 36 = .ok (.iload 4, 2) := dk_get kX7_wordAt_ok 19 rfl
theorem dX7_wordAt_38 : decode cX7_wordAt 38 = .ok (.invokestatic 76, 3) := dk_get kX7_wordAt_ok 20 rfl
theorem dX7_wordAt_41 : decode cX7_wordAt 41 = .ok (.iload_n 1, 1) := dk_get kX7_wordAt_ok 21 rfl
theorem dX7_wordAt_42 : decode cX7_wordAt 42 = .ok (.iload_n 3, 1) := dk_get kX7_wordAt_ok 22 rfl
theorem dX7_wordAt_43 : decode cX7_wordAt 43 = .ok (.invokevirtual 80, 3) := dk_get kX7_wordAt_ok 23 rfl
theorem dX7_wordAt_46 : decode cX7_wordAt 46 = .ok (.ifCond .eq 6, 3) := dk_get kX7_wordAt_ok 24 rfl
theorem dX7_wordAt_49 : decode cX7_wordAt 49 = .ok (.iload 4, 2) := dk_get kX7_wordAt_ok 25 rfl
theorem dX7_wordAt_51 : decode cX7_wordAt 51 = .ok (.ireturn, 1) := dk_get kX7_wordAt_ok 26 rfl
theorem dX7_wordAt_52 : decode cX7_wordAt 52 = .ok (.iinc 4 (-1), 3) := dk_get kX7_wordAt_ok 27 rfl
theorem dX7_wordAt_55 : decode cX7_wordAt 55 = .ok (.goto (-27), 3) := dk_get kX7_wordAt_ok 28 rfl
theorem dX7_wordAt_58 : decode cX7_wordAt 58 = .ok (.bipush (-19), 2) := dk_get kX7_wordAt_ok 29 rfl
theorem dX7_wordAt_60 : decode cX7_wordAt 60 = .ok (.ireturn, 1) := dk_get kX7_wordAt_ok 30 rfl
def kX7_isSpelt : List (Nat × Instr × Nat) := [(0, .aload_n 1, 1), (1, .invokevirtual 84, 3), (4, .iload_n 3, 1), (5, .iload_n 2, 1), (6, .isub, 1), (7, .if_icmp .eq 5, 3), (10, .iconst 0, 1), (11, .ireturn, 1), (12, .iconst 0, 1), (13, .istore 4, 2), (15, .iload 4, 2), (17, .aload_n 1, 1), (18, .invokevirtual 84, 3), (21, .if_icmp .ge 29, 3), (24, .aload_n 1, 1), (25, .iload 4, 2), (27, .invokevirtual 90, 3), (30, .aload_n 0, 1), (31, .getfield 22, 3), (34, .iload_n 2, 1), (35, .iload 4, 2), (37, .iadd, 1), (38, .iaload, 1), (39, .if_icmp .eq 5, 3), (42, .iconst 0, 1), (43, .ireturn, 1), (44, .iinc 4 1, 3), (47, .goto (-32), 3), (50, .iconst 1, 1), (51, .ireturn, 1)]
set_option maxRecDepth 100000 in
theorem kX7_isSpelt_ok : kX7_isSpelt.all (fun q => decide (decode cX7_isSpelt q.1 = .ok q.2)) = true := by decide +kernel
theorem dX7_isSpelt_0 : decode cX7_isSpelt 0 = .ok (.aload_n 1, 1) := dk_get kX7_isSpelt_ok 0 rfl
theorem dX7_isSpelt_1 : decode cX7_isSpelt 1 = .ok (.invokevirtual 84, 3) := dk_get kX7_isSpelt_ok 1 rfl
theorem dX7_isSpelt_4 : decode cX7_isSpelt 4 = .ok (.iload_n 3, 1) := dk_get kX7_isSpelt_ok 2 rfl
theorem dX7_isSpelt_5 : decode cX7_isSpelt 5 = .ok (.iload_n 2, 1) := dk_get kX7_isSpelt_ok 3 rfl
theorem dX7_isSpelt_6 : decode cX7_isSpelt 6 = .ok (.isub, 1) := dk_get kX7_isSpelt_ok 4 rfl
theorem dX7_isSpelt_7 : decode cX7_isSpelt 7 = .ok (.if_icmp .eq 5, 3) := dk_get kX7_isSpelt_ok 5 rfl
theorem dX7_isSpelt_10 : decode cX7_isSpelt 10 = .ok (.iconst 0, 1) := dk_get kX7_isSpelt_ok 6 rfl
theorem dX7_isSpelt_11 : decode cX7_isSpelt 11 = .ok (.ireturn, 1) := dk_get kX7_isSpelt_ok 7 rfl
theorem dX7_isSpelt_12 : decode cX7_isSpelt 12 = .ok (.iconst 0, 1) := dk_get kX7_isSpelt_ok 8 rfl
theorem dX7_isSpelt_13 : decode cX7_isSpelt 13 = .ok (.istore 4, 2) := dk_get kX7_isSpelt_ok 9 rfl
theorem dX7_isSpelt_15 : decode cX7_isSpelt 15 = .ok (.iload 4, 2) := dk_get kX7_isSpelt_ok 10 rfl
theorem dX7_isSpelt_17 : decode cX7_isSpelt 17 = .ok (.aload_n 1, 1) := dk_get kX7_isSpelt_ok 11 rfl
theorem dX7_isSpelt_18 : decode cX7_isSpelt 18 = .ok (.invokevirtual 84, 3) := dk_get kX7_isSpelt_ok 12 rfl
theorem dX7_isSpelt_21 : decode cX7_isSpelt 21 = .ok (.if_icmp .ge 29, 3) := dk_get kX7_isSpelt_ok 13 rfl
theorem dX7_isSpelt_24 : decode cX7_isSpelt 24 = .ok (.aload_n 1, 1) := dk_get kX7_isSpelt_ok 14 rfl
theorem dX7_isSpelt_25 : decode cX7_isSpelt 25 = .ok (.iload 4, 2) := dk_get kX7_isSpelt_ok 15 rfl
theorem dX7_isSpelt_27 : decode cX7_isSpelt 27 = .ok (.invokevirtual 90, 3) := dk_get kX7_isSpelt_ok 16 rfl
theorem dX7_isSpelt_30 : decode cX7_isSpelt 30 = .ok (.aload_n 0, 1) := dk_get kX7_isSpelt_ok 17 rfl
theorem dX7_isSpelt_31 : decode cX7_isSpelt 31 = .ok (.getfield 22, 3) := dk_get kX7_isSpelt_ok 18 rfl
theorem dX7_isSpelt_34 : decode cX7_isSpelt 34 = .ok (.iload_n 2, 1) := dk_get kX7_isSpelt_ok 19 rfl
theorem dX7_isSpelt_35 : decode cX7_isSpelt 35 = .ok (.iload 4, 2) := dk_get kX7_isSpelt_ok 20 rfl
theorem dX7_isSpelt_37 : decode cX7_isSpelt 37 = .ok (.iadd, 1) := dk_get kX7_isSpelt_ok 21 rfl
theorem dX7_isSpelt_38 : decode cX7_isSpelt 38 = .ok (.iaload, 1) := dk_get kX7_isSpelt_ok 22 rfl
theorem dX7_isSpelt_39 : decode cX7_isSpelt 39 = .ok (.if_icmp .eq 5, 3) := dk_get kX7_isSpelt_ok 23 rfl
theorem dX7_isSpelt_42 : decode cX7_isSpelt 42 = .ok (.iconst 0, 1) := dk_get kX7_isSpelt_ok 24 rfl
theorem dX7_isSpelt_43 : decode cX7_isSpelt 43 = .ok (.ireturn, 1) := dk_get kX7_isSpelt_ok 25 rfl
theorem dX7_isSpelt_44 : decode cX7_isSpelt 44 = .ok (.iinc 4 1, 3) := dk_get kX7_isSpelt_ok 26 rfl
theorem dX7_isSpelt_47 : decode cX7_isSpelt 47 = .ok (.goto (-32), 3) := dk_get kX7_isSpelt_ok 27 rfl
theorem dX7_isSpelt_50 : decode cX7_isSpelt 50 = .ok (.iconst 1, 1) := dk_get kX7_isSpelt_ok 28 rfl
theorem dX7_isSpelt_51 : decode cX7_isSpelt 51 = .ok (.ireturn, 1) := dk_get kX7_isSpelt_ok 29 rfl
def kX7_spelling : List (Nat × Instr × Nat) := [(0, .iload_n 0, 1), (1, .tableswitch 120 (-15) (-1) #[117, 114, 111, 108, 105, 102, 99, 96, 93, 90, 87, 84, 81, 78, 75], 75), (76, .ldc 94, 2), (78, .areturn, 1), (79, .ldc 96, 2), (81, .areturn, 1), (82, .ldc 98, 2), (84, .areturn, 1), (85, .ldc 100, 2), (87, .areturn, 1), (88, .ldc 102, 2), (90, .areturn, 1), (91, .ldc 104, 2), (93, .areturn, 1), (94, .ldc 106, 2), (96, .areturn, 1), (97, .ldc 108, 2), (99, .areturn, 1), (100, .ldc 110, 2), (102, .areturn, 1), (103, .ldc 112, 2), (105, .areturn, 1), (106, .ldc 114, 2), (108, .areturn, 1), (109, .ldc 116, 2), (111, .areturn, 1), (112, .ldc 118, 2), (114, .areturn, 1), (115, .ldc 120, 2), (117, .areturn, 1), (118, .ldc 122, 2), (120, .areturn, 1), (121, .ldc 124, 2), (123, .areturn, 1)]
set_option maxRecDepth 100000 in
theorem kX7_spelling_ok : kX7_spelling.all (fun q => decide (decode cX7_spelling q.1 = .ok q.2)) = true := by decide +kernel
theorem dX7_spelling_0 : decode cX7_spelling 0 = .ok (.iload_n 0, 1) := dk_get kX7_spelling_ok 0 rfl
theorem dX7_spelling_1 : decode cX7_spelling 1 = .ok (.tableswitch 120 (-15) (-1) #[117, 114, 111, 108, 105, 102, 99, 96, 93, 90, 87, 84, 81, 78, 75], 75) := dk_get kX7_spelling_ok 1 rfl
theorem dX7_spelling_76 : decode cX7_spelling 76 = .ok (.ldc 94, 2) := dk_get kX7_spelling_ok 2 rfl
theorem dX7_spelling_78 : decode cX7_spelling 78 = .ok (.areturn, 1) := dk_get kX7_spelling_ok 3 rfl
theorem dX7_spelling_79 : decode cX7_spelling 79 = .ok (.ldc 96, 2) := dk_get kX7_spelling_ok 4 rfl
theorem dX7_spelling_81 : decode cX7_spelling 81 = .ok (.areturn, 1) := dk_get kX7_spelling_ok 5 rfl
theorem dX7_spelling_82 : decode cX7_spelling 82 = .ok (.ldc 98, 2) := dk_get kX7_spelling_ok 6 rfl
theorem dX7_spelling_84 : decode cX7_spelling 84 = .ok (.areturn, 1) := dk_get kX7_spelling_ok 7 rfl
theorem dX7_spelling_85 : decode cX7_spelling 85 = .ok (.ldc 100, 2) := dk_get kX7_spelling_ok 8 rfl
theorem dX7_spelling_87 : decode cX7_spelling 87 = .ok (.areturn, 1) := dk_get kX7_spelling_ok 9 rfl
theorem dX7_spelling_88 : decode cX7_spelling 88 = .ok (.ldc 102, 2) := dk_get kX7_spelling_ok 10 rfl
theorem dX7_spelling_90 : decode cX7_spelling 90 = .ok (.areturn, 1) := dk_get kX7_spelling_ok 11 rfl
theorem dX7_spelling_91 : decode cX7_spelling 91 = .ok (.ldc 104, 2) := dk_get kX7_spelling_ok 12 rfl
theorem dX7_spelling_93 : decode cX7_spelling 93 = .ok (.areturn, 1) := dk_get kX7_spelling_ok 13 rfl
theorem dX7_spelling_94 : decode cX7_spelling 94 = .ok (.ldc 106, 2) := dk_get kX7_spelling_ok 14 rfl
theorem dX7_spelling_96 : decode cX7_spelling 96 = .ok (.areturn, 1) := dk_get kX7_spelling_ok 15 rfl
theorem dX7_spelling_97 : decode cX7_spelling 97 = .ok (.ldc 108, 2) := dk_get kX7_spelling_ok 16 rfl
theorem dX7_spelling_99 : decode cX7_spelling 99 = .ok (.areturn, 1) := dk_get kX7_spelling_ok 17 rfl
theorem dX7_spelling_100 : decode cX7_spelling 100 = .ok (.ldc 110, 2) := dk_get kX7_spelling_ok 18 rfl
theorem dX7_spelling_102 : decode cX7_spelling 102 = .ok (.areturn, 1) := dk_get kX7_spelling_ok 19 rfl
theorem dX7_spelling_103 : decode cX7_spelling 103 = .ok (.ldc 112, 2) := dk_get kX7_spelling_ok 20 rfl
theorem dX7_spelling_105 : decode cX7_spelling 105 = .ok (.areturn, 1) := dk_get kX7_spelling_ok 21 rfl
theorem dX7_spelling_106 : decode cX7_spelling 106 = .ok (.ldc 114, 2) := dk_get kX7_spelling_ok 22 rfl
theorem dX7_spelling_108 : decode cX7_spelling 108 = .ok (.areturn, 1) := dk_get kX7_spelling_ok 23 rfl
theorem dX7_spelling_109 : decode cX7_spelling 109 = .ok (.ldc 116, 2) := dk_get kX7_spelling_ok 24 rfl
theorem dX7_spelling_111 : decode cX7_spelling 111 = .ok (.areturn, 1) := dk_get kX7_spelling_ok 25 rfl
theorem dX7_spelling_112 : decode cX7_spelling 112 = .ok (.ldc 118, 2) := dk_get kX7_spelling_ok 26 rfl
theorem dX7_spelling_114 : decode cX7_spelling 114 = .ok (.areturn, 1) := dk_get kX7_spelling_ok 27 rfl
theorem dX7_spelling_115 : decode cX7_spelling 115 = .ok (.ldc 120, 2) := dk_get kX7_spelling_ok 28 rfl
theorem dX7_spelling_117 : decode cX7_spelling 117 = .ok (.areturn, 1) := dk_get kX7_spelling_ok 29 rfl
theorem dX7_spelling_118 : decode cX7_spelling 118 = .ok (.ldc 122, 2) := dk_get kX7_spelling_ok 30 rfl
theorem dX7_spelling_120 : decode cX7_spelling 120 = .ok (.areturn, 1) := dk_get kX7_spelling_ok 31 rfl
theorem dX7_spelling_121 : decode cX7_spelling 121 = .ok (.ldc 124, 2) := dk_get kX7_spelling_ok 32 rfl
theorem dX7_spelling_123 : decode cX7_spelling 123 = .ok (.areturn, 1) := dk_get kX7_spelling_ok 33 rfl
def kX7_advance : List (Nat × Instr × Nat) := [(0, .aload_n 0, 1), (1, .getfield 51, 3), (4, .bipush (-18), 2), (6, .if_icmp .eq 26, 3), (9, .aload_n 0, 1), (10, .dup, 1), (11, .getfield 48, 3), (14, .iconst 1, 1), (15, .iadd, 1), (16, .putfield 48, 3), (19, .aload_n 0, 1), (20, .aload_n 0, 1), (21, .getfield 26, 3), (24, .aload_n 0, 1), (25, .getfield 48, 3), (28, .iaload, 1), (29, .putfield 51, 3), (32, .return_, 1)]
set_option maxRecDepth 100000 in
theorem kX7_advance_ok : kX7_advance.all (fun q => decide (decode cX7_advance q.1 = .ok q.2)) = true := by decide +kernel
theorem dX7_advance_0 : decode cX7_advance 0 = .ok (.aload_n 0, 1) := dk_get kX7_advance_ok 0 rfl
theorem dX7_advance_1 : decode cX7_advance 1 = .ok (.getfield 51, 3) := dk_get kX7_advance_ok 1 rfl
theorem dX7_advance_4 : decode cX7_advance 4 = .ok (.bipush (-18), 2) := dk_get kX7_advance_ok 2 rfl
theorem dX7_advance_6 : decode cX7_advance 6 = .ok (.if_icmp .eq 26, 3) := dk_get kX7_advance_ok 3 rfl
theorem dX7_advance_9 : decode cX7_advance 9 = .ok (.aload_n 0, 1) := dk_get kX7_advance_ok 4 rfl
theorem dX7_advance_10 : decode cX7_advance 10 = .ok (.dup, 1) := dk_get kX7_advance_ok 5 rfl
theorem dX7_advance_11 : decode cX7_advance 11 = .ok (.getfield 48, 3) := dk_get kX7_advance_ok 6 rfl
theorem dX7_advance_14 : decode cX7_advance 14 = .ok (.iconst 1, 1) := dk_get kX7_advance_ok 7 rfl
theorem dX7_advance_15 : decode cX7_advance 15 = .ok (.iadd, 1) := dk_get kX7_advance_ok 8 rfl
theorem dX7_advance_16 : decode cX7_advance 16 = .ok (.putfield 48, 3) := dk_get kX7_advance_ok 9 rfl
theorem dX7_advance_19 : decode cX7_advance 19 = .ok (.aload_n 0, 1) := dk_get kX7_advance_ok 10 rfl
theorem dX7_advance_20 : decode cX7_advance 20 = .ok (.aload_n 0, 1) := dk_get kX7_advance_ok 11 rfl
theorem dX7_advance_21 : decode cX7_advance 21 = .ok (.getfield 26, 3) := dk_get kX7_advance_ok 12 rfl
theorem dX7_advance_24 : decode cX7_advance 24 = .ok (.aload_n 0, 1) := dk_get kX7_advance_ok 13 rfl
theorem dX7_advance_25 : decode cX7_advance 25 = .ok (.getfield 48, 3) := dk_get kX7_advance_ok 14 rfl
theorem dX7_advance_28 : decode cX7_advance 28 = .ok (.iaload, 1) := dk_get kX7_advance_ok 15 rfl
theorem dX7_advance_29 : decode cX7_advance 29 = .ok (.putfield 51, 3) := dk_get kX7_advance_ok 16 rfl
theorem dX7_advance_32 : decode cX7_advance 32 = .ok (.return_, 1) := dk_get kX7_advance_ok 17 rfl
def kX7_refuse : List (Nat × Instr × Nat) := [(0, .aload_n 0, 1), (1, .iload_n 1, 1), (2, .putfield 42, 3), (5, .aload_n 0, 1), (6, .aload_n 0, 1), (7, .getfield 29, 3), (10, .aload_n 0, 1), (11, .getfield 48, 3), (14, .iaload, 1), (15, .putfield 9, 3), (18, .iconst 0, 1), (19, .ireturn, 1)]
set_option maxRecDepth 100000 in
theorem kX7_refuse_ok : kX7_refuse.all (fun q => decide (decode cX7_refuse q.1 = .ok q.2)) = true := by decide +kernel
theorem dX7_refuse_0 : decode cX7_refuse 0 = .ok (.aload_n 0, 1) := dk_get kX7_refuse_ok 0 rfl
theorem dX7_refuse_1 : decode cX7_refuse 1 = .ok (.iload_n 1, 1) := dk_get kX7_refuse_ok 1 rfl
theorem dX7_refuse_2 : decode cX7_refuse 2 = .ok (.putfield 42, 3) := dk_get kX7_refuse_ok 2 rfl
theorem dX7_refuse_5 : decode cX7_refuse 5 = .ok (.aload_n 0, 1) := dk_get kX7_refuse_ok 3 rfl
theorem dX7_refuse_6 : decode cX7_refuse 6 = .ok (.aload_n 0, 1) := dk_get kX7_refuse_ok 4 rfl
theorem dX7_refuse_7 : decode cX7_refuse 7 = .ok (.getfield 29, 3) := dk_get kX7_refuse_ok 5 rfl
theorem dX7_refuse_10 : decode cX7_refuse 10 = .ok (.aload_n 0, 1) := dk_get kX7_refuse_ok 6 rfl
theorem dX7_refuse_11 : decode cX7_refuse 11 = .ok (.getfield 48, 3) := dk_get kX7_refuse_ok 7 rfl
theorem dX7_refuse_14 : decode cX7_refuse 14 = .ok (.iaload, 1) := dk_get kX7_refuse_ok 8 rfl
theorem dX7_refuse_15 : decode cX7_refuse 15 = .ok (.putfield 9, 3) := dk_get kX7_refuse_ok 9 rfl
theorem dX7_refuse_18 : decode cX7_refuse 18 = .ok (.iconst 0, 1) := dk_get kX7_refuse_ok 10 rfl
theorem dX7_refuse_19 : decode cX7_refuse 19 = .ok (.ireturn, 1) := dk_get kX7_refuse_ok 11 rfl
def kX7_pass : List (Nat × Instr × Nat) := [(0, .aload_n 0, 1), (1, .getfield 51, 3), (4, .iload_n 1, 1), (5, .if_icmp .eq 9, 3), (8, .aload_n 0, 1), (9, .iconst 1, 1), (10, .invokevirtual 126, 3), (13, .ireturn, 1), (14, .aload_n 0, 1), (15, .invokevirtual 129, 3), (18, .iconst 1, 1), (19, .ireturn, 1)]
set_option maxRecDepth 100000 in
theorem kX7_pass_ok : kX7_pass.all (fun q => decide (decode cX7_pass q.1 = .ok q.2)) = true := by decide +kernel
theorem dX7_pass_0 : decode cX7_pass 0 = .ok (.aload_n 0, 1) := dk_get kX7_pass_ok 0 rfl
theorem dX7_pass_1 : decode cX7_pass 1 = .ok (.getfield 51, 3) := dk_get kX7_pass_ok 1 rfl
theorem dX7_pass_4 : decode cX7_pass 4 = .ok (.iload_n 1, 1) := dk_get kX7_pass_ok 2 rfl
theorem dX7_pass_5 : decode cX7_pass 5 = .ok (.if_icmp .eq 9, 3) := dk_get kX7_pass_ok 3 rfl
theorem dX7_pass_8 : decode cX7_pass 8 = .ok (.aload_n 0, 1) := dk_get kX7_pass_ok 4 rfl
theorem dX7_pass_9 : decode cX7_pass 9 = .ok (.iconst 1, 1) := dk_get kX7_pass_ok 5 rfl
theorem dX7_pass_10 : decode cX7_pass 10 = .ok (.invokevirtual 126, 3) := dk_get kX7_pass_ok 6 rfl
theorem dX7_pass_13 : decode cX7_pass 13 = .ok (.ireturn, 1) := dk_get kX7_pass_ok 7 rfl
theorem dX7_pass_14 : decode cX7_pass 14 = .ok (.aload_n 0, 1) := dk_get kX7_pass_ok 8 rfl
theorem dX7_pass_15 : decode cX7_pass 15 = .ok (.invokevirtual 129, 3) := dk_get kX7_pass_ok 9 rfl
theorem dX7_pass_18 : decode cX7_pass 18 = .ok (.iconst 1, 1) := dk_get kX7_pass_ok 10 rfl
theorem dX7_pass_19 : decode cX7_pass 19 = .ok (.ireturn, 1) := dk_get kX7_pass_ok 11 rfl
def kX7_open : List (Nat × Instr × Nat) := [(0, .aload_n 0, 1), (1, .getfield 51, 3), (4, .iload_n 1, 1), (5, .if_icmp .ne 15, 3), (8, .iload_n 2, 1), (9, .bipush 6, 2), (11, .if_icmp .lt 9, 3), (14, .aload_n 0, 1), (15, .iconst 3, 1), (16, .invokevirtual 126, 3), (19, .ireturn, 1), (20, .aload_n 0, 1), (21, .iload_n 1, 1), (22, .invokevirtual 132, 3), (25, .ireturn, 1)]
set_option maxRecDepth 100000 in
theorem kX7_open_ok : kX7_open.all (fun q => decide (decode cX7_open q.1 = .ok q.2)) = true := by decide +kernel
theorem dX7_open_0 : decode cX7_open 0 = .ok (.aload_n 0, 1) := dk_get kX7_open_ok 0 rfl
theorem dX7_open_1 : decode cX7_open 1 = .ok (.getfield 51, 3) := dk_get kX7_open_ok 1 rfl
theorem dX7_open_4 : decode cX7_open 4 = .ok (.iload_n 1, 1) := dk_get kX7_open_ok 2 rfl
theorem dX7_open_5 : decode cX7_open 5 = .ok (.if_icmp .ne 15, 3) := dk_get kX7_open_ok 3 rfl
theorem dX7_open_8 : decode cX7_open 8 = .ok (.iload_n 2, 1) := dk_get kX7_open_ok 4 rfl
theorem dX7_open_9 : decode cX7_open 9 = .ok (.bipush 6, 2) := dk_get kX7_open_ok 5 rfl
theorem dX7_open_11 : decode cX7_open 11 = .ok (.if_icmp .lt 9, 3) := dk_get kX7_open_ok 6 rfl
theorem dX7_open_14 : decode cX7_open 14 = .ok (.aload_n 0, 1) := dk_get kX7_open_ok 7 rfl
theorem dX7_open_15 : decode cX7_open 15 = .ok (.iconst 3, 1) := dk_get kX7_open_ok 8 rfl
theorem dX7_open_16 : decode cX7_open 16 = .ok (.invokevirtual 126, 3) := dk_get kX7_open_ok 9 rfl
theorem dX7_open_19 : decode cX7_open 19 = .ok (.ireturn, 1) := dk_get kX7_open_ok 10 rfl
theorem dX7_open_20 : decode cX7_open 20 = .ok (.aload_n 0, 1) := dk_get kX7_open_ok 11 rfl
theorem dX7_open_21 : decode cX7_open 21 = .ok (.iload_n 1, 1) := dk_get kX7_open_ok 12 rfl
theorem dX7_open_22 : decode cX7_open 22 = .ok (.invokevirtual 132, 3) := dk_get kX7_open_ok 13 rfl
theorem dX7_open_25 : decode cX7_open 25 = .ok (.ireturn, 1) := dk_get kX7_open_ok 14 rfl
def kX7_emit : List (Nat × Instr × Nat) := [(0, .aload_n 0, 1), (1, .getfield 18, 3), (4, .iload_n 1, 1), (5, .aload_n 0, 1), (6, .getfield 32, 3), (9, .aload_n 0, 1), (10, .getfield 48, 3), (13, .iaload, 1), (14, .invokevirtual 135, 3), (17, .iconst 1, 1), (18, .ireturn, 1)]
set_option maxRecDepth 100000 in
theorem kX7_emit_ok : kX7_emit.all (fun q => decide (decode cX7_emit q.1 = .ok q.2)) = true := by decide +kernel
theorem dX7_emit_0 : decode cX7_emit 0 = .ok (.aload_n 0, 1) := dk_get kX7_emit_ok 0 rfl
theorem dX7_emit_1 : decode cX7_emit 1 = .ok (.getfield 18, 3) := dk_get kX7_emit_ok 1 rfl
theorem dX7_emit_4 : decode cX7_emit 4 = .ok (.iload_n 1, 1) := dk_get kX7_emit_ok 2 rfl
theorem dX7_emit_5 : decode cX7_emit 5 = .ok (.aload_n 0, 1) := dk_get kX7_emit_ok 3 rfl
theorem dX7_emit_6 : decode cX7_emit 6 = .ok (.getfield 32, 3) := dk_get kX7_emit_ok 4 rfl
theorem dX7_emit_9 : decode cX7_emit 9 = .ok (.aload_n 0, 1) := dk_get kX7_emit_ok 5 rfl
theorem dX7_emit_10 : decode cX7_emit 10 = .ok (.getfield 48, 3) := dk_get kX7_emit_ok 6 rfl
theorem dX7_emit_13 : decode cX7_emit 13 = .ok (.iaload, 1) := dk_get kX7_emit_ok 7 rfl
theorem dX7_emit_14 : decode cX7_emit 14 = .ok (.invokevirtual 135, 3) := dk_get kX7_emit_ok 8 rfl
theorem dX7_emit_17 : decode cX7_emit 17 = .ok (.iconst 1, 1) := dk_get kX7_emit_ok 9 rfl
theorem dX7_emit_18 : decode cX7_emit 18 = .ok (.ireturn, 1) := dk_get kX7_emit_ok 10 rfl
def kX7_readClause : List (Nat × Instr × Nat) := [(0, .aload_n 0, 1), (1, .getfield 51, 3), (4, .istore_n 1, 1), (5, .iload_n 1, 1), (6, .bipush (-9), 2), (8, .if_icmp .eq 9, 3), (11, .iload_n 1, 1), (12, .bipush (-10), 2), (14, .if_icmp .ne 7, 3), (17, .iconst 1, 1), (18, .goto 4, 3), (21, .iconst 0, 1), (22, .istore_n 2, 1), (23, .iload_n 2, 1), (24, .ifCond .ne 21, 3), (27, .iload_n 1, 1), (28, .bipush (-11), 2), (30, .if_icmp .eq 15, 3), (33, .iload_n 1, 1), (34, .bipush (-12), 2), (36, .if_icmp .eq 9, 3), (39, .aload_n 0, 1), (40, .iconst 1, 1), (41, .invokevirtual 126, 3), (44, .ireturn, 1), (45, .aload_n 0, 1), (46, .getfield 18, 3), (49, .invokevirtual 139, 3), (52, .ifCond .eq 9, 3), (55, .aload_n 0, 1), (56, .iconst 3, 1), (57, .invokevirtual 126, 3), (60, .ireturn, 1), (61, .aload_n 0, 1), (62, .getfield 18, 3), (65, .iload_n 1, 1), (66, .invokevirtual 142, 3), (69, .aload_n 0, 1), (70, .invokevirtual 129, 3), (73, .iload_n 2, 1), (74, .ifCond .eq 13, 3), (77, .aload_n 0, 1), (78, .iconst 0, 1), (79, .invokevirtual 145, 3), (82, .ifCond .ne 5, 3), (85, .iconst 0, 1), (86, .ireturn, 1), (87, .aload_n 0, 1), (88, .getfield 18, 3), (91, .invokevirtual 148, 3), (94, .iload_n 2, 1), (95, .ifCond .eq 12, 3), (98, .aload_n 0, 1), (99, .getfield 51, 3), (102, .bipush (-13), 2), (104, .if_icmp .ne 22, 3), (107, .aload_n 0, 1), (108, .bipush (-13), 2), (110, .invokevirtual 132, 3), (113, .ifCond .eq 11, 3), (116, .aload_n 0, 1), (117, .iconst 0, 1), (118, .invokevirtual 151, 3), (121, .ifCond .ne 5, 3), (124, .iconst 0, 1), (125, .ireturn, 1), (126, .aload_n 0, 1), (127, .bipush 59, 2), (129, .invokevirtual 132, 3), (132, .ifCond .ne 5, 3), (135, .iconst 0, 1), (136, .ireturn, 1), (137, .aload_n 0, 1), (138, .getfield 18, 3), (141, .invokevirtual 154, 3), (144, .iconst 1, 1), (145, .ireturn, 1)]
set_option maxRecDepth 100000 in
theorem kX7_readClause_ok : kX7_readClause.all (fun q => decide (decode cX7_readClause q.1 = .ok q.2)) = true := by decide +kernel
theorem dX7_readClause_0 : decode cX7_readClause 0 = .ok (.aload_n 0, 1) := dk_get kX7_readClause_ok 0 rfl
theorem dX7_readClause_1 : decode cX7_readClause 1 = .ok (.getfield 51, 3) := dk_get kX7_readClause_ok 1 rfl
theorem dX7_readClause_4 : decode cX7_readClause 4 = .ok (.istore_n 1, 1) := dk_get kX7_readClause_ok 2 rfl
theorem dX7_readClause_5 : decode cX7_readClause 5 = .ok (.iload_n 1, 1) := dk_get kX7_readClause_ok 3 rfl
theorem dX7_readClause_6 : decode cX7_readClause 6 = .ok (.bipush (-9), 2) := dk_get kX7_readClause_ok 4 rfl
theorem dX7_readClause_8 : decode cX7_readClause 8 = .ok (.if_icmp .eq 9, 3) := dk_get kX7_readClause_ok 5 rfl
theorem dX7_readClause_11 : decode cX7_readClause 11 = .ok (.iload_n 1, 1) := dk_get kX7_readClause_ok 6 rfl
theorem dX7_readClause_12 : decode cX7_readClause 12 = .ok (.bipush (-10), 2) := dk_get kX7_readClause_ok 7 rfl
theorem dX7_readClause_14 : decode cX7_readClause 14 = .ok (.if_icmp .ne 7, 3) := dk_get kX7_readClause_ok 8 rfl
theorem dX7_readClause_17 : decode cX7_readClause 17 = .ok (.iconst 1, 1) := dk_get kX7_readClause_ok 9 rfl
theorem dX7_readClause_18 : decode cX7_readClause 18 = .ok (.goto 4, 3) := dk_get kX7_readClause_ok 10 rfl
theorem dX7_readClause_21 : decode cX7_readClause 21 = .ok (.iconst 0, 1) := dk_get kX7_readClause_ok 11 rfl
theorem dX7_readClause_22 : decode cX7_readClause 22 = .ok (.istore_n 2, 1) := dk_get kX7_readClause_ok 12 rfl
theorem dX7_readClause_23 : decode cX7_readClause 23 = .ok (.iload_n 2, 1) := dk_get kX7_readClause_ok 13 rfl
theorem dX7_readClause_24 : decode cX7_readClause 24 = .ok (.ifCond .ne 21, 3) := dk_get kX7_readClause_ok 14 rfl
theorem dX7_readClause_27 : decode cX7_readClause 27 = .ok (.iload_n 1, 1) := dk_get kX7_readClause_ok 15 rfl
theorem dX7_readClause_28 : decode cX7_readClause 28 = .ok (.bipush (-11), 2) := dk_get kX7_readClause_ok 16 rfl
theorem dX7_readClause_30 : decode cX7_readClause 30 = .ok (.if_icmp .eq 15, 3) := dk_get kX7_readClause_ok 17 rfl
theorem dX7_readClause_33 : decode cX7_readClause 33 = .ok (.iload_n 1, 1) := dk_get kX7_readClause_ok 18 rfl
theorem dX7_readClause_34 : decode cX7_readClause 34 = .ok (.bipush (-12), 2) := dk_get kX7_readClause_ok 19 rfl
theorem dX7_readClause_36 : decode cX7_readClause 36 = .ok (.if_icmp .eq 9, 3) := dk_get kX7_readClause_ok 20 rfl
theorem dX7_readClause_39 : decode cX7_readClause 39 = .ok (.aload_n 0, 1) := dk_get kX7_readClause_ok 21 rfl
theorem dX7_readClause_40 : decode cX7_readClause 40 = .ok (.iconst 1, 1) := dk_get kX7_readClause_ok 22 rfl
theorem dX7_readClause_41 : decode cX7_readClause 41 = .ok (.invokevirtual 126, 3) := dk_get kX7_readClause_ok 23 rfl
theorem dX7_readClause_44 : decode cX7_readClause 44 = .ok (.ireturn, 1) := dk_get kX7_readClause_ok 24 rfl
theorem dX7_readClause_45 : decode cX7_readClause 45 = .ok (.aload_n 0, 1) := dk_get kX7_readClause_ok 25 rfl
theorem dX7_readClause_46 : decode cX7_readClause 46 = .ok (.getfield 18, 3) := dk_get kX7_readClause_ok 26 rfl
theorem dX7_readClause_49 : decode cX7_readClause 49 = .ok (.invokevirtual 139, 3) := dk_get kX7_readClause_ok 27 rfl
theorem dX7_readClause_52 : decode cX7_readClause 52 = .ok (.ifCond .eq 9, 3) := dk_get kX7_readClause_ok 28 rfl
theorem dX7_readClause_55 : decode cX7_readClause 55 = .ok (.aload_n 0, 1) := dk_get kX7_readClause_ok 29 rfl
theorem dX7_readClause_56 : decode cX7_readClause 56 = .ok (.iconst 3, 1) := dk_get kX7_readClause_ok 30 rfl
theorem dX7_readClause_57 : decode cX7_readClause 57 = .ok (.invokevirtual 126, 3) := dk_get kX7_readClause_ok 31 rfl
theorem dX7_readClause_60 : decode cX7_readClause 60 = .ok (.ireturn, 1) := dk_get kX7_readClause_ok 32 rfl
theorem dX7_readClause_61 : decode cX7_readClause 61 = .ok (.aload_n 0, 1) := dk_get kX7_readClause_ok 33 rfl
theorem dX7_readClause_62 : decode cX7_readClause 62 = .ok (.getfield 18, 3) := dk_get kX7_readClause_ok 34 rfl
theorem dX7_readClause_65 : decode cX7_readClause 65 = .ok (.iload_n 1, 1) := dk_get kX7_readClause_ok 35 rfl
theorem dX7_readClause_66 : decode cX7_readClause 66 = .ok (.invokevirtual 142, 3) := dk_get kX7_readClause_ok 36 rfl
theorem dX7_readClause_69 : decode cX7_readClause 69 = .ok (.aload_n 0, 1) := dk_get kX7_readClause_ok 37 rfl
theorem dX7_readClause_70 : decode cX7_readClause 70 = .ok (.invokevirtual 129, 3) := dk_get kX7_readClause_ok 38 rfl
theorem dX7_readClause_73 : decode cX7_readClause 73 = .ok (.iload_n 2, 1) := dk_get kX7_readClause_ok 39 rfl
theorem dX7_readClause_74 : decode cX7_readClause 74 = .ok (.ifCond .eq 13, 3) := dk_get kX7_readClause_ok 40 rfl
theorem dX7_readClause_77 : decode cX7_readClause 77 = .ok (.aload_n 0, 1) := dk_get kX7_readClause_ok 41 rfl
theorem dX7_readClause_78 : decode cX7_readClause 78 = .ok (.iconst 0, 1) := dk_get kX7_readClause_ok 42 rfl
theorem dX7_readClause_79 : decode cX7_readClause 79 = .ok (.invokevirtual 145, 3) := dk_get kX7_readClause_ok 43 rfl
theorem dX7_readClause_82 : decode cX7_readClause 82 = .ok (.ifCond .ne 5, 3) := dk_get kX7_readClause_ok 44 rfl
theorem dX7_readClause_85 : decode cX7_readClause 85 = .ok (.iconst 0, 1) := dk_get kX7_readClause_ok 45 rfl
theorem dX7_readClause_86 : decode cX7_readClause 86 = .ok (.ireturn, 1) := dk_get kX7_readClause_ok 46 rfl
theorem dX7_readClause_87 : decode cX7_readClause 87 = .ok (.aload_n 0, 1) := dk_get kX7_readClause_ok 47 rfl
theorem dX7_readClause_88 : decode cX7_readClause 88 = .ok (.getfield 18, 3) := dk_get kX7_readClause_ok 48 rfl
theorem dX7_readClause_91 : decode cX7_readClause 91 = .ok (.invokevirtual 148, 3) := dk_get kX7_readClause_ok 49 rfl
theorem dX7_readClause_94 : decode cX7_readClause 94 = .ok (.iload_n 2, 1) := dk_get kX7_readClause_ok 50 rfl
theorem dX7_readClause_95 : decode cX7_readClause 95 = .ok (.ifCond .eq 12, 3) := dk_get kX7_readClause_ok 51 rfl
theorem dX7_readClause_98 : decode cX7_readClause 98 = .ok (.aload_n 0, 1) := dk_get kX7_readClause_ok 52 rfl
theorem dX7_readClause_99 : decode cX7_readClause 99 = .ok (.getfield 51, 3) := dk_get kX7_readClause_ok 53 rfl
theorem dX7_readClause_102 : decode cX7_readClause 102 = .ok (.bipush (-13), 2) := dk_get kX7_readClause_ok 54 rfl
theorem dX7_readClause_104 : decode cX7_readClause 104 = .ok (.if_icmp .ne 22, 3) := dk_get kX7_readClause_ok 55 rfl
theorem dX7_readClause_107 : decode cX7_readClause 107 = .ok (.aload_n 0, 1) := dk_get kX7_readClause_ok 56 rfl
theorem dX7_readClause_108 : decode cX7_readClause 108 = .ok (.bipush (-13), 2) := dk_get kX7_readClause_ok 57 rfl
theorem dX7_readClause_110 : decode cX7_readClause 110 = .ok (.invokevirtual 132, 3) := dk_get kX7_readClause_ok 58 rfl
theorem dX7_readClause_113 : decode cX7_readClause 113 = .ok (.ifCond .eq 11, 3) := dk_get kX7_readClause_ok 59 rfl
theorem dX7_readClause_116 : decode cX7_readClause 116 = .ok (.aload_n 0, 1) := dk_get kX7_readClause_ok 60 rfl
theorem dX7_readClause_117 : decode cX7_readClause 117 = .ok (.iconst 0, 1) := dk_get kX7_readClause_ok 61 rfl
theorem dX7_readClause_118 : decode cX7_readClause 118 = .ok (.invokevirtual 151, 3) := dk_get kX7_readClause_ok 62 rfl
theorem dX7_readClause_121 : decode cX7_readClause 121 = .ok (.ifCond .ne 5, 3) := dk_get kX7_readClause_ok 63 rfl
theorem dX7_readClause_124 : decode cX7_readClause 124 = .ok (.iconst 0, 1) := dk_get kX7_readClause_ok 64 rfl
theorem dX7_readClause_125 : decode cX7_readClause 125 = .ok (.ireturn, 1) := dk_get kX7_readClause_ok 65 rfl
theorem dX7_readClause_126 : decode cX7_readClause 126 = .ok (.aload_n 0, 1) := dk_get kX7_readClause_ok 66 rfl
theorem dX7_readClause_127 : decode cX7_readClause 127 = .ok (.bipush 59, 2) := dk_get kX7_readClause_ok 67 rfl
theorem dX7_readClause_129 : decode cX7_readClause 129 = .ok (.invokevirtual 132, 3) := dk_get kX7_readClause_ok 68 rfl
theorem dX7_readClause_132 : decode cX7_readClause 132 = .ok (.ifCond .ne 5, 3) := dk_get kX7_readClause_ok 69 rfl
theorem dX7_readClause_135 : decode cX7_readClause 135 = .ok (.iconst 0, 1) := dk_get kX7_readClause_ok 70 rfl
theorem dX7_readClause_136 : decode cX7_readClause 136 = .ok (.ireturn, 1) := dk_get kX7_readClause_ok 71 rfl
theorem dX7_readClause_137 : decode cX7_readClause 137 = .ok (.aload_n 0, 1) := dk_get kX7_readClause_ok 72 rfl
theorem dX7_readClause_138 : decode cX7_readClause 138 = .ok (.getfield 18, 3) := dk_get kX7_readClause_ok 73 rfl
theorem dX7_readClause_141 : decode cX7_readClause 141 = .ok (.invokevirtual 154, 3) := dk_get kX7_readClause_ok 74 rfl
theorem dX7_readClause_144 : decode cX7_readClause 144 = .ok (.iconst 1, 1) := dk_get kX7_readClause_ok 75 rfl
theorem dX7_readClause_145 : decode cX7_readClause 145 = .ok (.ireturn, 1) := dk_get kX7_readClause_ok 76 rfl
def kX7_readSum : List (Nat × Instr × Nat) := [(0, .aload_n 0, 1), (1, .iload_n 1, 1), (2, .invokevirtual 157, 3), (5, .ifCond .ne 5, 3), (8, .iconst 0, 1), (9, .ireturn, 1), (10, .iconst 0, 1), (11, .istore_n 2, 1), (12, .iload_n 2, 1), (13, .sipush 400, 3), (16, .if_icmp .ge 64, 3), (19, .aload_n 0, 1), (20, .getfield 51, 3), (23, .bipush 43, 2), (25, .if_icmp .eq 12, 3), (28, .aload_n 0, 1), (29, .getfield 51, 3), (32, .bipush 45, 2), (34, .if_icmp .ne 46, 3), (37, .aload_n 0, 1), (38, .getfield 51, 3), (41, .bipush 43, 2), (43, .if_icmp .ne 8, 3), (46, .bipush 8, 2), (48, .goto 5, 3), (51, .bipush 9, 2), (53, .istore_n 3, 1), (54, .aload_n 0, 1), (55, .invokevirtual 129, 3), (58, .aload_n 0, 1), (59, .iload_n 1, 1), (60, .invokevirtual 157, 3), (63, .ifCond .ne 5, 3), (66, .iconst 0, 1), (67, .ireturn, 1), (68, .aload_n 0, 1), (69, .iload_n 3, 1), (70, .invokevirtual 160, 3), (73, .pop, 1), (74, .iinc 2 1, 3), (77, .goto (-65), 3), (80, .iconst 1, 1), (81, .ireturn, 1)]
set_option maxRecDepth 100000 in
theorem kX7_readSum_ok : kX7_readSum.all (fun q => decide (decode cX7_readSum q.1 = .ok q.2)) = true := by decide +kernel
theorem dX7_readSum_0 : decode cX7_readSum 0 = .ok (.aload_n 0, 1) := dk_get kX7_readSum_ok 0 rfl
theorem dX7_readSum_1 : decode cX7_readSum 1 = .ok (.iload_n 1, 1) := dk_get kX7_readSum_ok 1 rfl
theorem dX7_readSum_2 : decode cX7_readSum 2 = .ok (.invokevirtual 157, 3) := dk_get kX7_readSum_ok 2 rfl
theorem dX7_readSum_5 : decode cX7_readSum 5 = .ok (.ifCond .ne 5, 3) := dk_get kX7_readSum_ok 3 rfl
theorem dX7_readSum_8 : decode cX7_readSum 8 = .ok (.iconst 0, 1) := dk_get kX7_readSum_ok 4 rfl
theorem dX7_readSum_9 : decode cX7_readSum 9 = .ok (.ireturn, 1) := dk_get kX7_readSum_ok 5 rfl
theorem dX7_readSum_10 : decode cX7_readSum 10 = .ok (.iconst 0, 1) := dk_get kX7_readSum_ok 6 rfl
theorem dX7_readSum_11 : decode cX7_readSum 11 = .ok (.istore_n 2, 1) := dk_get kX7_readSum_ok 7 rfl
theorem dX7_readSum_12 : decode cX7_readSum 12 = .ok (.iload_n 2, 1) := dk_get kX7_readSum_ok 8 rfl
theorem dX7_readSum_13 : decode cX7_readSum 13 = .ok (.sipush 400, 3) := dk_get kX7_readSum_ok 9 rfl
theorem dX7_readSum_16 : decode cX7_readSum 16 = .ok (.if_icmp .ge 64, 3) := dk_get kX7_readSum_ok 10 rfl
theorem dX7_readSum_19 : decode cX7_readSum 19 = .ok (.aload_n 0, 1) := dk_get kX7_readSum_ok 11 rfl
theorem dX7_readSum_20 : decode cX7_readSum 20 = .ok (.getfield 51, 3) := dk_get kX7_readSum_ok 12 rfl
theorem dX7_readSum_23 : decode cX7_readSum 23 = .ok (.bipush 43, 2) := dk_get kX7_readSum_ok 13 rfl
theorem dX7_readSum_25 : decode cX7_readSum 25 = .ok (.if_icmp .eq 12, 3) := dk_get kX7_readSum_ok 14 rfl
theorem dX7_readSum_28 : decode cX7_readSum 28 = .ok (.aload_n 0, 1) := dk_get kX7_readSum_ok 15 rfl
theorem dX7_readSum_29 : decode cX7_readSum 29 = .ok (.getfield 51, 3) := dk_get kX7_readSum_ok 16 rfl
theorem dX7_readSum_32 : decode cX7_readSum 32 = .ok (.bipush 45, 2) := dk_get kX7_readSum_ok 17 rfl
theorem dX7_readSum_34 : decode cX7_readSum 34 = .ok (.if_icmp .ne 46, 3) := dk_get kX7_readSum_ok 18 rfl
theorem dX7_readSum_37 : decode cX7_readSum 37 = .ok (.aload_n 0, 1) := dk_get kX7_readSum_ok 19 rfl
theorem dX7_readSum_38 : decode cX7_readSum 38 = .ok (.getfield 51, 3) := dk_get kX7_readSum_ok 20 rfl
theorem dX7_readSum_41 : decode cX7_readSum 41 = .ok (.bipush 43, 2) := dk_get kX7_readSum_ok 21 rfl
theorem dX7_readSum_43 : decode cX7_readSum 43 = .ok (.if_icmp .ne 8, 3) := dk_get kX7_readSum_ok 22 rfl
theorem dX7_readSum_46 : decode cX7_readSum 46 = .ok (.bipush 8, 2) := dk_get kX7_readSum_ok 23 rfl
theorem dX7_readSum_48 : decode cX7_readSum 48 = .ok (.goto 5, 3) := dk_get kX7_readSum_ok 24 rfl
theorem dX7_readSum_51 : decode cX7_readSum 51 = .ok (.bipush 9, 2) := dk_get kX7_readSum_ok 25 rfl
theorem dX7_readSum_53 : decode cX7_readSum 53 = .ok (.istore_n 3, 1) := dk_get kX7_readSum_ok 26 rfl
theorem dX7_readSum_54 : decode cX7_readSum 54 = .ok (.aload_n 0, 1) := dk_get kX7_readSum_ok 27 rfl
theorem dX7_readSum_55 : decode cX7_readSum 55 = .ok (.invokevirtual 129, 3) := dk_get kX7_readSum_ok 28 rfl
theorem dX7_readSum_58 : decode cX7_readSum 58 = .ok (.aload_n 0, 1) := dk_get kX7_readSum_ok 29 rfl
theorem dX7_readSum_59 : decode cX7_readSum 59 = .ok (.iload_n 1, 1) := dk_get kX7_readSum_ok 30 rfl
theorem dX7_readSum_60 : decode cX7_readSum 60 = .ok (.invokevirtual 157, 3) := dk_get kX7_readSum_ok 31 rfl
theorem dX7_readSum_63 : decode cX7_readSum 63 = .ok (.ifCond .ne 5, 3) := dk_get kX7_readSum_ok 32 rfl
theorem dX7_readSum_66 : decode cX7_readSum 66 = .ok (.iconst 0, 1) := dk_get kX7_readSum_ok 33 rfl
theorem dX7_readSum_67 : decode cX7_readSum 67 = .ok (.ireturn, 1) := dk_get kX7_readSum_ok 34 rfl
theorem dX7_readSum_68 : decode cX7_readSum 68 = .ok (.aload_n 0, 1) := dk_get kX7_readSum_ok 35 rfl
theorem dX7_readSum_69 : decode cX7_readSum 69 = .ok (.iload_n 3, 1) := dk_get kX7_readSum_ok 36 rfl
theorem dX7_readSum_70 : decode cX7_readSum 70 = .ok (.invokevirtual 160, 3) := dk_get kX7_readSum_ok 37 rfl
theorem dX7_readSum_73 : decode cX7_readSum 73 = .ok (.pop, 1) := dk_get kX7_readSum_ok 38 rfl
theorem dX7_readSum_74 : decode cX7_readSum 74 = .ok (.iinc 2 1, 3) := dk_get kX7_readSum_ok 39 rfl
theorem dX7_readSum_77 : decode cX7_readSum 77 = .ok (.goto (-65), 3) := dk_get kX7_readSum_ok 40 rfl
theorem dX7_readSum_80 : decode cX7_readSum 80 = .ok (.iconst 1, 1) := dk_get kX7_readSum_ok 41 rfl
theorem dX7_readSum_81 : decode cX7_readSum 81 = .ok (.ireturn, 1) := dk_get kX7_readSum_ok 42 rfl
def kX7_readProduct : List (Nat × Instr × Nat) := [(0, .aload_n 0, 1), (1, .iload_n 1, 1), (2, .invokevirtual 162, 3), (5, .ifCond .ne 5, 3), (8, .iconst 0, 1), (9, .ireturn, 1), (10, .iconst 0, 1), (11, .istore_n 2, 1), (12, .iload_n 2, 1), (13, .sipush 400, 3), (16, .if_icmp .ge 64, 3), (19, .aload_n 0, 1), (20, .getfield 51, 3), (23, .bipush 42, 2), (25, .if_icmp .eq 12, 3), (28, .aload_n 0, 1), (29, .getfield 51, 3), (32, .bipush 47, 2), (34, .if_icmp .ne 46, 3), (37, .aload_n 0, 1), (38, .getfield 51, 3), (41, .bipush 42, 2), (43, .if_icmp .ne 8, 3), (46, .bipush 10, 2), (48, .goto 5, 3), (51, .bipush 11, 2), (53, .istore_n 3, 1), (54, .aload_n 0, 1), (55, .invokevirtual 129, 3), (58, .aload_n 0, 1), (59, .iload_n 1, 1), (60, .invokevirtual 162, 3), (63, .ifCond .ne 5, 3), (66, .iconst 0, 1), (67, .ireturn, 1), (68, .aload_n 0, 1), (69, .iload_n 3, 1), (70, .invokevirtual 160, 3), (73, .pop, 1), (74, .iinc 2 1, 3), (77, .goto (-65), 3), (80, .iconst 1, 1), (81, .ireturn, 1)]
set_option maxRecDepth 100000 in
theorem kX7_readProduct_ok : kX7_readProduct.all (fun q => decide (decode cX7_readProduct q.1 = .ok q.2)) = true := by decide +kernel
theorem dX7_readProduct_0 : decode cX7_readProduct 0 = .ok (.aload_n 0, 1) := dk_get kX7_readProduct_ok 0 rfl
theorem dX7_readProduct_1 : decode cX7_readProduct 1 = .ok (.iload_n 1, 1) := dk_get kX7_readProduct_ok 1 rfl
theorem dX7_readProduct_2 : decode cX7_readProduct 2 = .ok (.invokevirtual 162, 3) := dk_get kX7_readProduct_ok 2 rfl
theorem dX7_readProduct_5 : decode cX7_readProduct 5 = .ok (.ifCond .ne 5, 3) := dk_get kX7_readProduct_ok 3 rfl
theorem dX7_readProduct_8 : decode cX7_readProduct 8 = .ok (.iconst 0, 1) := dk_get kX7_readProduct_ok 4 rfl
theorem dX7_readProduct_9 : decode cX7_readProduct 9 = .ok (.ireturn, 1) := dk_get kX7_readProduct_ok 5 rfl
theorem dX7_readProduct_10 : decode cX7_readProduct 10 = .ok (.iconst 0, 1) := dk_get kX7_readProduct_ok 6 rfl
theorem dX7_readProduct_11 : decode cX7_readProduct 11 = .ok (.istore_n 2, 1) := dk_get kX7_readProduct_ok 7 rfl
theorem dX7_readProduct_12 : decode cX7_readProduct 12 = .ok (.iload_n 2, 1) := dk_get kX7_readProduct_ok 8 rfl
theorem dX7_readProduct_13 : decode cX7_readProduct 13 = .ok (.sipush 400, 3) := dk_get kX7_readProduct_ok 9 rfl
theorem dX7_readProduct_16 : decode cX7_readProduct 16 = .ok (.if_icmp .ge 64, 3) := dk_get kX7_readProduct_ok 10 rfl
theorem dX7_readProduct_19 : decode cX7_readProduct 19 = .ok (.aload_n 0, 1) := dk_get kX7_readProduct_ok 11 rfl
theorem dX7_readProduct_20 : decode cX7_readProduct 20 = .ok (.getfield 51, 3) := dk_get kX7_readProduct_ok 12 rfl
theorem dX7_readProduct_23 : decode cX7_readProduct 23 = .ok (.bipush 42, 2) := dk_get kX7_readProduct_ok 13 rfl
theorem dX7_readProduct_25 : decode cX7_readProduct 25 = .ok (.if_icmp .eq 12, 3) := dk_get kX7_readProduct_ok 14 rfl
theorem dX7_readProduct_28 : decode cX7_readProduct 28 = .ok (.aload_n 0, 1) := dk_get kX7_readProduct_ok 15 rfl
theorem dX7_readProduct_29 : decode cX7_readProduct 29 = .ok (.getfield 51, 3) := dk_get kX7_readProduct_ok 16 rfl
theorem dX7_readProduct_32 : decode cX7_readProduct 32 = .ok (.bipush 47, 2) := dk_get kX7_readProduct_ok 17 rfl
theorem dX7_readProduct_34 : decode cX7_readProduct 34 = .ok (.if_icmp .ne 46, 3) := dk_get kX7_readProduct_ok 18 rfl
theorem dX7_readProduct_37 : decode cX7_readProduct 37 = .ok (.aload_n 0, 1) := dk_get kX7_readProduct_ok 19 rfl
theorem dX7_readProduct_38 : decode cX7_readProduct 38 = .ok (.getfield 51, 3) := dk_get kX7_readProduct_ok 20 rfl
theorem dX7_readProduct_41 : decode cX7_readProduct 41 = .ok (.bipush 42, 2) := dk_get kX7_readProduct_ok 21 rfl
theorem dX7_readProduct_43 : decode cX7_readProduct 43 = .ok (.if_icmp .ne 8, 3) := dk_get kX7_readProduct_ok 22 rfl
theorem dX7_readProduct_46 : decode cX7_readProduct 46 = .ok (.bipush 10, 2) := dk_get kX7_readProduct_ok 23 rfl
theorem dX7_readProduct_48 : decode cX7_readProduct 48 = .ok (.goto 5, 3) := dk_get kX7_readProduct_ok 24 rfl
theorem dX7_readProduct_51 : decode cX7_readProduct 51 = .ok (.bipush 11, 2) := dk_get kX7_readProduct_ok 25 rfl
theorem dX7_readProduct_53 : decode cX7_readProduct 53 = .ok (.istore_n 3, 1) := dk_get kX7_readProduct_ok 26 rfl
theorem dX7_readProduct_54 : decode cX7_readProduct 54 = .ok (.aload_n 0, 1) := dk_get kX7_readProduct_ok 27 rfl
theorem dX7_readProduct_55 : decode cX7_readProduct 55 = .ok (.invokevirtual 129, 3) := dk_get kX7_readProduct_ok 28 rfl
theorem dX7_readProduct_58 : decode cX7_readProduct 58 = .ok (.aload_n 0, 1) := dk_get kX7_readProduct_ok 29 rfl
theorem dX7_readProduct_59 : decode cX7_readProduct 59 = .ok (.iload_n 1, 1) := dk_get kX7_readProduct_ok 30 rfl
theorem dX7_readProduct_60 : decode cX7_readProduct 60 = .ok (.invokevirtual 162, 3) := dk_get kX7_readProduct_ok 31 rfl
theorem dX7_readProduct_63 : decode cX7_readProduct 63 = .ok (.ifCond .ne 5, 3) := dk_get kX7_readProduct_ok 32 rfl
theorem dX7_readProduct_66 : decode cX7_readProduct 66 = .ok (.iconst 0, 1) := dk_get kX7_readProduct_ok 33 rfl
theorem dX7_readProduct_67 : decode cX7_readProduct 67 = .ok (.ireturn, 1) := dk_get kX7_readProduct_ok 34 rfl
theorem dX7_readProduct_68 : decode cX7_readProduct 68 = .ok (.aload_n 0, 1) := dk_get kX7_readProduct_ok 35 rfl
theorem dX7_readProduct_69 : decode cX7_readProduct 69 = .ok (.iload_n 3, 1) := dk_get kX7_readProduct_ok 36 rfl
theorem dX7_readProduct_70 : decode cX7_readProduct 70 = .ok (.invokevirtual 160, 3) := dk_get kX7_readProduct_ok 37 rfl
theorem dX7_readProduct_73 : decode cX7_readProduct 73 = .ok (.pop, 1) := dk_get kX7_readProduct_ok 38 rfl
theorem dX7_readProduct_74 : decode cX7_readProduct 74 = .ok (.iinc 2 1, 3) := dk_get kX7_readProduct_ok 39 rfl
theorem dX7_readProduct_77 : decode cX7_readProduct 77 = .ok (.goto (-65), 3) := dk_get kX7_readProduct_ok 40 rfl
theorem dX7_readProduct_80 : decode cX7_readProduct 80 = .ok (.iconst 1, 1) := dk_get kX7_readProduct_ok 41 rfl
theorem dX7_readProduct_81 : decode cX7_readProduct 81 = .ok (.ireturn, 1) := dk_get kX7_readProduct_ok 42 rfl
def kX7_readUnit : List (Nat × Instr × Nat) := [(0, .aload_n 0, 1), (1, .getfield 51, 3), (4, .bipush (-17), 2), (6, .if_icmp .ne 37, 3), (9, .aload_n 0, 1), (10, .getfield 32, 3), (13, .aload_n 0, 1), (14, .getfield 48, 3), (17, .iaload, 1), (18, .sipush 9999, 3), (21, .if_icmp .le 9, 3), (24, .aload_n 0, 1), (25, .iconst 2, 1), (26, .invokevirtual 126, 3), (29, .ireturn, 1), (30, .aload_n 0, 1), (31, .bipush 6, 2), (33, .invokevirtual 160, 3), (36, .pop, 1), (37, .aload_n 0, 1), (38, .invokevirtual 129, 3), (41, .iconst 1, 1), (42, .ireturn, 1), (43, .aload_n 0, 1), (44, .getfield 51, 3), (47, .iconst (-1), 1), (48, .if_icmp .gt 29, 3), (51, .aload_n 0, 1), (52, .getfield 51, 3), (55, .bipush (-6), 2), (57, .if_icmp .lt 20, 3), (60, .aload_n 0, 1), (61, .iconst (-1), 1), (62, .aload_n 0, 1), (63, .getfield 51, 3), (66, .isub, 1), (67, .invokevirtual 160, 3), (70, .pop, 1), (71, .aload_n 0, 1), (72, .invokevirtual 129, 3), (75, .iconst 1, 1), (76, .ireturn, 1), (77, .aload_n 0, 1), (78, .getfield 51, 3), (81, .bipush (-7), 2), (83, .if_icmp .eq 12, 3), (86, .aload_n 0, 1), (87, .getfield 51, 3), (90, .bipush (-8), 2), (92, .if_icmp .ne 86, 3), (95, .aload_n 0, 1), (96, .getfield 51, 3), (99, .bipush (-7), 2), (101, .if_icmp .ne 8, 3), (104, .bipush 12, 2), (106, .goto 5, 3), (109, .bipush 13, 2), (111, .istore_n 2, 1), (112, .aload_n 0, 1), (113, .invokevirtual 129, 3), (116, .aload_n 0, 1), (117, .bipush 40, 2), (119, .iload_n 1, 1), (120, .invokevirtual 165, 3), (123, .ifCond .eq 53, 3), (126, .aload_n 0, 1), (127, .iload_n 1, 1), (128, .iconst 1, 1), (129, .iadd, 1), (130, .invokevirtual 145, 3), (133, .ifCond .eq 43, 3), (136, .aload_n 0, 1), (137, .bipush 44, 2), (139, .invokevirtual 132, 3), (142, .ifCond .eq 34, 3), (145, .aload_n 0, 1), (146, .iload_n 1, 1), (147, .iconst 1, 1), (148, .iadd, 1), (149, .invokevirtual 145, 3), (152, .ifCond .eq 24, 3), (155, .aload_n 0, 1), (156, .bipush 41, 2), (158, .invokevirtual 132, 3), (161, .ifCond .eq 15, 3), (164, .aload_n 0, 1), (165, .iload_n 2, 1), (166, .invokevirtual 160, 3), (169, .ifCond .eq 7, 3), (172, .iconst 1, 1), (173, .goto 4, 3), (176, .iconst 0, 1), (177, .ireturn, 1), (178, .aload_n 0, 1), (179, .bipush 40, 2), (181, .iload_n 1, 1), (182, .invokevirtual 165, 3), (185, .ifCond .eq 26, 3), (188, .aload_n 0, 1), (189, .iload_n 1, 1), (190, .iconst 1, 1), (191, .iadd, 1), (192, .invokevirtual 145, 3), (195, .ifCond .eq 16, 3), (198, .aload_n 0, 1), (199, .bipush 41, 2), (201, .invokevirtual 132, 3), (204, .ifCond .eq 7, 3), (207, .iconst 1, 1), (208, .goto 4, 3), (211, .iconst 0, 1), (212, .ireturn, 1)]
set_option maxRecDepth 100000 in
theorem kX7_readUnit_ok : kX7_readUnit.all (fun q => decide (decode cX7_readUnit q.1 = .ok q.2)) = true := by decide +kernel
theorem dX7_readUnit_0 : decode cX7_readUnit 0 = .ok (.aload_n 0, 1) := dk_get kX7_readUnit_ok 0 rfl
theorem dX7_readUnit_1 : decode cX7_readUnit 1 = .ok (.getfield 51, 3) := dk_get kX7_readUnit_ok 1 rfl
theorem dX7_readUnit_4 : decode cX7_readUnit 4 = .ok (.bipush (-17), 2) := dk_get kX7_readUnit_ok 2 rfl
theorem dX7_readUnit_6 : decode cX7_readUnit 6 = .ok (.if_icmp .ne 37, 3) := dk_get kX7_readUnit_ok 3 rfl
theorem dX7_readUnit_9 : decode cX7_readUnit 9 = .ok (.aload_n 0, 1) := dk_get kX7_readUnit_ok 4 rfl
theorem dX7_readUnit_10 : decode cX7_readUnit 10 = .ok (.getfield 32, 3) := dk_get kX7_readUnit_ok 5 rfl
theorem dX7_readUnit_13 : decode cX7_readUnit 13 = .ok (.aload_n 0, 1) := dk_get kX7_readUnit_ok 6 rfl
theorem dX7_readUnit_14 : decode cX7_readUnit 14 = .ok (.getfield 48, 3) := dk_get kX7_readUnit_ok 7 rfl
theorem dX7_readUnit_17 : decode cX7_readUnit 17 = .ok (.iaload, 1) := dk_get kX7_readUnit_ok 8 rfl
theorem dX7_readUnit_18 : decode cX7_readUnit 18 = .ok (.sipush 9999, 3) := dk_get kX7_readUnit_ok 9 rfl
theorem dX7_readUnit_21 : decode cX7_readUnit 21 = .ok (.if_icmp .le 9, 3) := dk_get kX7_readUnit_ok 10 rfl
theorem dX7_readUnit_24 : decode cX7_readUnit 24 = .ok (.aload_n 0, 1) := dk_get kX7_readUnit_ok 11 rfl
theorem dX7_readUnit_25 : decode cX7_readUnit 25 = .ok (.iconst 2, 1) := dk_get kX7_readUnit_ok 12 rfl
theorem dX7_readUnit_26 : decode cX7_readUnit 26 = .ok (.invokevirtual 126, 3) := dk_get kX7_readUnit_ok 13 rfl
theorem dX7_readUnit_29 : decode cX7_readUnit 29 = .ok (.ireturn, 1) := dk_get kX7_readUnit_ok 14 rfl
theorem dX7_readUnit_30 : decode cX7_readUnit 30 = .ok (.aload_n 0, 1) := dk_get kX7_readUnit_ok 15 rfl
theorem dX7_readUnit_31 : decode cX7_readUnit 31 = .ok (.bipush 6, 2) := dk_get kX7_readUnit_ok 16 rfl
theorem dX7_readUnit_33 : decode cX7_readUnit 33 = .ok (.invokevirtual 160, 3) := dk_get kX7_readUnit_ok 17 rfl
theorem dX7_readUnit_36 : decode cX7_readUnit 36 = .ok (.pop, 1) := dk_get kX7_readUnit_ok 18 rfl
theorem dX7_readUnit_37 : decode cX7_readUnit 37 = .ok (.aload_n 0, 1) := dk_get kX7_readUnit_ok 19 rfl
theorem dX7_readUnit_38 : decode cX7_readUnit 38 = .ok (.invokevirtual 129, 3) := dk_get kX7_readUnit_ok 20 rfl
theorem dX7_readUnit_41 : decode cX7_readUnit 41 = .ok (.iconst 1, 1) := dk_get kX7_readUnit_ok 21 rfl
theorem dX7_readUnit_42 : decode cX7_readUnit 42 = .ok (.ireturn, 1) := dk_get kX7_readUnit_ok 22 rfl
theorem dX7_readUnit_43 : decode cX7_readUnit 43 = .ok (.aload_n 0, 1) := dk_get kX7_readUnit_ok 23 rfl
theorem dX7_readUnit_44 : decode cX7_readUnit 44 = .ok (.getfield 51, 3) := dk_get kX7_readUnit_ok 24 rfl
theorem dX7_readUnit_47 : decode cX7_readUnit 47 = .ok (.iconst (-1), 1) := dk_get kX7_readUnit_ok 25 rfl
theorem dX7_readUnit_48 : decode cX7_readUnit 48 = .ok (.if_icmp .gt 29, 3) := dk_get kX7_readUnit_ok 26 rfl
theorem dX7_readUnit_51 : decode cX7_readUnit 51 = .ok (.aload_n 0, 1) := dk_get kX7_readUnit_ok 27 rfl
theorem dX7_readUnit_52 : decode cX7_readUnit 52 = .ok (.getfield 51, 3) := dk_get kX7_readUnit_ok 28 rfl
theorem dX7_readUnit_55 : decode cX7_readUnit 55 = .ok (.bipush (-6), 2) := dk_get kX7_readUnit_ok 29 rfl
theorem dX7_readUnit_57 : decode cX7_readUnit 57 = .ok (.if_icmp .lt 20, 3) := dk_get kX7_readUnit_ok 30 rfl
theorem dX7_readUnit_60 : decode cX7_readUnit 60 = .ok (.aload_n 0, 1) := dk_get kX7_readUnit_ok 31 rfl
theorem dX7_readUnit_61 : decode cX7_readUnit 61 = .ok (.iconst (-1), 1) := dk_get kX7_readUnit_ok 32 rfl
theorem dX7_readUnit_62 : decode cX7_readUnit 62 = .ok (.aload_n 0, 1) := dk_get kX7_readUnit_ok 33 rfl
theorem dX7_readUnit_63 : decode cX7_readUnit 63 = .ok (.getfield 51, 3) := dk_get kX7_readUnit_ok 34 rfl
theorem dX7_readUnit_66 : decode cX7_readUnit 66 = .ok (.isub, 1) := dk_get kX7_readUnit_ok 35 rfl
theorem dX7_readUnit_67 : decode cX7_readUnit 67 = .ok (.invokevirtual 160, 3) := dk_get kX7_readUnit_ok 36 rfl
theorem dX7_readUnit_70 : decode cX7_readUnit 70 = .ok (.pop, 1) := dk_get kX7_readUnit_ok 37 rfl
theorem dX7_readUnit_71 : decode cX7_readUnit 71 = .ok (.aload_n 0, 1) := dk_get kX7_readUnit_ok 38 rfl
theorem dX7_readUnit_72 : decode cX7_readUnit 72 = .ok (.invokevirtual 129, 3) := dk_get kX7_readUnit_ok 39 rfl
theorem dX7_readUnit_75 : decode cX7_readUnit 75 = .ok (.iconst 1, 1) := dk_get kX7_readUnit_ok 40 rfl
theorem dX7_readUnit_76 : decode cX7_readUnit 76 = .ok (.ireturn, 1) := dk_get kX7_readUnit_ok 41 rfl
theorem dX7_readUnit_77 : decode cX7_readUnit 77 = .ok (.aload_n 0, 1) := dk_get kX7_readUnit_ok 42 rfl
theorem dX7_readUnit_78 : decode cX7_readUnit 78 = .ok (.getfield 51, 3) := dk_get kX7_readUnit_ok 43 rfl
theorem dX7_readUnit_81 : decode cX7_readUnit 81 = .ok (.bipush (-7), 2) := dk_get kX7_readUnit_ok 44 rfl
theorem dX7_readUnit_83 : decode cX7_readUnit 83 = .ok (.if_icmp .eq 12, 3) := dk_get kX7_readUnit_ok 45 rfl
theorem dX7_readUnit_86 : decode cX7_readUnit 86 = .ok (.aload_n 0, 1) := dk_get kX7_readUnit_ok 46 rfl
theorem dX7_readUnit_87 : decode cX7_readUnit 87 = .ok (.getfield 51, 3) := dk_get kX7_readUnit_ok 47 rfl
theorem dX7_readUnit_90 : decode cX7_readUnit 90 = .ok (.bipush (-8), 2) := dk_get kX7_readUnit_ok 48 rfl
theorem dX7_readUnit_92 : decode cX7_readUnit 92 = .ok (.if_icmp .ne 86, 3) := dk_get kX7_readUnit_ok 49 rfl
theorem dX7_readUnit_95 : decode cX7_readUnit 95 = .ok (.aload_n 0, 1) := dk_get kX7_readUnit_ok 50 rfl
theorem dX7_readUnit_96 : decode cX7_readUnit 96 = .ok (.getfield 51, 3) := dk_get kX7_readUnit_ok 51 rfl
theorem dX7_readUnit_99 : decode cX7_readUnit 99 = .ok (.bipush (-7), 2) := dk_get kX7_readUnit_ok 52 rfl
theorem dX7_readUnit_101 : decode cX7_readUnit 101 = .ok (.if_icmp .ne 8, 3) := dk_get kX7_readUnit_ok 53 rfl
theorem dX7_readUnit_104 : decode cX7_readUnit 104 = .ok (.bipush 12, 2) := dk_get kX7_readUnit_ok 54 rfl
theorem dX7_readUnit_106 : decode cX7_readUnit 106 = .ok (.goto 5, 3) := dk_get kX7_readUnit_ok 55 rfl
theorem dX7_readUnit_109 : decode cX7_readUnit 109 = .ok (.bipush 13, 2) := dk_get kX7_readUnit_ok 56 rfl
theorem dX7_readUnit_111 : decode cX7_readUnit 111 = .ok (.istore_n 2, 1) := dk_get kX7_readUnit_ok 57 rfl
theorem dX7_readUnit_112 : decode cX7_readUnit 112 = .ok (.aload_n 0, 1) := dk_get kX7_readUnit_ok 58 rfl
theorem dX7_readUnit_113 : decode cX7_readUnit 113 = .ok (.invokevirtual 129, 3) := dk_get kX7_readUnit_ok 59 rfl
theorem dX7_readUnit_116 : decode cX7_readUnit 116 = .ok (.aload_n 0, 1) := dk_get kX7_readUnit_ok 60 rfl
theorem dX7_readUnit_117 : decode cX7_readUnit 117 = .ok (.bipush 40, 2) := dk_get kX7_readUnit_ok 61 rfl
theorem dX7_readUnit_119 : decode cX7_readUnit 119 = .ok (.iload_n 1, 1) := dk_get kX7_readUnit_ok 62 rfl
theorem dX7_readUnit_120 : decode cX7_readUnit 120 = .ok (.invokevirtual 165, 3) := dk_get kX7_readUnit_ok 63 rfl
theorem dX7_readUnit_123 : decode cX7_readUnit 123 = .ok (.ifCond .eq 53, 3) := dk_get kX7_readUnit_ok 64 rfl
theorem dX7_readUnit_126 : decode cX7_readUnit 126 = .ok (.aload_n 0, 1) := dk_get kX7_readUnit_ok 65 rfl
theorem dX7_readUnit_127 : decode cX7_readUnit 127 = .ok (.iload_n 1, 1) := dk_get kX7_readUnit_ok 66 rfl
theorem dX7_readUnit_128 : decode cX7_readUnit 128 = .ok (.iconst 1, 1) := dk_get kX7_readUnit_ok 67 rfl
theorem dX7_readUnit_129 : decode cX7_readUnit 129 = .ok (.iadd, 1) := dk_get kX7_readUnit_ok 68 rfl
theorem dX7_readUnit_130 : decode cX7_readUnit 130 = .ok (.invokevirtual 145, 3) := dk_get kX7_readUnit_ok 69 rfl
theorem dX7_readUnit_133 : decode cX7_readUnit 133 = .ok (.ifCond .eq 43, 3) := dk_get kX7_readUnit_ok 70 rfl
theorem dX7_readUnit_136 : decode cX7_readUnit 136 = .ok (.aload_n 0, 1) := dk_get kX7_readUnit_ok 71 rfl
theorem dX7_readUnit_137 : decode cX7_readUnit 137 = .ok (.bipush 44, 2) := dk_get kX7_readUnit_ok 72 rfl
theorem dX7_readUnit_139 : decode cX7_readUnit 139 = .ok (.invokevirtual 132, 3) := dk_get kX7_readUnit_ok 73 rfl
theorem dX7_readUnit_142 : decode cX7_readUnit 142 = .ok (.ifCond .eq 34, 3) := dk_get kX7_readUnit_ok 74 rfl
theorem dX7_readUnit_145 : decode cX7_readUnit 145 = .ok (.aload_n 0, 1) := dk_get kX7_readUnit_ok 75 rfl
theorem dX7_readUnit_146 : decode cX7_readUnit 146 = .ok (.iload_n 1, 1) := dk_get kX7_readUnit_ok 76 rfl
theorem dX7_readUnit_147 : decode cX7_readUnit 147 = .ok (.iconst 1, 1) := dk_get kX7_readUnit_ok 77 rfl
theorem dX7_readUnit_148 : decode cX7_readUnit 148 = .ok (.iadd, 1) := dk_get kX7_readUnit_ok 78 rfl
theorem dX7_readUnit_149 : decode cX7_readUnit 149 = .ok (.invokevirtual 145, 3) := dk_get kX7_readUnit_ok 79 rfl
theorem dX7_readUnit_152 : decode cX7_readUnit 152 = .ok (.ifCond .eq 24, 3) := dk_get kX7_readUnit_ok 80 rfl
theorem dX7_readUnit_155 : decode cX7_readUnit 155 = .ok (.aload_n 0, 1) := dk_get kX7_readUnit_ok 81 rfl
theorem dX7_readUnit_156 : decode cX7_readUnit 156 = .ok (.bipush 41, 2) := dk_get kX7_readUnit_ok 82 rfl
theorem dX7_readUnit_158 : decode cX7_readUnit 158 = .ok (.invokevirtual 132, 3) := dk_get kX7_readUnit_ok 83 rfl
theorem dX7_readUnit_161 : decode cX7_readUnit 161 = .ok (.ifCond .eq 15, 3) := dk_get kX7_readUnit_ok 84 rfl
theorem dX7_readUnit_164 : decode cX7_readUnit 164 = .ok (.aload_n 0, 1) := dk_get kX7_readUnit_ok 85 rfl
theorem dX7_readUnit_165 : decode cX7_readUnit 165 = .ok (.iload_n 2, 1) := dk_get kX7_readUnit_ok 86 rfl
theorem dX7_readUnit_166 : decode cX7_readUnit 166 = .ok (.invokevirtual 160, 3) := dk_get kX7_readUnit_ok 87 rfl
theorem dX7_readUnit_169 : decode cX7_readUnit 169 = .ok (.ifCond .eq 7, 3) := dk_get kX7_readUnit_ok 88 rfl
theorem dX7_readUnit_172 : decode cX7_readUnit 172 = .ok (.iconst 1, 1) := dk_get kX7_readUnit_ok 89 rfl
theorem dX7_readUnit_173 : decode cX7_readUnit 173 = .ok (.goto 4, 3) := dk_get kX7_readUnit_ok 90 rfl
theorem dX7_readUnit_176 : decode cX7_readUnit 176 = .ok (.iconst 0, 1) := dk_get kX7_readUnit_ok 91 rfl
theorem dX7_readUnit_177 : decode cX7_readUnit 177 = .ok (.ireturn, 1) := dk_get kX7_readUnit_ok 92 rfl
theorem dX7_readUnit_178 : decode cX7_readUnit 178 = .ok (.aload_n 0, 1) := dk_get kX7_readUnit_ok 93 rfl
theorem dX7_readUnit_179 : decode cX7_readUnit 179 = .ok (.bipush 40, 2) := dk_get kX7_readUnit_ok 94 rfl
theorem dX7_readUnit_181 : decode cX7_readUnit 181 = .ok (.iload_n 1, 1) := dk_get kX7_readUnit_ok 95 rfl
theorem dX7_readUnit_182 : decode cX7_readUnit 182 = .ok (.invokevirtual 165, 3) := dk_get kX7_readUnit_ok 96 rfl
theorem dX7_readUnit_185 : decode cX7_readUnit 185 = .ok (.ifCond .eq 26, 3) := dk_get kX7_readUnit_ok 97 rfl
theorem dX7_readUnit_188 : decode cX7_readUnit 188 = .ok (.aload_n 0, 1) := dk_get kX7_readUnit_ok 98 rfl
theorem dX7_readUnit_189 : decode cX7_readUnit 189 = .ok (.iload_n 1, 1) := dk_get kX7_readUnit_ok 99 rfl
theorem dX7_readUnit_190 : decode cX7_readUnit 190 = .ok (.iconst 1, 1) := dk_get kX7_readUnit_ok 100 rfl
theorem dX7_readUnit_191 : decode cX7_readUnit 191 = .ok (.iadd, 1) := dk_get kX7_readUnit_ok 101 rfl
theorem dX7_readUnit_192 : decode cX7_readUnit 192 = .ok (.invokevirtual 145, 3) := dk_get kX7_readUnit_ok 102 rfl
theorem dX7_readUnit_195 : decode cX7_readUnit 195 = .ok (.ifCond .eq 16, 3) := dk_get kX7_readUnit_ok 103 rfl
theorem dX7_readUnit_198 : decode cX7_readUnit 198 = .ok (.aload_n 0, 1) := dk_get kX7_readUnit_ok 104 rfl
theorem dX7_readUnit_199 : decode cX7_readUnit 199 = .ok (.bipush 41, 2) := dk_get kX7_readUnit_ok 105 rfl
theorem dX7_readUnit_201 : decode cX7_readUnit 201 = .ok (.invokevirtual 132, 3) := dk_get kX7_readUnit_ok 106 rfl
theorem dX7_readUnit_204 : decode cX7_readUnit 204 = .ok (.ifCond .eq 7, 3) := dk_get kX7_readUnit_ok 107 rfl
theorem dX7_readUnit_207 : decode cX7_readUnit 207 = .ok (.iconst 1, 1) := dk_get kX7_readUnit_ok 108 rfl
theorem dX7_readUnit_208 : decode cX7_readUnit 208 = .ok (.goto 4, 3) := dk_get kX7_readUnit_ok 109 rfl
theorem dX7_readUnit_211 : decode cX7_readUnit 211 = .ok (.iconst 0, 1) := dk_get kX7_readUnit_ok 110 rfl
theorem dX7_readUnit_212 : decode cX7_readUnit 212 = .ok (.ireturn, 1) := dk_get kX7_readUnit_ok 111 rfl
def kX7_readAny : List (Nat × Instr × Nat) := [(0, .aload_n 0, 1), (1, .iload_n 1, 1), (2, .invokevirtual 167, 3), (5, .ifCond .ne 5, 3), (8, .iconst 0, 1), (9, .ireturn, 1), (10, .iconst 0, 1), (11, .istore_n 2, 1), (12, .iload_n 2, 1), (13, .sipush 400, 3), (16, .if_icmp .ge 39, 3), (19, .aload_n 0, 1), (20, .getfield 51, 3), (23, .bipush (-14), 2), (25, .if_icmp .ne 30, 3), (28, .aload_n 0, 1), (29, .invokevirtual 129, 3), (32, .aload_n 0, 1), (33, .iload_n 1, 1), (34, .invokevirtual 167, 3), (37, .ifCond .ne 5, 3), (40, .iconst 0, 1), (41, .ireturn, 1), (42, .aload_n 0, 1), (43, .bipush 17, 2), (45, .invokevirtual 160, 3), (48, .pop, 1), (49, .iinc 2 1, 3), (52, .goto (-40), 3), (55, .iconst 1, 1), (56, .ireturn, 1)]
set_option maxRecDepth 100000 in
theorem kX7_readAny_ok : kX7_readAny.all (fun q => decide (decode cX7_readAny q.1 = .ok q.2)) = true := by decide +kernel
theorem dX7_readAny_0 : decode cX7_readAny 0 = .ok (.aload_n 0, 1) := dk_get kX7_readAny_ok 0 rfl
theorem dX7_readAny_1 : decode cX7_readAny 1 = .ok (.iload_n 1, 1) := dk_get kX7_readAny_ok 1 rfl
theorem dX7_readAny_2 : decode cX7_readAny 2 = .ok (.invokevirtual 167, 3) := dk_get kX7_readAny_ok 2 rfl
theorem dX7_readAny_5 : decode cX7_readAny 5 = .ok (.ifCond .ne 5, 3) := dk_get kX7_readAny_ok 3 rfl
theorem dX7_readAny_8 : decode cX7_readAny 8 = .ok (.iconst 0, 1) := dk_get kX7_readAny_ok 4 rfl
theorem dX7_readAny_9 : decode cX7_readAny 9 = .ok (.ireturn, 1) := dk_get kX7_readAny_ok 5 rfl
theorem dX7_readAny_10 : decode cX7_readAny 10 = .ok (.iconst 0, 1) := dk_get kX7_readAny_ok 6 rfl
theorem dX7_readAny_11 : decode cX7_readAny 11 = .ok (.istore_n 2, 1) := dk_get kX7_readAny_ok 7 rfl
theorem dX7_readAny_12 : decode cX7_readAny 12 = .ok (.iload_n 2, 1) := dk_get kX7_readAny_ok 8 rfl
theorem dX7_readAny_13 : decode cX7_readAny 13 = .ok (.sipush 400, 3) := dk_get kX7_readAny_ok 9 rfl
theorem dX7_readAny_16 : decode cX7_readAny 16 = .ok (.if_icmp .ge 39, 3) := dk_get kX7_readAny_ok 10 rfl
theorem dX7_readAny_19 : decode cX7_readAny 19 = .ok (.aload_n 0, 1) := dk_get kX7_readAny_ok 11 rfl
theorem dX7_readAny_20 : decode cX7_readAny 20 = .ok (.getfield 51, 3) := dk_get kX7_readAny_ok 12 rfl
theorem dX7_readAny_23 : decode cX7_readAny 23 = .ok (.bipush (-14), 2) := dk_get kX7_readAny_ok 13 rfl
theorem dX7_readAny_25 : decode cX7_readAny 25 = .ok (.if_icmp .ne 30, 3) := dk_get kX7_readAny_ok 14 rfl
theorem dX7_readAny_28 : decode cX7_readAny 28 = .ok (.aload_n 0, 1) := dk_get kX7_readAny_ok 15 rfl
theorem dX7_readAny_29 : decode cX7_readAny 29 = .ok (.invokevirtual 129, 3) := dk_get kX7_readAny_ok 16 rfl
theorem dX7_readAny_32 : decode cX7_readAny 32 = .ok (.aload_n 0, 1) := dk_get kX7_readAny_ok 17 rfl
theorem dX7_readAny_33 : decode cX7_readAny 33 = .ok (.iload_n 1, 1) := dk_get kX7_readAny_ok 18 rfl
theorem dX7_readAny_34 : decode cX7_readAny 34 = .ok (.invokevirtual 167, 3) := dk_get kX7_readAny_ok 19 rfl
theorem dX7_readAny_37 : decode cX7_readAny 37 = .ok (.ifCond .ne 5, 3) := dk_get kX7_readAny_ok 20 rfl
theorem dX7_readAny_40 : decode cX7_readAny 40 = .ok (.iconst 0, 1) := dk_get kX7_readAny_ok 21 rfl
theorem dX7_readAny_41 : decode cX7_readAny 41 = .ok (.ireturn, 1) := dk_get kX7_readAny_ok 22 rfl
theorem dX7_readAny_42 : decode cX7_readAny 42 = .ok (.aload_n 0, 1) := dk_get kX7_readAny_ok 23 rfl
theorem dX7_readAny_43 : decode cX7_readAny 43 = .ok (.bipush 17, 2) := dk_get kX7_readAny_ok 24 rfl
theorem dX7_readAny_45 : decode cX7_readAny 45 = .ok (.invokevirtual 160, 3) := dk_get kX7_readAny_ok 25 rfl
theorem dX7_readAny_48 : decode cX7_readAny 48 = .ok (.pop, 1) := dk_get kX7_readAny_ok 26 rfl
theorem dX7_readAny_49 : decode cX7_readAny 49 = .ok (.iinc 2 1, 3) := dk_get kX7_readAny_ok 27 rfl
theorem dX7_readAny_52 : decode cX7_readAny 52 = .ok (.goto (-40), 3) := dk_get kX7_readAny_ok 28 rfl
theorem dX7_readAny_55 : decode cX7_readAny 55 = .ok (.iconst 1, 1) := dk_get kX7_readAny_ok 29 rfl
theorem dX7_readAny_56 : decode cX7_readAny 56 = .ok (.ireturn, 1) := dk_get kX7_readAny_ok 30 rfl
def kX7_readEach : List (Nat × Instr × Nat) := [(0, .aload_n 0, 1), (1, .iload_n 1, 1), (2, .invokevirtual 170, 3), (5, .ifCond .ne 5, 3), (8, .iconst 0, 1), (9, .ireturn, 1), (10, .iconst 0, 1), (11, .istore_n 2, 1), (12, .iload_n 2, 1), (13, .sipush 400, 3), (16, .if_icmp .ge 39, 3), (19, .aload_n 0, 1), (20, .getfield 51, 3), (23, .bipush (-15), 2), (25, .if_icmp .ne 30, 3), (28, .aload_n 0, 1), (29, .invokevirtual 129, 3), (32, .aload_n 0, 1), (33, .iload_n 1, 1), (34, .invokevirtual 170, 3), (37, .ifCond .ne 5, 3), (40, .iconst 0, 1), (41, .ireturn, 1), (42, .aload_n 0, 1), (43, .bipush 18, 2), (45, .invokevirtual 160, 3), (48, .pop, 1), (49, .iinc 2 1, 3), (52, .goto (-40), 3), (55, .iconst 1, 1), (56, .ireturn, 1)]
set_option maxRecDepth 100000 in
theorem kX7_readEach_ok : kX7_readEach.all (fun q => decide (decode cX7_readEach q.1 = .ok q.2)) = true := by decide +kernel
theorem dX7_readEach_0 : decode cX7_readEach 0 = .ok (.aload_n 0, 1) := dk_get kX7_readEach_ok 0 rfl
theorem dX7_readEach_1 : decode cX7_readEach 1 = .ok (.iload_n 1, 1) := dk_get kX7_readEach_ok 1 rfl
theorem dX7_readEach_2 : decode cX7_readEach 2 = .ok (.invokevirtual 170, 3) := dk_get kX7_readEach_ok 2 rfl
theorem dX7_readEach_5 : decode cX7_readEach 5 = .ok (.ifCond .ne 5, 3) := dk_get kX7_readEach_ok 3 rfl
theorem dX7_readEach_8 : decode cX7_readEach 8 = .ok (.iconst 0, 1) := dk_get kX7_readEach_ok 4 rfl
theorem dX7_readEach_9 : decode cX7_readEach 9 = .ok (.ireturn, 1) := dk_get kX7_readEach_ok 5 rfl
theorem dX7_readEach_10 : decode cX7_readEach 10 = .ok (.iconst 0, 1) := dk_get kX7_readEach_ok 6 rfl
theorem dX7_readEach_11 : decode cX7_readEach 11 = .ok (.istore_n 2, 1) := dk_get kX7_readEach_ok 7 rfl
theorem dX7_readEach_12 : decode cX7_readEach 12 = .ok (.iload_n 2, 1) := dk_get kX7_readEach_ok 8 rfl
theorem dX7_readEach_13 : decode cX7_readEach 13 = .ok (.sipush 400, 3) := dk_get kX7_readEach_ok 9 rfl
theorem dX7_readEach_16 : decode cX7_readEach 16 = .ok (.if_icmp .ge 39, 3) := dk_get kX7_readEach_ok 10 rfl
theorem dX7_readEach_19 : decode cX7_readEach 19 = .ok (.aload_n 0, 1) := dk_get kX7_readEach_ok 11 rfl
theorem dX7_readEach_20 : decode cX7_readEach 20 = .ok (.getfield 51, 3) := dk_get kX7_readEach_ok 12 rfl
theorem dX7_readEach_23 : decode cX7_readEach 23 = .ok (.bipush (-15), 2) := dk_get kX7_readEach_ok 13 rfl
theorem dX7_readEach_25 : decode cX7_readEach 25 = .ok (.if_icmp .ne 30, 3) := dk_get kX7_readEach_ok 14 rfl
theorem dX7_readEach_28 : decode cX7_readEach 28 = .ok (.aload_n 0, 1) := dk_get kX7_readEach_ok 15 rfl
theorem dX7_readEach_29 : decode cX7_readEach 29 = .ok (.invokevirtual 129, 3) := dk_get kX7_readEach_ok 16 rfl
theorem dX7_readEach_32 : decode cX7_readEach 32 = .ok (.aload_n 0, 1) := dk_get kX7_readEach_ok 17 rfl
theorem dX7_readEach_33 : decode cX7_readEach 33 = .ok (.iload_n 1, 1) := dk_get kX7_readEach_ok 18 rfl
theorem dX7_readEach_34 : decode cX7_readEach 34 = .ok (.invokevirtual 170, 3) := dk_get kX7_readEach_ok 19 rfl
theorem dX7_readEach_37 : decode cX7_readEach 37 = .ok (.ifCond .ne 5, 3) := dk_get kX7_readEach_ok 20 rfl
theorem dX7_readEach_40 : decode cX7_readEach 40 = .ok (.iconst 0, 1) := dk_get kX7_readEach_ok 21 rfl
theorem dX7_readEach_41 : decode cX7_readEach 41 = .ok (.ireturn, 1) := dk_get kX7_readEach_ok 22 rfl
theorem dX7_readEach_42 : decode cX7_readEach 42 = .ok (.aload_n 0, 1) := dk_get kX7_readEach_ok 23 rfl
theorem dX7_readEach_43 : decode cX7_readEach 43 = .ok (.bipush 18, 2) := dk_get kX7_readEach_ok 24 rfl
theorem dX7_readEach_45 : decode cX7_readEach 45 = .ok (.invokevirtual 160, 3) := dk_get kX7_readEach_ok 25 rfl
theorem dX7_readEach_48 : decode cX7_readEach 48 = .ok (.pop, 1) := dk_get kX7_readEach_ok 26 rfl
theorem dX7_readEach_49 : decode cX7_readEach 49 = .ok (.iinc 2 1, 3) := dk_get kX7_readEach_ok 27 rfl
theorem dX7_readEach_52 : decode cX7_readEach 52 = .ok (.goto (-40), 3) := dk_get kX7_readEach_ok 28 rfl
theorem dX7_readEach_55 : decode cX7_readEach 55 = .ok (.iconst 1, 1) := dk_get kX7_readEach_ok 29 rfl
theorem dX7_readEach_56 : decode cX7_readEach 56 = .ok (.ireturn, 1) := dk_get kX7_readEach_ok 30 rfl
def kX7_readNot : List (Nat × Instr × Nat) := [(0, .aload_n 0, 1), (1, .bipush (-16), 2), (3, .iload_n 1, 1), (4, .invokevirtual 165, 3), (7, .ifCond .eq 26, 3), (10, .aload_n 0, 1), (11, .iload_n 1, 1), (12, .iconst 1, 1), (13, .iadd, 1), (14, .invokevirtual 170, 3), (17, .ifCond .eq 16, 3), (20, .aload_n 0, 1), (21, .bipush 7, 2), (23, .invokevirtual 160, 3), (26, .ifCond .eq 7, 3), (29, .iconst 1, 1), (30, .goto 4, 3), (33, .iconst 0, 1), (34, .ireturn, 1)]
set_option maxRecDepth 100000 in
theorem kX7_readNot_ok : kX7_readNot.all (fun q => decide (decode cX7_readNot q.1 = .ok q.2)) = true := by decide +kernel
theorem dX7_readNot_0 : decode cX7_readNot 0 = .ok (.aload_n 0, 1) := dk_get kX7_readNot_ok 0 rfl
theorem dX7_readNot_1 : decode cX7_readNot 1 = .ok (.bipush (-16), 2) := dk_get kX7_readNot_ok 1 rfl
theorem dX7_readNot_3 : decode cX7_readNot 3 = .ok (.iload_n 1, 1) := dk_get kX7_readNot_ok 2 rfl
theorem dX7_readNot_4 : decode cX7_readNot 4 = .ok (.invokevirtual 165, 3) := dk_get kX7_readNot_ok 3 rfl
theorem dX7_readNot_7 : decode cX7_readNot 7 = .ok (.ifCond .eq 26, 3) := dk_get kX7_readNot_ok 4 rfl
theorem dX7_readNot_10 : decode cX7_readNot 10 = .ok (.aload_n 0, 1) := dk_get kX7_readNot_ok 5 rfl
theorem dX7_readNot_11 : decode cX7_readNot 11 = .ok (.iload_n 1, 1) := dk_get kX7_readNot_ok 6 rfl
theorem dX7_readNot_12 : decode cX7_readNot 12 = .ok (.iconst 1, 1) := dk_get kX7_readNot_ok 7 rfl
theorem dX7_readNot_13 : decode cX7_readNot 13 = .ok (.iadd, 1) := dk_get kX7_readNot_ok 8 rfl
theorem dX7_readNot_14 : decode cX7_readNot 14 = .ok (.invokevirtual 170, 3) := dk_get kX7_readNot_ok 9 rfl
theorem dX7_readNot_17 : decode cX7_readNot 17 = .ok (.ifCond .eq 16, 3) := dk_get kX7_readNot_ok 10 rfl
theorem dX7_readNot_20 : decode cX7_readNot 20 = .ok (.aload_n 0, 1) := dk_get kX7_readNot_ok 11 rfl
theorem dX7_readNot_21 : decode cX7_readNot 21 = .ok (.bipush 7, 2) := dk_get kX7_readNot_ok 12 rfl
theorem dX7_readNot_23 : decode cX7_readNot 23 = .ok (.invokevirtual 160, 3) := dk_get kX7_readNot_ok 13 rfl
theorem dX7_readNot_26 : decode cX7_readNot 26 = .ok (.ifCond .eq 7, 3) := dk_get kX7_readNot_ok 14 rfl
theorem dX7_readNot_29 : decode cX7_readNot 29 = .ok (.iconst 1, 1) := dk_get kX7_readNot_ok 15 rfl
theorem dX7_readNot_30 : decode cX7_readNot 30 = .ok (.goto 4, 3) := dk_get kX7_readNot_ok 16 rfl
theorem dX7_readNot_33 : decode cX7_readNot 33 = .ok (.iconst 0, 1) := dk_get kX7_readNot_ok 17 rfl
theorem dX7_readNot_34 : decode cX7_readNot 34 = .ok (.ireturn, 1) := dk_get kX7_readNot_ok 18 rfl
def kX7_readTest : List (Nat × Instr × Nat) := [(0, .aload_n 0, 1), (1, .getfield 51, 3), (4, .bipush (-16), 2), (6, .if_icmp .ne 9, 3), (9, .aload_n 0, 1), (10, .iload_n 1, 1), (11, .invokevirtual 173, 3), (14, .ireturn, 1), (15, .aload_n 0, 1), (16, .getfield 51, 3), (19, .bipush 91, 2), (21, .if_icmp .ne 38, 3), (24, .aload_n 0, 1), (25, .bipush 91, 2), (27, .iload_n 1, 1), (28, .invokevirtual 165, 3), (31, .ifCond .eq 26, 3), (34, .aload_n 0, 1), (35, .iload_n 1, 1), (36, .iconst 1, 1), (37, .iadd, 1), (38, .invokevirtual 151, 3), (41, .ifCond .eq 16, 3), (44, .aload_n 0, 1), (45, .bipush 93, 2), (47, .invokevirtual 132, 3), (50, .ifCond .eq 7, 3), (53, .iconst 1, 1), (54, .goto 4, 3), (57, .iconst 0, 1), (58, .ireturn, 1), (59, .aload_n 0, 1), (60, .iload_n 1, 1), (61, .invokevirtual 145, 3), (64, .ifCond .ne 5, 3), (67, .iconst 0, 1), (68, .ireturn, 1), (69, .aload_n 0, 1), (70, .getfield 51, 3), (73, .bipush 60, 2), (75, .if_icmp .eq 27, 3), (78, .aload_n 0, 1), (79, .getfield 51, 3), (82, .bipush 62, 2), (84, .if_icmp .eq 18, 3), (87, .aload_n 0, 1), (88, .getfield 51, 3), (91, .bipush 61, 2), (93, .if_icmp .eq 9, 3), (96, .aload_n 0, 1), (97, .iconst 1, 1), (98, .invokevirtual 126, 3), (101, .ireturn, 1), (102, .aload_n 0, 1), (103, .getfield 51, 3), (106, .bipush 60, 2), (108, .if_icmp .ne 8, 3), (111, .bipush 14, 2), (113, .goto 19, 3), (116, .aload_n 0, 1), (117, .getfield 51, 3), (120, .bipush 62, 2), (122, .if_icmp .ne 8, 3), (125, .bipush 15, 2), (127, .goto 5, 3), (130, .bipush 16, 2), (132, .istore_n 2, 1), (133, .aload_n 0, 1), (134, .invokevirtual 129, 3), (137, .aload_n 0, 1), (138, .iload_n 1, 1), (139, .invokevirtual 145, 3), (142, .ifCond .eq 15, 3), (145, .aload_n 0, 1), (146, .iload_n 2, 1), (147, .invokevirtual 160, 3), (150, .ifCond .eq 7, 3), (153, .iconst 1, 1), (154, .goto 4, 3), (157, .iconst 0, 1), (158, .ireturn, 1)]
set_option maxRecDepth 100000 in
theorem kX7_readTest_ok : kX7_readTest.all (fun q => decide (decode cX7_readTest q.1 = .ok q.2)) = true := by decide +kernel
theorem dX7_readTest_0 : decode cX7_readTest 0 = .ok (.aload_n 0, 1) := dk_get kX7_readTest_ok 0 rfl
theorem dX7_readTest_1 : decode cX7_readTest 1 = .ok (.getfield 51, 3) := dk_get kX7_readTest_ok 1 rfl
theorem dX7_readTest_4 : decode cX7_readTest 4 = .ok (.bipush (-16), 2) := dk_get kX7_readTest_ok 2 rfl
theorem dX7_readTest_6 : decode cX7_readTest 6 = .ok (.if_icmp .ne 9, 3) := dk_get kX7_readTest_ok 3 rfl
theorem dX7_readTest_9 : decode cX7_readTest 9 = .ok (.aload_n 0, 1) := dk_get kX7_readTest_ok 4 rfl
theorem dX7_readTest_10 : decode cX7_readTest 10 = .ok (.iload_n 1, 1) := dk_get kX7_readTest_ok 5 rfl
theorem dX7_readTest_11 : decode cX7_readTest 11 = .ok (.invokevirtual 173, 3) := dk_get kX7_readTest_ok 6 rfl
theorem dX7_readTest_14 : decode cX7_readTest 14 = .ok (.ireturn, 1) := dk_get kX7_readTest_ok 7 rfl
theorem dX7_readTest_15 : decode cX7_readTest 15 = .ok (.aload_n 0, 1) := dk_get kX7_readTest_ok 8 rfl
theorem dX7_readTest_16 : decode cX7_readTest 16 = .ok (.getfield 51, 3) := dk_get kX7_readTest_ok 9 rfl
theorem dX7_readTest_19 : decode cX7_readTest 19 = .ok (.bipush 91, 2) := dk_get kX7_readTest_ok 10 rfl
theorem dX7_readTest_21 : decode cX7_readTest 21 = .ok (.if_icmp .ne 38, 3) := dk_get kX7_readTest_ok 11 rfl
theorem dX7_readTest_24 : decode cX7_readTest 24 = .ok (.aload_n 0, 1) := dk_get kX7_readTest_ok 12 rfl
theorem dX7_readTest_25 : decode cX7_readTest 25 = .ok (.bipush 91, 2) := dk_get kX7_readTest_ok 13 rfl
theorem dX7_readTest_27 : decode cX7_readTest 27 = .ok (.iload_n 1, 1) := dk_get kX7_readTest_ok 14 rfl
theorem dX7_readTest_28 : decode cX7_readTest 28 = .ok (.invokevirtual 165, 3) := dk_get kX7_readTest_ok 15 rfl
theorem dX7_readTest_31 : decode cX7_readTest 31 = .ok (.ifCond .eq 26, 3) := dk_get kX7_readTest_ok 16 rfl
theorem dX7_readTest_34 : decode cX7_readTest 34 = .ok (.aload_n 0, 1) := dk_get kX7_readTest_ok 17 rfl
theorem dX7_readTest_35 : decode cX7_readTest 35 = .ok (.iload_n 1, 1) := dk_get kX7_readTest_ok 18 rfl
theorem dX7_readTest_36 : decode cX7_readTest 36 = .ok (.iconst 1, 1) := dk_get kX7_readTest_ok 19 rfl
theorem dX7_readTest_37 : decode cX7_readTest 37 = .ok (.iadd, 1) := dk_get kX7_readTest_ok 20 rfl
theorem dX7_readTest_38 : decode cX7_readTest 38 = .ok (.invokevirtual 151, 3) := dk_get kX7_readTest_ok 21 rfl
theorem dX7_readTest_41 : decode cX7_readTest 41 = .ok (.ifCond .eq 16, 3) := dk_get kX7_readTest_ok 22 rfl
theorem dX7_readTest_44 : decode cX7_readTest 44 = .ok (.aload_n 0, 1) := dk_get kX7_readTest_ok 23 rfl
theorem dX7_readTest_45 : decode cX7_readTest 45 = .ok (.bipush 93, 2) := dk_get kX7_readTest_ok 24 rfl
theorem dX7_readTest_47 : decode cX7_readTest 47 = .ok (.invokevirtual 132, 3) := dk_get kX7_readTest_ok 25 rfl
theorem dX7_readTest_50 : decode cX7_readTest 50 = .ok (.ifCond .eq 7, 3) := dk_get kX7_readTest_ok 26 rfl
theorem dX7_readTest_53 : decode cX7_readTest 53 = .ok (.iconst 1, 1) := dk_get kX7_readTest_ok 27 rfl
theorem dX7_readTest_54 : decode cX7_readTest 54 = .ok (.goto 4, 3) := dk_get kX7_readTest_ok 28 rfl
theorem dX7_readTest_57 : decode cX7_readTest 57 = .ok (.iconst 0, 1) := dk_get kX7_readTest_ok 29 rfl
theorem dX7_readTest_58 : decode cX7_readTest 58 = .ok (.ireturn, 1) := dk_get kX7_readTest_ok 30 rfl
theorem dX7_readTest_59 : decode cX7_readTest 59 = .ok (.aload_n 0, 1) := dk_get kX7_readTest_ok 31 rfl
theorem dX7_readTest_60 : decode cX7_readTest 60 = .ok (.iload_n 1, 1) := dk_get kX7_readTest_ok 32 rfl
theorem dX7_readTest_61 : decode cX7_readTest 61 = .ok (.invokevirtual 145, 3) := dk_get kX7_readTest_ok 33 rfl
theorem dX7_readTest_64 : decode cX7_readTest 64 = .ok (.ifCond .ne 5, 3) := dk_get kX7_readTest_ok 34 rfl
theorem dX7_readTest_67 : decode cX7_readTest 67 = .ok (.iconst 0, 1) := dk_get kX7_readTest_ok 35 rfl
theorem dX7_readTest_68 : decode cX7_readTest 68 = .ok (.ireturn, 1) := dk_get kX7_readTest_ok 36 rfl
theorem dX7_readTest_69 : decode cX7_readTest 69 = .ok (.aload_n 0, 1) := dk_get kX7_readTest_ok 37 rfl
theorem dX7_readTest_70 : decode cX7_readTest 70 = .ok (.getfield 51, 3) := dk_get kX7_readTest_ok 38 rfl
theorem dX7_readTest_73 : decode cX7_readTest 73 = .ok (.bipush 60, 2) := dk_get kX7_readTest_ok 39 rfl
theorem dX7_readTest_75 : decode cX7_readTest 75 = .ok (.if_icmp .eq 27, 3) := dk_get kX7_readTest_ok 40 rfl
theorem dX7_readTest_78 : decode cX7_readTest 78 = .ok (.aload_n 0, 1) := dk_get kX7_readTest_ok 41 rfl
theorem dX7_readTest_79 : decode cX7_readTest 79 = .ok (.getfield 51, 3) := dk_get kX7_readTest_ok 42 rfl
theorem dX7_readTest_82 : decode cX7_readTest 82 = .ok (.bipush 62, 2) := dk_get kX7_readTest_ok 43 rfl
theorem dX7_readTest_84 : decode cX7_readTest 84 = .ok (.if_icmp .eq 18, 3) := dk_get kX7_readTest_ok 44 rfl
theorem dX7_readTest_87 : decode cX7_readTest 87 = .ok (.aload_n 0, 1) := dk_get kX7_readTest_ok 45 rfl
theorem dX7_readTest_88 : decode cX7_readTest 88 = .ok (.getfield 51, 3) := dk_get kX7_readTest_ok 46 rfl
theorem dX7_readTest_91 : decode cX7_readTest 91 = .ok (.bipush 61, 2) := dk_get kX7_readTest_ok 47 rfl
theorem dX7_readTest_93 : decode cX7_readTest 93 = .ok (.if_icmp .eq 9, 3) := dk_get kX7_readTest_ok 48 rfl
theorem dX7_readTest_96 : decode cX7_readTest 96 = .ok (.aload_n 0, 1) := dk_get kX7_readTest_ok 49 rfl
theorem dX7_readTest_97 : decode cX7_readTest 97 = .ok (.iconst 1, 1) := dk_get kX7_readTest_ok 50 rfl
theorem dX7_readTest_98 : decode cX7_readTest 98 = .ok (.invokevirtual 126, 3) := dk_get kX7_readTest_ok 51 rfl
theorem dX7_readTest_101 : decode cX7_readTest 101 = .ok (.ireturn, 1) := dk_get kX7_readTest_ok 52 rfl
theorem dX7_readTest_102 : decode cX7_readTest 102 = .ok (.aload_n 0, 1) := dk_get kX7_readTest_ok 53 rfl
theorem dX7_readTest_103 : decode cX7_readTest 103 = .ok (.getfield 51, 3) := dk_get kX7_readTest_ok 54 rfl
theorem dX7_readTest_106 : decode cX7_readTest 106 = .ok (.bipush 60, 2) := dk_get kX7_readTest_ok 55 rfl
theorem dX7_readTest_108 : decode cX7_readTest 108 = .ok (.if_icmp .ne 8, 3) := dk_get kX7_readTest_ok 56 rfl
theorem dX7_readTest_111 : decode cX7_readTest 111 = .ok (.bipush 14, 2) := dk_get kX7_readTest_ok 57 rfl
theorem dX7_readTest_113 : decode cX7_readTest 113 = .ok (.goto 19, 3) := dk_get kX7_readTest_ok 58 rfl
theorem dX7_readTest_116 : decode cX7_readTest 116 = .ok (.aload_n 0, 1) := dk_get kX7_readTest_ok 59 rfl
theorem dX7_readTest_117 : decode cX7_readTest 117 = .ok (.getfield 51, 3) := dk_get kX7_readTest_ok 60 rfl
theorem dX7_readTest_120 : decode cX7_readTest 120 = .ok (.bipush 62, 2) := dk_get kX7_readTest_ok 61 rfl
theorem dX7_readTest_122 : decode cX7_readTest 122 = .ok (.if_icmp .ne 8, 3) := dk_get kX7_readTest_ok 62 rfl
theorem dX7_readTest_125 : decode cX7_readTest 125 = .ok (.bipush 15, 2) := dk_get kX7_readTest_ok 63 rfl
theorem dX7_readTest_127 : decode cX7_readTest 127 = .ok (.goto 5, 3) := dk_get kX7_readTest_ok 64 rfl
theorem dX7_readTest_130 : decode cX7_readTest 130 = .ok (.bipush 16, 2) := dk_get kX7_readTest_ok 65 rfl
theorem dX7_readTest_132 : decode cX7_readTest 132 = .ok (.istore_n 2, 1) := dk_get kX7_readTest_ok 66 rfl
theorem dX7_readTest_133 : decode cX7_readTest 133 = .ok (.aload_n 0, 1) := dk_get kX7_readTest_ok 67 rfl
theorem dX7_readTest_134 : decode cX7_readTest 134 = .ok (.invokevirtual 129, 3) := dk_get kX7_readTest_ok 68 rfl
theorem dX7_readTest_137 : decode cX7_readTest 137 = .ok (.aload_n 0, 1) := dk_get kX7_readTest_ok 69 rfl
theorem dX7_readTest_138 : decode cX7_readTest 138 = .ok (.iload_n 1, 1) := dk_get kX7_readTest_ok 70 rfl
theorem dX7_readTest_139 : decode cX7_readTest 139 = .ok (.invokevirtual 145, 3) := dk_get kX7_readTest_ok 71 rfl
theorem dX7_readTest_142 : decode cX7_readTest 142 = .ok (.ifCond .eq 15, 3) := dk_get kX7_readTest_ok 72 rfl
theorem dX7_readTest_145 : decode cX7_readTest 145 = .ok (.aload_n 0, 1) := dk_get kX7_readTest_ok 73 rfl
theorem dX7_readTest_146 : decode cX7_readTest 146 = .ok (.iload_n 2, 1) := dk_get kX7_readTest_ok 74 rfl
theorem dX7_readTest_147 : decode cX7_readTest 147 = .ok (.invokevirtual 160, 3) := dk_get kX7_readTest_ok 75 rfl
theorem dX7_readTest_150 : decode cX7_readTest 150 = .ok (.ifCond .eq 7, 3) := dk_get kX7_readTest_ok 76 rfl
theorem dX7_readTest_153 : decode cX7_readTest 153 = .ok (.iconst 1, 1) := dk_get kX7_readTest_ok 77 rfl
theorem dX7_readTest_154 : decode cX7_readTest 154 = .ok (.goto 4, 3) := dk_get kX7_readTest_ok 78 rfl
theorem dX7_readTest_157 : decode cX7_readTest 157 = .ok (.iconst 0, 1) := dk_get kX7_readTest_ok 79 rfl
theorem dX7_readTest_158 : decode cX7_readTest 158 = .ok (.ireturn, 1) := dk_get kX7_readTest_ok 80 rfl
def kX8_init : List (Nat × Instr × Nat) := [(0, .aload_n 0, 1), (1, .invokespecial 3, 3), (4, .aload_n 0, 1), (5, .sipush 900, 3), (8, .newarray .int, 2), (10, .putfield 9, 3), (13, .aload_n 0, 1), (14, .sipush 900, 3), (17, .newarray .int, 2), (19, .putfield 15, 3), (22, .aload_n 0, 1), (23, .iconst 4, 1), (24, .newarray .int, 2), (26, .putfield 18, 3), (29, .aload_n 0, 1), (30, .aload_n 1, 1), (31, .putfield 21, 3), (34, .return_, 1)]
set_option maxRecDepth 100000 in
theorem kX8_init_ok : kX8_init.all (fun q => decide (decode cX8_init q.1 = .ok q.2)) = true := by decide +kernel
theorem dX8_init_0 : decode cX8_init 0 = .ok (.aload_n 0, 1) := dk_get kX8_init_ok 0 rfl
theorem dX8_init_1 : decode cX8_init 1 = .ok (.invokespecial 3, 3) := dk_get kX8_init_ok 1 rfl
theorem dX8_init_4 : decode cX8_init 4 = .ok (.aload_n 0, 1) := dk_get kX8_init_ok 2 rfl
theorem dX8_init_5 : decode cX8_init 5 = .ok (.sipush 900, 3) := dk_get kX8_init_ok 3 rfl
theorem dX8_init_8 : decode cX8_init 8 = .ok (.newarray .int, 2) := dk_get kX8_init_ok 4 rfl
theorem dX8_init_10 : decode cX8_init 10 = .ok (.putfield 9, 3) := dk_get kX8_init_ok 5 rfl
theorem dX8_init_13 : decode cX8_init 13 = .ok (.aload_n 0, 1) := dk_get kX8_init_ok 6 rfl
theorem dX8_init_14 : decode cX8_init 14 = .ok (.sipush 900, 3) := dk_get kX8_init_ok 7 rfl
theorem dX8_init_17 : decode cX8_init 17 = .ok (.newarray .int, 2) := dk_get kX8_init_ok 8 rfl
theorem dX8_init_19 : decode cX8_init 19 = .ok (.putfield 15, 3) := dk_get kX8_init_ok 9 rfl
theorem dX8_init_22 : decode cX8_init 22 = .ok (.aload_n 0, 1) := dk_get kX8_init_ok 10 rfl
theorem dX8_init_23 : decode cX8_init 23 = .ok (.iconst 4, 1) := dk_get kX8_init_ok 11 rfl
theorem dX8_init_24 : decode cX8_init 24 = .ok (.newarray .int, 2) := dk_get kX8_init_ok 12 rfl
theorem dX8_init_26 : decode cX8_init 26 = .ok (.putfield 18, 3) := dk_get kX8_init_ok 13 rfl
theorem dX8_init_29 : decode cX8_init 29 = .ok (.aload_n 0, 1) := dk_get kX8_init_ok 14 rfl
theorem dX8_init_30 : decode cX8_init 30 = .ok (.aload_n 1, 1) := dk_get kX8_init_ok 15 rfl
theorem dX8_init_31 : decode cX8_init 31 = .ok (.putfield 21, 3) := dk_get kX8_init_ok 16 rfl
theorem dX8_init_34 : decode cX8_init 34 = .ok (.return_, 1) := dk_get kX8_init_ok 17 rfl
def kX8_wipe : List (Nat × Instr × Nat) := [(0, .aload_n 0, 1), (1, .getfield 25, 3), (4, .ifCond .le 11, 3), (7, .aload_n 0, 1), (8, .getfield 9, 3), (11, .iconst 0, 1), (12, .invokestatic 29, 3), (15, .aload_n 0, 1), (16, .iconst 0, 1), (17, .putfield 25, 3), (20, .aload_n 0, 1), (21, .lconst 0, 1), (22, .putfield 35, 3), (25, .return_, 1)]
set_option maxRecDepth 100000 in
theorem kX8_wipe_ok : kX8_wipe.all (fun q => decide (decode cX8_wipe q.1 = .ok q.2)) = true := by decide +kernel
theorem dX8_wipe_0 : decode cX8_wipe 0 = .ok (.aload_n 0, 1) := dk_get kX8_wipe_ok 0 rfl
theorem dX8_wipe_1 : decode cX8_wipe 1 = .ok (.getfield 25, 3) := dk_get kX8_wipe_ok 1 rfl
theorem dX8_wipe_4 : decode cX8_wipe 4 = .ok (.ifCond .le 11, 3) := dk_get kX8_wipe_ok 2 rfl
theorem dX8_wipe_7 : decode cX8_wipe 7 = .ok (.aload_n 0, 1) := dk_get kX8_wipe_ok 3 rfl
theorem dX8_wipe_8 : decode cX8_wipe 8 = .ok (.getfield 9, 3) := dk_get kX8_wipe_ok 4 rfl
theorem dX8_wipe_11 : decode cX8_wipe 11 = .ok (.iconst 0, 1) := dk_get kX8_wipe_ok 5 rfl
theorem dX8_wipe_12 : decode cX8_wipe 12 = .ok (.invokestatic 29, 3) := dk_get kX8_wipe_ok 6 rfl
theorem dX8_wipe_15 : decode cX8_wipe 15 = .ok (.aload_n 0, 1) := dk_get kX8_wipe_ok 7 rfl
theorem dX8_wipe_16 : decode cX8_wipe 16 = .ok (.iconst 0, 1) := dk_get kX8_wipe_ok 8 rfl
theorem dX8_wipe_17 : decode cX8_wipe 17 = .ok (.putfield 25, 3) := dk_get kX8_wipe_ok 9 rfl
theorem dX8_wipe_20 : decode cX8_wipe 20 = .ok (.aload_n 0, 1) := dk_get kX8_wipe_ok 10 rfl
theorem dX8_wipe_21 : decode cX8_wipe 21 = .ok (.lconst 0, 1) := dk_get kX8_wipe_ok 11 rfl
theorem dX8_wipe_22 : decode cX8_wipe 22 = .ok (.putfield 35, 3) := dk_get kX8_wipe_ok 12 rfl
theorem dX8_wipe_25 : decode cX8_wipe 25 = .ok (.return_, 1) := dk_get kX8_wipe_ok 13 rfl
def kX8_isDrawn : List (Nat × Instr × Nat) := [(0, .aload_n 0, 1), (1, .getfield 21, 3), (4, .iload_n 1, 1), (5, .iload_n 2, 1), (6, .invokevirtual 39, 3), (9, .ifCond .le 7, 3), (12, .iconst 1, 1), (13, .goto 4, 3), (16, .iconst 0, 1), (17, .ireturn, 1)]
set_option maxRecDepth 100000 in
theorem kX8_isDrawn_ok : kX8_isDrawn.all (fun q => decide (decode cX8_isDrawn q.1 = .ok q.2)) = true := by decide +kernel
theorem dX8_isDrawn_0 : decode cX8_isDrawn 0 = .ok (.aload_n 0, 1) := dk_get kX8_isDrawn_ok 0 rfl
theorem dX8_isDrawn_1 : decode cX8_isDrawn 1 = .ok (.getfield 21, 3) := dk_get kX8_isDrawn_ok 1 rfl
theorem dX8_isDrawn_4 : decode cX8_isDrawn 4 = .ok (.iload_n 1, 1) := dk_get kX8_isDrawn_ok 2 rfl
theorem dX8_isDrawn_5 : decode cX8_isDrawn 5 = .ok (.iload_n 2, 1) := dk_get kX8_isDrawn_ok 3 rfl
theorem dX8_isDrawn_6 : decode cX8_isDrawn 6 = .ok (.invokevirtual 39, 3) := dk_get kX8_isDrawn_ok 4 rfl
theorem dX8_isDrawn_9 : decode cX8_isDrawn 9 = .ok (.ifCond .le 7, 3) := dk_get kX8_isDrawn_ok 5 rfl
theorem dX8_isDrawn_12 : decode cX8_isDrawn 12 = .ok (.iconst 1, 1) := dk_get kX8_isDrawn_ok 6 rfl
theorem dX8_isDrawn_13 : decode cX8_isDrawn 13 = .ok (.goto 4, 3) := dk_get kX8_isDrawn_ok 7 rfl
theorem dX8_isDrawn_16 : decode cX8_isDrawn 16 = .ok (.iconst 0, 1) := dk_get kX8_isDrawn_ok 8 rfl
theorem dX8_isDrawn_17 : decode cX8_isDrawn 17 = .ok (.ireturn, 1) := dk_get kX8_isDrawn_ok 9 rfl
def kX8_isRepelled : List (Nat × Instr × Nat) := [(0, .aload_n 0, 1), (1, .getfield 21, 3), (4, .iload_n 1, 1), (5, .iload_n 2, 1), (6, .invokevirtual 45, 3), (9, .ifCond .ne 15, 3), (12, .aload_n 0, 1), (13, .getfield 21, 3), (16, .iload_n 1, 1), (17, .iload_n 2, 1), (18, .invokevirtual 39, 3), (21, .ifCond .ge 7, 3), (24, .iconst 1, 1), (25, .goto 4, 3), (28, .iconst 0, 1), (29, .ireturn, 1)]
set_option maxRecDepth 100000 in
theorem kX8_isRepelled_ok : kX8_isRepelled.all (fun q => decide (decode cX8_isRepelled q.1 = .ok q.2)) = true := by decide +kernel
theorem dX8_isRepelled_0 : decode cX8_isRepelled 0 = .ok (.aload_n 0, 1) := dk_get kX8_isRepelled_ok 0 rfl
theorem dX8_isRepelled_1 : decode cX8_isRepelled 1 = .ok (.getfield 21, 3) := dk_get kX8_isRepelled_ok 1 rfl
theorem dX8_isRepelled_4 : decode cX8_isRepelled 4 = .ok (.iload_n 1, 1) := dk_get kX8_isRepelled_ok 2 rfl
theorem dX8_isRepelled_5 : decode cX8_isRepelled 5 = .ok (.iload_n 2, 1) := dk_get kX8_isRepelled_ok 3 rfl
theorem dX8_isRepelled_6 : decode cX8_isRepelled 6 = .ok (.invokevirtual 45, 3) := dk_get kX8_isRepelled_ok 4 rfl
theorem dX8_isRepelled_9 : decode cX8_isRepelled 9 = .ok (.ifCond .ne 15, 3) := dk_get kX8_isRepelled_ok 5 rfl
theorem dX8_isRepelled_12 : decode cX8_isRepelled 12 = .ok (.aload_n 0, 1) := dk_get kX8_isRepelled_ok 6 rfl
theorem dX8_isRepelled_13 : decode cX8_isRepelled 13 = .ok (.getfield 21, 3) := dk_get kX8_isRepelled_ok 7 rfl
theorem dX8_isRepelled_16 : decode cX8_isRepelled 16 = .ok (.iload_n 1, 1) := dk_get kX8_isRepelled_ok 8 rfl
theorem dX8_isRepelled_17 : decode cX8_isRepelled 17 = .ok (.iload_n 2, 1) := dk_get kX8_isRepelled_ok 9 rfl
theorem dX8_isRepelled_18 : decode cX8_isRepelled 18 = .ok (.invokevirtual 39, 3) := dk_get kX8_isRepelled_ok 10 rfl
theorem dX8_isRepelled_21 : decode cX8_isRepelled 21 = .ok (.ifCond .ge 7, 3) := dk_get kX8_isRepelled_ok 11 rfl
theorem dX8_isRepelled_24 : decode cX8_isRepelled 24 = .ok (.iconst 1, 1) := dk_get kX8_isRepelled_ok 12 rfl
theorem dX8_isRepelled_25 : decode cX8_isRepelled 25 = .ok (.goto 4, 3) := dk_get kX8_isRepelled_ok 13 rfl
theorem dX8_isRepelled_28 : decode cX8_isRepelled 28 = .ok (.iconst 0, 1) := dk_get kX8_isRepelled_ok 14 rfl
theorem dX8_isRepelled_29 : decode cX8_isRepelled 29 = .ok (.ireturn, 1) := dk_get kX8_isRepelled_ok 15 rfl
def kX8_isRing : List (Nat × Instr × Nat) := [(0, .aload_n 0, 1), (1, .iload_n 1, 1), (2, .iload_n 2, 1), (3, .invokevirtual 49, 3), (6, .istore 4, 2), (8, .aload_n 0, 1), (9, .iload_n 1, 1), (10, .iload_n 3, 1), (11, .invokevirtual 49, 3), (14, .istore 5, 2), (16, .aload_n 0, 1), (17, .iload_n 2, 1), (18, .iload_n 3, 1), (19, .invokevirtual 49, 3), (22, .istore 6, 2), (24, .iload 4, 2), (26, .ifCond .eq 17, 3), (29, .iload 5, 2), (31, .ifCond .eq 12, 3), (34, .aload_n 0, 1), (35, .iload_n 2, 1), (36, .iload_n 3, 1), (37, .invokevirtual 52, 3), (40, .ifCond .ne 41, 3), (43, .iload 4, 2), (45, .ifCond .eq 17, 3), (48, .iload 6, 2), (50, .ifCond .eq 12, 3), (53, .aload_n 0, 1), (54, .iload_n 1, 1), (55, .iload_n 3, 1), (56, .invokevirtual 52, 3), (59, .ifCond .ne 22, 3), (62, .iload 5, 2), (64, .ifCond .eq 21, 3), (67, .iload 6, 2), (69, .ifCond .eq 16, 3), (72, .aload_n 0, 1), (73, .iload_n 1, 1), (74, .iload_n 2, 1), (75, .invokevirtual 52, 3), (78, .ifCond .eq 7, 3), (81, .iconst 1, 1), (82, .goto 4, 3), (85, .iconst 0, 1), (86, .ireturn, 1)]
set_option maxRecDepth 100000 in
theorem kX8_isRing_ok : kX8_isRing.all (fun q => decide (decode cX8_isRing q.1 = .ok q.2)) = true := by decide +kernel
theorem dX8_isRing_0 : decode cX8_isRing 0 = .ok (.aload_n 0, 1) := dk_get kX8_isRing_ok 0 rfl
theorem dX8_isRing_1 : decode cX8_isRing 1 = .ok (.iload_n 1, 1) := dk_get kX8_isRing_ok 1 rfl
theorem dX8_isRing_2 : decode cX8_isRing 2 = .ok (.iload_n 2, 1) := dk_get kX8_isRing_ok 2 rfl
theorem dX8_isRing_3 : decode cX8_isRing 3 = .ok (.invokevirtual 49, 3) := dk_get kX8_isRing_ok 3 rfl
theorem dX8_isRing_6 : decode cX8_isRing 6 = .ok (.istore 4, 2) := dk_get kX8_isRing_ok 4 rfl
theorem dX8_isRing_8 : decode cX8_isRing 8 = .ok (.aload_n 0, 1) := dk_get kX8_isRing_ok 5 rfl
theorem dX8_isRing_9 : decode cX8_isRing 9 = .ok (.iload_n 1, 1) := dk_get kX8_isRing_ok 6 rfl
theorem dX8_isRing_10 : decode cX8_isRing 10 = .ok (.iload_n 3, 1) := dk_get kX8_isRing_ok 7 rfl
theorem dX8_isRing_11 : decode cX8_isRing 11 = .ok (.invokevirtual 49, 3) := dk_get kX8_isRing_ok 8 rfl
theorem dX8_isRing_14 : decode cX8_isRing 14 = .ok (.istore 5, 2) := dk_get kX8_isRing_ok 9 rfl
theorem dX8_isRing_16 : decode cX8_isRing 16 = .ok (.aload_n 0, 1) := dk_get kX8_isRing_ok 10 rfl
theorem dX8_isRing_17 : decode cX8_isRing 17 = .ok (.iload_n 2, 1) := dk_get kX8_isRing_ok 11 rfl
theorem dX8_isRing_18 : decode cX8_isRing 18 = .ok (.iload_n 3, 1) := dk_get kX8_isRing_ok 12 rfl
theorem dX8_isRing_19 : decode cX8_isRing 19 = .ok (.invokevirtual 49, 3) := dk_get kX8_isRing_ok 13 rfl
theorem dX8_isRing_22 : decode cX8_isRing 22 = .ok (.istore 6, 2) := dk_get kX8_isRing_ok 14 rfl
theorem dX8_isRing_24 : decode cX8_isRing 24 = .ok (.iload 4, 2) := dk_get kX8_isRing_ok 15 rfl
theorem dX8_isRing_26 : decode cX8_isRing 26 = .ok (.ifCond .eq 17, 3) := dk_get kX8_isRing_ok 16 rfl
theorem dX8_isRing_29 : decode cX8_isRing 29 = .ok (.iload 5, 2) := dk_get kX8_isRing_ok 17 rfl
theorem dX8_isRing_31 : decode cX8_isRing 31 = .ok (.ifCond .eq 12, 3) := dk_get kX8_isRing_ok 18 rfl
theorem dX8_isRing_34 : decode cX8_isRing 34 = .ok (.aload_n 0, 1) := dk_get kX8_isRing_ok 19 rfl
theorem dX8_isRing_35 : decode cX8_isRing 35 = .ok (.iload_n 2, 1) := dk_get kX8_isRing_ok 20 rfl
theorem dX8_isRing_36 : decode cX8_isRing 36 = .ok (.iload_n 3, 1) := dk_get kX8_isRing_ok 21 rfl
theorem dX8_isRing_37 : decode cX8_isRing 37 = .ok (.invokevirtual 52, 3) := dk_get kX8_isRing_ok 22 rfl
theorem dX8_isRing_40 : decode cX8_isRing 40 = .ok (.ifCond .ne 41, 3) := dk_get kX8_isRing_ok 23 rfl
theorem dX8_isRing_43 : decode cX8_isRing 43 = .ok (.iload 4, 2) := dk_get kX8_isRing_ok 24 rfl
theorem dX8_isRing_45 : decode cX8_isRing 45 = .ok (.ifCond .eq 17, 3) := dk_get kX8_isRing_ok 25 rfl
theorem dX8_isRing_48 : decode cX8_isRing 48 = .ok (.iload 6, 2) := dk_get kX8_isRing_ok 26 rfl
theorem dX8_isRing_50 : decode cX8_isRing 50 = .ok (.ifCond .eq 12, 3) := dk_get kX8_isRing_ok 27 rfl
theorem dX8_isRing_53 : decode cX8_isRing 53 = .ok (.aload_n 0, 1) := dk_get kX8_isRing_ok 28 rfl
theorem dX8_isRing_54 : decode cX8_isRing 54 = .ok (.iload_n 1, 1) := dk_get kX8_isRing_ok 29 rfl
theorem dX8_isRing_55 : decode cX8_isRing 55 = .ok (.iload_n 3, 1) := dk_get kX8_isRing_ok 30 rfl
theorem dX8_isRing_56 : decode cX8_isRing 56 = .ok (.invokevirtual 52, 3) := dk_get kX8_isRing_ok 31 rfl
theorem dX8_isRing_59 : decode cX8_isRing 59 = .ok (.ifCond .ne 22, 3) := dk_get kX8_isRing_ok 32 rfl
theorem dX8_isRing_62 : decode cX8_isRing 62 = .ok (.iload 5, 2) := dk_get kX8_isRing_ok 33 rfl
theorem dX8_isRing_64 : decode cX8_isRing 64 = .ok (.ifCond .eq 21, 3) := dk_get kX8_isRing_ok 34 rfl
theorem dX8_isRing_67 : decode cX8_isRing 67 = .ok (.iload 6, 2) := dk_get kX8_isRing_ok 35 rfl
theorem dX8_isRing_69 : decode cX8_isRing 69 = .ok (.ifCond .eq 16, 3) := dk_get kX8_isRing_ok 36 rfl
theorem dX8_isRing_72 : decode cX8_isRing 72 = .ok (.aload_n 0, 1) := dk_get kX8_isRing_ok 37 rfl
theorem dX8_isRing_73 : decode cX8_isRing 73 = .ok (.iload_n 1, 1) := dk_get kX8_isRing_ok 38 rfl
theorem dX8_isRing_74 : decode cX8_isRing 74 = .ok (.iload_n 2, 1) := dk_get kX8_isRing_ok 39 rfl
theorem dX8_isRing_75 : decode cX8_isRing 75 = .ok (.invokevirtual 52, 3) := dk_get kX8_isRing_ok 40 rfl
theorem dX8_isRing_78 : decode cX8_isRing 78 = .ok (.ifCond .eq 7, 3) := dk_get kX8_isRing_ok 41 rfl
theorem dX8_isRing_81 : decode cX8_isRing 81 = .ok (.iconst 1, 1) := dk_get kX8_isRing_ok 42 rfl
theorem dX8_isRing_82 : decode cX8_isRing 82 = .ok (.goto 4, 3) := dk_get kX8_isRing_ok 43 rfl
theorem dX8_isRing_85 : decode cX8_isRing 85 = .ok (.iconst 0, 1) := dk_get kX8_isRing_ok 44 rfl
theorem dX8_isRing_86 : decode cX8_isRing 86 = .ok (.ireturn, 1) := dk_get kX8_isRing_ok 45 rfl
def kX8_rest : List (Nat × Instr × Nat) := [(0, .aload_n 0, 1), (1, .getfield 21, 3), (4, .iload_n 2, 1), (5, .iload_n 3, 1), (6, .invokevirtual 45, 3), (9, .ifCond .eq 8, 3), (12, .ldc 55, 2), (14, .goto 15, 3), (17, .aload_n 0, 1), (18, .getfield 21, 3), (21, .iload_n 2, 1), (22, .iload_n 3, 1), (23, .invokevirtual 39, 3), (26, .invokestatic 56, 3), (29, .istore 4, 2), (31, .iload 4, 2), (33, .aload_n 1, 1), (34, .iload_n 2, 1), (35, .bipush 30, 2), (37, .imul, 1), (38, .iload_n 3, 1), (39, .iadd, 1), (40, .iaload, 1), (41, .isub, 1), (42, .ireturn, 1)]
set_option maxRecDepth 100000 in
theorem kX8_rest_ok : kX8_rest.all (fun q => decide (decode cX8_rest q.1 = .ok q.2)) = true := by decide +kernel
theorem dX8_rest_0 : decode cX8_rest 0 = .ok (.aload_n 0, 1) := dk_get kX8_rest_ok 0 rfl
theorem dX8_rest_1 : decode cX8_rest 1 = .ok (.getfield 21, 3) := dk_get kX8_rest_ok 1 rfl
theorem dX8_rest_4 : decode cX8_rest 4 = .ok (.iload_n 2, 1) := dk_get kX8_rest_ok 2 rfl
theorem dX8_rest_5 : decode cX8_rest 5 = .ok (.iload_n 3, 1) := dk_get kX8_rest_ok 3 rfl
theorem dX8_rest_6 : decode cX8_rest 6 = .ok (.invokevirtual 45, 3) := dk_get kX8_rest_ok 4 rfl
theorem dX8_rest_9 : decode cX8_rest 9 = .ok (.ifCond .eq 8, 3) := dk_get kX8_rest_ok 5 rfl
theorem dX8_rest_12 : decode cX8_rest 12 = .ok (.ldc 55, 2) := dk_get kX8_rest_ok 6 rfl
theorem dX8_rest_14 : decode cX8_rest 14 = .ok (.goto 15, 3) := dk_get kX8_rest_ok 7 rfl
theorem dX8_rest_17 : decode cX8_rest 17 = .ok (.aload_n 0, 1) := dk_get kX8_rest_ok 8 rfl
theorem dX8_rest_18 : decode cX8_rest 18 = .ok (.getfield 21, 3) := dk_get kX8_rest_ok 9 rfl
theorem dX8_rest_21 : decode cX8_rest 21 = .ok (.iload_n 2, 1) := dk_get kX8_rest_ok 10 rfl
theorem dX8_rest_22 : decode cX8_rest 22 = .ok (.iload_n 3, 1) := dk_get kX8_rest_ok 11 rfl
theorem dX8_rest_23 : decode cX8_rest 23 = .ok (.invokevirtual 39, 3) := dk_get kX8_rest_ok 12 rfl
theorem dX8_rest_26 : decode cX8_rest 26 = .ok (.invokestatic 56, 3) := dk_get kX8_rest_ok 13 rfl
theorem dX8_rest_29 : decode cX8_rest 29 = .ok (.istore 4, 2) := dk_get kX8_rest_ok 14 rfl
theorem dX8_rest_31 : decode cX8_rest 31 = .ok (.iload 4, 2) := dk_get kX8_rest_ok 15 rfl
theorem dX8_rest_33 : decode cX8_rest 33 = .ok (.aload_n 1, 1) := dk_get kX8_rest_ok 16 rfl
theorem dX8_rest_34 : decode cX8_rest 34 = .ok (.iload_n 2, 1) := dk_get kX8_rest_ok 17 rfl
theorem dX8_rest_35 : decode cX8_rest 35 = .ok (.bipush 30, 2) := dk_get kX8_rest_ok 18 rfl
theorem dX8_rest_37 : decode cX8_rest 37 = .ok (.imul, 1) := dk_get kX8_rest_ok 19 rfl
theorem dX8_rest_38 : decode cX8_rest 38 = .ok (.iload_n 3, 1) := dk_get kX8_rest_ok 20 rfl
theorem dX8_rest_39 : decode cX8_rest 39 = .ok (.iadd, 1) := dk_get kX8_rest_ok 21 rfl
theorem dX8_rest_40 : decode cX8_rest 40 = .ok (.iaload, 1) := dk_get kX8_rest_ok 22 rfl
theorem dX8_rest_41 : decode cX8_rest 41 = .ok (.isub, 1) := dk_get kX8_rest_ok 23 rfl
theorem dX8_rest_42 : decode cX8_rest 42 = .ok (.ireturn, 1) := dk_get kX8_rest_ok 24 rfl
def kX8_leastRest : List (Nat × Instr × Nat) := [(0, .aload_n 0, 1), (1, .aload_n 1, 1), (2, .iload_n 2, 1), (3, .iload_n 3, 1), (4, .invokevirtual 62, 3), (7, .aload_n 0, 1), (8, .aload_n 1, 1), (9, .iload_n 2, 1), (10, .iload 4, 2), (12, .invokevirtual 62, 3), (15, .aload_n 0, 1), (16, .aload_n 1, 1), (17, .iload_n 3, 1), (18, .iload 4, 2), (20, .invokevirtual 62, 3), (23, .invokestatic 66, 3), (26, .invokestatic 66, 3), (29, .ireturn, 1)]
set_option maxRecDepth 100000 in
theorem kX8_leastRest_ok : kX8_leastRest.all (fun q => decide (decode cX8_leastRest q.1 = .ok q.2)) = true := by decide +kernel
theorem dX8_leastRest_0 : decode cX8_leastRest 0 = .ok (.aload_n 0, 1) := dk_get kX8_leastRest_ok 0 rfl
theorem dX8_leastRest_1 : decode cX8_leastRest 1 = .ok (.aload_n 1, 1) := dk_get kX8_leastRest_ok 1 rfl
theorem dX8_leastRest_2 : decode cX8_leastRest 2 = .ok (.iload_n 2, 1) := dk_get kX8_leastRest_ok 2 rfl
theorem dX8_leastRest_3 : decode cX8_leastRest 3 = .ok (.iload_n 3, 1) := dk_get kX8_leastRest_ok 3 rfl
theorem dX8_leastRest_4 : decode cX8_leastRest 4 = .ok (.invokevirtual 62, 3) := dk_get kX8_leastRest_ok 4 rfl
theorem dX8_leastRest_7 : decode cX8_leastRest 7 = .ok (.aload_n 0, 1) := dk_get kX8_leastRest_ok 5 rfl
theorem dX8_leastRest_8 : decode cX8_leastRest 8 = .ok (.aload_n 1, 1) := dk_get kX8_leastRest_ok 6 rfl
theorem dX8_leastRest_9 : decode cX8_leastRest 9 = .ok (.iload_n 2, 1) := dk_get kX8_leastRest_ok 7 rfl
theorem dX8_leastRest_10 : decode cX8_leastRest 10 = .ok (.iload 4, 2) := dk_get kX8_leastRest_ok 8 rfl
theorem dX8_leastRest_12 : decode cX8_leastRest 12 = .ok (.invokevirtual 62, 3) := dk_get kX8_leastRest_ok 9 rfl
theorem dX8_leastRest_15 : decode cX8_leastRest 15 = .ok (.aload_n 0, 1) := dk_get kX8_leastRest_ok 10 rfl
theorem dX8_leastRest_16 : decode cX8_leastRest 16 = .ok (.aload_n 1, 1) := dk_get kX8_leastRest_ok 11 rfl
theorem dX8_leastRest_17 : decode cX8_leastRest 17 = .ok (.iload_n 3, 1) := dk_get kX8_leastRest_ok 12 rfl
theorem dX8_leastRest_18 : decode cX8_leastRest 18 = .ok (.iload 4, 2) := dk_get kX8_leastRest_ok 13 rfl
theorem dX8_leastRest_20 : decode cX8_leastRest 20 = .ok (.invokevirtual 62, 3) := dk_get kX8_leastRest_ok 14 rfl
theorem dX8_leastRest_23 : decode cX8_leastRest 23 = .ok (.invokestatic 66, 3) := dk_get kX8_leastRest_ok 15 rfl
theorem dX8_leastRest_26 : decode cX8_leastRest 26 = .ok (.invokestatic 66, 3) := dk_get kX8_leastRest_ok 16 rfl
theorem dX8_leastRest_29 : decode cX8_leastRest 29 = .ok (.ireturn, 1) := dk_get kX8_leastRest_ok 17 rfl
def kX8_takeFrom : List (Nat × Instr × Nat) := [(0, .aload_n 1, 1), (1, .iload_n 2, 1), (2, .bipush 30, 2), (4, .imul, 1), (5, .iload_n 3, 1), (6, .iadd, 1), (7, .dup2, 1), (8, .iaload, 1), (9, .iload 4, 2), (11, .iadd, 1), (12, .iastore, 1), (13, .aload_n 1, 1), (14, .iload_n 3, 1), (15, .bipush 30, 2), (17, .imul, 1), (18, .iload_n 2, 1), (19, .iadd, 1), (20, .dup2, 1), (21, .iaload, 1), (22, .iload 4, 2), (24, .iadd, 1), (25, .iastore, 1), (26, .return_, 1)]
set_option maxRecDepth 100000 in
theorem kX8_takeFrom_ok : kX8_takeFrom.all (fun q => decide (decode cX8_takeFrom q.1 = .ok q.2)) = true := by decide +kernel
theorem dX8_takeFrom_0 : decode cX8_takeFrom 0 = .ok (.aload_n 1, 1) := dk_get kX8_takeFrom_ok 0 rfl
theorem dX8_takeFrom_1 : decode cX8_takeFrom 1 = .ok (.iload_n 2, 1) := dk_get kX8_takeFrom_ok 1 rfl
theorem dX8_takeFrom_2 : decode cX8_takeFrom 2 = .ok (.bipush 30, 2) := dk_get kX8_takeFrom_ok 2 rfl
theorem dX8_takeFrom_4 : decode cX8_takeFrom 4 = .ok (.imul, 1) := dk_get kX8_takeFrom_ok 3 rfl
theorem dX8_takeFrom_5 : decode cX8_takeFrom 5 = .ok (.iload_n 3, 1) := dk_get kX8_takeFrom_ok 4 rfl
theorem dX8_takeFrom_6 : decode cX8_takeFrom 6 = .ok (.iadd, 1) := dk_get kX8_takeFrom_ok 5 rfl
theorem dX8_takeFrom_7 : decode cX8_takeFrom 7 = .ok (.dup2, 1) := dk_get kX8_takeFrom_ok 6 rfl
theorem dX8_takeFrom_8 : decode cX8_takeFrom 8 = .ok (.iaload, 1) := dk_get kX8_takeFrom_ok 7 rfl
theorem dX8_takeFrom_9 : decode cX8_takeFrom 9 = .ok (.iload 4, 2) := dk_get kX8_takeFrom_ok 8 rfl
theorem dX8_takeFrom_11 : decode cX8_takeFrom 11 = .ok (.iadd, 1) := dk_get kX8_takeFrom_ok 9 rfl
theorem dX8_takeFrom_12 : decode cX8_takeFrom 12 = .ok (.iastore, 1) := dk_get kX8_takeFrom_ok 10 rfl
theorem dX8_takeFrom_13 : decode cX8_takeFrom 13 = .ok (.aload_n 1, 1) := dk_get kX8_takeFrom_ok 11 rfl
theorem dX8_takeFrom_14 : decode cX8_takeFrom 14 = .ok (.iload_n 3, 1) := dk_get kX8_takeFrom_ok 12 rfl
theorem dX8_takeFrom_15 : decode cX8_takeFrom 15 = .ok (.bipush 30, 2) := dk_get kX8_takeFrom_ok 13 rfl
theorem dX8_takeFrom_17 : decode cX8_takeFrom 17 = .ok (.imul, 1) := dk_get kX8_takeFrom_ok 14 rfl
theorem dX8_takeFrom_18 : decode cX8_takeFrom 18 = .ok (.iload_n 2, 1) := dk_get kX8_takeFrom_ok 15 rfl
theorem dX8_takeFrom_19 : decode cX8_takeFrom 19 = .ok (.iadd, 1) := dk_get kX8_takeFrom_ok 16 rfl
theorem dX8_takeFrom_20 : decode cX8_takeFrom 20 = .ok (.dup2, 1) := dk_get kX8_takeFrom_ok 17 rfl
theorem dX8_takeFrom_21 : decode cX8_takeFrom 21 = .ok (.iaload, 1) := dk_get kX8_takeFrom_ok 18 rfl
theorem dX8_takeFrom_22 : decode cX8_takeFrom 22 = .ok (.iload 4, 2) := dk_get kX8_takeFrom_ok 19 rfl
theorem dX8_takeFrom_24 : decode cX8_takeFrom 24 = .ok (.iadd, 1) := dk_get kX8_takeFrom_ok 20 rfl
theorem dX8_takeFrom_25 : decode cX8_takeFrom 25 = .ok (.iastore, 1) := dk_get kX8_takeFrom_ok 21 rfl
theorem dX8_takeFrom_26 : decode cX8_takeFrom 26 = .ok (.return_, 1) := dk_get kX8_takeFrom_ok 22 rfl
def kX8_takeFromAll : List (Nat × Instr × Nat) := [(0, .aload_n 0, 1), (1, .aload_n 1, 1), (2, .iload_n 2, 1), (3, .iload_n 3, 1), (4, .iload 5, 2), (6, .invokevirtual 69, 3), (9, .aload_n 0, 1), (10, .aload_n 1, 1), (11, .iload_n 2, 1), (12, .iload 4, 2), (14, .iload 5, 2), (16, .invokevirtual 69, 3), (19, .aload_n 0, 1), (20, .aload_n 1, 1), (21, .iload_n 3, 1), (22, .iload 4, 2), (24, .iload 5, 2), (26, .invokevirtual 69, 3), (29, .return_, 1)]
set_option maxRecDepth 100000 in
theorem kX8_takeFromAll_ok : kX8_takeFromAll.all (fun q => decide (decode cX8_takeFromAll q.1 = .ok q.2)) = true := by decide +kernel
theorem dX8_takeFromAll_0 : decode cX8_takeFromAll 0 = .ok (.aload_n 0, 1) := dk_get kX8_takeFromAll_ok 0 rfl
theorem dX8_takeFromAll_1 : decode cX8_takeFromAll 1 = .ok (.aload_n 1, 1) := dk_get kX8_takeFromAll_ok 1 rfl
theorem dX8_takeFromAll_2 : decode cX8_takeFromAll 2 = .ok (.iload_n 2, 1) := dk_get kX8_takeFromAll_ok 2 rfl
theorem dX8_takeFromAll_3 : decode cX8_takeFromAll 3 = .ok (.iload_n 3, 1) := dk_get kX8_takeFromAll_ok 3 rfl
theorem dX8_takeFromAll_4 : decode cX8_takeFromAll 4 = .ok (.iload 5, 2) := dk_get kX8_takeFromAll_ok 4 rfl
theorem dX8_takeFromAll_6 : decode cX8_takeFromAll 6 = .ok (.invokevirtual 69, 3) := dk_get kX8_takeFromAll_ok 5 rfl
theorem dX8_takeFromAll_9 : decode cX8_takeFromAll 9 = .ok (.aload_n 0, 1) := dk_get kX8_takeFromAll_ok 6 rfl
theorem dX8_takeFromAll_10 : decode cX8_takeFromAll 10 = .ok (.aload_n 1, 1) := dk_get kX8_takeFromAll_ok 7 rfl
theorem dX8_takeFromAll_11 : decode cX8_takeFromAll 11 = .ok (.iload_n 2, 1) := dk_get kX8_takeFromAll_ok 8 rfl
theorem dX8_takeFromAll_12 : decode cX8_takeFromAll 12 = .ok (.iload 4, 2) := dk_get kX8_takeFromAll_ok 9 rfl
theorem dX8_takeFromAll_14 : decode cX8_takeFromAll 14 = .ok (.iload 5, 2) := dk_get kX8_takeFromAll_ok 10 rfl
theorem dX8_takeFromAll_16 : decode cX8_takeFromAll 16 = .ok (.invokevirtual 69, 3) := dk_get kX8_takeFromAll_ok 11 rfl
theorem dX8_takeFromAll_19 : decode cX8_takeFromAll 19 = .ok (.aload_n 0, 1) := dk_get kX8_takeFromAll_ok 12 rfl
theorem dX8_takeFromAll_20 : decode cX8_takeFromAll 20 = .ok (.aload_n 1, 1) := dk_get kX8_takeFromAll_ok 13 rfl
theorem dX8_takeFromAll_21 : decode cX8_takeFromAll 21 = .ok (.iload_n 3, 1) := dk_get kX8_takeFromAll_ok 14 rfl
theorem dX8_takeFromAll_22 : decode cX8_takeFromAll 22 = .ok (.iload 4, 2) := dk_get kX8_takeFromAll_ok 15 rfl
theorem dX8_takeFromAll_24 : decode cX8_takeFromAll 24 = .ok (.iload 5, 2) := dk_get kX8_takeFromAll_ok 16 rfl
theorem dX8_takeFromAll_26 : decode cX8_takeFromAll 26 = .ok (.invokevirtual 69, 3) := dk_get kX8_takeFromAll_ok 17 rfl
theorem dX8_takeFromAll_29 : decode cX8_takeFromAll 29 = .ok (.return_, 1) := dk_get kX8_takeFromAll_ok 18 rfl
def kX8_canTake : List (Nat × Instr × Nat) := [(0, .aload_n 0, 1), (1, .aload_n 0, 1), (2, .getfield 9, 3), (5, .iload_n 1, 1), (6, .iload_n 2, 1), (7, .iload_n 3, 1), (8, .invokevirtual 73, 3), (11, .iload 4, 2), (13, .if_icmp .lt 7, 3), (16, .iconst 1, 1), (17, .goto 4, 3), (20, .iconst 0, 1), (21, .ireturn, 1)]
set_option maxRecDepth 100000 in
theorem kX8_canTake_ok : kX8_canTake.all (fun q => decide (decode cX8_canTake q.1 = .ok q.2)) = true := by decide +kernel
theorem dX8_canTake_0 : decode cX8_canTake 0 = .ok (.aload_n 0, 1) := dk_get kX8_canTake_ok 0 rfl
theorem dX8_canTake_1 : decode cX8_canTake 1 = .ok (.aload_n 0, 1) := dk_get kX8_canTake_ok 1 rfl
theorem dX8_canTake_2 : decode cX8_canTake 2 = .ok (.getfield 9, 3) := dk_get kX8_canTake_ok 2 rfl
theorem dX8_canTake_5 : decode cX8_canTake 5 = .ok (.iload_n 1, 1) := dk_get kX8_canTake_ok 3 rfl
theorem dX8_canTake_6 : decode cX8_canTake 6 = .ok (.iload_n 2, 1) := dk_get kX8_canTake_ok 4 rfl
theorem dX8_canTake_7 : decode cX8_canTake 7 = .ok (.iload_n 3, 1) := dk_get kX8_canTake_ok 5 rfl
theorem dX8_canTake_8 : decode cX8_canTake 8 = .ok (.invokevirtual 73, 3) := dk_get kX8_canTake_ok 6 rfl
theorem dX8_canTake_11 : decode cX8_canTake 11 = .ok (.iload 4, 2) := dk_get kX8_canTake_ok 7 rfl
theorem dX8_canTake_13 : decode cX8_canTake 13 = .ok (.if_icmp .lt 7, 3) := dk_get kX8_canTake_ok 8 rfl
theorem dX8_canTake_16 : decode cX8_canTake 16 = .ok (.iconst 1, 1) := dk_get kX8_canTake_ok 9 rfl
theorem dX8_canTake_17 : decode cX8_canTake 17 = .ok (.goto 4, 3) := dk_get kX8_canTake_ok 10 rfl
theorem dX8_canTake_20 : decode cX8_canTake 20 = .ok (.iconst 0, 1) := dk_get kX8_canTake_ok 11 rfl
theorem dX8_canTake_21 : decode cX8_canTake 21 = .ok (.ireturn, 1) := dk_get kX8_canTake_ok 12 rfl
def kX8_tell : List (Nat × Instr × Nat) := [(0, .aload_n 0, 1), (1, .aload_n 0, 1), (2, .getfield 9, 3), (5, .iload_n 1, 1), (6, .iload_n 2, 1), (7, .iload_n 3, 1), (8, .iload 4, 2), (10, .invokevirtual 77, 3), (13, .aload_n 0, 1), (14, .dup, 1), (15, .getfield 25, 3), (18, .iconst 1, 1), (19, .iadd, 1), (20, .putfield 25, 3), (23, .aload_n 0, 1), (24, .dup, 1), (25, .getfield 35, 3), (28, .iload 4, 2), (30, .i2l, 1), (31, .ladd, 1), (32, .putfield 35, 3), (35, .return_, 1)]
set_option maxRecDepth 100000 in
theorem kX8_tell_ok : kX8_tell.all (fun q => decide (decode cX8_tell q.1 = .ok q.2)) = true := by decide +kernel
theorem dX8_tell_0 : decode cX8_tell 0 = .ok (.aload_n 0, 1) := dk_get kX8_tell_ok 0 rfl
theorem dX8_tell_1 : decode cX8_tell 1 = .ok (.aload_n 0, 1) := dk_get kX8_tell_ok 1 rfl
theorem dX8_tell_2 : decode cX8_tell 2 = .ok (.getfield 9, 3) := dk_get kX8_tell_ok 2 rfl
theorem dX8_tell_5 : decode cX8_tell 5 = .ok (.iload_n 1, 1) := dk_get kX8_tell_ok 3 rfl
theorem dX8_tell_6 : decode cX8_tell 6 = .ok (.iload_n 2, 1) := dk_get kX8_tell_ok 4 rfl
theorem dX8_tell_7 : decode cX8_tell 7 = .ok (.iload_n 3, 1) := dk_get kX8_tell_ok 5 rfl
theorem dX8_tell_8 : decode cX8_tell 8 = .ok (.iload 4, 2) := dk_get kX8_tell_ok 6 rfl
theorem dX8_tell_10 : decode cX8_tell 10 = .ok (.invokevirtual 77, 3) := dk_get kX8_tell_ok 7 rfl
theorem dX8_tell_13 : decode cX8_tell 13 = .ok (.aload_n 0, 1) := dk_get kX8_tell_ok 8 rfl
theorem dX8_tell_14 : decode cX8_tell 14 = .ok (.dup, 1) := dk_get kX8_tell_ok 9 rfl
theorem dX8_tell_15 : decode cX8_tell 15 = .ok (.getfield 25, 3) := dk_get kX8_tell_ok 10 rfl
theorem dX8_tell_18 : decode cX8_tell 18 = .ok (.iconst 1, 1) := dk_get kX8_tell_ok 11 rfl
theorem dX8_tell_19 : decode cX8_tell 19 = .ok (.iadd, 1) := dk_get kX8_tell_ok 12 rfl
theorem dX8_tell_20 : decode cX8_tell 20 = .ok (.putfield 25, 3) := dk_get kX8_tell_ok 13 rfl
theorem dX8_tell_23 : decode cX8_tell 23 = .ok (.aload_n 0, 1) := dk_get kX8_tell_ok 14 rfl
theorem dX8_tell_24 : decode cX8_tell 24 = .ok (.dup, 1) := dk_get kX8_tell_ok 15 rfl
theorem dX8_tell_25 : decode cX8_tell 25 = .ok (.getfield 35, 3) := dk_get kX8_tell_ok 16 rfl
theorem dX8_tell_28 : decode cX8_tell 28 = .ok (.iload 4, 2) := dk_get kX8_tell_ok 17 rfl
theorem dX8_tell_30 : decode cX8_tell 30 = .ok (.i2l, 1) := dk_get kX8_tell_ok 18 rfl
theorem dX8_tell_31 : decode cX8_tell 31 = .ok (.ladd, 1) := dk_get kX8_tell_ok 19 rfl
theorem dX8_tell_32 : decode cX8_tell 32 = .ok (.putfield 35, 3) := dk_get kX8_tell_ok 20 rfl
theorem dX8_tell_35 : decode cX8_tell 35 = .ok (.return_, 1) := dk_get kX8_tell_ok 21 rfl
def kX8_howMany : List (Nat × Instr × Nat) := [(0, .iconst 0, 1), (1, .istore_n 1, 1), (2, .aload_n 0, 1), (3, .getfield 21, 3), (6, .getfield 81, 3), (9, .getfield 85, 3), (12, .istore_n 2, 1), (13, .iconst 0, 1), (14, .istore_n 3, 1), (15, .iload_n 3, 1), (16, .iload_n 2, 1), (17, .if_icmp .ge 59, 3), (20, .iload_n 3, 1), (21, .iconst 1, 1), (22, .iadd, 1), (23, .istore 4, 2), (25, .iload 4, 2), (27, .iload_n 2, 1), (28, .if_icmp .ge 42, 3), (31, .iload 4, 2), (33, .iconst 1, 1), (34, .iadd, 1), (35, .istore 5, 2), (37, .iload 5, 2), (39, .iload_n 2, 1), (40, .if_icmp .ge 24, 3), (43, .aload_n 0, 1), (44, .iload_n 3, 1), (45, .iload 4, 2), (47, .iload 5, 2), (49, .invokevirtual 90, 3), (52, .ifCond .eq 6, 3), (55, .iinc 1 1, 3), (58, .iinc 5 1, 3), (61, .goto (-24), 3), (64, .iinc 4 1, 3), (67, .goto (-42), 3), (70, .iinc 3 1, 3), (73, .goto (-58), 3), (76, .iload_n 1, 1), (77, .ireturn, 1)]
set_option maxRecDepth 100000 in
theorem kX8_howMany_ok : kX8_howMany.all (fun q => decide (decode cX8_howMany q.1 = .ok q.2)) = true := by decide +kernel
theorem dX8_howMany_0 : decode cX8_howMany 0 = .ok (.iconst 0, 1) := dk_get kX8_howMany_ok 0 rfl
theorem dX8_howMany_1 : decode cX8_howMany 1 = .ok (.istore_n 1, 1) := dk_get kX8_howMany_ok 1 rfl
theorem dX8_howMany_2 : decode cX8_howMany 2 = .ok (.aload_n 0, 1) := dk_get kX8_howMany_ok 2 rfl
theorem dX8_howMany_3 : decode cX8_howMany 3 = .ok (.getfield 21, 3) := dk_get kX8_howMany_ok 3 rfl
theorem dX8_howMany_6 : decode cX8_howMany 6 = .ok (.getfield 81, 3) := dk_get kX8_howMany_ok 4 rfl
theorem dX8_howMany_9 : decode cX8_howMany 9 = .ok (.getfield 85, 3) := dk_get kX8_howMany_ok 5 rfl
theorem dX8_howMany_12 : decode cX8_howMany 12 = .ok (.istore_n 2, 1) := dk_get kX8_howMany_ok 6 rfl
theorem dX8_howMany_13 : decode cX8_howMany 13 = .ok (.iconst 0, 1) := dk_get kX8_howMany_ok 7 rfl
theorem dX8_howMany_14 : decode cX8_howMany 14 = .ok (.istore_n 3, 1) := dk_get kX8_howMany_ok 8 rfl
theorem dX8_howMany_15 : decode cX8_howMany 15 = .ok (.iload_n 3, 1) := dk_get kX8_howMany_ok 9 rfl
theorem dX8_howMany_16 : decode cX8_howMany 16 = .ok (.iload_n 2, 1) := dk_get kX8_howMany_ok 10 rfl
theorem dX8_howMany_17 : decode cX8_howMany 17 = .ok (.if_icmp .ge 59, 3) := dk_get kX8_howMany_ok 11 rfl
theorem dX8_howMany_20 : decode cX8_howMany 20 = .ok (.iload_n 3, 1) := dk_get kX8_howMany_ok 12 rfl
theorem dX8_howMany_21 : decode cX8_howMany 21 = .ok (.iconst 1, 1) := dk_get kX8_howMany_ok 13 rfl
theorem dX8_howMany_22 : decode cX8_howMany 22 = .ok (.iadd, 1) := dk_get kX8_howMany_ok 14 rfl
theorem dX8_howMany_23 : decode cX8_howMany 23 = .ok (.istore 4, 2) := dk_get kX8_howMany_ok 15 rfl
theorem dX8_howMany_25 : decode cX8_howMany 25 = .ok (.iload 4, 2) := dk_get kX8_howMany_ok 16 rfl
theorem dX8_howMany_27 : decode cX8_howMany 27 = .ok (.iload_n 2, 1) := dk_get kX8_howMany_ok 17 rfl
theorem dX8_howMany_28 : decode cX8_howMany 28 = .ok (.if_icmp .ge 42, 3) := dk_get kX8_howMany_ok 18 rfl
theorem dX8_howMany_31 : decode cX8_howMany 31 = .ok (.iload 4, 2) := dk_get kX8_howMany_ok 19 rfl
theorem dX8_howMany_33 : decode cX8_howMany 33 = .ok (.iconst 1, 1) := dk_get kX8_howMany_ok 20 rfl
theorem dX8_howMany_34 : decode cX8_howMany 34 = .ok (.iadd, 1) := dk_get kX8_howMany_ok 21 rfl
theorem dX8_howMany_35 : decode cX8_howMany 35 = .ok (.istore 5, 2) := dk_get kX8_howMany_ok 22 rfl
theorem dX8_howMany_37 : decode cX8_howMany 37 = .ok (.iload 5, 2) := dk_get kX8_howMany_ok 23 rfl
theorem dX8_howMany_39 : decode cX8_howMany 39 = .ok (.iload_n 2, 1) := dk_get kX8_howMany_ok 24 rfl
theorem dX8_howMany_40 : decode cX8_howMany 40 = .ok (.if_icmp .ge 24, 3) := dk_get kX8_howMany_ok 25 rfl
theorem dX8_howMany_43 : decode cX8_howMany 43 = .ok (.aload_n 0, 1) := dk_get kX8_howMany_ok 26 rfl
theorem dX8_howMany_44 : decode cX8_howMany 44 = .ok (.iload_n 3, 1) := dk_get kX8_howMany_ok 27 rfl
theorem dX8_howMany_45 : decode cX8_howMany 45 = .ok (.iload 4, 2) := dk_get kX8_howMany_ok 28 rfl
theorem dX8_howMany_47 : decode cX8_howMany 47 = .ok (.iload 5, 2) := dk_get kX8_howMany_ok 29 rfl
theorem dX8_howMany_49 : decode cX8_howMany 49 = .ok (.invokevirtual 90, 3) := dk_get kX8_howMany_ok 30 rfl
theorem dX8_howMany_52 : decode cX8_howMany 52 = .ok (.ifCond .eq 6, 3) := dk_get kX8_howMany_ok 31 rfl
theorem dX8_howMany_55 : decode cX8_howMany 55 = .ok (.iinc 1 1, 3) := dk_get kX8_howMany_ok 32 rfl
theorem dX8_howMany_58 : decode cX8_howMany 58 = .ok (.iinc 5 1, 3) := dk_get kX8_howMany_ok 33 rfl
theorem dX8_howMany_61 : decode cX8_howMany 61 = .ok (.goto (-24), 3) := dk_get kX8_howMany_ok 34 rfl
theorem dX8_howMany_64 : decode cX8_howMany 64 = .ok (.iinc 4 1, 3) := dk_get kX8_howMany_ok 35 rfl
theorem dX8_howMany_67 : decode cX8_howMany 67 = .ok (.goto (-42), 3) := dk_get kX8_howMany_ok 36 rfl
theorem dX8_howMany_70 : decode cX8_howMany 70 = .ok (.iinc 3 1, 3) := dk_get kX8_howMany_ok 37 rfl
theorem dX8_howMany_73 : decode cX8_howMany 73 = .ok (.goto (-58), 3) := dk_get kX8_howMany_ok 38 rfl
theorem dX8_howMany_76 : decode cX8_howMany 76 = .ok (.iload_n 1, 1) := dk_get kX8_howMany_ok 39 rfl
theorem dX8_howMany_77 : decode cX8_howMany 77 = .ok (.ireturn, 1) := dk_get kX8_howMany_ok 40 rfl
def kX8_pack : List (Nat × Instr × Nat) := [(0, .aload_n 0, 1), (1, .getfield 15, 3), (4, .iconst 0, 1), (5, .invokestatic 29, 3), (8, .aload_n 0, 1), (9, .getfield 18, 3), (12, .iconst (-1), 1), (13, .invokestatic 29, 3), (16, .aload_n 0, 1), (17, .lconst 0, 1), (18, .putfield 94, 3), (21, .iconst 0, 1), (22, .istore_n 2, 1), (23, .aload_n 0, 1), (24, .getfield 21, 3), (27, .getfield 81, 3), (30, .getfield 85, 3), (33, .istore_n 3, 1), (34, .iconst 0, 1), (35, .istore 4, 2), (37, .iload 4, 2), (39, .iload_n 3, 1), (40, .if_icmp .ge 131, 3), (43, .iload 4, 2), (45, .iconst 1, 1), (46, .iadd, 1), (47, .istore 5, 2), (49, .iload 5, 2), (51, .iload_n 3, 1), (52, .if_icmp .ge 113, 3), (55, .iload 5, 2), (57, .iconst 1, 1), (58, .iadd, 1), (59, .istore 6, 2), (61, .iload 6, 2), (63, .iload_n 3, 1), (64, .if_icmp .ge 95, 3), (67, .aload_n 0, 1), (68, .iload 4, 2), (70, .iload 5, 2), (72, .iload 6, 2), (74, .invokevirtual 90, 3), (77, .ifCond .eq 20, 3), (80, .aload_n 0, 1), (81, .aload_n 0, 1), (82, .getfield 15, 3), (85, .iload 4, 2), (87, .iload 5, 2), (89, .iload 6, 2), (91, .invokevirtual 73, 3), (94, .goto 4, 3), (97, .iconst 0, 1), (98, .istore 7, 2), (100, .iload 7, 2), (102, .ifCond .le 51, 3), (105, .aload_n 0, 1), (106, .aload_n 0, 1), (107, .getfield 15, 3), (110, .iload 4, 2), (112, .iload 5, 2), (114, .iload 6, 2), (116, .iload 7, 2), (118, .invokevirtual 77, 3), (121, .aload_n 0, 1), (122, .dup, 1), (123, .getfield 94, 3), (126, .iload 7, 2), (128, .i2l, 1), (129, .ladd, 1), (130, .putfield 94, 3), (133, .iload_n 2, 1), (134, .iload_n 1, 1), (135, .if_icmp .ne 15, 3), (138, .aload_n 0, 1), (139, .iload 4, 2), (141, .iload 5, 2), (143, .iload 6, 2), (145, .iload 7, 2), (147, .invokevirtual 97, 3), (150, .iinc 2 1, 3), (153, .iinc 6 1, 3), (156, .goto (-95), 3), (159, .iinc 5 1, 3), (162, .goto (-113), 3), (165, .iinc 4 1, 3), (168, .goto (-131), 3), (171, .return_, 1)]
set_option maxRecDepth 100000 in
theorem kX8_pack_ok : kX8_pack.all (fun q => decide (decode cX8_pack q.1 = .ok q.2)) = true := by decide +kernel
theorem dX8_pack_0 : decode cX8_pack 0 = .ok (.aload_n 0, 1) := dk_get kX8_pack_ok 0 rfl
theorem dX8_pack_1 : decode cX8_pack 1 = .ok (.getfield 15, 3) := dk_get kX8_pack_ok 1 rfl
theorem dX8_pack_4 : decode cX8_pack 4 = .ok (.iconst 0, 1) := dk_get kX8_pack_ok 2 rfl
theorem dX8_pack_5 : decode cX8_pack 5 = .ok (.invokestatic 29, 3) := dk_get kX8_pack_ok 3 rfl
theorem dX8_pack_8 : decode cX8_pack 8 = .ok (.aload_n 0, 1) := dk_get kX8_pack_ok 4 rfl
theorem dX8_pack_9 : decode cX8_pack 9 = .ok (.getfield 18, 3) := dk_get kX8_pack_ok 5 rfl
theorem dX8_pack_12 : decode cX8_pack 12 = .ok (.iconst (-1), 1) := dk_get kX8_pack_ok 6 rfl
theorem dX8_pack_13 : decode cX8_pack 13 = .ok (.invokestatic 29, 3) := dk_get kX8_pack_ok 7 rfl
theorem dX8_pack_16 : decode cX8_pack 16 = .ok (.aload_n 0, 1) := dk_get kX8_pack_ok 8 rfl
theorem dX8_pack_17 : decode cX8_pack 17 = .ok (.lconst 0, 1) := dk_get kX8_pack_ok 9 rfl
theorem dX8_pack_18 : decode cX8_pack 18 = .ok (.putfield 94, 3) := dk_get kX8_pack_ok 10 rfl
theorem dX8_pack_21 : decode cX8_pack 21 = .ok (.iconst 0, 1) := dk_get kX8_pack_ok 11 rfl
theorem dX8_pack_22 : decode cX8_pack 22 = .ok (.istore_n 2, 1) := dk_get kX8_pack_ok 12 rfl
theorem dX8_pack_23 : decode cX8_pack 23 = .ok (.aload_n 0, 1) := dk_get kX8_pack_ok 13 rfl
theorem dX8_pack_24 : decode cX8_pack 24 = .ok (.getfield 21, 3) := dk_get kX8_pack_ok 14 rfl
theorem dX8_pack_27 : decode cX8_pack 27 = .ok (.getfield 81, 3) := dk_get kX8_pack_ok 15 rfl
theorem dX8_pack_30 : decode cX8_pack 30 = .ok (.getfield 85, 3) := dk_get kX8_pack_ok 16 rfl
theorem dX8_pack_33 : decode cX8_pack 33 = .ok (.istore_n 3, 1) := dk_get kX8_pack_ok 17 rfl
theorem dX8_pack_34 : decode cX8_pack 34 = .ok (.iconst 0, 1) := dk_get kX8_pack_ok 18 rfl
theorem dX8_pack_35 : decode cX8_pack 35 = .ok (.istore 4, 2) := dk_get kX8_pack_ok 19 rfl
theorem dX8_pack_37 : decode cX8_pack 37 = .ok (.iload 4, 2) := dk_get kX8_pack_ok 20 rfl
theorem dX8_pack_39 : decode cX8_pack 39 = .ok (.iload_n 3, 1) := dk_get kX8_pack_ok 21 rfl
theorem dX8_pack_40 : decode cX8_pack 40 = .ok (.if_icmp .ge 131, 3) := dk_get kX8_pack_ok 22 rfl
theorem dX8_pack_43 : decode cX8_pack 43 = .ok (.iload 4, 2) := dk_get kX8_pack_ok 23 rfl
theorem dX8_pack_45 : decode cX8_pack 45 = .ok (.iconst 1, 1) := dk_get kX8_pack_ok 24 rfl
theorem dX8_pack_46 : decode cX8_pack 46 = .ok (.iadd, 1) := dk_get kX8_pack_ok 25 rfl
theorem dX8_pack_47 : decode cX8_pack 47 = .ok (.istore 5, 2) := dk_get kX8_pack_ok 26 rfl
theorem dX8_pack_49 : decode cX8_pack 49 = .ok (.iload 5, 2) := dk_get kX8_pack_ok 27 rfl
theorem dX8_pack_51 : decode cX8_pack 51 = .ok (.iload_n 3, 1) := dk_get kX8_pack_ok 28 rfl
theorem dX8_pack_52 : decode cX8_pack 52 = .ok (.if_icmp .ge 113, 3) := dk_get kX8_pack_ok 29 rfl
theorem dX8_pack_55 : decode cX8_pack 55 = .ok (.iload 5, 2) := dk_get kX8_pack_ok 30 rfl
theorem dX8_pack_57 : decode cX8_pack 57 = .ok (.iconst 1, 1) := dk_get kX8_pack_ok 31 rfl
theorem dX8_pack_58 : decode cX8_pack 58 = .ok (.iadd, 1) := dk_get kX8_pack_ok 32 rfl
theorem dX8_pack_59 : decode cX8_pack 59 = .ok (.istore 6, 2) := dk_get kX8_pack_ok 33 rfl
theorem dX8_pack_61 : decode cX8_pack 61 = .ok (.iload 6, 2) := dk_get kX8_pack_ok 34 rfl
theorem dX8_pack_63 : decode cX8_pack 63 = .ok (.iload_n 3, 1) := dk_get kX8_pack_ok 35 rfl
theorem dX8_pack_64 : decode cX8_pack 64 = .ok (.if_icmp .ge 95, 3) := dk_get kX8_pack_ok 36 rfl
theorem dX8_pack_67 : decode cX8_pack 67 = .ok (.aload_n 0, 1) := dk_get kX8_pack_ok 37 rfl
theorem dX8_pack_68 : decode cX8_pack 68 = .ok (.iload 4, 2) := dk_get kX8_pack_ok 38 rfl
theorem dX8_pack_70 : decode cX8_pack 70 = .ok (.iload 5, 2) := dk_get kX8_pack_ok 39 rfl
theorem dX8_pack_72 : decode cX8_pack 72 = .ok (.iload 6, 2) := dk_get kX8_pack_ok 40 rfl
theorem dX8_pack_74 : decode cX8_pack 74 = .ok (.invokevirtual 90, 3) := dk_get kX8_pack_ok 41 rfl
theorem dX8_pack_77 : decode cX8_pack 77 = .ok (.ifCond .eq 20, 3) := dk_get kX8_pack_ok 42 rfl
theorem dX8_pack_80 : decode cX8_pack 80 = .ok (.aload_n 0, 1) := dk_get kX8_pack_ok 43 rfl
theorem dX8_pack_81 : decode cX8_pack 81 = .ok (.aload_n 0, 1) := dk_get kX8_pack_ok 44 rfl
theorem dX8_pack_82 : decode cX8_pack 82 = .ok (.getfield 15, 3) := dk_get kX8_pack_ok 45 rfl
theorem dX8_pack_85 : decode cX8_pack 85 = .ok (.iload 4, 2) := dk_get kX8_pack_ok 46 rfl
theorem dX8_pack_87 : decode cX8_pack 87 = .ok (.iload 5, 2) := dk_get kX8_pack_ok 47 rfl
theorem dX8_pack_89 : decode cX8_pack 89 = .ok (.iload 6, 2) := dk_get kX8_pack_ok 48 rfl
theorem dX8_pack_91 : decode cX8_pack 91 = .ok (.invokevirtual 73, 3) := dk_get kX8_pack_ok 49 rfl
theorem dX8_pack_94 : decode cX8_pack 94 = .ok (.goto 4, 3) := dk_get kX8_pack_ok 50 rfl
theorem dX8_pack_97 : decode cX8_pack 97 = .ok (.iconst 0, 1) := dk_get kX8_pack_ok 51 rfl
theorem dX8_pack_98 : decode cX8_pack 98 = .ok (.istore 7, 2) := dk_get kX8_pack_ok 52 rfl
theorem dX8_pack_100 : decode cX8_pack 100 = .ok (.iload 7, 2) := dk_get kX8_pack_ok 53 rfl
theorem dX8_pack_102 : decode cX8_pack 102 = .ok (.ifCond .le 51, 3) := dk_get kX8_pack_ok 54 rfl
theorem dX8_pack_105 : decode cX8_pack 105 = .ok (.aload_n 0, 1) := dk_get kX8_pack_ok 55 rfl
theorem dX8_pack_106 : decode cX8_pack 106 = .ok (.aload_n 0, 1) := dk_get kX8_pack_ok 56 rfl
theorem dX8_pack_107 : decode cX8_pack 107 = .ok (.getfield 15, 3) := dk_get kX8_pack_ok 57 rfl
theorem dX8_pack_110 : decode cX8_pack 110 = .ok (.iload 4, 2) := dk_get kX8_pack_ok 58 rfl
theorem dX8_pack_112 : decode cX8_pack 112 = .ok (.iload 5, 2) := dk_get kX8_pack_ok 59 rfl
theorem dX8_pack_114 : decode cX8_pack 114 = .ok (.iload 6, 2) := dk_get kX8_pack_ok 60 rfl
theorem dX8_pack_116 : decode cX8_pack 116 = .ok (.iload 7, 2) := dk_get kX8_pack_ok 61 rfl
theorem dX8_pack_118 : decode cX8_pack 118 = .ok (.invokevirtual 77, 3) := dk_get kX8_pack_ok 62 rfl
theorem dX8_pack_121 : decode cX8_pack 121 = .ok (.aload_n 0, 1) := dk_get kX8_pack_ok 63 rfl
theorem dX8_pack_122 : decode cX8_pack 122 = .ok (.dup, 1) := dk_get kX8_pack_ok 64 rfl
theorem dX8_pack_123 : decode cX8_pack 123 = .ok (.getfield 94, 3) := dk_get kX8_pack_ok 65 rfl
theorem dX8_pack_126 : decode cX8_pack 126 = .ok (.iload 7, 2) := dk_get kX8_pack_ok 66 rfl
theorem dX8_pack_128 : decode cX8_pack 128 = .ok (.i2l, 1) := dk_get kX8_pack_ok 67 rfl
theorem dX8_pack_129 : decode cX8_pack 129 = .ok (.ladd, 1) := dk_get kX8_pack_ok 68 rfl
theorem dX8_pack_130 : decode cX8_pack 130 = .ok (.putfield 94, 3) := dk_get kX8_pack_ok 69 rfl
theorem dX8_pack_133 : decode cX8_pack 133 = .ok (.iload_n 2, 1) := dk_get kX8_pack_ok 70 rfl
theorem dX8_pack_134 : decode cX8_pack 134 = .ok (.iload_n 1, 1) := dk_get kX8_pack_ok 71 rfl
theorem dX8_pack_135 : decode cX8_pack 135 = .ok (.if_icmp .ne 15, 3) := dk_get kX8_pack_ok 72 rfl
theorem dX8_pack_138 : decode cX8_pack 138 = .ok (.aload_n 0, 1) := dk_get kX8_pack_ok 73 rfl
theorem dX8_pack_139 : decode cX8_pack 139 = .ok (.iload 4, 2) := dk_get kX8_pack_ok 74 rfl
theorem dX8_pack_141 : decode cX8_pack 141 = .ok (.iload 5, 2) := dk_get kX8_pack_ok 75 rfl
theorem dX8_pack_143 : decode cX8_pack 143 = .ok (.iload 6, 2) := dk_get kX8_pack_ok 76 rfl
theorem dX8_pack_145 : decode cX8_pack 145 = .ok (.iload 7, 2) := dk_get kX8_pack_ok 77 rfl
theorem dX8_pack_147 : decode cX8_pack 147 = .ok (.invokevirtual 97, 3) := dk_get kX8_pack_ok 78 rfl
theorem dX8_pack_150 : decode cX8_pack 150 = .ok (.iinc 2 1, 3) := dk_get kX8_pack_ok 79 rfl
theorem dX8_pack_153 : decode cX8_pack 153 = .ok (.iinc 6 1, 3) := dk_get kX8_pack_ok 80 rfl
theorem dX8_pack_156 : decode cX8_pack 156 = .ok (.goto (-95), 3) := dk_get kX8_pack_ok 81 rfl
theorem dX8_pack_159 : decode cX8_pack 159 = .ok (.iinc 5 1, 3) := dk_get kX8_pack_ok 82 rfl
theorem dX8_pack_162 : decode cX8_pack 162 = .ok (.goto (-113), 3) := dk_get kX8_pack_ok 83 rfl
theorem dX8_pack_165 : decode cX8_pack 165 = .ok (.iinc 4 1, 3) := dk_get kX8_pack_ok 84 rfl
theorem dX8_pack_168 : decode cX8_pack 168 = .ok (.goto (-131), 3) := dk_get kX8_pack_ok 85 rfl
theorem dX8_pack_171 : decode cX8_pack 171 = .ok (.return_, 1) := dk_get kX8_pack_ok 86 rfl
def kX8_remember : List (Nat × Instr × Nat) := [(0, .aload_n 0, 1), (1, .getfield 18, 3), (4, .iconst 0, 1), (5, .iload_n 1, 1), (6, .iastore, 1), (7, .aload_n 0, 1), (8, .getfield 18, 3), (11, .iconst 1, 1), (12, .iload_n 2, 1), (13, .iastore, 1), (14, .aload_n 0, 1), (15, .getfield 18, 3), (18, .iconst 2, 1), (19, .iload_n 3, 1), (20, .iastore, 1), (21, .aload_n 0, 1), (22, .getfield 18, 3), (25, .iconst 3, 1), (26, .iload 4, 2), (28, .iastore, 1), (29, .return_, 1)]
set_option maxRecDepth 100000 in
theorem kX8_remember_ok : kX8_remember.all (fun q => decide (decode cX8_remember q.1 = .ok q.2)) = true := by decide +kernel
theorem dX8_remember_0 : decode cX8_remember 0 = .ok (.aload_n 0, 1) := dk_get kX8_remember_ok 0 rfl
theorem dX8_remember_1 : decode cX8_remember 1 = .ok (.getfield 18, 3) := dk_get kX8_remember_ok 1 rfl
theorem dX8_remember_4 : decode cX8_remember 4 = .ok (.iconst 0, 1) := dk_get kX8_remember_ok 2 rfl
theorem dX8_remember_5 : decode cX8_remember 5 = .ok (.iload_n 1, 1) := dk_get kX8_remember_ok 3 rfl
theorem dX8_remember_6 : decode cX8_remember 6 = .ok (.iastore, 1) := dk_get kX8_remember_ok 4 rfl
theorem dX8_remember_7 : decode cX8_remember 7 = .ok (.aload_n 0, 1) := dk_get kX8_remember_ok 5 rfl
theorem dX8_remember_8 : decode cX8_remember 8 = .ok (.getfield 18, 3) := dk_get kX8_remember_ok 6 rfl
theorem dX8_remember_11 : decode cX8_remember 11 = .ok (.iconst 1, 1) := dk_get kX8_remember_ok 7 rfl
theorem dX8_remember_12 : decode cX8_remember 12 = .ok (.iload_n 2, 1) := dk_get kX8_remember_ok 8 rfl
theorem dX8_remember_13 : decode cX8_remember 13 = .ok (.iastore, 1) := dk_get kX8_remember_ok 9 rfl
theorem dX8_remember_14 : decode cX8_remember 14 = .ok (.aload_n 0, 1) := dk_get kX8_remember_ok 10 rfl
theorem dX8_remember_15 : decode cX8_remember 15 = .ok (.getfield 18, 3) := dk_get kX8_remember_ok 11 rfl
theorem dX8_remember_18 : decode cX8_remember 18 = .ok (.iconst 2, 1) := dk_get kX8_remember_ok 12 rfl
theorem dX8_remember_19 : decode cX8_remember 19 = .ok (.iload_n 3, 1) := dk_get kX8_remember_ok 13 rfl
theorem dX8_remember_20 : decode cX8_remember 20 = .ok (.iastore, 1) := dk_get kX8_remember_ok 14 rfl
theorem dX8_remember_21 : decode cX8_remember 21 = .ok (.aload_n 0, 1) := dk_get kX8_remember_ok 15 rfl
theorem dX8_remember_22 : decode cX8_remember 22 = .ok (.getfield 18, 3) := dk_get kX8_remember_ok 16 rfl
theorem dX8_remember_25 : decode cX8_remember 25 = .ok (.iconst 3, 1) := dk_get kX8_remember_ok 17 rfl
theorem dX8_remember_26 : decode cX8_remember 26 = .ok (.iload 4, 2) := dk_get kX8_remember_ok 18 rfl
theorem dX8_remember_28 : decode cX8_remember 28 = .ok (.iastore, 1) := dk_get kX8_remember_ok 19 rfl
theorem dX8_remember_29 : decode cX8_remember 29 = .ok (.return_, 1) := dk_get kX8_remember_ok 20 rfl
def kX8_hit : List (Nat × Instr × Nat) := [(0, .aload_n 0, 1), (1, .getfield 18, 3), (4, .iload_n 1, 1), (5, .iaload, 1), (6, .ireturn, 1)]
set_option maxRecDepth 100000 in
theorem kX8_hit_ok : kX8_hit.all (fun q => decide (decode cX8_hit q.1 = .ok q.2)) = true := by decide +kernel
theorem dX8_hit_0 : decode cX8_hit 0 = .ok (.aload_n 0, 1) := dk_get kX8_hit_ok 0 rfl
theorem dX8_hit_1 : decode cX8_hit 1 = .ok (.getfield 18, 3) := dk_get kX8_hit_ok 1 rfl
theorem dX8_hit_4 : decode cX8_hit 4 = .ok (.iload_n 1, 1) := dk_get kX8_hit_ok 2 rfl
theorem dX8_hit_5 : decode cX8_hit 5 = .ok (.iaload, 1) := dk_get kX8_hit_ok 3 rfl
theorem dX8_hit_6 : decode cX8_hit 6 = .ok (.ireturn, 1) := dk_get kX8_hit_ok 4 rfl
def kX9_init : List (Nat × Instr × Nat) := [(0, .aload_n 0, 1), (1, .invokespecial 3, 3), (4, .aload_n 0, 1), (5, .bipush 16, 2), (7, .newarray .int, 2), (9, .putfield 9, 3), (12, .aload_n 0, 1), (13, .bipush 17, 2), (15, .newarray .int, 2), (17, .putfield 15, 3), (20, .aload_n 0, 1), (21, .bipush 16, 2), (23, .newarray .int, 2), (25, .putfield 18, 3), (28, .aload_n 0, 1), (29, .sipush 400, 3), (32, .newarray .int, 2), (34, .putfield 21, 3), (37, .aload_n 0, 1), (38, .sipush 400, 3), (41, .newarray .int, 2), (43, .putfield 24, 3), (46, .aload_n 0, 1), (47, .bipush 64, 2), (49, .newarray .int, 2), (51, .putfield 27, 3), (54, .return_, 1)]
set_option maxRecDepth 100000 in
theorem kX9_init_ok : kX9_init.all (fun q => decide (decode cX9_init q.1 = .ok q.2)) = true := by decide +kernel
theorem dX9_init_0 : decode cX9_init 0 = .ok (.aload_n 0, 1) := dk_get kX9_init_ok 0 rfl
theorem dX9_init_1 : decode cX9_init 1 = .ok (.invokespecial 3, 3) := dk_get kX9_init_ok 1 rfl
theorem dX9_init_4 : decode cX9_init 4 = .ok (.aload_n 0, 1) := dk_get kX9_init_ok 2 rfl
theorem dX9_init_5 : decode cX9_init 5 = .ok (.bipush 16, 2) := dk_get kX9_init_ok 3 rfl
theorem dX9_init_7 : decode cX9_init 7 = .ok (.newarray .int, 2) := dk_get kX9_init_ok 4 rfl
theorem dX9_init_9 : decode cX9_init 9 = .ok (.putfield 9, 3) := dk_get kX9_init_ok 5 rfl
theorem dX9_init_12 : decode cX9_init 12 = .ok (.aload_n 0, 1) := dk_get kX9_init_ok 6 rfl
theorem dX9_init_13 : decode cX9_init 13 = .ok (.bipush 17, 2) := dk_get kX9_init_ok 7 rfl
theorem dX9_init_15 : decode cX9_init 15 = .ok (.newarray .int, 2) := dk_get kX9_init_ok 8 rfl
theorem dX9_init_17 : decode cX9_init 17 = .ok (.putfield 15, 3) := dk_get kX9_init_ok 9 rfl
theorem dX9_init_20 : decode cX9_init 20 = .ok (.aload_n 0, 1) := dk_get kX9_init_ok 10 rfl
theorem dX9_init_21 : decode cX9_init 21 = .ok (.bipush 16, 2) := dk_get kX9_init_ok 11 rfl
theorem dX9_init_23 : decode cX9_init 23 = .ok (.newarray .int, 2) := dk_get kX9_init_ok 12 rfl
theorem dX9_init_25 : decode cX9_init 25 = .ok (.putfield 18, 3) := dk_get kX9_init_ok 13 rfl
theorem dX9_init_28 : decode cX9_init 28 = .ok (.aload_n 0, 1) := dk_get kX9_init_ok 14 rfl
theorem dX9_init_29 : decode cX9_init 29 = .ok (.sipush 400, 3) := dk_get kX9_init_ok 15 rfl
theorem dX9_init_32 : decode cX9_init 32 = .ok (.newarray .int, 2) := dk_get kX9_init_ok 16 rfl
theorem dX9_init_34 : decode cX9_init 34 = .ok (.putfield 21, 3) := dk_get kX9_init_ok 17 rfl
theorem dX9_init_37 : decode cX9_init 37 = .ok (.aload_n 0, 1) := dk_get kX9_init_ok 18 rfl
theorem dX9_init_38 : decode cX9_init 38 = .ok (.sipush 400, 3) := dk_get kX9_init_ok 19 rfl
theorem dX9_init_41 : decode cX9_init 41 = .ok (.newarray .int, 2) := dk_get kX9_init_ok 20 rfl
theorem dX9_init_43 : decode cX9_init 43 = .ok (.putfield 24, 3) := dk_get kX9_init_ok 21 rfl
theorem dX9_init_46 : decode cX9_init 46 = .ok (.aload_n 0, 1) := dk_get kX9_init_ok 22 rfl
theorem dX9_init_47 : decode cX9_init 47 = .ok (.bipush 64, 2) := dk_get kX9_init_ok 23 rfl
theorem dX9_init_49 : decode cX9_init 49 = .ok (.newarray .int, 2) := dk_get kX9_init_ok 24 rfl
theorem dX9_init_51 : decode cX9_init 51 = .ok (.putfield 27, 3) := dk_get kX9_init_ok 25 rfl
theorem dX9_init_54 : decode cX9_init 54 = .ok (.return_, 1) := dk_get kX9_init_ok 26 rfl
def kX9_clear : List (Nat × Instr × Nat) := [(0, .aload_n 0, 1), (1, .iconst 0, 1), (2, .putfield 30, 3), (5, .aload_n 0, 1), (6, .iconst 0, 1), (7, .putfield 34, 3), (10, .return_, 1)]
set_option maxRecDepth 100000 in
theorem kX9_clear_ok : kX9_clear.all (fun q => decide (decode cX9_clear q.1 = .ok q.2)) = true := by decide +kernel
theorem dX9_clear_0 : decode cX9_clear 0 = .ok (.aload_n 0, 1) := dk_get kX9_clear_ok 0 rfl
theorem dX9_clear_1 : decode cX9_clear 1 = .ok (.iconst 0, 1) := dk_get kX9_clear_ok 1 rfl
theorem dX9_clear_2 : decode cX9_clear 2 = .ok (.putfield 30, 3) := dk_get kX9_clear_ok 2 rfl
theorem dX9_clear_5 : decode cX9_clear 5 = .ok (.aload_n 0, 1) := dk_get kX9_clear_ok 3 rfl
theorem dX9_clear_6 : decode cX9_clear 6 = .ok (.iconst 0, 1) := dk_get kX9_clear_ok 4 rfl
theorem dX9_clear_7 : decode cX9_clear 7 = .ok (.putfield 34, 3) := dk_get kX9_clear_ok 5 rfl
theorem dX9_clear_10 : decode cX9_clear 10 = .ok (.return_, 1) := dk_get kX9_clear_ok 6 rfl
def kX9_isFull : List (Nat × Instr × Nat) := [(0, .aload_n 0, 1), (1, .getfield 30, 3), (4, .bipush 16, 2), (6, .if_icmp .lt 7, 3), (9, .iconst 1, 1), (10, .goto 4, 3), (13, .iconst 0, 1), (14, .ireturn, 1)]
set_option maxRecDepth 100000 in
theorem kX9_isFull_ok : kX9_isFull.all (fun q => decide (decode cX9_isFull q.1 = .ok q.2)) = true := by decide +kernel
theorem dX9_isFull_0 : decode cX9_isFull 0 = .ok (.aload_n 0, 1) := dk_get kX9_isFull_ok 0 rfl
theorem dX9_isFull_1 : decode cX9_isFull 1 = .ok (.getfield 30, 3) := dk_get kX9_isFull_ok 1 rfl
theorem dX9_isFull_4 : decode cX9_isFull 4 = .ok (.bipush 16, 2) := dk_get kX9_isFull_ok 2 rfl
theorem dX9_isFull_6 : decode cX9_isFull 6 = .ok (.if_icmp .lt 7, 3) := dk_get kX9_isFull_ok 3 rfl
theorem dX9_isFull_9 : decode cX9_isFull 9 = .ok (.iconst 1, 1) := dk_get kX9_isFull_ok 4 rfl
theorem dX9_isFull_10 : decode cX9_isFull 10 = .ok (.goto 4, 3) := dk_get kX9_isFull_ok 5 rfl
theorem dX9_isFull_13 : decode cX9_isFull 13 = .ok (.iconst 0, 1) := dk_get kX9_isFull_ok 6 rfl
theorem dX9_isFull_14 : decode cX9_isFull 14 = .ok (.ireturn, 1) := dk_get kX9_isFull_ok 7 rfl
def kX9_emit : List (Nat × Instr × Nat) := [(0, .aload_n 0, 1), (1, .getfield 34, 3), (4, .sipush 400, 3), (7, .if_icmp .ge 33, 3), (10, .aload_n 0, 1), (11, .getfield 21, 3), (14, .aload_n 0, 1), (15, .getfield 34, 3), (18, .iload_n 1, 1), (19, .iastore, 1), (20, .aload_n 0, 1), (21, .getfield 24, 3), (24, .aload_n 0, 1), (25, .getfield 34, 3), (28, .iload_n 2, 1), (29, .iastore, 1), (30, .aload_n 0, 1), (31, .dup, 1), (32, .getfield 34, 3), (35, .iconst 1, 1), (36, .iadd, 1), (37, .putfield 34, 3), (40, .return_, 1)]
set_option maxRecDepth 100000 in
theorem kX9_emit_ok : kX9_emit.all (fun q => decide (decode cX9_emit q.1 = .ok q.2)) = true := by decide +kernel
theorem dX9_emit_0 : decode cX9_emit 0 = .ok (.aload_n 0, 1) := dk_get kX9_emit_ok 0 rfl
theorem dX9_emit_1 : decode cX9_emit 1 = .ok (.getfield 34, 3) := dk_get kX9_emit_ok 1 rfl
theorem dX9_emit_4 : decode cX9_emit 4 = .ok (.sipush 400, 3) := dk_get kX9_emit_ok 2 rfl
theorem dX9_emit_7 : decode cX9_emit 7 = .ok (.if_icmp .ge 33, 3) := dk_get kX9_emit_ok 3 rfl
theorem dX9_emit_10 : decode cX9_emit 10 = .ok (.aload_n 0, 1) := dk_get kX9_emit_ok 4 rfl
theorem dX9_emit_11 : decode cX9_emit 11 = .ok (.getfield 21, 3) := dk_get kX9_emit_ok 5 rfl
theorem dX9_emit_14 : decode cX9_emit 14 = .ok (.aload_n 0, 1) := dk_get kX9_emit_ok 6 rfl
theorem dX9_emit_15 : decode cX9_emit 15 = .ok (.getfield 34, 3) := dk_get kX9_emit_ok 7 rfl
theorem dX9_emit_18 : decode cX9_emit 18 = .ok (.iload_n 1, 1) := dk_get kX9_emit_ok 8 rfl
theorem dX9_emit_19 : decode cX9_emit 19 = .ok (.iastore, 1) := dk_get kX9_emit_ok 9 rfl
theorem dX9_emit_20 : decode cX9_emit 20 = .ok (.aload_n 0, 1) := dk_get kX9_emit_ok 10 rfl
theorem dX9_emit_21 : decode cX9_emit 21 = .ok (.getfield 24, 3) := dk_get kX9_emit_ok 11 rfl
theorem dX9_emit_24 : decode cX9_emit 24 = .ok (.aload_n 0, 1) := dk_get kX9_emit_ok 12 rfl
theorem dX9_emit_25 : decode cX9_emit 25 = .ok (.getfield 34, 3) := dk_get kX9_emit_ok 13 rfl
theorem dX9_emit_28 : decode cX9_emit 28 = .ok (.iload_n 2, 1) := dk_get kX9_emit_ok 14 rfl
theorem dX9_emit_29 : decode cX9_emit 29 = .ok (.iastore, 1) := dk_get kX9_emit_ok 15 rfl
theorem dX9_emit_30 : decode cX9_emit 30 = .ok (.aload_n 0, 1) := dk_get kX9_emit_ok 16 rfl
theorem dX9_emit_31 : decode cX9_emit 31 = .ok (.dup, 1) := dk_get kX9_emit_ok 17 rfl
theorem dX9_emit_32 : decode cX9_emit 32 = .ok (.getfield 34, 3) := dk_get kX9_emit_ok 18 rfl
theorem dX9_emit_35 : decode cX9_emit 35 = .ok (.iconst 1, 1) := dk_get kX9_emit_ok 19 rfl
theorem dX9_emit_36 : decode cX9_emit 36 = .ok (.iadd, 1) := dk_get kX9_emit_ok 20 rfl
theorem dX9_emit_37 : decode cX9_emit 37 = .ok (.putfield 34, 3) := dk_get kX9_emit_ok 21 rfl
theorem dX9_emit_40 : decode cX9_emit 40 = .ok (.return_, 1) := dk_get kX9_emit_ok 22 rfl
def kX9_open : List (Nat × Instr × Nat) := [(0, .aload_n 0, 1), (1, .getfield 9, 3), (4, .aload_n 0, 1), (5, .getfield 30, 3), (8, .iload_n 1, 1), (9, .iastore, 1), (10, .aload_n 0, 1), (11, .getfield 15, 3), (14, .aload_n 0, 1), (15, .getfield 30, 3), (18, .aload_n 0, 1), (19, .getfield 34, 3), (22, .iastore, 1), (23, .return_, 1)]
set_option maxRecDepth 100000 in
theorem kX9_open_ok : kX9_open.all (fun q => decide (decode cX9_open q.1 = .ok q.2)) = true := by decide +kernel
theorem dX9_open_0 : decode cX9_open 0 = .ok (.aload_n 0, 1) := dk_get kX9_open_ok 0 rfl
theorem dX9_open_1 : decode cX9_open 1 = .ok (.getfield 9, 3) := dk_get kX9_open_ok 1 rfl
theorem dX9_open_4 : decode cX9_open 4 = .ok (.aload_n 0, 1) := dk_get kX9_open_ok 2 rfl
theorem dX9_open_5 : decode cX9_open 5 = .ok (.getfield 30, 3) := dk_get kX9_open_ok 3 rfl
theorem dX9_open_8 : decode cX9_open 8 = .ok (.iload_n 1, 1) := dk_get kX9_open_ok 4 rfl
theorem dX9_open_9 : decode cX9_open 9 = .ok (.iastore, 1) := dk_get kX9_open_ok 5 rfl
theorem dX9_open_10 : decode cX9_open 10 = .ok (.aload_n 0, 1) := dk_get kX9_open_ok 6 rfl
theorem dX9_open_11 : decode cX9_open 11 = .ok (.getfield 15, 3) := dk_get kX9_open_ok 7 rfl
theorem dX9_open_14 : decode cX9_open 14 = .ok (.aload_n 0, 1) := dk_get kX9_open_ok 8 rfl
theorem dX9_open_15 : decode cX9_open 15 = .ok (.getfield 30, 3) := dk_get kX9_open_ok 9 rfl
theorem dX9_open_18 : decode cX9_open 18 = .ok (.aload_n 0, 1) := dk_get kX9_open_ok 10 rfl
theorem dX9_open_19 : decode cX9_open 19 = .ok (.getfield 34, 3) := dk_get kX9_open_ok 11 rfl
theorem dX9_open_22 : decode cX9_open 22 = .ok (.iastore, 1) := dk_get kX9_open_ok 12 rfl
theorem dX9_open_23 : decode cX9_open 23 = .ok (.return_, 1) := dk_get kX9_open_ok 13 rfl
def kX9_beginCondition : List (Nat × Instr × Nat) := [(0, .aload_n 0, 1), (1, .getfield 18, 3), (4, .aload_n 0, 1), (5, .getfield 30, 3), (8, .aload_n 0, 1), (9, .getfield 34, 3), (12, .iastore, 1), (13, .return_, 1)]
set_option maxRecDepth 100000 in
theorem kX9_beginCondition_ok : kX9_beginCondition.all (fun q => decide (decode cX9_beginCondition q.1 = .ok q.2)) = true := by decide +kernel
theorem dX9_beginCondition_0 : decode cX9_beginCondition 0 = .ok (.aload_n 0, 1) := dk_get kX9_beginCondition_ok 0 rfl
theorem dX9_beginCondition_1 : decode cX9_beginCondition 1 = .ok (.getfield 18, 3) := dk_get kX9_beginCondition_ok 1 rfl
theorem dX9_beginCondition_4 : decode cX9_beginCondition 4 = .ok (.aload_n 0, 1) := dk_get kX9_beginCondition_ok 2 rfl
theorem dX9_beginCondition_5 : decode cX9_beginCondition 5 = .ok (.getfield 30, 3) := dk_get kX9_beginCondition_ok 3 rfl
theorem dX9_beginCondition_8 : decode cX9_beginCondition 8 = .ok (.aload_n 0, 1) := dk_get kX9_beginCondition_ok 4 rfl
theorem dX9_beginCondition_9 : decode cX9_beginCondition 9 = .ok (.getfield 34, 3) := dk_get kX9_beginCondition_ok 5 rfl
theorem dX9_beginCondition_12 : decode cX9_beginCondition 12 = .ok (.iastore, 1) := dk_get kX9_beginCondition_ok 6 rfl
theorem dX9_beginCondition_13 : decode cX9_beginCondition 13 = .ok (.return_, 1) := dk_get kX9_beginCondition_ok 7 rfl
def kX9_close : List (Nat × Instr × Nat) := [(0, .aload_n 0, 1), (1, .dup, 1), (2, .getfield 30, 3), (5, .iconst 1, 1), (6, .iadd, 1), (7, .putfield 30, 3), (10, .aload_n 0, 1), (11, .getfield 15, 3), (14, .aload_n 0, 1), (15, .getfield 30, 3), (18, .aload_n 0, 1), (19, .getfield 34, 3), (22, .iastore, 1), (23, .return_, 1)]
set_option maxRecDepth 100000 in
theorem kX9_close_ok : kX9_close.all (fun q => decide (decode cX9_close q.1 = .ok q.2)) = true := by decide +kernel
theorem dX9_close_0 : decode cX9_close 0 = .ok (.aload_n 0, 1) := dk_get kX9_close_ok 0 rfl
theorem dX9_close_1 : decode cX9_close 1 = .ok (.dup, 1) := dk_get kX9_close_ok 1 rfl
theorem dX9_close_2 : decode cX9_close 2 = .ok (.getfield 30, 3) := dk_get kX9_close_ok 2 rfl
theorem dX9_close_5 : decode cX9_close 5 = .ok (.iconst 1, 1) := dk_get kX9_close_ok 3 rfl
theorem dX9_close_6 : decode cX9_close 6 = .ok (.iadd, 1) := dk_get kX9_close_ok 4 rfl
theorem dX9_close_7 : decode cX9_close 7 = .ok (.putfield 30, 3) := dk_get kX9_close_ok 5 rfl
theorem dX9_close_10 : decode cX9_close 10 = .ok (.aload_n 0, 1) := dk_get kX9_close_ok 6 rfl
theorem dX9_close_11 : decode cX9_close 11 = .ok (.getfield 15, 3) := dk_get kX9_close_ok 7 rfl
theorem dX9_close_14 : decode cX9_close 14 = .ok (.aload_n 0, 1) := dk_get kX9_close_ok 8 rfl
theorem dX9_close_15 : decode cX9_close 15 = .ok (.getfield 30, 3) := dk_get kX9_close_ok 9 rfl
theorem dX9_close_18 : decode cX9_close 18 = .ok (.aload_n 0, 1) := dk_get kX9_close_ok 10 rfl
theorem dX9_close_19 : decode cX9_close 19 = .ok (.getfield 34, 3) := dk_get kX9_close_ok 11 rfl
theorem dX9_close_22 : decode cX9_close 22 = .ok (.iastore, 1) := dk_get kX9_close_ok 12 rfl
theorem dX9_close_23 : decode cX9_close 23 = .ok (.return_, 1) := dk_get kX9_close_ok 13 rfl
def kX9_judge : List (Nat × Instr × Nat) := [(0, .aload_n 0, 1), (1, .iconst 0, 1), (2, .putfield 37, 3), (5, .aload_n 0, 1), (6, .iconst 0, 1), (7, .putfield 40, 3), (10, .aload_n 0, 1), (11, .iconst 0, 1), (12, .putfield 43, 3), (15, .aload_n 0, 1), (16, .aload_n 1, 1), (17, .invokevirtual 47, 3), (20, .istore_n 2, 1), (21, .aload_n 0, 1), (22, .iload_n 2, 1), (23, .ifCond .eq 14, 3), (26, .aload_n 0, 1), (27, .getfield 40, 3), (30, .ifCond .ne 7, 3), (33, .iconst 1, 1), (34, .goto 4, 3), (37, .iconst 0, 1), (38, .putfield 51, 3), (41, .aload_n 0, 1), (42, .getfield 51, 3), (45, .ifCond .ne 8, 3), (48, .aload_n 0, 1), (49, .aload_n 1, 1), (50, .invokevirtual 54, 3), (53, .aload_n 0, 1), (54, .sipush (-10000), 3), (57, .sipush 10000, 3), (60, .aload_n 0, 1), (61, .getfield 37, 3), (64, .invokestatic 58, 3), (67, .invokestatic 64, 3), (70, .putfield 37, 3), (73, .return_, 1)]
set_option maxRecDepth 100000 in
theorem kX9_judge_ok : kX9_judge.all (fun q => decide (decode cX9_judge q.1 = .ok q.2)) = true := by decide +kernel
theorem dX9_judge_0 : decode cX9_judge 0 = .ok (.aload_n 0, 1) := dk_get kX9_judge_ok 0 rfl
theorem dX9_judge_1 : decode cX9_judge 1 = .ok (.iconst 0, 1) := dk_get kX9_judge_ok 1 rfl
theorem dX9_judge_2 : decode cX9_judge 2 = .ok (.putfield 37, 3) := dk_get kX9_judge_ok 2 rfl
theorem dX9_judge_5 : decode cX9_judge 5 = .ok (.aload_n 0, 1) := dk_get kX9_judge_ok 3 rfl
theorem dX9_judge_6 : decode cX9_judge 6 = .ok (.iconst 0, 1) := dk_get kX9_judge_ok 4 rfl
theorem dX9_judge_7 : decode cX9_judge 7 = .ok (.putfield 40, 3) := dk_get kX9_judge_ok 5 rfl
theorem dX9_judge_10 : decode cX9_judge 10 = .ok (.aload_n 0, 1) := dk_get kX9_judge_ok 6 rfl
theorem dX9_judge_11 : decode cX9_judge 11 = .ok (.iconst 0, 1) := dk_get kX9_judge_ok 7 rfl
theorem dX9_judge_12 : decode cX9_judge 12 = .ok (.putfield 43, 3) := dk_get kX9_judge_ok 8 rfl
theorem dX9_judge_15 : decode cX9_judge 15 = .ok (.aload_n 0, 1) := dk_get kX9_judge_ok 9 rfl
theorem dX9_judge_16 : decode cX9_judge 16 = .ok (.aload_n 1, 1) := dk_get kX9_judge_ok 10 rfl
theorem dX9_judge_17 : decode cX9_judge 17 = .ok (.invokevirtual 47, 3) := dk_get kX9_judge_ok 11 rfl
theorem dX9_judge_20 : decode cX9_judge 20 = .ok (.istore_n 2, 1) := dk_get kX9_judge_ok 12 rfl
theorem dX9_judge_21 : decode cX9_judge 21 = .ok (.aload_n 0, 1) := dk_get kX9_judge_ok 13 rfl
theorem dX9_judge_22 : decode cX9_judge 22 = .ok (.iload_n 2, 1) := dk_get kX9_judge_ok 14 rfl
theorem dX9_judge_23 : decode cX9_judge 23 = .ok (.ifCond .eq 14, 3) := dk_get kX9_judge_ok 15 rfl
theorem dX9_judge_26 : decode cX9_judge 26 = .ok (.aload_n 0, 1) := dk_get kX9_judge_ok 16 rfl
theorem dX9_judge_27 : decode cX9_judge 27 = .ok (.getfield 40, 3) := dk_get kX9_judge_ok 17 rfl
theorem dX9_judge_30 : decode cX9_judge 30 = .ok (.ifCond .ne 7, 3) := dk_get kX9_judge_ok 18 rfl
theorem dX9_judge_33 : decode cX9_judge 33 = .ok (.iconst 1, 1) := dk_get kX9_judge_ok 19 rfl
theorem dX9_judge_34 : decode cX9_judge 34 = .ok (.goto 4, 3) := dk_get kX9_judge_ok 20 rfl
theorem dX9_judge_37 : decode cX9_judge 37 = .ok (.iconst 0, 1) := dk_get kX9_judge_ok 21 rfl
theorem dX9_judge_38 : decode cX9_judge 38 = .ok (.putfield 51, 3) := dk_get kX9_judge_ok 22 rfl
theorem dX9_judge_41 : decode cX9_judge 41 = .ok (.aload_n 0, 1) := dk_get kX9_judge_ok 23 rfl
theorem dX9_judge_42 : decode cX9_judge 42 = .ok (.getfield 51, 3) := dk_get kX9_judge_ok 24 rfl
theorem dX9_judge_45 : decode cX9_judge 45 = .ok (.ifCond .ne 8, 3) := dk_get kX9_judge_ok 25 rfl
theorem dX9_judge_48 : decode cX9_judge 48 = .ok (.aload_n 0, 1) := dk_get kX9_judge_ok 26 rfl
theorem dX9_judge_49 : decode cX9_judge 49 = .ok (.aload_n 1, 1) := dk_get kX9_judge_ok 27 rfl
theorem dX9_judge_50 : decode cX9_judge 50 = .ok (.invokevirtual 54, 3) := dk_get kX9_judge_ok 28 rfl
theorem dX9_judge_53 : decode cX9_judge 53 = .ok (.aload_n 0, 1) := dk_get kX9_judge_ok 29 rfl
theorem dX9_judge_54 : decode cX9_judge 54 = .ok (.sipush (-10000), 3) := dk_get kX9_judge_ok 30 rfl
theorem dX9_judge_57 : decode cX9_judge 57 = .ok (.sipush 10000, 3) := dk_get kX9_judge_ok 31 rfl
theorem dX9_judge_60 : decode cX9_judge 60 = .ok (.aload_n 0, 1) := dk_get kX9_judge_ok 32 rfl
theorem dX9_judge_61 : decode cX9_judge 61 = .ok (.getfield 37, 3) := dk_get kX9_judge_ok 33 rfl
theorem dX9_judge_64 : decode cX9_judge 64 = .ok (.invokestatic 58, 3) := dk_get kX9_judge_ok 34 rfl
theorem dX9_judge_67 : decode cX9_judge 67 = .ok (.invokestatic 64, 3) := dk_get kX9_judge_ok 35 rfl
theorem dX9_judge_70 : decode cX9_judge 70 = .ok (.putfield 37, 3) := dk_get kX9_judge_ok 36 rfl
theorem dX9_judge_73 : decode cX9_judge 73 = .ok (.return_, 1) := dk_get kX9_judge_ok 37 rfl
def kX9_workLooks : List (Nat × Instr × Nat) := [(0, .iconst 0, 1), (1, .istore_n 2, 1), (2, .iconst 0, 1), (3, .istore_n 3, 1), (4, .iload_n 3, 1), (5, .aload_n 0, 1), (6, .getfield 30, 3), (9, .if_icmp .ge 43, 3), (12, .aload_n 0, 1), (13, .getfield 9, 3), (16, .iload_n 3, 1), (17, .iaload, 1), (18, .bipush (-12), 2), (20, .if_icmp .ne 26, 3), (23, .iconst 1, 1), (24, .istore_n 2, 1), (25, .aload_n 0, 1), (26, .iload_n 3, 1), (27, .aload_n 1, 1), (28, .invokevirtual 67, 3), (31, .ifCond .eq 15, 3), (34, .aload_n 0, 1), (35, .dup, 1), (36, .getfield 40, 3), (39, .iconst 1, 1), (40, .iload_n 3, 1), (41, .ishl, 1), (42, .ior, 1), (43, .putfield 40, 3), (46, .iinc 3 1, 3), (49, .goto (-45), 3), (52, .iload_n 2, 1), (53, .ireturn, 1)]
set_option maxRecDepth 100000 in
theorem kX9_workLooks_ok : kX9_workLooks.all (fun q => decide (decode cX9_workLooks q.1 = .ok q.2)) = true := by decide +kernel
theorem dX9_workLooks_0 : decode cX9_workLooks 0 = .ok (.iconst 0, 1) := dk_get kX9_workLooks_ok 0 rfl
theorem dX9_workLooks_1 : decode cX9_workLooks 1 = .ok (.istore_n 2, 1) := dk_get kX9_workLooks_ok 1 rfl
theorem dX9_workLooks_2 : decode cX9_workLooks 2 = .ok (.iconst 0, 1) := dk_get kX9_workLooks_ok 2 rfl
theorem dX9_workLooks_3 : decode cX9_workLooks 3 = .ok (.istore_n 3, 1) := dk_get kX9_workLooks_ok 3 rfl
theorem dX9_workLooks_4 : decode cX9_workLooks 4 = .ok (.iload_n 3, 1) := dk_get kX9_workLooks_ok 4 rfl
theorem dX9_workLooks_5 : decode cX9_workLooks 5 = .ok (.aload_n 0, 1) := dk_get kX9_workLooks_ok 5 rfl
theorem dX9_workLooks_6 : decode cX9_workLooks 6 = .ok (.getfield 30, 3) := dk_get kX9_workLooks_ok 6 rfl
theorem dX9_workLooks_9 : decode cX9_workLooks 9 = .ok (.if_icmp .ge 43, 3) := dk_get kX9_workLooks_ok 7 rfl
theorem dX9_workLooks_12 : decode cX9_workLooks 12 = .ok (.aload_n 0, 1) := dk_get kX9_workLooks_ok 8 rfl
theorem dX9_workLooks_13 : decode cX9_workLooks 13 = .ok (.getfield 9, 3) := dk_get kX9_workLooks_ok 9 rfl
theorem dX9_workLooks_16 : decode cX9_workLooks 16 = .ok (.iload_n 3, 1) := dk_get kX9_workLooks_ok 10 rfl
theorem dX9_workLooks_17 : decode cX9_workLooks 17 = .ok (.iaload, 1) := dk_get kX9_workLooks_ok 11 rfl
theorem dX9_workLooks_18 : decode cX9_workLooks 18 = .ok (.bipush (-12), 2) := dk_get kX9_workLooks_ok 12 rfl
theorem dX9_workLooks_20 : decode cX9_workLooks 20 = .ok (.if_icmp .ne 26, 3) := dk_get kX9_workLooks_ok 13 rfl
theorem dX9_workLooks_23 : decode cX9_workLooks 23 = .ok (.iconst 1, 1) := dk_get kX9_workLooks_ok 14 rfl
theorem dX9_workLooks_24 : decode cX9_workLooks 24 = .ok (.istore_n 2, 1) := dk_get kX9_workLooks_ok 15 rfl
theorem dX9_workLooks_25 : decode cX9_workLooks 25 = .ok (.aload_n 0, 1) := dk_get kX9_workLooks_ok 16 rfl
theorem dX9_workLooks_26 : decode cX9_workLooks 26 = .ok (.iload_n 3, 1) := dk_get kX9_workLooks_ok 17 rfl
theorem dX9_workLooks_27 : decode cX9_workLooks 27 = .ok (.aload_n 1, 1) := dk_get kX9_workLooks_ok 18 rfl
theorem dX9_workLooks_28 : decode cX9_workLooks 28 = .ok (.invokevirtual 67, 3) := dk_get kX9_workLooks_ok 19 rfl
theorem dX9_workLooks_31 : decode cX9_workLooks 31 = .ok (.ifCond .eq 15, 3) := dk_get kX9_workLooks_ok 20 rfl
theorem dX9_workLooks_34 : decode cX9_workLooks 34 = .ok (.aload_n 0, 1) := dk_get kX9_workLooks_ok 21 rfl
theorem dX9_workLooks_35 : decode cX9_workLooks 35 = .ok (.dup, 1) := dk_get kX9_workLooks_ok 22 rfl
theorem dX9_workLooks_36 : decode cX9_workLooks 36 = .ok (.getfield 40, 3) := dk_get kX9_workLooks_ok 23 rfl
theorem dX9_workLooks_39 : decode cX9_workLooks 39 = .ok (.iconst 1, 1) := dk_get kX9_workLooks_ok 24 rfl
theorem dX9_workLooks_40 : decode cX9_workLooks 40 = .ok (.iload_n 3, 1) := dk_get kX9_workLooks_ok 25 rfl
theorem dX9_workLooks_41 : decode cX9_workLooks 41 = .ok (.ishl, 1) := dk_get kX9_workLooks_ok 26 rfl
theorem dX9_workLooks_42 : decode cX9_workLooks 42 = .ok (.ior, 1) := dk_get kX9_workLooks_ok 27 rfl
theorem dX9_workLooks_43 : decode cX9_workLooks 43 = .ok (.putfield 40, 3) := dk_get kX9_workLooks_ok 28 rfl
theorem dX9_workLooks_46 : decode cX9_workLooks 46 = .ok (.iinc 3 1, 3) := dk_get kX9_workLooks_ok 29 rfl
theorem dX9_workLooks_49 : decode cX9_workLooks 49 = .ok (.goto (-45), 3) := dk_get kX9_workLooks_ok 30 rfl
theorem dX9_workLooks_52 : decode cX9_workLooks 52 = .ok (.iload_n 2, 1) := dk_get kX9_workLooks_ok 31 rfl
theorem dX9_workLooks_53 : decode cX9_workLooks 53 = .ok (.ireturn, 1) := dk_get kX9_workLooks_ok 32 rfl
def kX9_workOthers : List (Nat × Instr × Nat) := [(0, .iconst 0, 1), (1, .istore_n 2, 1), (2, .iload_n 2, 1), (3, .aload_n 0, 1), (4, .getfield 30, 3), (7, .if_icmp .ge 111, 3), (10, .aload_n 0, 1), (11, .getfield 9, 3), (14, .iload_n 2, 1), (15, .iaload, 1), (16, .bipush (-12), 2), (18, .if_icmp .eq 94, 3), (21, .aload_n 0, 1), (22, .iload_n 2, 1), (23, .aload_n 1, 1), (24, .invokevirtual 67, 3), (27, .ifCond .ne 6, 3), (30, .goto 82, 3), (33, .aload_n 0, 1), (34, .dup, 1), (35, .getfield 40, 3), (38, .iconst 1, 1), (39, .iload_n 2, 1), (40, .ishl, 1), (41, .ior, 1), (42, .putfield 40, 3), (45, .aload_n 0, 1), (46, .getfield 9, 3), (49, .iload_n 2, 1), (50, .iaload, 1), (51, .bipush (-11), 2), (53, .if_icmp .ne 11, 3), (56, .aload_n 0, 1), (57, .iconst 1, 1), (58, .putfield 43, 3), (61, .goto 51, 3), (64, .aload_n 0, 1), (65, .aload_n 0, 1), (66, .getfield 15, 3), (69, .iload_n 2, 1), (70, .iaload, 1), (71, .aload_n 0, 1), (72, .getfield 18, 3), (75, .iload_n 2, 1), (76, .iaload, 1), (77, .aload_n 1, 1), (78, .invokevirtual 71, 3), (81, .istore_n 3, 1), (82, .aload_n 0, 1), (83, .aload_n 0, 1), (84, .getfield 9, 3), (87, .iload_n 2, 1), (88, .iaload, 1), (89, .bipush (-9), 2), (91, .if_icmp .ne 12, 3), (94, .aload_n 0, 1), (95, .getfield 37, 3), (98, .iload_n 3, 1), (99, .iadd, 1), (100, .goto 9, 3), (103, .aload_n 0, 1), (104, .getfield 37, 3), (107, .iload_n 3, 1), (108, .isub, 1), (109, .putfield 37, 3), (112, .iinc 2 1, 3), (115, .goto (-113), 3), (118, .return_, 1)]
set_option maxRecDepth 100000 in
theorem kX9_workOthers_ok : kX9_workOthers.all (fun q => decide (decode cX9_workOthers q.1 = .ok q.2)) = true := by decide +kernel
theorem dX9_workOthers_0 : decode cX9_workOthers 0 = .ok (.iconst 0, 1) := dk_get kX9_workOthers_ok 0 rfl
theorem dX9_workOthers_1 : decode cX9_workOthers 1 = .ok (.istore_n 2, 1) := dk_get kX9_workOthers_ok 1 rfl
theorem dX9_workOthers_2 : decode cX9_workOthers 2 = .ok (.iload_n 2, 1) := dk_get kX9_workOthers_ok 2 rfl
theorem dX9_workOthers_3 : decode cX9_workOthers 3 = .ok (.aload_n 0, 1) := dk_get kX9_workOthers_ok 3 rfl
theorem dX9_workOthers_4 : decode cX9_workOthers 4 = .ok (.getfield 30, 3) := dk_get kX9_workOthers_ok 4 rfl
theorem dX9_workOthers_7 : decode cX9_workOthers 7 = .ok (.if_icmp .ge 111, 3) := dk_get kX9_workOthers_ok 5 rfl
theorem dX9_workOthers_10 : decode cX9_workOthers 10 = .ok (.aload_n 0, 1) := dk_get kX9_workOthers_ok 6 rfl
theorem dX9_workOthers_11 : decode cX9_workOthers 11 = .ok (.getfield 9, 3) := dk_get kX9_workOthers_ok 7 rfl
theorem dX9_workOthers_14 : decode cX9_workOthers 14 = .ok (.iload_n 2, 1) := dk_get kX9_workOthers_ok 8 rfl
theorem dX9_workOthers_15 : decode cX9_workOthers 15 = .ok (.iaload, 1) := dk_get kX9_workOthers_ok 9 rfl
theorem dX9_workOthers_16 : decode cX9_workOthers 16 = .ok (.bipush (-12), 2) := dk_get kX9_workOthers_ok 10 rfl
theorem dX9_workOthers_18 : decode cX9_workOthers 18 = .ok (.if_icmp .eq 94, 3) := dk_get kX9_workOthers_ok 11 rfl
theorem dX9_workOthers_21 : decode cX9_workOthers 21 = .ok (.aload_n 0, 1) := dk_get kX9_workOthers_ok 12 rfl
theorem dX9_workOthers_22 : decode cX9_workOthers 22 = .ok (.iload_n 2, 1) := dk_get kX9_workOthers_ok 13 rfl
theorem dX9_workOthers_23 : decode cX9_workOthers 23 = .ok (.aload_n 1, 1) := dk_get kX9_workOthers_ok 14 rfl
theorem dX9_workOthers_24 : decode cX9_workOthers 24 = .ok (.invokevirtual 67, 3) := dk_get kX9_workOthers_ok 15 rfl
theorem dX9_workOthers_27 : decode cX9_workOthers 27 = .ok (.ifCond .ne 6, 3) := dk_get kX9_workOthers_ok 16 rfl
theorem dX9_workOthers_30 : decode cX9_workOthers 30 = .ok (.goto 82, 3) := dk_get kX9_workOthers_ok 17 rfl
theorem dX9_workOthers_33 : decode cX9_workOthers 33 = .ok (.aload_n 0, 1) := dk_get kX9_workOthers_ok 18 rfl
theorem dX9_workOthers_34 : decode cX9_workOthers 34 = .ok (.dup, 1) := dk_get kX9_workOthers_ok 19 rfl
theorem dX9_workOthers_35 : decode cX9_workOthers 35 = .ok (.getfield 40, 3) := dk_get kX9_workOthers_ok 20 rfl
theorem dX9_workOthers_38 : decode cX9_workOthers 38 = .ok (.iconst 1, 1) := dk_get kX9_workOthers_ok 21 rfl
theorem dX9_workOthers_39 : decode cX9_workOthers 39 = .ok (.iload_n 2, 1) := dk_get kX9_workOthers_ok 22 rfl
theorem dX9_workOthers_40 : decode cX9_workOthers 40 = .ok (.ishl, 1) := dk_get kX9_workOthers_ok 23 rfl
theorem dX9_workOthers_41 : decode cX9_workOthers 41 = .ok (.ior, 1) := dk_get kX9_workOthers_ok 24 rfl
theorem dX9_workOthers_42 : decode cX9_workOthers 42 = .ok (.putfield 40, 3) := dk_get kX9_workOthers_ok 25 rfl
theorem dX9_workOthers_45 : decode cX9_workOthers 45 = .ok (.aload_n 0, 1) := dk_get kX9_workOthers_ok 26 rfl
theorem dX9_workOthers_46 : decode cX9_workOthers 46 = .ok (.getfield 9, 3) := dk_get kX9_workOthers_ok 27 rfl
theorem dX9_workOthers_49 : decode cX9_workOthers 49 = .ok (.iload_n 2, 1) := dk_get kX9_workOthers_ok 28 rfl
theorem dX9_workOthers_50 : decode cX9_workOthers 50 = .ok (.iaload, 1) := dk_get kX9_workOthers_ok 29 rfl
theorem dX9_workOthers_51 : decode cX9_workOthers 51 = .ok (.bipush (-11), 2) := dk_get kX9_workOthers_ok 30 rfl
theorem dX9_workOthers_53 : decode cX9_workOthers 53 = .ok (.if_icmp .ne 11, 3) := dk_get kX9_workOthers_ok 31 rfl
theorem dX9_workOthers_56 : decode cX9_workOthers 56 = .ok (.aload_n 0, 1) := dk_get kX9_workOthers_ok 32 rfl
theorem dX9_workOthers_57 : decode cX9_workOthers 57 = .ok (.iconst 1, 1) := dk_get kX9_workOthers_ok 33 rfl
theorem dX9_workOthers_58 : decode cX9_workOthers 58 = .ok (.putfield 43, 3) := dk_get kX9_workOthers_ok 34 rfl
theorem dX9_workOthers_61 : decode cX9_workOthers 61 = .ok (.goto 51, 3) := dk_get kX9_workOthers_ok 35 rfl
theorem dX9_workOthers_64 : decode cX9_workOthers 64 = .ok (.aload_n 0, 1) := dk_get kX9_workOthers_ok 36 rfl
theorem dX9_workOthers_65 : decode cX9_workOthers 65 = .ok (.aload_n 0, 1) := dk_get kX9_workOthers_ok 37 rfl
theorem dX9_workOthers_66 : decode cX9_workOthers 66 = .ok (.getfield 15, 3) := dk_get kX9_workOthers_ok 38 rfl
theorem dX9_workOthers_69 : decode cX9_workOthers 69 = .ok (.iload_n 2, 1) := dk_get kX9_workOthers_ok 39 rfl
theorem dX9_workOthers_70 : decode cX9_workOthers 70 = .ok (.iaload, 1) := dk_get kX9_workOthers_ok 40 rfl
theorem dX9_workOthers_71 : decode cX9_workOthers 71 = .ok (.aload_n 0, 1) := dk_get kX9_workOthers_ok 41 rfl
theorem dX9_workOthers_72 : decode cX9_workOthers 72 = .ok (.getfield 18, 3) := dk_get kX9_workOthers_ok 42 rfl
theorem dX9_workOthers_75 : decode cX9_workOthers 75 = .ok (.iload_n 2, 1) := dk_get kX9_workOthers_ok 43 rfl
theorem dX9_workOthers_76 : decode cX9_workOthers 76 = .ok (.iaload, 1) := dk_get kX9_workOthers_ok 44 rfl
theorem dX9_workOthers_77 : decode cX9_workOthers 77 = .ok (.aload_n 1, 1) := dk_get kX9_workOthers_ok 45 rfl
theorem dX9_workOthers_78 : decode cX9_workOthers 78 = .ok (.invokevirtual 71, 3) := dk_get kX9_workOthers_ok 46 rfl
theorem dX9_workOthers_81 : decode cX9_workOthers 81 = .ok (.istore_n 3, 1) := dk_get kX9_workOthers_ok 47 rfl
theorem dX9_workOthers_82 : decode cX9_workOthers 82 = .ok (.aload_n 0, 1) := dk_get kX9_workOthers_ok 48 rfl
theorem dX9_workOthers_83 : decode cX9_workOthers 83 = .ok (.aload_n 0, 1) := dk_get kX9_workOthers_ok 49 rfl
theorem dX9_workOthers_84 : decode cX9_workOthers 84 = .ok (.getfield 9, 3) := dk_get kX9_workOthers_ok 50 rfl
theorem dX9_workOthers_87 : decode cX9_workOthers 87 = .ok (.iload_n 2, 1) := dk_get kX9_workOthers_ok 51 rfl
theorem dX9_workOthers_88 : decode cX9_workOthers 88 = .ok (.iaload, 1) := dk_get kX9_workOthers_ok 52 rfl
theorem dX9_workOthers_89 : decode cX9_workOthers 89 = .ok (.bipush (-9), 2) := dk_get kX9_workOthers_ok 53 rfl
theorem dX9_workOthers_91 : decode cX9_workOthers 91 = .ok (.if_icmp .ne 12, 3) := dk_get kX9_workOthers_ok 54 rfl
theorem dX9_workOthers_94 : decode cX9_workOthers 94 = .ok (.aload_n 0, 1) := dk_get kX9_workOthers_ok 55 rfl
theorem dX9_workOthers_95 : decode cX9_workOthers 95 = .ok (.getfield 37, 3) := dk_get kX9_workOthers_ok 56 rfl
theorem dX9_workOthers_98 : decode cX9_workOthers 98 = .ok (.iload_n 3, 1) := dk_get kX9_workOthers_ok 57 rfl
theorem dX9_workOthers_99 : decode cX9_workOthers 99 = .ok (.iadd, 1) := dk_get kX9_workOthers_ok 58 rfl
theorem dX9_workOthers_100 : decode cX9_workOthers 100 = .ok (.goto 9, 3) := dk_get kX9_workOthers_ok 59 rfl
theorem dX9_workOthers_103 : decode cX9_workOthers 103 = .ok (.aload_n 0, 1) := dk_get kX9_workOthers_ok 60 rfl
theorem dX9_workOthers_104 : decode cX9_workOthers 104 = .ok (.getfield 37, 3) := dk_get kX9_workOthers_ok 61 rfl
theorem dX9_workOthers_107 : decode cX9_workOthers 107 = .ok (.iload_n 3, 1) := dk_get kX9_workOthers_ok 62 rfl
theorem dX9_workOthers_108 : decode cX9_workOthers 108 = .ok (.isub, 1) := dk_get kX9_workOthers_ok 63 rfl
theorem dX9_workOthers_109 : decode cX9_workOthers 109 = .ok (.putfield 37, 3) := dk_get kX9_workOthers_ok 64 rfl
theorem dX9_workOthers_112 : decode cX9_workOthers 112 = .ok (.iinc 2 1, 3) := dk_get kX9_workOthers_ok 65 rfl
theorem dX9_workOthers_115 : decode cX9_workOthers 115 = .ok (.goto (-113), 3) := dk_get kX9_workOthers_ok 66 rfl
theorem dX9_workOthers_118 : decode cX9_workOthers 118 = .ok (.return_, 1) := dk_get kX9_workOthers_ok 67 rfl
def kX9_applies : List (Nat × Instr × Nat) := [(0, .aload_n 0, 1), (1, .getfield 18, 3), (4, .iload_n 1, 1), (5, .iaload, 1), (6, .aload_n 0, 1), (7, .getfield 15, 3), (10, .iload_n 1, 1), (11, .iconst 1, 1), (12, .iadd, 1), (13, .iaload, 1), (14, .if_icmp .ne 7, 3), (17, .iconst 1, 1), (18, .goto 4, 3), (21, .iconst 0, 1), (22, .istore_n 3, 1), (23, .iload_n 3, 1), (24, .ifCond .ne 25, 3), (27, .aload_n 0, 1), (28, .aload_n 0, 1), (29, .getfield 18, 3), (32, .iload_n 1, 1), (33, .iaload, 1), (34, .aload_n 0, 1), (35, .getfield 15, 3), (38, .iload_n 1, 1), (39, .iconst 1, 1), (40, .iadd, 1), (41, .iaload, 1), (42, .aload_n 2, 1), (43, .invokevirtual 71, 3), (46, .ifCond .eq 7, 3), (49, .iconst 1, 1), (50, .goto 4, 3), (53, .iconst 0, 1), (54, .ireturn, 1)]
set_option maxRecDepth 100000 in
theorem kX9_applies_ok : kX9_applies.all (fun q => decide (decode cX9_applies q.1 = .ok q.2)) = true := by decide +kernel
theorem dX9_applies_0 : decode cX9_applies 0 = .ok (.aload_n 0, 1) := dk_get kX9_applies_ok 0 rfl
theorem dX9_applies_1 : decode cX9_applies 1 = .ok (.getfield 18, 3) := dk_get kX9_applies_ok 1 rfl
theorem dX9_applies_4 : decode cX9_applies 4 = .ok (.iload_n 1, 1) := dk_get kX9_applies_ok 2 rfl
theorem dX9_applies_5 : decode cX9_applies 5 = .ok (.iaload, 1) := dk_get kX9_applies_ok 3 rfl
theorem dX9_applies_6 : decode cX9_applies 6 = .ok (.aload_n 0, 1) := dk_get kX9_applies_ok 4 rfl
theorem dX9_applies_7 : decode cX9_applies 7 = .ok (.getfield 15, 3) := dk_get kX9_applies_ok 5 rfl
theorem dX9_applies_10 : decode cX9_applies 10 = .ok (.iload_n 1, 1) := dk_get kX9_applies_ok 6 rfl
theorem dX9_applies_11 : decode cX9_applies 11 = .ok (.iconst 1, 1) := dk_get kX9_applies_ok 7 rfl
theorem dX9_applies_12 : decode cX9_applies 12 = .ok (.iadd, 1) := dk_get kX9_applies_ok 8 rfl
theorem dX9_applies_13 : decode cX9_applies 13 = .ok (.iaload, 1) := dk_get kX9_applies_ok 9 rfl
theorem dX9_applies_14 : decode cX9_applies 14 = .ok (.if_icmp .ne 7, 3) := dk_get kX9_applies_ok 10 rfl
theorem dX9_applies_17 : decode cX9_applies 17 = .ok (.iconst 1, 1) := dk_get kX9_applies_ok 11 rfl
theorem dX9_applies_18 : decode cX9_applies 18 = .ok (.goto 4, 3) := dk_get kX9_applies_ok 12 rfl
theorem dX9_applies_21 : decode cX9_applies 21 = .ok (.iconst 0, 1) := dk_get kX9_applies_ok 13 rfl
theorem dX9_applies_22 : decode cX9_applies 22 = .ok (.istore_n 3, 1) := dk_get kX9_applies_ok 14 rfl
theorem dX9_applies_23 : decode cX9_applies 23 = .ok (.iload_n 3, 1) := dk_get kX9_applies_ok 15 rfl
theorem dX9_applies_24 : decode cX9_applies 24 = .ok (.ifCond .ne 25, 3) := dk_get kX9_applies_ok 16 rfl
theorem dX9_applies_27 : decode cX9_applies 27 = .ok (.aload_n 0, 1) := dk_get kX9_applies_ok 17 rfl
theorem dX9_applies_28 : decode cX9_applies 28 = .ok (.aload_n 0, 1) := dk_get kX9_applies_ok 18 rfl
theorem dX9_applies_29 : decode cX9_applies 29 = .ok (.getfield 18, 3) := dk_get kX9_applies_ok 19 rfl
theorem dX9_applies_32 : decode cX9_applies 32 = .ok (.iload_n 1, 1) := dk_get kX9_applies_ok 20 rfl
theorem dX9_applies_33 : decode cX9_applies 33 = .ok (.iaload, 1) := dk_get kX9_applies_ok 21 rfl
theorem dX9_applies_34 : decode cX9_applies 34 = .ok (.aload_n 0, 1) := dk_get kX9_applies_ok 22 rfl
theorem dX9_applies_35 : decode cX9_applies 35 = .ok (.getfield 15, 3) := dk_get kX9_applies_ok 23 rfl
theorem dX9_applies_38 : decode cX9_applies 38 = .ok (.iload_n 1, 1) := dk_get kX9_applies_ok 24 rfl
theorem dX9_applies_39 : decode cX9_applies 39 = .ok (.iconst 1, 1) := dk_get kX9_applies_ok 25 rfl
theorem dX9_applies_40 : decode cX9_applies 40 = .ok (.iadd, 1) := dk_get kX9_applies_ok 26 rfl
theorem dX9_applies_41 : decode cX9_applies 41 = .ok (.iaload, 1) := dk_get kX9_applies_ok 27 rfl
theorem dX9_applies_42 : decode cX9_applies 42 = .ok (.aload_n 2, 1) := dk_get kX9_applies_ok 28 rfl
theorem dX9_applies_43 : decode cX9_applies 43 = .ok (.invokevirtual 71, 3) := dk_get kX9_applies_ok 29 rfl
theorem dX9_applies_46 : decode cX9_applies 46 = .ok (.ifCond .eq 7, 3) := dk_get kX9_applies_ok 30 rfl
theorem dX9_applies_49 : decode cX9_applies 49 = .ok (.iconst 1, 1) := dk_get kX9_applies_ok 31 rfl
theorem dX9_applies_50 : decode cX9_applies 50 = .ok (.goto 4, 3) := dk_get kX9_applies_ok 32 rfl
theorem dX9_applies_53 : decode cX9_applies 53 = .ok (.iconst 0, 1) := dk_get kX9_applies_ok 33 rfl
theorem dX9_applies_54 : decode cX9_applies 54 = .ok (.ireturn, 1) := dk_get kX9_applies_ok 34 rfl
def kX9_work : List (Nat × Instr × Nat) := [(0, .iconst 0, 1), (1, .istore 4, 2), (3, .iload_n 1, 1), (4, .istore 5, 2), (6, .iload 5, 2), (8, .iload_n 2, 1), (9, .if_icmp .ge 143, 3), (12, .aload_n 0, 1), (13, .getfield 21, 3), (16, .iload 5, 2), (18, .iaload, 1), (19, .istore 6, 2), (21, .iload 6, 2), (23, .bipush 6, 2), (25, .if_icmp .gt 44, 3), (28, .iload 4, 2), (30, .bipush 64, 2), (32, .if_icmp .ge 114, 3), (35, .aload_n 0, 1), (36, .getfield 27, 3), (39, .iload 4, 2), (41, .iload 6, 2), (43, .bipush 6, 2), (45, .if_icmp .ge 10, 3), (48, .aload_n 3, 1), (49, .iload 6, 2), (51, .iaload, 1), (52, .goto 10, 3), (55, .aload_n 0, 1), (56, .getfield 24, 3), (59, .iload 5, 2), (61, .iaload, 1), (62, .iastore, 1), (63, .iinc 4 1, 3), (66, .goto 80, 3), (69, .iload 6, 2), (71, .bipush 7, 2), (73, .if_icmp .ne 32, 3), (76, .iload 4, 2), (78, .iconst 1, 1), (79, .if_icmp .lt 67, 3), (82, .aload_n 0, 1), (83, .getfield 27, 3), (86, .iload 4, 2), (88, .iconst 1, 1), (89, .isub, 1), (90, .iconst 1, 1), (91, .aload_n 0, 1), (92, .getfield 27, 3), (95, .iload 4, 2), (97, .iconst 1, 1), (98, .isub, 1), (99, .iaload, 1), (100, .isub, 1), (101, .iastore, 1), (102, .goto 44, 3), (105, .iload 4, 2), (107, .iconst 2, 1), (108, .if_icmp .lt 38, 3), (111, .aload_n 0, 1), (112, .getfield 27, 3), (115, .iload 4, 2), (117, .iconst 2, 1), (118, .isub, 1), (119, .iload 6, 2), (121, .aload_n 0, 1), (122, .getfield 27, 3), (125, .iload 4, 2), (127, .iconst 2, 1), (128, .isub, 1), (129, .iaload, 1), (130, .aload_n 0, 1), (131, .getfield 27, 3), (134, .iload 4, 2), (136, .iconst 1, 1), (137, .isub, 1), (138, .iaload, 1), (139, .invokestatic 75, 3), (142, .iastore, 1), (143, .iinc 4 (-1), 3), (146, .iinc 5 1, 3), (149, .goto (-143), 3), (152, .iload 4, 2), (154, .iconst 1, 1), (155, .if_icmp .lt 15, 3), (158, .aload_n 0, 1), (159, .getfield 27, 3), (162, .iload 4, 2), (164, .iconst 1, 1), (165, .isub, 1), (166, .iaload, 1), (167, .goto 4, 3), (170, .iconst 0, 1), (171, .ireturn, 1)]
set_option maxRecDepth 100000 in
theorem kX9_work_ok : kX9_work.all (fun q => decide (decode cX9_work q.1 = .ok q.2)) = true := by decide +kernel
theorem dX9_work_0 : decode cX9_work 0 = .ok (.iconst 0, 1) := dk_get kX9_work_ok 0 rfl
theorem dX9_work_1 : decode cX9_work 1 = .ok (.istore 4, 2) := dk_get kX9_work_ok 1 rfl
theorem dX9_work_3 : decode cX9_work 3 = .ok (.iload_n 1, 1) := dk_get kX9_work_ok 2 rfl
theorem dX9_work_4 : decode cX9_work 4 = .ok (.istore 5, 2) := dk_get kX9_work_ok 3 rfl
theorem dX9_work_6 : decode cX9_work 6 = .ok (.iload 5, 2) := dk_get kX9_work_ok 4 rfl
theorem dX9_work_8 : decode cX9_work 8 = .ok (.iload_n 2, 1) := dk_get kX9_work_ok 5 rfl
theorem dX9_work_9 : decode cX9_work 9 = .ok (.if_icmp .ge 143, 3) := dk_get kX9_work_ok 6 rfl
theorem dX9_work_12 : decode cX9_work 12 = .ok (.aload_n 0, 1) := dk_get kX9_work_ok 7 rfl
theorem dX9_work_13 : decode cX9_work 13 = .ok (.getfield 21, 3) := dk_get kX9_work_ok 8 rfl
theorem dX9_work_16 : decode cX9_work 16 = .ok (.iload 5, 2) := dk_get kX9_work_ok 9 rfl
theorem dX9_work_18 : decode cX9_work 18 = .ok (.iaload, 1) := dk_get kX9_work_ok 10 rfl
theorem dX9_work_19 : decode cX9_work 19 = .ok (.istore 6, 2) := dk_get kX9_work_ok 11 rfl
theorem dX9_work_21 : decode cX9_work 21 = .ok (.iload 6, 2) := dk_get kX9_work_ok 12 rfl
theorem dX9_work_23 : decode cX9_work 23 = .ok (.bipush 6, 2) := dk_get kX9_work_ok 13 rfl
theorem dX9_work_25 : decode cX9_work 25 = .ok (.if_icmp .gt 44, 3) := dk_get kX9_work_ok 14 rfl
theorem dX9_work_28 : decode cX9_work 28 = .ok (.iload 4, 2) := dk_get kX9_work_ok 15 rfl
theorem dX9_work_30 : decode cX9_work 30 = .ok (.bipush 64, 2) := dk_get kX9_work_ok 16 rfl
theorem dX9_work_32 : decode cX9_work 32 = .ok (.if_icmp .ge 114, 3) := dk_get kX9_work_ok 17 rfl
theorem dX9_work_35 : decode cX9_work 35 = .ok (.aload_n 0, 1) := dk_get kX9_work_ok 18 rfl
theorem dX9_work_36 : decode cX9_work 36 = .ok (.getfield 27, 3) := dk_get kX9_work_ok 19 rfl
theorem dX9_work_39 : decode cX9_work 39 = .ok (.iload 4, 2) := dk_get kX9_work_ok 20 rfl
theorem dX9_work_41 : decode cX9_work 41 = .ok (.iload 6, 2) := dk_get kX9_work_ok 21 rfl
theorem dX9_work_43 : decode cX9_work 43 = .ok (.bipush 6, 2) := dk_get kX9_work_ok 22 rfl
theorem dX9_work_45 : decode cX9_work 45 = .ok (.if_icmp .ge 10, 3) := dk_get kX9_work_ok 23 rfl
theorem dX9_work_48 : decode cX9_work 48 = .ok (.aload_n 3, 1) := dk_get kX9_work_ok 24 rfl
theorem dX9_work_49 : decode cX9_work 49 = .ok (.iload 6, 2) := dk_get kX9_work_ok 25 rfl
theorem dX9_work_51 : decode cX9_work 51 = .ok (.iaload, 1) := dk_get kX9_work_ok 26 rfl
theorem dX9_work_52 : decode cX9_work 52 = .ok (.goto 10, 3) := dk_get kX9_work_ok 27 rfl
theorem dX9_work_55 : decode cX9_work 55 = .ok (.aload_n 0, 1) := dk_get kX9_work_ok 28 rfl
theorem dX9_work_56 : decode cX9_work 56 = .ok (.getfield 24, 3) := dk_get kX9_work_ok 29 rfl
theorem dX9_work_59 : decode cX9_work 59 = .ok (.iload 5, 2) := dk_get kX9_work_ok 30 rfl
theorem dX9_work_61 : decode cX9_work 61 = .ok (.iaload, 1) := dk_get kX9_work_ok 31 rfl
theorem dX9_work_62 : decode cX9_work 62 = .ok (.iastore, 1) := dk_get kX9_work_ok 32 rfl
theorem dX9_work_63 : decode cX9_work 63 = .ok (.iinc 4 1, 3) := dk_get kX9_work_ok 33 rfl
theorem dX9_work_66 : decode cX9_work 66 = .ok (.goto 80, 3) := dk_get kX9_work_ok 34 rfl
theorem dX9_work_69 : decode cX9_work 69 = .ok (.iload 6, 2) := dk_get kX9_work_ok 35 rfl
theorem dX9_work_71 : decode cX9_work 71 = .ok (.bipush 7, 2) := dk_get kX9_work_ok 36 rfl
theorem dX9_work_73 : decode cX9_work 73 = .ok (.if_icmp .ne 32, 3) := dk_get kX9_work_ok 37 rfl
theorem dX9_work_76 : decode cX9_work 76 = .ok (.iload 4, 2) := dk_get kX9_work_ok 38 rfl
theorem dX9_work_78 : decode cX9_work 78 = .ok (.iconst 1, 1) := dk_get kX9_work_ok 39 rfl
theorem dX9_work_79 : decode cX9_work 79 = .ok (.if_icmp .lt 67, 3) := dk_get kX9_work_ok 40 rfl
theorem dX9_work_82 : decode cX9_work 82 = .ok (.aload_n 0, 1) := dk_get kX9_work_ok 41 rfl
theorem dX9_work_83 : decode cX9_work 83 = .ok (.getfield 27, 3) := dk_get kX9_work_ok 42 rfl
theorem dX9_work_86 : decode cX9_work 86 = .ok (.iload 4, 2) := dk_get kX9_work_ok 43 rfl
theorem dX9_work_88 : decode cX9_work 88 = .ok (.iconst 1, 1) := dk_get kX9_work_ok 44 rfl
theorem dX9_work_89 : decode cX9_work 89 = .ok (.isub, 1) := dk_get kX9_work_ok 45 rfl
theorem dX9_work_90 : decode cX9_work 90 = .ok (.iconst 1, 1) := dk_get kX9_work_ok 46 rfl
theorem dX9_work_91 : decode cX9_work 91 = .ok (.aload_n 0, 1) := dk_get kX9_work_ok 47 rfl
theorem dX9_work_92 : decode cX9_work 92 = .ok (.getfield 27, 3) := dk_get kX9_work_ok 48 rfl
theorem dX9_work_95 : decode cX9_work 95 = .ok (.iload 4, 2) := dk_get kX9_work_ok 49 rfl
theorem dX9_work_97 : decode cX9_work 97 = .ok (.iconst 1, 1) := dk_get kX9_work_ok 50 rfl
theorem dX9_work_98 : decode cX9_work 98 = .ok (.isub, 1) := dk_get kX9_work_ok 51 rfl
theorem dX9_work_99 : decode cX9_work 99 = .ok (.iaload, 1) := dk_get kX9_work_ok 52 rfl
theorem dX9_work_100 : decode cX9_work 100 = .ok (.isub, 1) := dk_get kX9_work_ok 53 rfl
theorem dX9_work_101 : decode cX9_work 101 = .ok (.iastore, 1) := dk_get kX9_work_ok 54 rfl
theorem dX9_work_102 : decode cX9_work 102 = .ok (.goto 44, 3) := dk_get kX9_work_ok 55 rfl
theorem dX9_work_105 : decode cX9_work 105 = .ok (.iload 4, 2) := dk_get kX9_work_ok 56 rfl
theorem dX9_work_107 : decode cX9_work 107 = .ok (.iconst 2, 1) := dk_get kX9_work_ok 57 rfl
theorem dX9_work_108 : decode cX9_work 108 = .ok (.if_icmp .lt 38, 3) := dk_get kX9_work_ok 58 rfl
theorem dX9_work_111 : decode cX9_work 111 = .ok (.aload_n 0, 1) := dk_get kX9_work_ok 59 rfl
theorem dX9_work_112 : decode cX9_work 112 = .ok (.getfield 27, 3) := dk_get kX9_work_ok 60 rfl
theorem dX9_work_115 : decode cX9_work 115 = .ok (.iload 4, 2) := dk_get kX9_work_ok 61 rfl
theorem dX9_work_117 : decode cX9_work 117 = .ok (.iconst 2, 1) := dk_get kX9_work_ok 62 rfl
theorem dX9_work_118 : decode cX9_work 118 = .ok (.isub, 1) := dk_get kX9_work_ok 63 rfl
theorem dX9_work_119 : decode cX9_work 119 = .ok (.iload 6, 2) := dk_get kX9_work_ok 64 rfl
theorem dX9_work_121 : decode cX9_work 121 = .ok (.aload_n 0, 1) := dk_get kX9_work_ok 65 rfl
theorem dX9_work_122 : decode cX9_work 122 = .ok (.getfield 27, 3) := dk_get kX9_work_ok 66 rfl
theorem dX9_work_125 : decode cX9_work 125 = .ok (.iload 4, 2) := dk_get kX9_work_ok 67 rfl
theorem dX9_work_127 : decode cX9_work 127 = .ok (.iconst 2, 1) := dk_get kX9_work_ok 68 rfl
theorem dX9_work_128 : decode cX9_work 128 = .ok (.isub, 1) := dk_get kX9_work_ok 69 rfl
theorem dX9_work_129 : decode cX9_work 129 = .ok (.iaload, 1) := dk_get kX9_work_ok 70 rfl
theorem dX9_work_130 : decode cX9_work 130 = .ok (.aload_n 0, 1) := dk_get kX9_work_ok 71 rfl
theorem dX9_work_131 : decode cX9_work 131 = .ok (.getfield 27, 3) := dk_get kX9_work_ok 72 rfl
theorem dX9_work_134 : decode cX9_work 134 = .ok (.iload 4, 2) := dk_get kX9_work_ok 73 rfl
theorem dX9_work_136 : decode cX9_work 136 = .ok (.iconst 1, 1) := dk_get kX9_work_ok 74 rfl
theorem dX9_work_137 : decode cX9_work 137 = .ok (.isub, 1) := dk_get kX9_work_ok 75 rfl
theorem dX9_work_138 : decode cX9_work 138 = .ok (.iaload, 1) := dk_get kX9_work_ok 76 rfl
theorem dX9_work_139 : decode cX9_work 139 = .ok (.invokestatic 75, 3) := dk_get kX9_work_ok 77 rfl
theorem dX9_work_142 : decode cX9_work 142 = .ok (.iastore, 1) := dk_get kX9_work_ok 78 rfl
theorem dX9_work_143 : decode cX9_work 143 = .ok (.iinc 4 (-1), 3) := dk_get kX9_work_ok 79 rfl
theorem dX9_work_146 : decode cX9_work 146 = .ok (.iinc 5 1, 3) := dk_get kX9_work_ok 80 rfl
theorem dX9_work_149 : decode cX9_work 149 = .ok (.goto (-143), 3) := dk_get kX9_work_ok 81 rfl
theorem dX9_work_152 : decode cX9_work 152 = .ok (.iload 4, 2) := dk_get kX9_work_ok 82 rfl
theorem dX9_work_154 : decode cX9_work 154 = .ok (.iconst 1, 1) := dk_get kX9_work_ok 83 rfl
theorem dX9_work_155 : decode cX9_work 155 = .ok (.if_icmp .lt 15, 3) := dk_get kX9_work_ok 84 rfl
theorem dX9_work_158 : decode cX9_work 158 = .ok (.aload_n 0, 1) := dk_get kX9_work_ok 85 rfl
theorem dX9_work_159 : decode cX9_work 159 = .ok (.getfield 27, 3) := dk_get kX9_work_ok 86 rfl
theorem dX9_work_162 : decode cX9_work 162 = .ok (.iload 4, 2) := dk_get kX9_work_ok 87 rfl
theorem dX9_work_164 : decode cX9_work 164 = .ok (.iconst 1, 1) := dk_get kX9_work_ok 88 rfl
theorem dX9_work_165 : decode cX9_work 165 = .ok (.isub, 1) := dk_get kX9_work_ok 89 rfl
theorem dX9_work_166 : decode cX9_work 166 = .ok (.iaload, 1) := dk_get kX9_work_ok 90 rfl
theorem dX9_work_167 : decode cX9_work 167 = .ok (.goto 4, 3) := dk_get kX9_work_ok 91 rfl
theorem dX9_work_170 : decode cX9_work 170 = .ok (.iconst 0, 1) := dk_get kX9_work_ok 92 rfl
theorem dX9_work_171 : decode cX9_work 171 = .ok (.ireturn, 1) := dk_get kX9_work_ok 93 rfl
def kX9_combine : List (Nat × Instr × Nat) := [(0, .iload_n 0, 1), (1, .tableswitch 138 8 17 #[55, 59, 63, 67, 79, 90, 101, 112, 123, 134], 55), (56, .iload_n 1, 1), (57, .iload_n 2, 1), (58, .iadd, 1), (59, .ireturn, 1), (60, .iload_n 1, 1), (61, .iload_n 2, 1), (62, .isub, 1), (63, .ireturn, 1), (64, .iload_n 1, 1), (65, .iload_n 2, 1), (66, .imul, 1), (67, .ireturn, 1), (68, .iload_n 2, 1), (69, .ifCond .ne 7, 3), (72, .iconst 0, 1), (73, .goto 6, 3), (76, .iload_n 1, 1), (77, .iload_n 2, 1), (78, .idiv, 1), (79, .ireturn, 1), (80, .iload_n 1, 1), (81, .iload_n 2, 1), (82, .if_icmp .ge 7, 3), (85, .iload_n 1, 1), (86, .goto 4, 3), (89, .iload_n 2, 1), (90, .ireturn, 1), (91, .iload_n 1, 1), (92, .iload_n 2, 1), (93, .if_icmp .le 7, 3), (96, .iload_n 1, 1), (97, .goto 4, 3), (100, .iload_n 2, 1), (101, .ireturn, 1), (102, .iload_n 1, 1), (103, .iload_n 2, 1), (104, .if_icmp .ge 7, 3), (107, .iconst 1, 1), (108, .goto 4, 3), (111, .iconst 0, 1), (112, .ireturn, 1), (113, .iload_n 1, 1), (114, .iload_n 2, 1), (115, .if_icmp .le 7, 3), (118, .iconst 1, 1), (119, .goto 4, 3), (122, .iconst 0, 1), (123, .ireturn, 1), (124, .iload_n 1, 1), (125, .iload_n 2, 1), (126, .if_icmp .ne 7, 3), (129, .iconst 1, 1), (130, .goto 4, 3), (133, .iconst 0, 1), (134, .ireturn, 1), (135, .iload_n 1, 1), (136, .iload_n 2, 1), (137, .ior, 1), (138, .ireturn, 1), (139, .iload_n 1, 1), (140, .iload_n 2, 1), (141, .iand, 1), (142, .ireturn, 1)]
set_option maxRecDepth 100000 in
theorem kX9_combine_ok : kX9_combine.all (fun q => decide (decode cX9_combine q.1 = .ok q.2)) = true := by decide +kernel
theorem dX9_combine_0 : decode cX9_combine 0 = .ok (.iload_n 0, 1) := dk_get kX9_combine_ok 0 rfl
theorem dX9_combine_1 : decode cX9_combine 1 = .ok (.tableswitch 138 8 17 #[55, 59, 63, 67, 79, 90, 101, 112, 123, 134], 55) := dk_get kX9_combine_ok 1 rfl
theorem dX9_combine_56 : decode cX9_combine 56 = .ok (.iload_n 1, 1) := dk_get kX9_combine_ok 2 rfl
theorem dX9_combine_57 : decode cX9_combine 57 = .ok (.iload_n 2, 1) := dk_get kX9_combine_ok 3 rfl
theorem dX9_combine_58 : decode cX9_combine 58 = .ok (.iadd, 1) := dk_get kX9_combine_ok 4 rfl
theorem dX9_combine_59 : decode cX9_combine 59 = .ok (.ireturn, 1) := dk_get kX9_combine_ok 5 rfl
theorem dX9_combine_60 : decode cX9_combine 60 = .ok (.iload_n 1, 1) := dk_get kX9_combine_ok 6 rfl
theorem dX9_combine_61 : decode cX9_combine 61 = .ok (.iload_n 2, 1) := dk_get kX9_combine_ok 7 rfl
theorem dX9_combine_62 : decode cX9_combine 62 = .ok (.isub, 1) := dk_get kX9_combine_ok 8 rfl
theorem dX9_combine_63 : decode cX9_combine 63 = .ok (.ireturn, 1) := dk_get kX9_combine_ok 9 rfl
theorem dX9_combine_64 : decode cX9_combine 64 = .ok (.iload_n 1, 1) := dk_get kX9_combine_ok 10 rfl
theorem dX9_combine_65 : decode cX9_combine 65 = .ok (.iload_n 2, 1) := dk_get kX9_combine_ok 11 rfl
theorem dX9_combine_66 : decode cX9_combine 66 = .ok (.imul, 1) := dk_get kX9_combine_ok 12 rfl
theorem dX9_combine_67 : decode cX9_combine 67 = .ok (.ireturn, 1) := dk_get kX9_combine_ok 13 rfl
theorem dX9_combine_68 : decode cX9_combine 68 = .ok (.iload_n 2, 1) := dk_get kX9_combine_ok 14 rfl
theorem dX9_combine_69 : decode cX9_combine 69 = .ok (.ifCond .ne 7, 3) := dk_get kX9_combine_ok 15 rfl
theorem dX9_combine_72 : decode cX9_combine 72 = .ok (.iconst 0, 1) := dk_get kX9_combine_ok 16 rfl
theorem dX9_combine_73 : decode cX9_combine 73 = .ok (.goto 6, 3) := dk_get kX9_combine_ok 17 rfl
theorem dX9_combine_76 : decode cX9_combine 76 = .ok (.iload_n 1, 1) := dk_get kX9_combine_ok 18 rfl
theorem dX9_combine_77 : decode cX9_combine 77 = .ok (.iload_n 2, 1) := dk_get kX9_combine_ok 19 rfl
theorem dX9_combine_78 : decode cX9_combine 78 = .ok (.idiv, 1) := dk_get kX9_combine_ok 20 rfl
theorem dX9_combine_79 : decode cX9_combine 79 = .ok (.ireturn, 1) := dk_get kX9_combine_ok 21 rfl
theorem dX9_combine_80 : decode cX9_combine 80 = .ok (.iload_n 1, 1) := dk_get kX9_combine_ok 22 rfl
theorem dX9_combine_81 : decode cX9_combine 81 = .ok (.iload_n 2, 1) := dk_get kX9_combine_ok 23 rfl
theorem dX9_combine_82 : decode cX9_combine 82 = .ok (.if_icmp .ge 7, 3) := dk_get kX9_combine_ok 24 rfl
theorem dX9_combine_85 : decode cX9_combine 85 = .ok (.iload_n 1, 1) := dk_get kX9_combine_ok 25 rfl
theorem dX9_combine_86 : decode cX9_combine 86 = .ok (.goto 4, 3) := dk_get kX9_combine_ok 26 rfl
theorem dX9_combine_89 : decode cX9_combine 89 = .ok (.iload_n 2, 1) := dk_get kX9_combine_ok 27 rfl
theorem dX9_combine_90 : decode cX9_combine 90 = .ok (.ireturn, 1) := dk_get kX9_combine_ok 28 rfl
theorem dX9_combine_91 : decode cX9_combine 91 = .ok (.iload_n 1, 1) := dk_get kX9_combine_ok 29 rfl
theorem dX9_combine_92 : decode cX9_combine 92 = .ok (.iload_n 2, 1) := dk_get kX9_combine_ok 30 rfl
theorem dX9_combine_93 : decode cX9_combine 93 = .ok (.if_icmp .le 7, 3) := dk_get kX9_combine_ok 31 rfl
theorem dX9_combine_96 : decode cX9_combine 96 = .ok (.iload_n 1, 1) := dk_get kX9_combine_ok 32 rfl
theorem dX9_combine_97 : decode cX9_combine 97 = .ok (.goto 4, 3) := dk_get kX9_combine_ok 33 rfl
theorem dX9_combine_100 : decode cX9_combine 100 = .ok (.iload_n 2, 1) := dk_get kX9_combine_ok 34 rfl
theorem dX9_combine_101 : decode cX9_combine 101 = .ok (.ireturn, 1) := dk_get kX9_combine_ok 35 rfl
theorem dX9_combine_102 : decode cX9_combine 102 = .ok (.iload_n 1, 1) := dk_get kX9_combine_ok 36 rfl
theorem dX9_combine_103 : decode cX9_combine 103 = .ok (.iload_n 2, 1) := dk_get kX9_combine_ok 37 rfl
theorem dX9_combine_104 : decode cX9_combine 104 = .ok (.if_icmp .ge 7, 3) := dk_get kX9_combine_ok 38 rfl
theorem dX9_combine_107 : decode cX9_combine 107 = .ok (.iconst 1, 1) := dk_get kX9_combine_ok 39 rfl
theorem dX9_combine_108 : decode cX9_combine 108 = .ok (.goto 4, 3) := dk_get kX9_combine_ok 40 rfl
theorem dX9_combine_111 : decode cX9_combine 111 = .ok (.iconst 0, 1) := dk_get kX9_combine_ok 41 rfl
theorem dX9_combine_112 : decode cX9_combine 112 = .ok (.ireturn, 1) := dk_get kX9_combine_ok 42 rfl
theorem dX9_combine_113 : decode cX9_combine 113 = .ok (.iload_n 1, 1) := dk_get kX9_combine_ok 43 rfl
theorem dX9_combine_114 : decode cX9_combine 114 = .ok (.iload_n 2, 1) := dk_get kX9_combine_ok 44 rfl
theorem dX9_combine_115 : decode cX9_combine 115 = .ok (.if_icmp .le 7, 3) := dk_get kX9_combine_ok 45 rfl
theorem dX9_combine_118 : decode cX9_combine 118 = .ok (.iconst 1, 1) := dk_get kX9_combine_ok 46 rfl
theorem dX9_combine_119 : decode cX9_combine 119 = .ok (.goto 4, 3) := dk_get kX9_combine_ok 47 rfl
theorem dX9_combine_122 : decode cX9_combine 122 = .ok (.iconst 0, 1) := dk_get kX9_combine_ok 48 rfl
theorem dX9_combine_123 : decode cX9_combine 123 = .ok (.ireturn, 1) := dk_get kX9_combine_ok 49 rfl
theorem dX9_combine_124 : decode cX9_combine 124 = .ok (.iload_n 1, 1) := dk_get kX9_combine_ok 50 rfl
theorem dX9_combine_125 : decode cX9_combine 125 = .ok (.iload_n 2, 1) := dk_get kX9_combine_ok 51 rfl
theorem dX9_combine_126 : decode cX9_combine 126 = .ok (.if_icmp .ne 7, 3) := dk_get kX9_combine_ok 52 rfl
theorem dX9_combine_129 : decode cX9_combine 129 = .ok (.iconst 1, 1) := dk_get kX9_combine_ok 53 rfl
theorem dX9_combine_130 : decode cX9_combine 130 = .ok (.goto 4, 3) := dk_get kX9_combine_ok 54 rfl
theorem dX9_combine_133 : decode cX9_combine 133 = .ok (.iconst 0, 1) := dk_get kX9_combine_ok 55 rfl
theorem dX9_combine_134 : decode cX9_combine 134 = .ok (.ireturn, 1) := dk_get kX9_combine_ok 56 rfl
theorem dX9_combine_135 : decode cX9_combine 135 = .ok (.iload_n 1, 1) := dk_get kX9_combine_ok 57 rfl
theorem dX9_combine_136 : decode cX9_combine 136 = .ok (.iload_n 2, 1) := dk_get kX9_combine_ok 58 rfl
theorem dX9_combine_137 : decode cX9_combine 137 = .ok (.ior, 1) := dk_get kX9_combine_ok 59 rfl
theorem dX9_combine_138 : decode cX9_combine 138 = .ok (.ireturn, 1) := dk_get kX9_combine_ok 60 rfl
theorem dX9_combine_139 : decode cX9_combine 139 = .ok (.iload_n 1, 1) := dk_get kX9_combine_ok 61 rfl
theorem dX9_combine_140 : decode cX9_combine 140 = .ok (.iload_n 2, 1) := dk_get kX9_combine_ok 62 rfl
theorem dX9_combine_141 : decode cX9_combine 141 = .ok (.iand, 1) := dk_get kX9_combine_ok 63 rfl
theorem dX9_combine_142 : decode cX9_combine 142 = .ok (.ireturn, 1) := dk_get kX9_combine_ok 64 rfl
def kX10_init : List (Nat × Instr × Nat) := [(0, .aload_n 0, 1), (1, .invokespecial 3, 3), (4, .aload_n 0, 1), (5, .bipush 11, 2), (7, .newarray .int, 2), (9, .putfield 9, 3), (12, .aload_n 0, 1), (13, .bipush 10, 2), (15, .newarray .int, 2), (17, .putfield 15, 3), (20, .aload_n 0, 1), (21, .bipush 10, 2), (23, .newarray .int, 2), (25, .putfield 18, 3), (28, .aload_n 0, 1), (29, .bipush 10, 2), (31, .newarray .int, 2), (33, .putfield 21, 3), (36, .aload_n 0, 1), (37, .bipush 10, 2), (39, .newarray .int, 2), (41, .putfield 24, 3), (44, .aload_n 0, 1), (45, .sipush 200, 3), (48, .newarray .long, 2), (50, .putfield 27, 3), (53, .aload_n 0, 1), (54, .aload_n 1, 1), (55, .putfield 31, 3), (58, .return_, 1)]
set_option maxRecDepth 100000 in
theorem kX10_init_ok : kX10_init.all (fun q => decide (decode cX10_init q.1 = .ok q.2)) = true := by decide +kernel
theorem dX10_init_0 : decode cX10_init 0 = .ok (.aload_n 0, 1) := dk_get kX10_init_ok 0 rfl
theorem dX10_init_1 : decode cX10_init 1 = .ok (.invokespecial 3, 3) := dk_get kX10_init_ok 1 rfl
theorem dX10_init_4 : decode cX10_init 4 = .ok (.aload_n 0, 1) := dk_get kX10_init_ok 2 rfl
theorem dX10_init_5 : decode cX10_init 5 = .ok (.bipush 11, 2) := dk_get kX10_init_ok 3 rfl
theorem dX10_init_7 : decode cX10_init 7 = .ok (.newarray .int, 2) := dk_get kX10_init_ok 4 rfl
theorem dX10_init_9 : decode cX10_init 9 = .ok (.putfield 9, 3) := dk_get kX10_init_ok 5 rfl
theorem dX10_init_12 : decode cX10_init 12 = .ok (.aload_n 0, 1) := dk_get kX10_init_ok 6 rfl
theorem dX10_init_13 : decode cX10_init 13 = .ok (.bipush 10, 2) := dk_get kX10_init_ok 7 rfl
theorem dX10_init_15 : decode cX10_init 15 = .ok (.newarray .int, 2) := dk_get kX10_init_ok 8 rfl
theorem dX10_init_17 : decode cX10_init 17 = .ok (.putfield 15, 3) := dk_get kX10_init_ok 9 rfl
theorem dX10_init_20 : decode cX10_init 20 = .ok (.aload_n 0, 1) := dk_get kX10_init_ok 10 rfl
theorem dX10_init_21 : decode cX10_init 21 = .ok (.bipush 10, 2) := dk_get kX10_init_ok 11 rfl
theorem dX10_init_23 : decode cX10_init 23 = .ok (.newarray .int, 2) := dk_get kX10_init_ok 12 rfl
theorem dX10_init_25 : decode cX10_init 25 = .ok (.putfield 18, 3) := dk_get kX10_init_ok 13 rfl
theorem dX10_init_28 : decode cX10_init 28 = .ok (.aload_n 0, 1) := dk_get kX10_init_ok 14 rfl
theorem dX10_init_29 : decode cX10_init 29 = .ok (.bipush 10, 2) := dk_get kX10_init_ok 15 rfl
theorem dX10_init_31 : decode cX10_init 31 = .ok (.newarray .int, 2) := dk_get kX10_init_ok 16 rfl
theorem dX10_init_33 : decode cX10_init 33 = .ok (.putfield 21, 3) := dk_get kX10_init_ok 17 rfl
theorem dX10_init_36 : decode cX10_init 36 = .ok (.aload_n 0, 1) := dk_get kX10_init_ok 18 rfl
theorem dX10_init_37 : decode cX10_init 37 = .ok (.bipush 10, 2) := dk_get kX10_init_ok 19 rfl
theorem dX10_init_39 : decode cX10_init 39 = .ok (.newarray .int, 2) := dk_get kX10_init_ok 20 rfl
theorem dX10_init_41 : decode cX10_init 41 = .ok (.putfield 24, 3) := dk_get kX10_init_ok 21 rfl
theorem dX10_init_44 : decode cX10_init 44 = .ok (.aload_n 0, 1) := dk_get kX10_init_ok 22 rfl
theorem dX10_init_45 : decode cX10_init 45 = .ok (.sipush 200, 3) := dk_get kX10_init_ok 23 rfl
theorem dX10_init_48 : decode cX10_init 48 = .ok (.newarray .long, 2) := dk_get kX10_init_ok 24 rfl
theorem dX10_init_50 : decode cX10_init 50 = .ok (.putfield 27, 3) := dk_get kX10_init_ok 25 rfl
theorem dX10_init_53 : decode cX10_init 53 = .ok (.aload_n 0, 1) := dk_get kX10_init_ok 26 rfl
theorem dX10_init_54 : decode cX10_init 54 = .ok (.aload_n 1, 1) := dk_get kX10_init_ok 27 rfl
theorem dX10_init_55 : decode cX10_init 55 = .ok (.putfield 31, 3) := dk_get kX10_init_ok 28 rfl
theorem dX10_init_58 : decode cX10_init 58 = .ok (.return_, 1) := dk_get kX10_init_ok 29 rfl
def kX10_measure : List (Nat × Instr × Nat) := [(0, .aload_n 0, 1), (1, .iconst 0, 1), (2, .putfield 35, 3), (5, .aload_n 0, 1), (6, .ldc 39, 2), (8, .putfield 40, 3), (11, .aload_n 0, 1), (12, .iconst 0, 1), (13, .putfield 43, 3), (16, .aload_n 0, 1), (17, .getfield 9, 3), (20, .aload_n 0, 1), (21, .getfield 31, 3), (24, .getfield 46, 3), (27, .iconst 0, 1), (28, .iastore, 1), (29, .aload_n 0, 1), (30, .getfield 31, 3), (33, .getfield 46, 3), (36, .iconst 1, 1), (37, .isub, 1), (38, .istore_n 1, 1), (39, .iload_n 1, 1), (40, .ifCond .lt 55, 3), (43, .aload_n 0, 1), (44, .ldc 39, 2), (46, .putfield 43, 3), (49, .aload_n 0, 1), (50, .ldc 39, 2), (52, .putfield 51, 3), (55, .aload_n 0, 1), (56, .iload_n 1, 1), (57, .putfield 54, 3), (60, .aload_n 0, 1), (61, .iload_n 1, 1), (62, .iconst 0, 1), (63, .iconst 0, 1), (64, .lconst 0, 1), (65, .invokevirtual 57, 3), (68, .aload_n 0, 1), (69, .getfield 43, 3), (72, .ldc 39, 2), (74, .if_icmp .ne 5, 3), (77, .iconst 0, 1), (78, .ireturn, 1), (79, .aload_n 0, 1), (80, .getfield 9, 3), (83, .iload_n 1, 1), (84, .aload_n 0, 1), (85, .getfield 43, 3), (88, .iastore, 1), (89, .iinc 1 (-1), 3), (92, .goto (-53), 3), (95, .iconst 1, 1), (96, .ireturn, 1)]
set_option maxRecDepth 100000 in
theorem kX10_measure_ok : kX10_measure.all (fun q => decide (decode cX10_measure q.1 = .ok q.2)) = true := by decide +kernel
theorem dX10_measure_0 : decode cX10_measure 0 = .ok (.aload_n 0, 1) := dk_get kX10_measure_ok 0 rfl
theorem dX10_measure_1 : decode cX10_measure 1 = .ok (.iconst 0, 1) := dk_get kX10_measure_ok 1 rfl
theorem dX10_measure_2 : decode cX10_measure 2 = .ok (.putfield 35, 3) := dk_get kX10_measure_ok 2 rfl
theorem dX10_measure_5 : decode cX10_measure 5 = .ok (.aload_n 0, 1) := dk_get kX10_measure_ok 3 rfl
theorem dX10_measure_6 : decode cX10_measure 6 = .ok (.ldc 39, 2) := dk_get kX10_measure_ok 4 rfl
theorem dX10_measure_8 : decode cX10_measure 8 = .ok (.putfield 40, 3) := dk_get kX10_measure_ok 5 rfl
theorem dX10_measure_11 : decode cX10_measure 11 = .ok (.aload_n 0, 1) := dk_get kX10_measure_ok 6 rfl
theorem dX10_measure_12 : decode cX10_measure 12 = .ok (.iconst 0, 1) := dk_get kX10_measure_ok 7 rfl
theorem dX10_measure_13 : decode cX10_measure 13 = .ok (.putfield 43, 3) := dk_get kX10_measure_ok 8 rfl
theorem dX10_measure_16 : decode cX10_measure 16 = .ok (.aload_n 0, 1) := dk_get kX10_measure_ok 9 rfl
theorem dX10_measure_17 : decode cX10_measure 17 = .ok (.getfield 9, 3) := dk_get kX10_measure_ok 10 rfl
theorem dX10_measure_20 : decode cX10_measure 20 = .ok (.aload_n 0, 1) := dk_get kX10_measure_ok 11 rfl
theorem dX10_measure_21 : decode cX10_measure 21 = .ok (.getfield 31, 3) := dk_get kX10_measure_ok 12 rfl
theorem dX10_measure_24 : decode cX10_measure 24 = .ok (.getfield 46, 3) := dk_get kX10_measure_ok 13 rfl
theorem dX10_measure_27 : decode cX10_measure 27 = .ok (.iconst 0, 1) := dk_get kX10_measure_ok 14 rfl
theorem dX10_measure_28 : decode cX10_measure 28 = .ok (.iastore, 1) := dk_get kX10_measure_ok 15 rfl
theorem dX10_measure_29 : decode cX10_measure 29 = .ok (.aload_n 0, 1) := dk_get kX10_measure_ok 16 rfl
theorem dX10_measure_30 : decode cX10_measure 30 = .ok (.getfield 31, 3) := dk_get kX10_measure_ok 17 rfl
theorem dX10_measure_33 : decode cX10_measure 33 = .ok (.getfield 46, 3) := dk_get kX10_measure_ok 18 rfl
theorem dX10_measure_36 : decode cX10_measure 36 = .ok (.iconst 1, 1) := dk_get kX10_measure_ok 19 rfl
theorem dX10_measure_37 : decode cX10_measure 37 = .ok (.isub, 1) := dk_get kX10_measure_ok 20 rfl
theorem dX10_measure_38 : decode cX10_measure 38 = .ok (.istore_n 1, 1) := dk_get kX10_measure_ok 21 rfl
theorem dX10_measure_39 : decode cX10_measure 39 = .ok (.iload_n 1, 1) := dk_get kX10_measure_ok 22 rfl
theorem dX10_measure_40 : decode cX10_measure 40 = .ok (.ifCond .lt 55, 3) := dk_get kX10_measure_ok 23 rfl
theorem dX10_measure_43 : decode cX10_measure 43 = .ok (.aload_n 0, 1) := dk_get kX10_measure_ok 24 rfl
theorem dX10_measure_44 : decode cX10_measure 44 = .ok (.ldc 39, 2) := dk_get kX10_measure_ok 25 rfl
theorem dX10_measure_46 : decode cX10_measure 46 = .ok (.putfield 43, 3) := dk_get kX10_measure_ok 26 rfl
theorem dX10_measure_49 : decode cX10_measure 49 = .ok (.aload_n 0, 1) := dk_get kX10_measure_ok 27 rfl
theorem dX10_measure_50 : decode cX10_measure 50 = .ok (.ldc 39, 2) := dk_get kX10_measure_ok 28 rfl
theorem dX10_measure_52 : decode cX10_measure 52 = .ok (.putfield 51, 3) := dk_get kX10_measure_ok 29 rfl
theorem dX10_measure_55 : decode cX10_measure 55 = .ok (.aload_n 0, 1) := dk_get kX10_measure_ok 30 rfl
theorem dX10_measure_56 : decode cX10_measure 56 = .ok (.iload_n 1, 1) := dk_get kX10_measure_ok 31 rfl
theorem dX10_measure_57 : decode cX10_measure 57 = .ok (.putfield 54, 3) := dk_get kX10_measure_ok 32 rfl
theorem dX10_measure_60 : decode cX10_measure 60 = .ok (.aload_n 0, 1) := dk_get kX10_measure_ok 33 rfl
theorem dX10_measure_61 : decode cX10_measure 61 = .ok (.iload_n 1, 1) := dk_get kX10_measure_ok 34 rfl
theorem dX10_measure_62 : decode cX10_measure 62 = .ok (.iconst 0, 1) := dk_get kX10_measure_ok 35 rfl
theorem dX10_measure_63 : decode cX10_measure 63 = .ok (.iconst 0, 1) := dk_get kX10_measure_ok 36 rfl
theorem dX10_measure_64 : decode cX10_measure 64 = .ok (.lconst 0, 1) := dk_get kX10_measure_ok 37 rfl
theorem dX10_measure_65 : decode cX10_measure 65 = .ok (.invokevirtual 57, 3) := dk_get kX10_measure_ok 38 rfl
theorem dX10_measure_68 : decode cX10_measure 68 = .ok (.aload_n 0, 1) := dk_get kX10_measure_ok 39 rfl
theorem dX10_measure_69 : decode cX10_measure 69 = .ok (.getfield 43, 3) := dk_get kX10_measure_ok 40 rfl
theorem dX10_measure_72 : decode cX10_measure 72 = .ok (.ldc 39, 2) := dk_get kX10_measure_ok 41 rfl
theorem dX10_measure_74 : decode cX10_measure 74 = .ok (.if_icmp .ne 5, 3) := dk_get kX10_measure_ok 42 rfl
theorem dX10_measure_77 : decode cX10_measure 77 = .ok (.iconst 0, 1) := dk_get kX10_measure_ok 43 rfl
theorem dX10_measure_78 : decode cX10_measure 78 = .ok (.ireturn, 1) := dk_get kX10_measure_ok 44 rfl
theorem dX10_measure_79 : decode cX10_measure 79 = .ok (.aload_n 0, 1) := dk_get kX10_measure_ok 45 rfl
theorem dX10_measure_80 : decode cX10_measure 80 = .ok (.getfield 9, 3) := dk_get kX10_measure_ok 46 rfl
theorem dX10_measure_83 : decode cX10_measure 83 = .ok (.iload_n 1, 1) := dk_get kX10_measure_ok 47 rfl
theorem dX10_measure_84 : decode cX10_measure 84 = .ok (.aload_n 0, 1) := dk_get kX10_measure_ok 48 rfl
theorem dX10_measure_85 : decode cX10_measure 85 = .ok (.getfield 43, 3) := dk_get kX10_measure_ok 49 rfl
theorem dX10_measure_88 : decode cX10_measure 88 = .ok (.iastore, 1) := dk_get kX10_measure_ok 50 rfl
theorem dX10_measure_89 : decode cX10_measure 89 = .ok (.iinc 1 (-1), 3) := dk_get kX10_measure_ok 51 rfl
theorem dX10_measure_92 : decode cX10_measure 92 = .ok (.goto (-53), 3) := dk_get kX10_measure_ok 52 rfl
theorem dX10_measure_95 : decode cX10_measure 95 = .ok (.iconst 1, 1) := dk_get kX10_measure_ok 53 rfl
theorem dX10_measure_96 : decode cX10_measure 96 = .ok (.ireturn, 1) := dk_get kX10_measure_ok 54 rfl
def kX10_list : List (Nat × Instr × Nat) := [(0, .aload_n 0, 1), (1, .iconst 1, 1), (2, .putfield 35, 3), (5, .aload_n 0, 1), (6, .aload_n 0, 1), (7, .getfield 43, 3), (10, .putfield 51, 3), (13, .aload_n 0, 1), (14, .iconst 0, 1), (15, .putfield 61, 3), (18, .aload_n 0, 1), (19, .ldc2_w 64, 3), (22, .putfield 66, 3), (25, .aload_n 0, 1), (26, .lconst 0, 1), (27, .putfield 70, 3), (30, .aload_n 0, 1), (31, .iconst 0, 1), (32, .iconst 0, 1), (33, .iconst 0, 1), (34, .lconst 0, 1), (35, .invokevirtual 57, 3), (38, .return_, 1)]
set_option maxRecDepth 100000 in
theorem kX10_list_ok : kX10_list.all (fun q => decide (decode cX10_list q.1 = .ok q.2)) = true := by decide +kernel
theorem dX10_list_0 : decode cX10_list 0 = .ok (.aload_n 0, 1) := dk_get kX10_list_ok 0 rfl
theorem dX10_list_1 : decode cX10_list 1 = .ok (.iconst 1, 1) := dk_get kX10_list_ok 1 rfl
theorem dX10_list_2 : decode cX10_list 2 = .ok (.putfield 35, 3) := dk_get kX10_list_ok 2 rfl
theorem dX10_list_5 : decode cX10_list 5 = .ok (.aload_n 0, 1) := dk_get kX10_list_ok 3 rfl
theorem dX10_list_6 : decode cX10_list 6 = .ok (.aload_n 0, 1) := dk_get kX10_list_ok 4 rfl
theorem dX10_list_7 : decode cX10_list 7 = .ok (.getfield 43, 3) := dk_get kX10_list_ok 5 rfl
theorem dX10_list_10 : decode cX10_list 10 = .ok (.putfield 51, 3) := dk_get kX10_list_ok 6 rfl
theorem dX10_list_13 : decode cX10_list 13 = .ok (.aload_n 0, 1) := dk_get kX10_list_ok 7 rfl
theorem dX10_list_14 : decode cX10_list 14 = .ok (.iconst 0, 1) := dk_get kX10_list_ok 8 rfl
theorem dX10_list_15 : decode cX10_list 15 = .ok (.putfield 61, 3) := dk_get kX10_list_ok 9 rfl
theorem dX10_list_18 : decode cX10_list 18 = .ok (.aload_n 0, 1) := dk_get kX10_list_ok 10 rfl
theorem dX10_list_19 : decode cX10_list 19 = .ok (.ldc2_w 64, 3) := dk_get kX10_list_ok 11 rfl
theorem dX10_list_22 : decode cX10_list 22 = .ok (.putfield 66, 3) := dk_get kX10_list_ok 12 rfl
theorem dX10_list_25 : decode cX10_list 25 = .ok (.aload_n 0, 1) := dk_get kX10_list_ok 13 rfl
theorem dX10_list_26 : decode cX10_list 26 = .ok (.lconst 0, 1) := dk_get kX10_list_ok 14 rfl
theorem dX10_list_27 : decode cX10_list 27 = .ok (.putfield 70, 3) := dk_get kX10_list_ok 15 rfl
theorem dX10_list_30 : decode cX10_list 30 = .ok (.aload_n 0, 1) := dk_get kX10_list_ok 16 rfl
theorem dX10_list_31 : decode cX10_list 31 = .ok (.iconst 0, 1) := dk_get kX10_list_ok 17 rfl
theorem dX10_list_32 : decode cX10_list 32 = .ok (.iconst 0, 1) := dk_get kX10_list_ok 18 rfl
theorem dX10_list_33 : decode cX10_list 33 = .ok (.iconst 0, 1) := dk_get kX10_list_ok 19 rfl
theorem dX10_list_34 : decode cX10_list 34 = .ok (.lconst 0, 1) := dk_get kX10_list_ok 20 rfl
theorem dX10_list_35 : decode cX10_list 35 = .ok (.invokevirtual 57, 3) := dk_get kX10_list_ok 21 rfl
theorem dX10_list_38 : decode cX10_list 38 = .ok (.return_, 1) := dk_get kX10_list_ok 22 rfl
def kX10_approach : List (Nat × Instr × Nat) := [(0, .aload_n 0, 1), (1, .iconst 2, 1), (2, .putfield 35, 3), (5, .aload_n 0, 1), (6, .aload_n 0, 1), (7, .getfield 43, 3), (10, .iload_n 1, 1), (11, .iadd, 1), (12, .putfield 51, 3), (15, .aload_n 0, 1), (16, .iconst 0, 1), (17, .iconst 0, 1), (18, .iconst 0, 1), (19, .lconst 0, 1), (20, .invokevirtual 57, 3), (23, .return_, 1)]
set_option maxRecDepth 100000 in
theorem kX10_approach_ok : kX10_approach.all (fun q => decide (decode cX10_approach q.1 = .ok q.2)) = true := by decide +kernel
theorem dX10_approach_0 : decode cX10_approach 0 = .ok (.aload_n 0, 1) := dk_get kX10_approach_ok 0 rfl
theorem dX10_approach_1 : decode cX10_approach 1 = .ok (.iconst 2, 1) := dk_get kX10_approach_ok 1 rfl
theorem dX10_approach_2 : decode cX10_approach 2 = .ok (.putfield 35, 3) := dk_get kX10_approach_ok 2 rfl
theorem dX10_approach_5 : decode cX10_approach 5 = .ok (.aload_n 0, 1) := dk_get kX10_approach_ok 3 rfl
theorem dX10_approach_6 : decode cX10_approach 6 = .ok (.aload_n 0, 1) := dk_get kX10_approach_ok 4 rfl
theorem dX10_approach_7 : decode cX10_approach 7 = .ok (.getfield 43, 3) := dk_get kX10_approach_ok 5 rfl
theorem dX10_approach_10 : decode cX10_approach 10 = .ok (.iload_n 1, 1) := dk_get kX10_approach_ok 6 rfl
theorem dX10_approach_11 : decode cX10_approach 11 = .ok (.iadd, 1) := dk_get kX10_approach_ok 7 rfl
theorem dX10_approach_12 : decode cX10_approach 12 = .ok (.putfield 51, 3) := dk_get kX10_approach_ok 8 rfl
theorem dX10_approach_15 : decode cX10_approach 15 = .ok (.aload_n 0, 1) := dk_get kX10_approach_ok 9 rfl
theorem dX10_approach_16 : decode cX10_approach 16 = .ok (.iconst 0, 1) := dk_get kX10_approach_ok 10 rfl
theorem dX10_approach_17 : decode cX10_approach 17 = .ok (.iconst 0, 1) := dk_get kX10_approach_ok 11 rfl
theorem dX10_approach_18 : decode cX10_approach 18 = .ok (.iconst 0, 1) := dk_get kX10_approach_ok 12 rfl
theorem dX10_approach_19 : decode cX10_approach 19 = .ok (.lconst 0, 1) := dk_get kX10_approach_ok 13 rfl
theorem dX10_approach_20 : decode cX10_approach 20 = .ok (.invokevirtual 57, 3) := dk_get kX10_approach_ok 14 rfl
theorem dX10_approach_23 : decode cX10_approach 23 = .ok (.return_, 1) := dk_get kX10_approach_ok 15 rfl
def kX10_place : List (Nat × Instr × Nat) := [(0, .iload_n 1, 1), (1, .aload_n 0, 1), (2, .getfield 31, 3), (5, .getfield 46, 3), (8, .if_icmp .ge 9, 3), (11, .iload_n 1, 1), (12, .bipush 10, 2), (14, .if_icmp .lt 12, 3), (17, .aload_n 0, 1), (18, .iload_n 2, 1), (19, .iload_n 3, 1), (20, .lload 4, 2), (22, .invokevirtual 73, 3), (25, .return_, 1), (26, .iload_n 2, 1), (27, .aload_n 0, 1), (28, .iload_n 1, 1), (29, .invokevirtual 77, 3), (32, .iadd, 1), (33, .istore 6, 2), (35, .aload_n 0, 1), (36, .getfield 81, 3), (39, .istore 7, 2), (41, .iconst 0, 1), (42, .istore 8, 2), (44, .iload 8, 2), (46, .iload 7, 2), (48, .if_icmp .ge 21, 3), (51, .aload_n 0, 1), (52, .iload_n 1, 1), (53, .iload 8, 2), (55, .iload 6, 2), (57, .iload_n 3, 1), (58, .lload 4, 2), (60, .invokevirtual 84, 3), (63, .iinc 8 1, 3), (66, .goto (-22), 3), (69, .aload_n 0, 1), (70, .getfield 15, 3), (73, .iload 7, 2), (75, .iconst 0, 1), (76, .iastore, 1), (77, .aload_n 0, 1), (78, .getfield 18, 3), (81, .iload 7, 2), (83, .iload_n 1, 1), (84, .iastore, 1), (85, .aload_n 0, 1), (86, .iload 7, 2), (88, .iconst 1, 1), (89, .iadd, 1), (90, .putfield 81, 3), (93, .aload_n 0, 1), (94, .iload_n 1, 1), (95, .iload 7, 2), (97, .iload 6, 2), (99, .iload_n 3, 1), (100, .lload 4, 2), (102, .invokevirtual 84, 3), (105, .aload_n 0, 1), (106, .iload 7, 2), (108, .putfield 81, 3), (111, .return_, 1)]
set_option maxRecDepth 100000 in
theorem kX10_place_ok : kX10_place.all (fun q => decide (decode cX10_place q.1 = .ok q.2)) = true := by decide +kernel
theorem dX10_place_0 : decode cX10_place 0 = .ok (.iload_n 1, 1) := dk_get kX10_place_ok 0 rfl
theorem dX10_place_1 : decode cX10_place 1 = .ok (.aload_n 0, 1) := dk_get kX10_place_ok 1 rfl
theorem dX10_place_2 : decode cX10_place 2 = .ok (.getfield 31, 3) := dk_get kX10_place_ok 2 rfl
theorem dX10_place_5 : decode cX10_place 5 = .ok (.getfield 46, 3) := dk_get kX10_place_ok 3 rfl
theorem dX10_place_8 : decode cX10_place 8 = .ok (.if_icmp .ge 9, 3) := dk_get kX10_place_ok 4 rfl
theorem dX10_place_11 : decode cX10_place 11 = .ok (.iload_n 1, 1) := dk_get kX10_place_ok 5 rfl
theorem dX10_place_12 : decode cX10_place 12 = .ok (.bipush 10, 2) := dk_get kX10_place_ok 6 rfl
theorem dX10_place_14 : decode cX10_place 14 = .ok (.if_icmp .lt 12, 3) := dk_get kX10_place_ok 7 rfl
theorem dX10_place_17 : decode cX10_place 17 = .ok (.aload_n 0, 1) := dk_get kX10_place_ok 8 rfl
theorem dX10_place_18 : decode cX10_place 18 = .ok (.iload_n 2, 1) := dk_get kX10_place_ok 9 rfl
theorem dX10_place_19 : decode cX10_place 19 = .ok (.iload_n 3, 1) := dk_get kX10_place_ok 10 rfl
theorem dX10_place_20 : decode cX10_place 20 = .ok (.lload 4, 2) := dk_get kX10_place_ok 11 rfl
theorem dX10_place_22 : decode cX10_place 22 = .ok (.invokevirtual 73, 3) := dk_get kX10_place_ok 12 rfl
theorem dX10_place_25 : decode cX10_place 25 = .ok (.return_, 1) := dk_get kX10_place_ok 13 rfl
theorem dX10_place_26 : decode cX10_place 26 = .ok (.iload_n 2, 1) := dk_get kX10_place_ok 14 rfl
theorem dX10_place_27 : decode cX10_place 27 = .ok (.aload_n 0, 1) := dk_get kX10_place_ok 15 rfl
theorem dX10_place_28 : decode cX10_place 28 = .ok (.iload_n 1, 1) := dk_get kX10_place_ok 16 rfl
theorem dX10_place_29 : decode cX10_place 29 = .ok (.invokevirtual 77, 3) := dk_get kX10_place_ok 17 rfl
theorem dX10_place_32 : decode cX10_place 32 = .ok (.iadd, 1) := dk_get kX10_place_ok 18 rfl
theorem dX10_place_33 : decode cX10_place 33 = .ok (.istore 6, 2) := dk_get kX10_place_ok 19 rfl
theorem dX10_place_35 : decode cX10_place 35 = .ok (.aload_n 0, 1) := dk_get kX10_place_ok 20 rfl
theorem dX10_place_36 : decode cX10_place 36 = .ok (.getfield 81, 3) := dk_get kX10_place_ok 21 rfl
theorem dX10_place_39 : decode cX10_place 39 = .ok (.istore 7, 2) := dk_get kX10_place_ok 22 rfl
theorem dX10_place_41 : decode cX10_place 41 = .ok (.iconst 0, 1) := dk_get kX10_place_ok 23 rfl
theorem dX10_place_42 : decode cX10_place 42 = .ok (.istore 8, 2) := dk_get kX10_place_ok 24 rfl
theorem dX10_place_44 : decode cX10_place 44 = .ok (.iload 8, 2) := dk_get kX10_place_ok 25 rfl
theorem dX10_place_46 : decode cX10_place 46 = .ok (.iload 7, 2) := dk_get kX10_place_ok 26 rfl
theorem dX10_place_48 : decode cX10_place 48 = .ok (.if_icmp .ge 21, 3) := dk_get kX10_place_ok 27 rfl
theorem dX10_place_51 : decode cX10_place 51 = .ok (.aload_n 0, 1) := dk_get kX10_place_ok 28 rfl
theorem dX10_place_52 : decode cX10_place 52 = .ok (.iload_n 1, 1) := dk_get kX10_place_ok 29 rfl
theorem dX10_place_53 : decode cX10_place 53 = .ok (.iload 8, 2) := dk_get kX10_place_ok 30 rfl
theorem dX10_place_55 : decode cX10_place 55 = .ok (.iload 6, 2) := dk_get kX10_place_ok 31 rfl
theorem dX10_place_57 : decode cX10_place 57 = .ok (.iload_n 3, 1) := dk_get kX10_place_ok 32 rfl
theorem dX10_place_58 : decode cX10_place 58 = .ok (.lload 4, 2) := dk_get kX10_place_ok 33 rfl
theorem dX10_place_60 : decode cX10_place 60 = .ok (.invokevirtual 84, 3) := dk_get kX10_place_ok 34 rfl
theorem dX10_place_63 : decode cX10_place 63 = .ok (.iinc 8 1, 3) := dk_get kX10_place_ok 35 rfl
theorem dX10_place_66 : decode cX10_place 66 = .ok (.goto (-22), 3) := dk_get kX10_place_ok 36 rfl
theorem dX10_place_69 : decode cX10_place 69 = .ok (.aload_n 0, 1) := dk_get kX10_place_ok 37 rfl
theorem dX10_place_70 : decode cX10_place 70 = .ok (.getfield 15, 3) := dk_get kX10_place_ok 38 rfl
theorem dX10_place_73 : decode cX10_place 73 = .ok (.iload 7, 2) := dk_get kX10_place_ok 39 rfl
theorem dX10_place_75 : decode cX10_place 75 = .ok (.iconst 0, 1) := dk_get kX10_place_ok 40 rfl
theorem dX10_place_76 : decode cX10_place 76 = .ok (.iastore, 1) := dk_get kX10_place_ok 41 rfl
theorem dX10_place_77 : decode cX10_place 77 = .ok (.aload_n 0, 1) := dk_get kX10_place_ok 42 rfl
theorem dX10_place_78 : decode cX10_place 78 = .ok (.getfield 18, 3) := dk_get kX10_place_ok 43 rfl
theorem dX10_place_81 : decode cX10_place 81 = .ok (.iload 7, 2) := dk_get kX10_place_ok 44 rfl
theorem dX10_place_83 : decode cX10_place 83 = .ok (.iload_n 1, 1) := dk_get kX10_place_ok 45 rfl
theorem dX10_place_84 : decode cX10_place 84 = .ok (.iastore, 1) := dk_get kX10_place_ok 46 rfl
theorem dX10_place_85 : decode cX10_place 85 = .ok (.aload_n 0, 1) := dk_get kX10_place_ok 47 rfl
theorem dX10_place_86 : decode cX10_place 86 = .ok (.iload 7, 2) := dk_get kX10_place_ok 48 rfl
theorem dX10_place_88 : decode cX10_place 88 = .ok (.iconst 1, 1) := dk_get kX10_place_ok 49 rfl
theorem dX10_place_89 : decode cX10_place 89 = .ok (.iadd, 1) := dk_get kX10_place_ok 50 rfl
theorem dX10_place_90 : decode cX10_place 90 = .ok (.putfield 81, 3) := dk_get kX10_place_ok 51 rfl
theorem dX10_place_93 : decode cX10_place 93 = .ok (.aload_n 0, 1) := dk_get kX10_place_ok 52 rfl
theorem dX10_place_94 : decode cX10_place 94 = .ok (.iload_n 1, 1) := dk_get kX10_place_ok 53 rfl
theorem dX10_place_95 : decode cX10_place 95 = .ok (.iload 7, 2) := dk_get kX10_place_ok 54 rfl
theorem dX10_place_97 : decode cX10_place 97 = .ok (.iload 6, 2) := dk_get kX10_place_ok 55 rfl
theorem dX10_place_99 : decode cX10_place 99 = .ok (.iload_n 3, 1) := dk_get kX10_place_ok 56 rfl
theorem dX10_place_100 : decode cX10_place 100 = .ok (.lload 4, 2) := dk_get kX10_place_ok 57 rfl
theorem dX10_place_102 : decode cX10_place 102 = .ok (.invokevirtual 84, 3) := dk_get kX10_place_ok 58 rfl
theorem dX10_place_105 : decode cX10_place 105 = .ok (.aload_n 0, 1) := dk_get kX10_place_ok 59 rfl
theorem dX10_place_106 : decode cX10_place 106 = .ok (.iload 7, 2) := dk_get kX10_place_ok 60 rfl
theorem dX10_place_108 : decode cX10_place 108 = .ok (.putfield 81, 3) := dk_get kX10_place_ok 61 rfl
theorem dX10_place_111 : decode cX10_place 111 = .ok (.return_, 1) := dk_get kX10_place_ok 62 rfl
def kX10_enter_0 : List (Nat × Instr × Nat) := [(0, .aload_n 0, 1), (1, .getfield 15, 3), (4, .iload_n 2, 1), (5, .iaload, 1), (6, .istore 7, 2), (8, .iconst 1, 1), (9, .iload_n 1, 1), (10, .ishl, 1), (11, .iconst 1, 1), (12, .aload_n 0, 1), (13, .getfield 54, 3), (16, .ishl, 1), (17, .isub, 1), (18, .istore 8, 2), (20, .aload_n 0, 1), (21, .getfield 31, 3), (24, .getfield 88, 3), (27, .iload_n 1, 1), (28, .iaload, 1), (29, .iload 7, 2), (31, .iand, 1), (32, .ifCond .ne 23, 3), (35, .aload_n 0, 1), (36, .getfield 31, 3), (39, .getfield 91, 3), (42, .iload_n 1, 1), (43, .iaload, 1), (44, .iload 8, 2), (46, .iand, 1), (47, .iload 7, 2), (49, .iconst (-1), 1), (50, .ixor, 1), (51, .iand, 1), (52, .ifCond .eq 7, 3), (55, .iconst 1, 1), (56, .goto 4, 3), (59, .iconst 0, 1), (60, .istore 9, 2), (62, .iload 9, 2), (64, .ifCond .ne 18, 3), (67, .iload 7, 2), (69, .invokestatic 94, 3), (72, .aload_n 0, 1), (73, .getfield 31, 3), (76, .getfield 99, 3), (79, .if_icmp .lt 4, 3), (82, .return_, 1), (83, .iload_n 3, 1), (84, .aload_n 0, 1), (85, .iload_n 1, 1), (86, .iload 7, 2), (88, .invokevirtual 102, 3), (91, .isub, 1), (92, .istore 10, 2), (94, .aload_n 0, 1), (95, .getfield 35, 3), (98, .iconst 2, 1), (99, .if_icmp .ne 27, 3), (102, .iload 4, 2), (104, .iload 7, 2), (106, .aload_n 0, 1), (107, .getfield 31, 3), (110, .getfield 106, 3), (113, .iload_n 1, 1), (114, .iaload, 1), (115, .ixor, 1), (116, .iload 8, 2), (118, .iand, 1), (119, .invokestatic 94, 3), (122, .iadd, 1), (123, .goto 5, 3), (126, .iload 4, 2), (128, .istore 11, 2), (130, .iload 10, 2), (132, .aload_n 0, 1), (133, .getfield 9, 3), (136, .iload_n 1, 1), (137, .iconst 1, 1), (138, .iadd, 1), (139, .iaload, 1), (140, .iadd, 1), (141, .aload_n 0, 1), (142, .getfield 51, 3), (145, .if_icmp .gt 69, 3), (148, .iload 11, 2), (150, .aload_n 0, 1), (151, .getfield 40, 3), (154, .if_icmp .ge 60, 3), (157, .aload_n 0, 1), (158, .getfield 15, 3), (161, .iload_n 2, 1), (162, .iload 7, 2), (164, .iconst 1, 1), (165, .iload_n 1, 1), (166, .ishl, 1), (167, .ior, 1), (168, .iastore, 1), (169, .aload_n 0, 1), (170, .getfield 21, 3), (173, .iload_n 1, 1), (174, .aload_n 0, 1), (175, .getfield 18, 3), (178, .iload_n 2, 1), (179, .iaload, 1), (180, .iastore, 1), (181, .aload_n 0, 1), (182, .iload_n 1, 1), (183, .iconst 1, 1), (184, .iadd, 1), (185, .iload 10, 2), (187, .iload 11, 2), (189, .lload 5, 2), (191, .iload 7, 2), (193, .i2l, 1), (194, .iload_n 1, 1), (195, .iload_n 1, 1), (196, .iconst 1, 1), (197, .isub, 1), (198, .imul, 1), (199, .iconst 2, 1)]
set_option maxRecDepth 100000 in
theorem kX10_enter_0_ok : kX10_enter_0.all (fun q => decide (decode cX10_enter q.1 = .ok q.2)) = true := by decide +kernel
theorem dX10_enter_0 : decode cX10_enter 0 = .ok (.aload_n 0, 1) := dk_get kX10_enter_0_ok 0 rfl
theorem dX10_enter_1 : decode cX10_enter 1 = .ok (.getfield 15, 3) := dk_get kX10_enter_0_ok 1 rfl
theorem dX10_enter_4 : decode cX10_enter 4 = .ok (.iload_n 2, 1) := dk_get kX10_enter_0_ok 2 rfl
theorem dX10_enter_5 : decode cX10_enter 5 = .ok (.iaload, 1) := dk_get kX10_enter_0_ok 3 rfl
theorem dX10_enter_6 : decode cX10_enter 6 = .ok (.istore 7, 2) := dk_get kX10_enter_0_ok 4 rfl
theorem dX10_enter_8 : decode cX10_enter 8 = .ok (.iconst 1, 1) := dk_get kX10_enter_0_ok 5 rfl
theorem dX10_enter_9 : decode cX10_enter 9 = .ok (.iload_n 1, 1) := dk_get kX10_enter_0_ok 6 rfl
theorem dX10_enter_10 : decode cX10_enter 10 = .ok (.ishl, 1) := dk_get kX10_enter_0_ok 7 rfl
theorem dX10_enter_11 : decode cX10_enter 11 = .ok (.iconst 1, 1) := dk_get kX10_enter_0_ok 8 rfl
theorem dX10_enter_12 : decode cX10_enter 12 = .ok (.aload_n 0, 1) := dk_get kX10_enter_0_ok 9 rfl
theorem dX10_enter_13 : decode cX10_enter 13 = .ok (.getfield 54, 3) := dk_get kX10_enter_0_ok 10 rfl
theorem dX10_enter_16 : decode cX10_enter 16 = .ok (.ishl, 1) := dk_get kX10_enter_0_ok 11 rfl
theorem dX10_enter_17 : decode cX10_enter 17 = .ok (.isub, 1) := dk_get kX10_enter_0_ok 12 rfl
theorem dX10_enter_18 : decode cX10_enter 18 = .ok (.istore 8, 2) := dk_get kX10_enter_0_ok 13 rfl
theorem dX10_enter_20 : decode cX10_enter 20 = .ok (.aload_n 0, 1) := dk_get kX10_enter_0_ok 14 rfl
theorem dX10_enter_21 : decode cX10_enter 21 = .ok (.getfield 31, 3) := dk_get kX10_enter_0_ok 15 rfl
theorem dX10_enter_24 : decode cX10_enter 24 = .ok (.getfield 88, 3) := dk_get kX10_enter_0_ok 16 rfl
theorem dX10_enter_27 : decode cX10_enter 27 = .ok (.iload_n 1, 1) := dk_get kX10_enter_0_ok 17 rfl
theorem dX10_enter_28 : decode cX10_enter 28 = .ok (.iaload, 1) := dk_get kX10_enter_0_ok 18 rfl
theorem dX10_enter_29 : decode cX10_enter 29 = .ok (.iload 7, 2) := dk_get kX10_enter_0_ok 19 rfl
theorem dX10_enter_31 : decode cX10_enter 31 = .ok (.iand, 1) := dk_get kX10_enter_0_ok 20 rfl
theorem dX10_enter_32 : decode cX10_enter 32 = .ok (.ifCond .ne 23, 3) := dk_get kX10_enter_0_ok 21 rfl
theorem dX10_enter_35 : decode cX10_enter 35 = .ok (.aload_n 0, 1) := dk_get kX10_enter_0_ok 22 rfl
theorem dX10_enter_36 : decode cX10_enter 36 = .ok (.getfield 31, 3) := dk_get kX10_enter_0_ok 23 rfl
theorem dX10_enter_39 : decode cX10_enter 39 = .ok (.getfield 91, 3) := dk_get kX10_enter_0_ok 24 rfl
theorem dX10_enter_42 : decode cX10_enter 42 = .ok (.iload_n 1, 1) := dk_get kX10_enter_0_ok 25 rfl
theorem dX10_enter_43 : decode cX10_enter 43 = .ok (.iaload, 1) := dk_get kX10_enter_0_ok 26 rfl
theorem dX10_enter_44 : decode cX10_enter 44 = .ok (.iload 8, 2) := dk_get kX10_enter_0_ok 27 rfl
theorem dX10_enter_46 : decode cX10_enter 46 = .ok (.iand, 1) := dk_get kX10_enter_0_ok 28 rfl
theorem dX10_enter_47 : decode cX10_enter 47 = .ok (.iload 7, 2) := dk_get kX10_enter_0_ok 29 rfl
theorem dX10_enter_49 : decode cX10_enter 49 = .ok (.iconst (-1), 1) := dk_get kX10_enter_0_ok 30 rfl
theorem dX10_enter_50 : decode cX10_enter 50 = .ok (.ixor, 1) := dk_get kX10_enter_0_ok 31 rfl
theorem dX10_enter_51 : decode cX10_enter 51 = .ok (.iand, 1) := dk_get kX10_enter_0_ok 32 rfl
theorem dX10_enter_52 : decode cX10_enter 52 = .ok (.ifCond .eq 7, 3) := dk_get kX10_enter_0_ok 33 rfl
theorem dX10_enter_55 : decode cX10_enter 55 = .ok (.iconst 1, 1) := dk_get kX10_enter_0_ok 34 rfl
theorem dX10_enter_56 : decode cX10_enter 56 = .ok (.goto 4, 3) := dk_get kX10_enter_0_ok 35 rfl
theorem dX10_enter_59 : decode cX10_enter 59 = .ok (.iconst 0, 1) := dk_get kX10_enter_0_ok 36 rfl
theorem dX10_enter_60 : decode cX10_enter 60 = .ok (.istore 9, 2) := dk_get kX10_enter_0_ok 37 rfl
theorem dX10_enter_62 : decode cX10_enter 62 = .ok (.iload 9, 2) := dk_get kX10_enter_0_ok 38 rfl
theorem dX10_enter_64 : decode cX10_enter 64 = .ok (.ifCond .ne 18, 3) := dk_get kX10_enter_0_ok 39 rfl
theorem dX10_enter_67 : decode cX10_enter 67 = .ok (.iload 7, 2) := dk_get kX10_enter_0_ok 40 rfl
theorem dX10_enter_69 : decode cX10_enter 69 = .ok (.invokestatic 94, 3) := dk_get kX10_enter_0_ok 41 rfl
theorem dX10_enter_72 : decode cX10_enter 72 = .ok (.aload_n 0, 1) := dk_get kX10_enter_0_ok 42 rfl
theorem dX10_enter_73 : decode cX10_enter 73 = .ok (.getfield 31, 3) := dk_get kX10_enter_0_ok 43 rfl
theorem dX10_enter_76 : decode cX10_enter 76 = .ok (.getfield 99, 3) := dk_get kX10_enter_0_ok 44 rfl
theorem dX10_enter_79 : decode cX10_enter 79 = .ok (.if_icmp .lt 4, 3) := dk_get kX10_enter_0_ok 45 rfl
theorem dX10_enter_82 : decode cX10_enter 82 = .ok (.return_, 1) := dk_get kX10_enter_0_ok 46 rfl
theorem dX10_enter_83 : decode cX10_enter 83 = .ok (.iload_n 3, 1) := dk_get kX10_enter_0_ok 47 rfl
theorem dX10_enter_84 : decode cX10_enter 84 = .ok (.aload_n 0, 1) := dk_get kX10_enter_0_ok 48 rfl
theorem dX10_enter_85 : decode cX10_enter 85 = .ok (.iload_n 1, 1) := dk_get kX10_enter_0_ok 49 rfl
theorem dX10_enter_86 : decode cX10_enter 86 = .ok (.iload 7, 2) := dk_get kX10_enter_0_ok 50 rfl
theorem dX10_enter_88 : decode cX10_enter 88 = .ok (.invokevirtual 102, 3) := dk_get kX10_enter_0_ok 51 rfl
theorem dX10_enter_91 : decode cX10_enter 91 = .ok (.isub, 1) := dk_get kX10_enter_0_ok 52 rfl
theorem dX10_enter_92 : decode cX10_enter 92 = .ok (.istore 10, 2) := dk_get kX10_enter_0_ok 53 rfl
theorem dX10_enter_94 : decode cX10_enter 94 = .ok (.aload_n 0, 1) := dk_get kX10_enter_0_ok 54 rfl
theorem dX10_enter_95 : decode cX10_enter 95 = .ok (.getfield 35, 3) := dk_get kX10_enter_0_ok 55 rfl
theorem dX10_enter_98 : decode cX10_enter 98 = .ok (.iconst 2, 1) := dk_get kX10_enter_0_ok 56 rfl
theorem dX10_enter_99 : decode cX10_enter 99 = .ok (.if_icmp .ne 27, 3) := dk_get kX10_enter_0_ok 57 rfl
theorem dX10_enter_102 : decode cX10_enter 102 = .ok (.iload 4, 2) := dk_get kX10_enter_0_ok 58 rfl
theorem dX10_enter_104 : decode cX10_enter 104 = .ok (.iload 7, 2) := dk_get kX10_enter_0_ok 59 rfl
theorem dX10_enter_106 : decode cX10_enter 106 = .ok (.aload_n 0, 1) := dk_get kX10_enter_0_ok 60 rfl
theorem dX10_enter_107 : decode cX10_enter 107 = .ok (.getfield 31, 3) := dk_get kX10_enter_0_ok 61 rfl
theorem dX10_enter_110 : decode cX10_enter 110 = .ok (.getfield 106, 3) := dk_get kX10_enter_0_ok 62 rfl
theorem dX10_enter_113 : decode cX10_enter 113 = .ok (.iload_n 1, 1) := dk_get kX10_enter_0_ok 63 rfl
theorem dX10_enter_114 : decode cX10_enter 114 = .ok (.iaload, 1) := dk_get kX10_enter_0_ok 64 rfl
theorem dX10_enter_115 : decode cX10_enter 115 = .ok (.ixor, 1) := dk_get kX10_enter_0_ok 65 rfl
theorem dX10_enter_116 : decode cX10_enter 116 = .ok (.iload 8, 2) := dk_get kX10_enter_0_ok 66 rfl
theorem dX10_enter_118 : decode cX10_enter 118 = .ok (.iand, 1) := dk_get kX10_enter_0_ok 67 rfl
theorem dX10_enter_119 : decode cX10_enter 119 = .ok (.invokestatic 94, 3) := dk_get kX10_enter_0_ok 68 rfl
theorem dX10_enter_122 : decode cX10_enter 122 = .ok (.iadd, 1) := dk_get kX10_enter_0_ok 69 rfl
theorem dX10_enter_123 : decode cX10_enter 123 = .ok (.goto 5, 3) := dk_get kX10_enter_0_ok 70 rfl
theorem dX10_enter_126 : decode cX10_enter 126 = .ok (.iload 4, 2) := dk_get kX10_enter_0_ok 71 rfl
theorem dX10_enter_128 : decode cX10_enter 128 = .ok (.istore 11, 2) := dk_get kX10_enter_0_ok 72 rfl
theorem dX10_enter_130 : decode cX10_enter 130 = .ok (.iload 10, 2) := dk_get kX10_enter_0_ok 73 rfl
theorem dX10_enter_132 : decode cX10_enter 132 = .ok (.aload_n 0, 1) := dk_get kX10_enter_0_ok 74 rfl
theorem dX10_enter_133 : decode cX10_enter 133 = .ok (.getfield 9, 3) := dk_get kX10_enter_0_ok 75 rfl
theorem dX10_enter_136 : decode cX10_enter 136 = .ok (.iload_n 1, 1) := dk_get kX10_enter_0_ok 76 rfl
theorem dX10_enter_137 : decode cX10_enter 137 = .ok (.iconst 1, 1) := dk_get kX10_enter_0_ok 77 rfl
theorem dX10_enter_138 : decode cX10_enter 138 = .ok (.iadd, 1) := dk_get kX10_enter_0_ok 78 rfl
theorem dX10_enter_139 : decode cX10_enter 139 = .ok (.iaload, 1) := dk_get kX10_enter_0_ok 79 rfl
theorem dX10_enter_140 : decode cX10_enter 140 = .ok (.iadd, 1) := dk_get kX10_enter_0_ok 80 rfl
theorem dX10_enter_141 : decode cX10_enter 141 = .ok (.aload_n 0, 1) := dk_get kX10_enter_0_ok 81 rfl
theorem dX10_enter_142 : decode cX10_enter 142 = .ok (.getfield 51, 3) := dk_get kX10_enter_0_ok 82 rfl
theorem dX10_enter_145 : decode cX10_enter 145 = .ok (.if_icmp .gt 69, 3) := dk_get kX10_enter_0_ok 83 rfl
theorem dX10_enter_148 : decode cX10_enter 148 = .ok (.iload 11, 2) := dk_get kX10_enter_0_ok 84 rfl
theorem dX10_enter_150 : decode cX10_enter 150 = .ok (.aload_n 0, 1) := dk_get kX10_enter_0_ok 85 rfl
theorem dX10_enter_151 : decode cX10_enter 151 = .ok (.getfield 40, 3) := dk_get kX10_enter_0_ok 86 rfl
theorem dX10_enter_154 : decode cX10_enter 154 = .ok (.if_icmp .ge 60, 3) := dk_get kX10_enter_0_ok 87 rfl
theorem dX10_enter_157 : decode cX10_enter 157 = .ok (.aload_n 0, 1) := dk_get kX10_enter_0_ok 88 rfl
theorem dX10_enter_158 : decode cX10_enter 158 = .ok (.getfield 15, 3) := dk_get kX10_enter_0_ok 89 rfl
theorem dX10_enter_161 : decode cX10_enter 161 = .ok (.iload_n 2, 1) := dk_get kX10_enter_0_ok 90 rfl
theorem dX10_enter_162 : decode cX10_enter 162 = .ok (.iload 7, 2) := dk_get kX10_enter_0_ok 91 rfl
theorem dX10_enter_164 : decode cX10_enter 164 = .ok (.iconst 1, 1) := dk_get kX10_enter_0_ok 92 rfl
theorem dX10_enter_165 : decode cX10_enter 165 = .ok (.iload_n 1, 1) := dk_get kX10_enter_0_ok 93 rfl
theorem dX10_enter_166 : decode cX10_enter 166 = .ok (.ishl, 1) := dk_get kX10_enter_0_ok 94 rfl
theorem dX10_enter_167 : decode cX10_enter 167 = .ok (.ior, 1) := dk_get kX10_enter_0_ok 95 rfl
theorem dX10_enter_168 : decode cX10_enter 168 = .ok (.iastore, 1) := dk_get kX10_enter_0_ok 96 rfl
theorem dX10_enter_169 : decode cX10_enter 169 = .ok (.aload_n 0, 1) := dk_get kX10_enter_0_ok 97 rfl
theorem dX10_enter_170 : decode cX10_enter 170 = .ok (.getfield 21, 3) := dk_get kX10_enter_0_ok 98 rfl
theorem dX10_enter_173 : decode cX10_enter 173 = .ok (.iload_n 1, 1) := dk_get kX10_enter_0_ok 99 rfl
theorem dX10_enter_174 : decode cX10_enter 174 = .ok (.aload_n 0, 1) := dk_get kX10_enter_0_ok 100 rfl
theorem dX10_enter_175 : decode cX10_enter 175 = .ok (.getfield 18, 3) := dk_get kX10_enter_0_ok 101 rfl
theorem dX10_enter_178 : decode cX10_enter 178 = .ok (.iload_n 2, 1) := dk_get kX10_enter_0_ok 102 rfl
theorem dX10_enter_179 : decode cX10_enter 179 = .ok (.iaload, 1) := dk_get kX10_enter_0_ok 103 rfl
theorem dX10_enter_180 : decode cX10_enter 180 = .ok (.iastore, 1) := dk_get kX10_enter_0_ok 104 rfl
theorem dX10_enter_181 : decode cX10_enter 181 = .ok (.aload_n 0, 1) := dk_get kX10_enter_0_ok 105 rfl
theorem dX10_enter_182 : decode cX10_enter 182 = .ok (.iload_n 1, 1) := dk_get kX10_enter_0_ok 106 rfl
theorem dX10_enter_183 : decode cX10_enter 183 = .ok (.iconst 1, 1) := dk_get kX10_enter_0_ok 107 rfl
theorem dX10_enter_184 : decode cX10_enter 184 = .ok (.iadd, 1) := dk_get kX10_enter_0_ok 108 rfl
theorem dX10_enter_185 : decode cX10_enter 185 = .ok (.iload 10, 2) := dk_get kX10_enter_0_ok 109 rfl
theorem dX10_enter_187 : decode cX10_enter 187 = .ok (.iload 11, 2) := dk_get kX10_enter_0_ok 110 rfl
theorem dX10_enter_189 : decode cX10_enter 189 = .ok (.lload 5, 2) := dk_get kX10_enter_0_ok 111 rfl
theorem dX10_enter_191 : decode cX10_enter 191 = .ok (.iload 7, 2) := dk_get kX10_enter_0_ok 112 rfl
theorem dX10_enter_193 : decode cX10_enter 193 = .ok (.i2l, 1) := dk_get kX10_enter_0_ok 113 rfl
theorem dX10_enter_194 : decode cX10_enter 194 = .ok (.iload_n 1, 1) := dk_get kX10_enter_0_ok 114 rfl
theorem dX10_enter_195 : decode cX10_enter 195 = .ok (.iload_n 1, 1) := dk_get kX10_enter_0_ok 115 rfl
theorem dX10_enter_196 : decode cX10_enter 196 = .ok (.iconst 1, 1) := dk_get kX10_enter_0_ok 116 rfl
theorem dX10_enter_197 : decode cX10_enter 197 = .ok (.isub, 1) := dk_get kX10_enter_0_ok 117 rfl
theorem dX10_enter_198 : decode cX10_enter 198 = .ok (.imul, 1) := dk_get kX10_enter_0_ok 118 rfl
theorem dX10_enter_199 : decode cX10_enter 199 = .ok (.iconst 2, 1) := dk_get kX10_enter_0_ok 119 rfl
def kX10_enter_1 : List (Nat × Instr × Nat) := [(200, .idiv, 1), (201, .lshl, 1), (202, .lor, 1), (203, .invokevirtual 57, 3), (206, .aload_n 0, 1), (207, .getfield 15, 3), (210, .iload_n 2, 1), (211, .iload 7, 2), (213, .iastore, 1), (214, .return_, 1)]
set_option maxRecDepth 100000 in
theorem kX10_enter_1_ok : kX10_enter_1.all (fun q => decide (decode cX10_enter q.1 = .ok q.2)) = true := by decide +kernel
theorem dX10_enter_200 : decode cX10_enter 200 = .ok (.idiv, 1) := dk_get kX10_enter_1_ok 0 rfl
theorem dX10_enter_201 : decode cX10_enter 201 = .ok (.lshl, 1) := dk_get kX10_enter_1_ok 1 rfl
theorem dX10_enter_202 : decode cX10_enter 202 = .ok (.lor, 1) := dk_get kX10_enter_1_ok 2 rfl
theorem dX10_enter_203 : decode cX10_enter 203 = .ok (.invokevirtual 57, 3) := dk_get kX10_enter_1_ok 3 rfl
theorem dX10_enter_206 : decode cX10_enter 206 = .ok (.aload_n 0, 1) := dk_get kX10_enter_1_ok 4 rfl
theorem dX10_enter_207 : decode cX10_enter 207 = .ok (.getfield 15, 3) := dk_get kX10_enter_1_ok 5 rfl
theorem dX10_enter_210 : decode cX10_enter 210 = .ok (.iload_n 2, 1) := dk_get kX10_enter_1_ok 6 rfl
theorem dX10_enter_211 : decode cX10_enter 211 = .ok (.iload 7, 2) := dk_get kX10_enter_1_ok 7 rfl
theorem dX10_enter_213 : decode cX10_enter 213 = .ok (.iastore, 1) := dk_get kX10_enter_1_ok 8 rfl
theorem dX10_enter_214 : decode cX10_enter 214 = .ok (.return_, 1) := dk_get kX10_enter_1_ok 9 rfl
def kX10_drawn : List (Nat × Instr × Nat) := [(0, .iconst 0, 1), (1, .istore_n 2, 1), (2, .aload_n 0, 1), (3, .getfield 54, 3), (6, .istore_n 3, 1), (7, .iload_n 3, 1), (8, .iload_n 1, 1), (9, .if_icmp .ge 25, 3), (12, .iload_n 2, 1), (13, .iconst 0, 1), (14, .aload_n 0, 1), (15, .getfield 31, 3), (18, .iload_n 1, 1), (19, .iload_n 3, 1), (20, .invokevirtual 109, 3), (23, .invokestatic 112, 3), (26, .iadd, 1), (27, .istore_n 2, 1), (28, .iinc 3 1, 3), (31, .goto (-24), 3), (34, .iload_n 2, 1), (35, .ireturn, 1)]
set_option maxRecDepth 100000 in
theorem kX10_drawn_ok : kX10_drawn.all (fun q => decide (decode cX10_drawn q.1 = .ok q.2)) = true := by decide +kernel
theorem dX10_drawn_0 : decode cX10_drawn 0 = .ok (.iconst 0, 1) := dk_get kX10_drawn_ok 0 rfl
theorem dX10_drawn_1 : decode cX10_drawn 1 = .ok (.istore_n 2, 1) := dk_get kX10_drawn_ok 1 rfl
theorem dX10_drawn_2 : decode cX10_drawn 2 = .ok (.aload_n 0, 1) := dk_get kX10_drawn_ok 2 rfl
theorem dX10_drawn_3 : decode cX10_drawn 3 = .ok (.getfield 54, 3) := dk_get kX10_drawn_ok 3 rfl
theorem dX10_drawn_6 : decode cX10_drawn 6 = .ok (.istore_n 3, 1) := dk_get kX10_drawn_ok 4 rfl
theorem dX10_drawn_7 : decode cX10_drawn 7 = .ok (.iload_n 3, 1) := dk_get kX10_drawn_ok 5 rfl
theorem dX10_drawn_8 : decode cX10_drawn 8 = .ok (.iload_n 1, 1) := dk_get kX10_drawn_ok 6 rfl
theorem dX10_drawn_9 : decode cX10_drawn 9 = .ok (.if_icmp .ge 25, 3) := dk_get kX10_drawn_ok 7 rfl
theorem dX10_drawn_12 : decode cX10_drawn 12 = .ok (.iload_n 2, 1) := dk_get kX10_drawn_ok 8 rfl
theorem dX10_drawn_13 : decode cX10_drawn 13 = .ok (.iconst 0, 1) := dk_get kX10_drawn_ok 9 rfl
theorem dX10_drawn_14 : decode cX10_drawn 14 = .ok (.aload_n 0, 1) := dk_get kX10_drawn_ok 10 rfl
theorem dX10_drawn_15 : decode cX10_drawn 15 = .ok (.getfield 31, 3) := dk_get kX10_drawn_ok 11 rfl
theorem dX10_drawn_18 : decode cX10_drawn 18 = .ok (.iload_n 1, 1) := dk_get kX10_drawn_ok 12 rfl
theorem dX10_drawn_19 : decode cX10_drawn 19 = .ok (.iload_n 3, 1) := dk_get kX10_drawn_ok 13 rfl
theorem dX10_drawn_20 : decode cX10_drawn 20 = .ok (.invokevirtual 109, 3) := dk_get kX10_drawn_ok 14 rfl
theorem dX10_drawn_23 : decode cX10_drawn 23 = .ok (.invokestatic 112, 3) := dk_get kX10_drawn_ok 15 rfl
theorem dX10_drawn_26 : decode cX10_drawn 26 = .ok (.iadd, 1) := dk_get kX10_drawn_ok 16 rfl
theorem dX10_drawn_27 : decode cX10_drawn 27 = .ok (.istore_n 2, 1) := dk_get kX10_drawn_ok 17 rfl
theorem dX10_drawn_28 : decode cX10_drawn 28 = .ok (.iinc 3 1, 3) := dk_get kX10_drawn_ok 18 rfl
theorem dX10_drawn_31 : decode cX10_drawn 31 = .ok (.goto (-24), 3) := dk_get kX10_drawn_ok 19 rfl
theorem dX10_drawn_34 : decode cX10_drawn 34 = .ok (.iload_n 2, 1) := dk_get kX10_drawn_ok 20 rfl
theorem dX10_drawn_35 : decode cX10_drawn 35 = .ok (.ireturn, 1) := dk_get kX10_drawn_ok 21 rfl
def kX10_pullTo : List (Nat × Instr × Nat) := [(0, .iconst 0, 1), (1, .istore_n 3, 1), (2, .aload_n 0, 1), (3, .getfield 54, 3), (6, .istore 4, 2), (8, .iload 4, 2), (10, .iload_n 1, 1), (11, .if_icmp .ge 31, 3), (14, .iload_n 2, 1), (15, .iload 4, 2), (17, .iushr, 1), (18, .iconst 1, 1), (19, .iand, 1), (20, .ifCond .eq 16, 3), (23, .iload_n 3, 1), (24, .aload_n 0, 1), (25, .getfield 31, 3), (28, .iload_n 1, 1), (29, .iload 4, 2), (31, .invokevirtual 109, 3), (34, .iadd, 1), (35, .istore_n 3, 1), (36, .iinc 4 1, 3), (39, .goto (-31), 3), (42, .iload_n 3, 1), (43, .ireturn, 1)]
set_option maxRecDepth 100000 in
theorem kX10_pullTo_ok : kX10_pullTo.all (fun q => decide (decode cX10_pullTo q.1 = .ok q.2)) = true := by decide +kernel
theorem dX10_pullTo_0 : decode cX10_pullTo 0 = .ok (.iconst 0, 1) := dk_get kX10_pullTo_ok 0 rfl
theorem dX10_pullTo_1 : decode cX10_pullTo 1 = .ok (.istore_n 3, 1) := dk_get kX10_pullTo_ok 1 rfl
theorem dX10_pullTo_2 : decode cX10_pullTo 2 = .ok (.aload_n 0, 1) := dk_get kX10_pullTo_ok 2 rfl
theorem dX10_pullTo_3 : decode cX10_pullTo 3 = .ok (.getfield 54, 3) := dk_get kX10_pullTo_ok 3 rfl
theorem dX10_pullTo_6 : decode cX10_pullTo 6 = .ok (.istore 4, 2) := dk_get kX10_pullTo_ok 4 rfl
theorem dX10_pullTo_8 : decode cX10_pullTo 8 = .ok (.iload 4, 2) := dk_get kX10_pullTo_ok 5 rfl
theorem dX10_pullTo_10 : decode cX10_pullTo 10 = .ok (.iload_n 1, 1) := dk_get kX10_pullTo_ok 6 rfl
theorem dX10_pullTo_11 : decode cX10_pullTo 11 = .ok (.if_icmp .ge 31, 3) := dk_get kX10_pullTo_ok 7 rfl
theorem dX10_pullTo_14 : decode cX10_pullTo 14 = .ok (.iload_n 2, 1) := dk_get kX10_pullTo_ok 8 rfl
theorem dX10_pullTo_15 : decode cX10_pullTo 15 = .ok (.iload 4, 2) := dk_get kX10_pullTo_ok 9 rfl
theorem dX10_pullTo_17 : decode cX10_pullTo 17 = .ok (.iushr, 1) := dk_get kX10_pullTo_ok 10 rfl
theorem dX10_pullTo_18 : decode cX10_pullTo 18 = .ok (.iconst 1, 1) := dk_get kX10_pullTo_ok 11 rfl
theorem dX10_pullTo_19 : decode cX10_pullTo 19 = .ok (.iand, 1) := dk_get kX10_pullTo_ok 12 rfl
theorem dX10_pullTo_20 : decode cX10_pullTo 20 = .ok (.ifCond .eq 16, 3) := dk_get kX10_pullTo_ok 13 rfl
theorem dX10_pullTo_23 : decode cX10_pullTo 23 = .ok (.iload_n 3, 1) := dk_get kX10_pullTo_ok 14 rfl
theorem dX10_pullTo_24 : decode cX10_pullTo 24 = .ok (.aload_n 0, 1) := dk_get kX10_pullTo_ok 15 rfl
theorem dX10_pullTo_25 : decode cX10_pullTo 25 = .ok (.getfield 31, 3) := dk_get kX10_pullTo_ok 16 rfl
theorem dX10_pullTo_28 : decode cX10_pullTo 28 = .ok (.iload_n 1, 1) := dk_get kX10_pullTo_ok 17 rfl
theorem dX10_pullTo_29 : decode cX10_pullTo 29 = .ok (.iload 4, 2) := dk_get kX10_pullTo_ok 18 rfl
theorem dX10_pullTo_31 : decode cX10_pullTo 31 = .ok (.invokevirtual 109, 3) := dk_get kX10_pullTo_ok 19 rfl
theorem dX10_pullTo_34 : decode cX10_pullTo 34 = .ok (.iadd, 1) := dk_get kX10_pullTo_ok 20 rfl
theorem dX10_pullTo_35 : decode cX10_pullTo 35 = .ok (.istore_n 3, 1) := dk_get kX10_pullTo_ok 21 rfl
theorem dX10_pullTo_36 : decode cX10_pullTo 36 = .ok (.iinc 4 1, 3) := dk_get kX10_pullTo_ok 22 rfl
theorem dX10_pullTo_39 : decode cX10_pullTo 39 = .ok (.goto (-31), 3) := dk_get kX10_pullTo_ok 23 rfl
theorem dX10_pullTo_42 : decode cX10_pullTo 42 = .ok (.iload_n 3, 1) := dk_get kX10_pullTo_ok 24 rfl
theorem dX10_pullTo_43 : decode cX10_pullTo 43 = .ok (.ireturn, 1) := dk_get kX10_pullTo_ok 25 rfl
def kX10_record : List (Nat × Instr × Nat) := [(0, .aload_n 0, 1), (1, .getfield 35, 3), (4, .ifCond .ne 16, 3), (7, .aload_n 0, 1), (8, .iload_n 1, 1), (9, .putfield 43, 3), (12, .aload_n 0, 1), (13, .iload_n 1, 1), (14, .iconst 1, 1), (15, .isub, 1), (16, .putfield 51, 3), (19, .return_, 1), (20, .aload_n 0, 1), (21, .getfield 35, 3), (24, .iconst 2, 1), (25, .if_icmp .eq 10, 3), (28, .aload_n 0, 1), (29, .getfield 61, 3), (32, .ifCond .ne 18, 3), (35, .aload_n 0, 1), (36, .getfield 21, 3), (39, .iconst 0, 1), (40, .aload_n 0, 1), (41, .getfield 24, 3), (44, .iconst 0, 1), (45, .bipush 10, 2), (47, .invokestatic 117, 3), (50, .aload_n 0, 1), (51, .getfield 35, 3), (54, .iconst 2, 1), (55, .if_icmp .ne 9, 3), (58, .aload_n 0, 1), (59, .iload_n 2, 1), (60, .putfield 40, 3), (63, .return_, 1), (64, .aload_n 0, 1), (65, .dup, 1), (66, .getfield 66, 3), (69, .lload_n 3, 1), (70, .land, 1), (71, .putfield 66, 3), (74, .aload_n 0, 1), (75, .dup, 1), (76, .getfield 70, 3), (79, .lload_n 3, 1), (80, .lor, 1), (81, .putfield 70, 3), (84, .aload_n 0, 1), (85, .getfield 61, 3), (88, .sipush 200, 3), (91, .if_icmp .ge 13, 3), (94, .aload_n 0, 1), (95, .getfield 27, 3), (98, .aload_n 0, 1), (99, .getfield 61, 3), (102, .lload_n 3, 1), (103, .lastore, 1), (104, .aload_n 0, 1), (105, .dup, 1), (106, .getfield 61, 3), (109, .iconst 1, 1), (110, .iadd, 1), (111, .putfield 61, 3), (114, .return_, 1)]
set_option maxRecDepth 100000 in
theorem kX10_record_ok : kX10_record.all (fun q => decide (decode cX10_record q.1 = .ok q.2)) = true := by decide +kernel
theorem dX10_record_0 : decode cX10_record 0 = .ok (.aload_n 0, 1) := dk_get kX10_record_ok 0 rfl
theorem dX10_record_1 : decode cX10_record 1 = .ok (.getfield 35, 3) := dk_get kX10_record_ok 1 rfl
theorem dX10_record_4 : decode cX10_record 4 = .ok (.ifCond .ne 16, 3) := dk_get kX10_record_ok 2 rfl
theorem dX10_record_7 : decode cX10_record 7 = .ok (.aload_n 0, 1) := dk_get kX10_record_ok 3 rfl
theorem dX10_record_8 : decode cX10_record 8 = .ok (.iload_n 1, 1) := dk_get kX10_record_ok 4 rfl
theorem dX10_record_9 : decode cX10_record 9 = .ok (.putfield 43, 3) := dk_get kX10_record_ok 5 rfl
theorem dX10_record_12 : decode cX10_record 12 = .ok (.aload_n 0, 1) := dk_get kX10_record_ok 6 rfl
theorem dX10_record_13 : decode cX10_record 13 = .ok (.iload_n 1, 1) := dk_get kX10_record_ok 7 rfl
theorem dX10_record_14 : decode cX10_record 14 = .ok (.iconst 1, 1) := dk_get kX10_record_ok 8 rfl
theorem dX10_record_15 : decode cX10_record 15 = .ok (.isub, 1) := dk_get kX10_record_ok 9 rfl
theorem dX10_record_16 : decode cX10_record 16 = .ok (.putfield 51, 3) := dk_get kX10_record_ok 10 rfl
theorem dX10_record_19 : decode cX10_record 19 = .ok (.return_, 1) := dk_get kX10_record_ok 11 rfl
theorem dX10_record_20 : decode cX10_record 20 = .ok (.aload_n 0, 1) := dk_get kX10_record_ok 12 rfl
theorem dX10_record_21 : decode cX10_record 21 = .ok (.getfield 35, 3) := dk_get kX10_record_ok 13 rfl
theorem dX10_record_24 : decode cX10_record 24 = .ok (.iconst 2, 1) := dk_get kX10_record_ok 14 rfl
theorem dX10_record_25 : decode cX10_record 25 = .ok (.if_icmp .eq 10, 3) := dk_get kX10_record_ok 15 rfl
theorem dX10_record_28 : decode cX10_record 28 = .ok (.aload_n 0, 1) := dk_get kX10_record_ok 16 rfl
theorem dX10_record_29 : decode cX10_record 29 = .ok (.getfield 61, 3) := dk_get kX10_record_ok 17 rfl
theorem dX10_record_32 : decode cX10_record 32 = .ok (.ifCond .ne 18, 3) := dk_get kX10_record_ok 18 rfl
theorem dX10_record_35 : decode cX10_record 35 = .ok (.aload_n 0, 1) := dk_get kX10_record_ok 19 rfl
theorem dX10_record_36 : decode cX10_record 36 = .ok (.getfield 21, 3) := dk_get kX10_record_ok 20 rfl
theorem dX10_record_39 : decode cX10_record 39 = .ok (.iconst 0, 1) := dk_get kX10_record_ok 21 rfl
theorem dX10_record_40 : decode cX10_record 40 = .ok (.aload_n 0, 1) := dk_get kX10_record_ok 22 rfl
theorem dX10_record_41 : decode cX10_record 41 = .ok (.getfield 24, 3) := dk_get kX10_record_ok 23 rfl
theorem dX10_record_44 : decode cX10_record 44 = .ok (.iconst 0, 1) := dk_get kX10_record_ok 24 rfl
theorem dX10_record_45 : decode cX10_record 45 = .ok (.bipush 10, 2) := dk_get kX10_record_ok 25 rfl
theorem dX10_record_47 : decode cX10_record 47 = .ok (.invokestatic 117, 3) := dk_get kX10_record_ok 26 rfl
theorem dX10_record_50 : decode cX10_record 50 = .ok (.aload_n 0, 1) := dk_get kX10_record_ok 27 rfl
theorem dX10_record_51 : decode cX10_record 51 = .ok (.getfield 35, 3) := dk_get kX10_record_ok 28 rfl
theorem dX10_record_54 : decode cX10_record 54 = .ok (.iconst 2, 1) := dk_get kX10_record_ok 29 rfl
theorem dX10_record_55 : decode cX10_record 55 = .ok (.if_icmp .ne 9, 3) := dk_get kX10_record_ok 30 rfl
theorem dX10_record_58 : decode cX10_record 58 = .ok (.aload_n 0, 1) := dk_get kX10_record_ok 31 rfl
theorem dX10_record_59 : decode cX10_record 59 = .ok (.iload_n 2, 1) := dk_get kX10_record_ok 32 rfl
theorem dX10_record_60 : decode cX10_record 60 = .ok (.putfield 40, 3) := dk_get kX10_record_ok 33 rfl
theorem dX10_record_63 : decode cX10_record 63 = .ok (.return_, 1) := dk_get kX10_record_ok 34 rfl
theorem dX10_record_64 : decode cX10_record 64 = .ok (.aload_n 0, 1) := dk_get kX10_record_ok 35 rfl
theorem dX10_record_65 : decode cX10_record 65 = .ok (.dup, 1) := dk_get kX10_record_ok 36 rfl
theorem dX10_record_66 : decode cX10_record 66 = .ok (.getfield 66, 3) := dk_get kX10_record_ok 37 rfl
theorem dX10_record_69 : decode cX10_record 69 = .ok (.lload_n 3, 1) := dk_get kX10_record_ok 38 rfl
theorem dX10_record_70 : decode cX10_record 70 = .ok (.land, 1) := dk_get kX10_record_ok 39 rfl
theorem dX10_record_71 : decode cX10_record 71 = .ok (.putfield 66, 3) := dk_get kX10_record_ok 40 rfl
theorem dX10_record_74 : decode cX10_record 74 = .ok (.aload_n 0, 1) := dk_get kX10_record_ok 41 rfl
theorem dX10_record_75 : decode cX10_record 75 = .ok (.dup, 1) := dk_get kX10_record_ok 42 rfl
theorem dX10_record_76 : decode cX10_record 76 = .ok (.getfield 70, 3) := dk_get kX10_record_ok 43 rfl
theorem dX10_record_79 : decode cX10_record 79 = .ok (.lload_n 3, 1) := dk_get kX10_record_ok 44 rfl
theorem dX10_record_80 : decode cX10_record 80 = .ok (.lor, 1) := dk_get kX10_record_ok 45 rfl
theorem dX10_record_81 : decode cX10_record 81 = .ok (.putfield 70, 3) := dk_get kX10_record_ok 46 rfl
theorem dX10_record_84 : decode cX10_record 84 = .ok (.aload_n 0, 1) := dk_get kX10_record_ok 47 rfl
theorem dX10_record_85 : decode cX10_record 85 = .ok (.getfield 61, 3) := dk_get kX10_record_ok 48 rfl
theorem dX10_record_88 : decode cX10_record 88 = .ok (.sipush 200, 3) := dk_get kX10_record_ok 49 rfl
theorem dX10_record_91 : decode cX10_record 91 = .ok (.if_icmp .ge 13, 3) := dk_get kX10_record_ok 50 rfl
theorem dX10_record_94 : decode cX10_record 94 = .ok (.aload_n 0, 1) := dk_get kX10_record_ok 51 rfl
theorem dX10_record_95 : decode cX10_record 95 = .ok (.getfield 27, 3) := dk_get kX10_record_ok 52 rfl
theorem dX10_record_98 : decode cX10_record 98 = .ok (.aload_n 0, 1) := dk_get kX10_record_ok 53 rfl
theorem dX10_record_99 : decode cX10_record 99 = .ok (.getfield 61, 3) := dk_get kX10_record_ok 54 rfl
theorem dX10_record_102 : decode cX10_record 102 = .ok (.lload_n 3, 1) := dk_get kX10_record_ok 55 rfl
theorem dX10_record_103 : decode cX10_record 103 = .ok (.lastore, 1) := dk_get kX10_record_ok 56 rfl
theorem dX10_record_104 : decode cX10_record 104 = .ok (.aload_n 0, 1) := dk_get kX10_record_ok 57 rfl
theorem dX10_record_105 : decode cX10_record 105 = .ok (.dup, 1) := dk_get kX10_record_ok 58 rfl
theorem dX10_record_106 : decode cX10_record 106 = .ok (.getfield 61, 3) := dk_get kX10_record_ok 59 rfl
theorem dX10_record_109 : decode cX10_record 109 = .ok (.iconst 1, 1) := dk_get kX10_record_ok 60 rfl
theorem dX10_record_110 : decode cX10_record 110 = .ok (.iadd, 1) := dk_get kX10_record_ok 61 rfl
theorem dX10_record_111 : decode cX10_record 111 = .ok (.putfield 61, 3) := dk_get kX10_record_ok 62 rfl
theorem dX10_record_114 : decode cX10_record 114 = .ok (.return_, 1) := dk_get kX10_record_ok 63 rfl
def kX10_heapOf : List (Nat × Instr × Nat) := [(0, .aload_n 0, 1), (1, .getfield 31, 3), (4, .iload_n 1, 1), (5, .invokevirtual 123, 3), (8, .istore_n 2, 1), (9, .iload_n 2, 1), (10, .iconst (-1), 1), (11, .if_icmp .ne 7, 3), (14, .iconst (-1), 1), (15, .goto 17, 3), (18, .aload_n 0, 1), (19, .getfield 31, 3), (22, .getfield 126, 3), (25, .aload_n 0, 1), (26, .getfield 24, 3), (29, .iload_n 2, 1), (30, .iaload, 1), (31, .iaload, 1), (32, .ireturn, 1)]
set_option maxRecDepth 100000 in
theorem kX10_heapOf_ok : kX10_heapOf.all (fun q => decide (decode cX10_heapOf q.1 = .ok q.2)) = true := by decide +kernel
theorem dX10_heapOf_0 : decode cX10_heapOf 0 = .ok (.aload_n 0, 1) := dk_get kX10_heapOf_ok 0 rfl
theorem dX10_heapOf_1 : decode cX10_heapOf 1 = .ok (.getfield 31, 3) := dk_get kX10_heapOf_ok 1 rfl
theorem dX10_heapOf_4 : decode cX10_heapOf 4 = .ok (.iload_n 1, 1) := dk_get kX10_heapOf_ok 2 rfl
theorem dX10_heapOf_5 : decode cX10_heapOf 5 = .ok (.invokevirtual 123, 3) := dk_get kX10_heapOf_ok 3 rfl
theorem dX10_heapOf_8 : decode cX10_heapOf 8 = .ok (.istore_n 2, 1) := dk_get kX10_heapOf_ok 4 rfl
theorem dX10_heapOf_9 : decode cX10_heapOf 9 = .ok (.iload_n 2, 1) := dk_get kX10_heapOf_ok 5 rfl
theorem dX10_heapOf_10 : decode cX10_heapOf 10 = .ok (.iconst (-1), 1) := dk_get kX10_heapOf_ok 6 rfl
theorem dX10_heapOf_11 : decode cX10_heapOf 11 = .ok (.if_icmp .ne 7, 3) := dk_get kX10_heapOf_ok 7 rfl
theorem dX10_heapOf_14 : decode cX10_heapOf 14 = .ok (.iconst (-1), 1) := dk_get kX10_heapOf_ok 8 rfl
theorem dX10_heapOf_15 : decode cX10_heapOf 15 = .ok (.goto 17, 3) := dk_get kX10_heapOf_ok 9 rfl
theorem dX10_heapOf_18 : decode cX10_heapOf 18 = .ok (.aload_n 0, 1) := dk_get kX10_heapOf_ok 10 rfl
theorem dX10_heapOf_19 : decode cX10_heapOf 19 = .ok (.getfield 31, 3) := dk_get kX10_heapOf_ok 11 rfl
theorem dX10_heapOf_22 : decode cX10_heapOf 22 = .ok (.getfield 126, 3) := dk_get kX10_heapOf_ok 12 rfl
theorem dX10_heapOf_25 : decode cX10_heapOf 25 = .ok (.aload_n 0, 1) := dk_get kX10_heapOf_ok 13 rfl
theorem dX10_heapOf_26 : decode cX10_heapOf 26 = .ok (.getfield 24, 3) := dk_get kX10_heapOf_ok 14 rfl
theorem dX10_heapOf_29 : decode cX10_heapOf 29 = .ok (.iload_n 2, 1) := dk_get kX10_heapOf_ok 15 rfl
theorem dX10_heapOf_30 : decode cX10_heapOf 30 = .ok (.iaload, 1) := dk_get kX10_heapOf_ok 16 rfl
theorem dX10_heapOf_31 : decode cX10_heapOf 31 = .ok (.iaload, 1) := dk_get kX10_heapOf_ok 17 rfl
theorem dX10_heapOf_32 : decode cX10_heapOf 32 = .ok (.ireturn, 1) := dk_get kX10_heapOf_ok 18 rfl
def kX10_copyFirst : List (Nat × Instr × Nat) := [(0, .iconst 0, 1), (1, .istore_n 2, 1), (2, .iload_n 2, 1), (3, .aload_n 0, 1), (4, .getfield 31, 3), (7, .getfield 46, 3), (10, .if_icmp .ge 34, 3), (13, .aload_n 1, 1), (14, .aload_n 0, 1), (15, .getfield 31, 3), (18, .getfield 126, 3), (21, .iload_n 2, 1), (22, .iaload, 1), (23, .aload_n 0, 1), (24, .getfield 31, 3), (27, .getfield 126, 3), (30, .aload_n 0, 1), (31, .getfield 24, 3), (34, .iload_n 2, 1), (35, .iaload, 1), (36, .iaload, 1), (37, .iastore, 1), (38, .iinc 2 1, 3), (41, .goto (-39), 3), (44, .return_, 1)]
set_option maxRecDepth 100000 in
theorem kX10_copyFirst_ok : kX10_copyFirst.all (fun q => decide (decode cX10_copyFirst q.1 = .ok q.2)) = true := by decide +kernel
theorem dX10_copyFirst_0 : decode cX10_copyFirst 0 = .ok (.iconst 0, 1) := dk_get kX10_copyFirst_ok 0 rfl
theorem dX10_copyFirst_1 : decode cX10_copyFirst 1 = .ok (.istore_n 2, 1) := dk_get kX10_copyFirst_ok 1 rfl
theorem dX10_copyFirst_2 : decode cX10_copyFirst 2 = .ok (.iload_n 2, 1) := dk_get kX10_copyFirst_ok 2 rfl
theorem dX10_copyFirst_3 : decode cX10_copyFirst 3 = .ok (.aload_n 0, 1) := dk_get kX10_copyFirst_ok 3 rfl
theorem dX10_copyFirst_4 : decode cX10_copyFirst 4 = .ok (.getfield 31, 3) := dk_get kX10_copyFirst_ok 4 rfl
theorem dX10_copyFirst_7 : decode cX10_copyFirst 7 = .ok (.getfield 46, 3) := dk_get kX10_copyFirst_ok 5 rfl
theorem dX10_copyFirst_10 : decode cX10_copyFirst 10 = .ok (.if_icmp .ge 34, 3) := dk_get kX10_copyFirst_ok 6 rfl
theorem dX10_copyFirst_13 : decode cX10_copyFirst 13 = .ok (.aload_n 1, 1) := dk_get kX10_copyFirst_ok 7 rfl
theorem dX10_copyFirst_14 : decode cX10_copyFirst 14 = .ok (.aload_n 0, 1) := dk_get kX10_copyFirst_ok 8 rfl
theorem dX10_copyFirst_15 : decode cX10_copyFirst 15 = .ok (.getfield 31, 3) := dk_get kX10_copyFirst_ok 9 rfl
theorem dX10_copyFirst_18 : decode cX10_copyFirst 18 = .ok (.getfield 126, 3) := dk_get kX10_copyFirst_ok 10 rfl
theorem dX10_copyFirst_21 : decode cX10_copyFirst 21 = .ok (.iload_n 2, 1) := dk_get kX10_copyFirst_ok 11 rfl
theorem dX10_copyFirst_22 : decode cX10_copyFirst 22 = .ok (.iaload, 1) := dk_get kX10_copyFirst_ok 12 rfl
theorem dX10_copyFirst_23 : decode cX10_copyFirst 23 = .ok (.aload_n 0, 1) := dk_get kX10_copyFirst_ok 13 rfl
theorem dX10_copyFirst_24 : decode cX10_copyFirst 24 = .ok (.getfield 31, 3) := dk_get kX10_copyFirst_ok 14 rfl
theorem dX10_copyFirst_27 : decode cX10_copyFirst 27 = .ok (.getfield 126, 3) := dk_get kX10_copyFirst_ok 15 rfl
theorem dX10_copyFirst_30 : decode cX10_copyFirst 30 = .ok (.aload_n 0, 1) := dk_get kX10_copyFirst_ok 16 rfl
theorem dX10_copyFirst_31 : decode cX10_copyFirst 31 = .ok (.getfield 24, 3) := dk_get kX10_copyFirst_ok 17 rfl
theorem dX10_copyFirst_34 : decode cX10_copyFirst 34 = .ok (.iload_n 2, 1) := dk_get kX10_copyFirst_ok 18 rfl
theorem dX10_copyFirst_35 : decode cX10_copyFirst 35 = .ok (.iaload, 1) := dk_get kX10_copyFirst_ok 19 rfl
theorem dX10_copyFirst_36 : decode cX10_copyFirst 36 = .ok (.iaload, 1) := dk_get kX10_copyFirst_ok 20 rfl
theorem dX10_copyFirst_37 : decode cX10_copyFirst 37 = .ok (.iastore, 1) := dk_get kX10_copyFirst_ok 21 rfl
theorem dX10_copyFirst_38 : decode cX10_copyFirst 38 = .ok (.iinc 2 1, 3) := dk_get kX10_copyFirst_ok 22 rfl
theorem dX10_copyFirst_41 : decode cX10_copyFirst 41 = .ok (.goto (-39), 3) := dk_get kX10_copyFirst_ok 23 rfl
theorem dX10_copyFirst_44 : decode cX10_copyFirst 44 = .ok (.return_, 1) := dk_get kX10_copyFirst_ok 24 rfl
def kX10_pairBit : List (Nat × Instr × Nat) := [(0, .lconst 1, 1), (1, .iload_n 1, 1), (2, .iload_n 1, 1), (3, .iconst 1, 1), (4, .isub, 1), (5, .imul, 1), (6, .iconst 2, 1), (7, .idiv, 1), (8, .iload_n 0, 1), (9, .iadd, 1), (10, .lshl, 1), (11, .lreturn, 1)]
set_option maxRecDepth 100000 in
theorem kX10_pairBit_ok : kX10_pairBit.all (fun q => decide (decode cX10_pairBit q.1 = .ok q.2)) = true := by decide +kernel
theorem dX10_pairBit_0 : decode cX10_pairBit 0 = .ok (.lconst 1, 1) := dk_get kX10_pairBit_ok 0 rfl
theorem dX10_pairBit_1 : decode cX10_pairBit 1 = .ok (.iload_n 1, 1) := dk_get kX10_pairBit_ok 1 rfl
theorem dX10_pairBit_2 : decode cX10_pairBit 2 = .ok (.iload_n 1, 1) := dk_get kX10_pairBit_ok 2 rfl
theorem dX10_pairBit_3 : decode cX10_pairBit 3 = .ok (.iconst 1, 1) := dk_get kX10_pairBit_ok 3 rfl
theorem dX10_pairBit_4 : decode cX10_pairBit 4 = .ok (.isub, 1) := dk_get kX10_pairBit_ok 4 rfl
theorem dX10_pairBit_5 : decode cX10_pairBit 5 = .ok (.imul, 1) := dk_get kX10_pairBit_ok 5 rfl
theorem dX10_pairBit_6 : decode cX10_pairBit 6 = .ok (.iconst 2, 1) := dk_get kX10_pairBit_ok 6 rfl
theorem dX10_pairBit_7 : decode cX10_pairBit 7 = .ok (.idiv, 1) := dk_get kX10_pairBit_ok 7 rfl
theorem dX10_pairBit_8 : decode cX10_pairBit 8 = .ok (.iload_n 0, 1) := dk_get kX10_pairBit_ok 8 rfl
theorem dX10_pairBit_9 : decode cX10_pairBit 9 = .ok (.iadd, 1) := dk_get kX10_pairBit_ok 9 rfl
theorem dX10_pairBit_10 : decode cX10_pairBit 10 = .ok (.lshl, 1) := dk_get kX10_pairBit_ok 10 rfl
theorem dX10_pairBit_11 : decode cX10_pairBit 11 = .ok (.lreturn, 1) := dk_get kX10_pairBit_ok 11 rfl
def kX10_togetherness : List (Nat × Instr × Nat) := [(0, .aload_n 0, 1), (1, .getfield 31, 3), (4, .iload_n 1, 1), (5, .invokevirtual 123, 3), (8, .istore_n 3, 1), (9, .aload_n 0, 1), (10, .getfield 31, 3), (13, .iload_n 2, 1), (14, .invokevirtual 123, 3), (17, .istore 4, 2), (19, .iload_n 3, 1), (20, .iconst (-1), 1), (21, .if_icmp .eq 9, 3), (24, .iload 4, 2), (26, .iconst (-1), 1), (27, .if_icmp .ne 6, 3), (30, .bipush (-2), 2), (32, .ireturn, 1), (33, .iload_n 3, 1), (34, .iload 4, 2), (36, .invokestatic 129, 3), (39, .iload_n 3, 1), (40, .iload 4, 2), (42, .invokestatic 112, 3), (45, .invokestatic 132, 3), (48, .lstore 5, 2), (50, .aload_n 0, 1), (51, .getfield 66, 3), (54, .lload 5, 2), (56, .land, 1), (57, .lconst 0, 1), (58, .lcmp, 1), (59, .ifCond .eq 7, 3), (62, .iconst 1, 1), (63, .goto 20, 3), (66, .aload_n 0, 1), (67, .getfield 70, 3), (70, .lload 5, 2), (72, .land, 1), (73, .lconst 0, 1), (74, .lcmp, 1), (75, .ifCond .eq 7, 3), (78, .iconst 0, 1), (79, .goto 4, 3), (82, .iconst (-1), 1), (83, .ireturn, 1)]
set_option maxRecDepth 100000 in
theorem kX10_togetherness_ok : kX10_togetherness.all (fun q => decide (decode cX10_togetherness q.1 = .ok q.2)) = true := by decide +kernel
theorem dX10_togetherness_0 : decode cX10_togetherness 0 = .ok (.aload_n 0, 1) := dk_get kX10_togetherness_ok 0 rfl
theorem dX10_togetherness_1 : decode cX10_togetherness 1 = .ok (.getfield 31, 3) := dk_get kX10_togetherness_ok 1 rfl
theorem dX10_togetherness_4 : decode cX10_togetherness 4 = .ok (.iload_n 1, 1) := dk_get kX10_togetherness_ok 2 rfl
theorem dX10_togetherness_5 : decode cX10_togetherness 5 = .ok (.invokevirtual 123, 3) := dk_get kX10_togetherness_ok 3 rfl
theorem dX10_togetherness_8 : decode cX10_togetherness 8 = .ok (.istore_n 3, 1) := dk_get kX10_togetherness_ok 4 rfl
theorem dX10_togetherness_9 : decode cX10_togetherness 9 = .ok (.aload_n 0, 1) := dk_get kX10_togetherness_ok 5 rfl
theorem dX10_togetherness_10 : decode cX10_togetherness 10 = .ok (.getfield 31, 3) := dk_get kX10_togetherness_ok 6 rfl
theorem dX10_togetherness_13 : decode cX10_togetherness 13 = .ok (.iload_n 2, 1) := dk_get kX10_togetherness_ok 7 rfl
theorem dX10_togetherness_14 : decode cX10_togetherness 14 = .ok (.invokevirtual 123, 3) := dk_get kX10_togetherness_ok 8 rfl
theorem dX10_togetherness_17 : decode cX10_togetherness 17 = .ok (.istore 4, 2) := dk_get kX10_togetherness_ok 9 rfl
theorem dX10_togetherness_19 : decode cX10_togetherness 19 = .ok (.iload_n 3, 1) := dk_get kX10_togetherness_ok 10 rfl
theorem dX10_togetherness_20 : decode cX10_togetherness 20 = .ok (.iconst (-1), 1) := dk_get kX10_togetherness_ok 11 rfl
theorem dX10_togetherness_21 : decode cX10_togetherness 21 = .ok (.if_icmp .eq 9, 3) := dk_get kX10_togetherness_ok 12 rfl
theorem dX10_togetherness_24 : decode cX10_togetherness 24 = .ok (.iload 4, 2) := dk_get kX10_togetherness_ok 13 rfl
theorem dX10_togetherness_26 : decode cX10_togetherness 26 = .ok (.iconst (-1), 1) := dk_get kX10_togetherness_ok 14 rfl
theorem dX10_togetherness_27 : decode cX10_togetherness 27 = .ok (.if_icmp .ne 6, 3) := dk_get kX10_togetherness_ok 15 rfl
theorem dX10_togetherness_30 : decode cX10_togetherness 30 = .ok (.bipush (-2), 2) := dk_get kX10_togetherness_ok 16 rfl
theorem dX10_togetherness_32 : decode cX10_togetherness 32 = .ok (.ireturn, 1) := dk_get kX10_togetherness_ok 17 rfl
theorem dX10_togetherness_33 : decode cX10_togetherness 33 = .ok (.iload_n 3, 1) := dk_get kX10_togetherness_ok 18 rfl
theorem dX10_togetherness_34 : decode cX10_togetherness 34 = .ok (.iload 4, 2) := dk_get kX10_togetherness_ok 19 rfl
theorem dX10_togetherness_36 : decode cX10_togetherness 36 = .ok (.invokestatic 129, 3) := dk_get kX10_togetherness_ok 20 rfl
theorem dX10_togetherness_39 : decode cX10_togetherness 39 = .ok (.iload_n 3, 1) := dk_get kX10_togetherness_ok 21 rfl
theorem dX10_togetherness_40 : decode cX10_togetherness 40 = .ok (.iload 4, 2) := dk_get kX10_togetherness_ok 22 rfl
theorem dX10_togetherness_42 : decode cX10_togetherness 42 = .ok (.invokestatic 112, 3) := dk_get kX10_togetherness_ok 23 rfl
theorem dX10_togetherness_45 : decode cX10_togetherness 45 = .ok (.invokestatic 132, 3) := dk_get kX10_togetherness_ok 24 rfl
theorem dX10_togetherness_48 : decode cX10_togetherness 48 = .ok (.lstore 5, 2) := dk_get kX10_togetherness_ok 25 rfl
theorem dX10_togetherness_50 : decode cX10_togetherness 50 = .ok (.aload_n 0, 1) := dk_get kX10_togetherness_ok 26 rfl
theorem dX10_togetherness_51 : decode cX10_togetherness 51 = .ok (.getfield 66, 3) := dk_get kX10_togetherness_ok 27 rfl
theorem dX10_togetherness_54 : decode cX10_togetherness 54 = .ok (.lload 5, 2) := dk_get kX10_togetherness_ok 28 rfl
theorem dX10_togetherness_56 : decode cX10_togetherness 56 = .ok (.land, 1) := dk_get kX10_togetherness_ok 29 rfl
theorem dX10_togetherness_57 : decode cX10_togetherness 57 = .ok (.lconst 0, 1) := dk_get kX10_togetherness_ok 30 rfl
theorem dX10_togetherness_58 : decode cX10_togetherness 58 = .ok (.lcmp, 1) := dk_get kX10_togetherness_ok 31 rfl
theorem dX10_togetherness_59 : decode cX10_togetherness 59 = .ok (.ifCond .eq 7, 3) := dk_get kX10_togetherness_ok 32 rfl
theorem dX10_togetherness_62 : decode cX10_togetherness 62 = .ok (.iconst 1, 1) := dk_get kX10_togetherness_ok 33 rfl
theorem dX10_togetherness_63 : decode cX10_togetherness 63 = .ok (.goto 20, 3) := dk_get kX10_togetherness_ok 34 rfl
theorem dX10_togetherness_66 : decode cX10_togetherness 66 = .ok (.aload_n 0, 1) := dk_get kX10_togetherness_ok 35 rfl
theorem dX10_togetherness_67 : decode cX10_togetherness 67 = .ok (.getfield 70, 3) := dk_get kX10_togetherness_ok 36 rfl
theorem dX10_togetherness_70 : decode cX10_togetherness 70 = .ok (.lload 5, 2) := dk_get kX10_togetherness_ok 37 rfl
theorem dX10_togetherness_72 : decode cX10_togetherness 72 = .ok (.land, 1) := dk_get kX10_togetherness_ok 38 rfl
theorem dX10_togetherness_73 : decode cX10_togetherness 73 = .ok (.lconst 0, 1) := dk_get kX10_togetherness_ok 39 rfl
theorem dX10_togetherness_74 : decode cX10_togetherness 74 = .ok (.lcmp, 1) := dk_get kX10_togetherness_ok 40 rfl
theorem dX10_togetherness_75 : decode cX10_togetherness 75 = .ok (.ifCond .eq 7, 3) := dk_get kX10_togetherness_ok 41 rfl
theorem dX10_togetherness_78 : decode cX10_togetherness 78 = .ok (.iconst 0, 1) := dk_get kX10_togetherness_ok 42 rfl
theorem dX10_togetherness_79 : decode cX10_togetherness 79 = .ok (.goto 4, 3) := dk_get kX10_togetherness_ok 43 rfl
theorem dX10_togetherness_82 : decode cX10_togetherness 82 = .ok (.iconst (-1), 1) := dk_get kX10_togetherness_ok 44 rfl
theorem dX10_togetherness_83 : decode cX10_togetherness 83 = .ok (.ireturn, 1) := dk_get kX10_togetherness_ok 45 rfl
def kX10_question : List (Nat × Instr × Nat) := [(0, .aload_n 0, 1), (1, .getfield 70, 3), (4, .aload_n 0, 1), (5, .getfield 66, 3), (8, .ldc2_w 64, 3), (11, .lxor, 1), (12, .land, 1), (13, .lstore_n 1, 1), (14, .ldc 39, 2), (16, .istore_n 3, 1), (17, .iconst (-1), 1), (18, .istore 4, 2), (20, .iconst 0, 1), (21, .istore 5, 2), (23, .iload 5, 2), (25, .aload_n 0, 1), (26, .getfield 31, 3), (29, .getfield 46, 3), (32, .if_icmp .ge 106, 3), (35, .iload 5, 2), (37, .iconst 1, 1), (38, .iadd, 1), (39, .istore 6, 2), (41, .iload 6, 2), (43, .aload_n 0, 1), (44, .getfield 31, 3), (47, .getfield 46, 3), (50, .if_icmp .ge 82, 3), (53, .iload 5, 2), (55, .iload 6, 2), (57, .invokestatic 132, 3), (60, .lstore 7, 2), (62, .lload_n 1, 1), (63, .lload 7, 2), (65, .land, 1), (66, .lconst 0, 1), (67, .lcmp, 1), (68, .ifCond .eq 58, 3), (71, .aload_n 0, 1), (72, .lload 7, 2), (74, .lload 7, 2), (76, .invokevirtual 136, 3), (79, .aload_n 0, 1), (80, .lload 7, 2), (82, .lconst 0, 1), (83, .invokevirtual 136, 3), (86, .invokestatic 112, 3), (89, .istore 9, 2), (91, .iload 9, 2), (93, .iload_n 3, 1), (94, .if_icmp .ge 32, 3), (97, .iload 9, 2), (99, .istore_n 3, 1), (100, .bipush 32, 2), (102, .aload_n 0, 1), (103, .getfield 31, 3), (106, .getfield 126, 3), (109, .iload 5, 2), (111, .iaload, 1), (112, .imul, 1), (113, .aload_n 0, 1), (114, .getfield 31, 3), (117, .getfield 126, 3), (120, .iload 6, 2), (122, .iaload, 1), (123, .iadd, 1), (124, .istore 4, 2), (126, .iinc 6 1, 3), (129, .goto (-88), 3), (132, .iinc 5 1, 3), (135, .goto (-112), 3), (138, .iload 4, 2), (140, .ireturn, 1)]
set_option maxRecDepth 100000 in
theorem kX10_question_ok : kX10_question.all (fun q => decide (decode cX10_question q.1 = .ok q.2)) = true := by decide +kernel
theorem dX10_question_0 : decode cX10_question 0 = .ok (.aload_n 0, 1) := dk_get kX10_question_ok 0 rfl
theorem dX10_question_1 : decode cX10_question 1 = .ok (.getfield 70, 3) := dk_get kX10_question_ok 1 rfl
theorem dX10_question_4 : decode cX10_question 4 = .ok (.aload_n 0, 1) := dk_get kX10_question_ok 2 rfl
theorem dX10_question_5 : decode cX10_question 5 = .ok (.getfield 66, 3) := dk_get kX10_question_ok 3 rfl
theorem dX10_question_8 : decode cX10_question 8 = .ok (.ldc2_w 64, 3) := dk_get kX10_question_ok 4 rfl
theorem dX10_question_11 : decode cX10_question 11 = .ok (.lxor, 1) := dk_get kX10_question_ok 5 rfl
theorem dX10_question_12 : decode cX10_question 12 = .ok (.land, 1) := dk_get kX10_question_ok 6 rfl
theorem dX10_question_13 : decode cX10_question 13 = .ok (.lstore_n 1, 1) := dk_get kX10_question_ok 7 rfl
theorem dX10_question_14 : decode cX10_question 14 = .ok (.ldc 39, 2) := dk_get kX10_question_ok 8 rfl
theorem dX10_question_16 : decode cX10_question 16 = .ok (.istore_n 3, 1) := dk_get kX10_question_ok 9 rfl
theorem dX10_question_17 : decode cX10_question 17 = .ok (.iconst (-1), 1) := dk_get kX10_question_ok 10 rfl
theorem dX10_question_18 : decode cX10_question 18 = .ok (.istore 4, 2) := dk_get kX10_question_ok 11 rfl
theorem dX10_question_20 : decode cX10_question 20 = .ok (.iconst 0, 1) := dk_get kX10_question_ok 12 rfl
theorem dX10_question_21 : decode cX10_question 21 = .ok (.istore 5, 2) := dk_get kX10_question_ok 13 rfl
theorem dX10_question_23 : decode cX10_question 23 = .ok (.iload 5, 2) := dk_get kX10_question_ok 14 rfl
theorem dX10_question_25 : decode cX10_question 25 = .ok (.aload_n 0, 1) := dk_get kX10_question_ok 15 rfl
theorem dX10_question_26 : decode cX10_question 26 = .ok (.getfield 31, 3) := dk_get kX10_question_ok 16 rfl
theorem dX10_question_29 : decode cX10_question 29 = .ok (.getfield 46, 3) := dk_get kX10_question_ok 17 rfl
theorem dX10_question_32 : decode cX10_question 32 = .ok (.if_icmp .ge 106, 3) := dk_get kX10_question_ok 18 rfl
theorem dX10_question_35 : decode cX10_question 35 = .ok (.iload 5, 2) := dk_get kX10_question_ok 19 rfl
theorem dX10_question_37 : decode cX10_question 37 = .ok (.iconst 1, 1) := dk_get kX10_question_ok 20 rfl
theorem dX10_question_38 : decode cX10_question 38 = .ok (.iadd, 1) := dk_get kX10_question_ok 21 rfl
theorem dX10_question_39 : decode cX10_question 39 = .ok (.istore 6, 2) := dk_get kX10_question_ok 22 rfl
theorem dX10_question_41 : decode cX10_question 41 = .ok (.iload 6, 2) := dk_get kX10_question_ok 23 rfl
theorem dX10_question_43 : decode cX10_question 43 = .ok (.aload_n 0, 1) := dk_get kX10_question_ok 24 rfl
theorem dX10_question_44 : decode cX10_question 44 = .ok (.getfield 31, 3) := dk_get kX10_question_ok 25 rfl
theorem dX10_question_47 : decode cX10_question 47 = .ok (.getfield 46, 3) := dk_get kX10_question_ok 26 rfl
theorem dX10_question_50 : decode cX10_question 50 = .ok (.if_icmp .ge 82, 3) := dk_get kX10_question_ok 27 rfl
theorem dX10_question_53 : decode cX10_question 53 = .ok (.iload 5, 2) := dk_get kX10_question_ok 28 rfl
theorem dX10_question_55 : decode cX10_question 55 = .ok (.iload 6, 2) := dk_get kX10_question_ok 29 rfl
theorem dX10_question_57 : decode cX10_question 57 = .ok (.invokestatic 132, 3) := dk_get kX10_question_ok 30 rfl
theorem dX10_question_60 : decode cX10_question 60 = .ok (.lstore 7, 2) := dk_get kX10_question_ok 31 rfl
theorem dX10_question_62 : decode cX10_question 62 = .ok (.lload_n 1, 1) := dk_get kX10_question_ok 32 rfl
theorem dX10_question_63 : decode cX10_question 63 = .ok (.lload 7, 2) := dk_get kX10_question_ok 33 rfl
theorem dX10_question_65 : decode cX10_question 65 = .ok (.land, 1) := dk_get kX10_question_ok 34 rfl
theorem dX10_question_66 : decode cX10_question 66 = .ok (.lconst 0, 1) := dk_get kX10_question_ok 35 rfl
theorem dX10_question_67 : decode cX10_question 67 = .ok (.lcmp, 1) := dk_get kX10_question_ok 36 rfl
theorem dX10_question_68 : decode cX10_question 68 = .ok (.ifCond .eq 58, 3) := dk_get kX10_question_ok 37 rfl
theorem dX10_question_71 : decode cX10_question 71 = .ok (.aload_n 0, 1) := dk_get kX10_question_ok 38 rfl
theorem dX10_question_72 : decode cX10_question 72 = .ok (.lload 7, 2) := dk_get kX10_question_ok 39 rfl
theorem dX10_question_74 : decode cX10_question 74 = .ok (.lload 7, 2) := dk_get kX10_question_ok 40 rfl
theorem dX10_question_76 : decode cX10_question 76 = .ok (.invokevirtual 136, 3) := dk_get kX10_question_ok 41 rfl
theorem dX10_question_79 : decode cX10_question 79 = .ok (.aload_n 0, 1) := dk_get kX10_question_ok 42 rfl
theorem dX10_question_80 : decode cX10_question 80 = .ok (.lload 7, 2) := dk_get kX10_question_ok 43 rfl
theorem dX10_question_82 : decode cX10_question 82 = .ok (.lconst 0, 1) := dk_get kX10_question_ok 44 rfl
theorem dX10_question_83 : decode cX10_question 83 = .ok (.invokevirtual 136, 3) := dk_get kX10_question_ok 45 rfl
theorem dX10_question_86 : decode cX10_question 86 = .ok (.invokestatic 112, 3) := dk_get kX10_question_ok 46 rfl
theorem dX10_question_89 : decode cX10_question 89 = .ok (.istore 9, 2) := dk_get kX10_question_ok 47 rfl
theorem dX10_question_91 : decode cX10_question 91 = .ok (.iload 9, 2) := dk_get kX10_question_ok 48 rfl
theorem dX10_question_93 : decode cX10_question 93 = .ok (.iload_n 3, 1) := dk_get kX10_question_ok 49 rfl
theorem dX10_question_94 : decode cX10_question 94 = .ok (.if_icmp .ge 32, 3) := dk_get kX10_question_ok 50 rfl
theorem dX10_question_97 : decode cX10_question 97 = .ok (.iload 9, 2) := dk_get kX10_question_ok 51 rfl
theorem dX10_question_99 : decode cX10_question 99 = .ok (.istore_n 3, 1) := dk_get kX10_question_ok 52 rfl
theorem dX10_question_100 : decode cX10_question 100 = .ok (.bipush 32, 2) := dk_get kX10_question_ok 53 rfl
theorem dX10_question_102 : decode cX10_question 102 = .ok (.aload_n 0, 1) := dk_get kX10_question_ok 54 rfl
theorem dX10_question_103 : decode cX10_question 103 = .ok (.getfield 31, 3) := dk_get kX10_question_ok 55 rfl
theorem dX10_question_106 : decode cX10_question 106 = .ok (.getfield 126, 3) := dk_get kX10_question_ok 56 rfl
theorem dX10_question_109 : decode cX10_question 109 = .ok (.iload 5, 2) := dk_get kX10_question_ok 57 rfl
theorem dX10_question_111 : decode cX10_question 111 = .ok (.iaload, 1) := dk_get kX10_question_ok 58 rfl
theorem dX10_question_112 : decode cX10_question 112 = .ok (.imul, 1) := dk_get kX10_question_ok 59 rfl
theorem dX10_question_113 : decode cX10_question 113 = .ok (.aload_n 0, 1) := dk_get kX10_question_ok 60 rfl
theorem dX10_question_114 : decode cX10_question 114 = .ok (.getfield 31, 3) := dk_get kX10_question_ok 61 rfl
theorem dX10_question_117 : decode cX10_question 117 = .ok (.getfield 126, 3) := dk_get kX10_question_ok 62 rfl
theorem dX10_question_120 : decode cX10_question 120 = .ok (.iload 6, 2) := dk_get kX10_question_ok 63 rfl
theorem dX10_question_122 : decode cX10_question 122 = .ok (.iaload, 1) := dk_get kX10_question_ok 64 rfl
theorem dX10_question_123 : decode cX10_question 123 = .ok (.iadd, 1) := dk_get kX10_question_ok 65 rfl
theorem dX10_question_124 : decode cX10_question 124 = .ok (.istore 4, 2) := dk_get kX10_question_ok 66 rfl
theorem dX10_question_126 : decode cX10_question 126 = .ok (.iinc 6 1, 3) := dk_get kX10_question_ok 67 rfl
theorem dX10_question_129 : decode cX10_question 129 = .ok (.goto (-88), 3) := dk_get kX10_question_ok 68 rfl
theorem dX10_question_132 : decode cX10_question 132 = .ok (.iinc 5 1, 3) := dk_get kX10_question_ok 69 rfl
theorem dX10_question_135 : decode cX10_question 135 = .ok (.goto (-112), 3) := dk_get kX10_question_ok 70 rfl
theorem dX10_question_138 : decode cX10_question 138 = .ok (.iload 4, 2) := dk_get kX10_question_ok 71 rfl
theorem dX10_question_140 : decode cX10_question 140 = .ok (.ireturn, 1) := dk_get kX10_question_ok 72 rfl
def kX10_freeLeft : List (Nat × Instr × Nat) := [(0, .ldc2_w 64, 3), (3, .lstore 5, 2), (5, .lconst 0, 1), (6, .lstore 7, 2), (8, .iconst 0, 1), (9, .istore 9, 2), (11, .iload 9, 2), (13, .aload_n 0, 1), (14, .getfield 61, 3), (17, .if_icmp .ge 55, 3), (20, .iload 9, 2), (22, .sipush 200, 3), (25, .if_icmp .ge 47, 3), (28, .aload_n 0, 1), (29, .getfield 27, 3), (32, .iload 9, 2), (34, .laload, 1), (35, .lload_n 1, 1), (36, .land, 1), (37, .lload_n 3, 1), (38, .lcmp, 1), (39, .ifCond .ne 27, 3), (42, .lload 5, 2), (44, .aload_n 0, 1), (45, .getfield 27, 3), (48, .iload 9, 2), (50, .laload, 1), (51, .land, 1), (52, .lstore 5, 2), (54, .lload 7, 2), (56, .aload_n 0, 1), (57, .getfield 27, 3), (60, .iload 9, 2), (62, .laload, 1), (63, .lor, 1), (64, .lstore 7, 2), (66, .iinc 9 1, 3), (69, .goto (-58), 3), (72, .lload 7, 2), (74, .lload 5, 2), (76, .ldc2_w 64, 3), (79, .lxor, 1), (80, .land, 1), (81, .invokestatic 140, 3), (84, .ireturn, 1)]
set_option maxRecDepth 100000 in
theorem kX10_freeLeft_ok : kX10_freeLeft.all (fun q => decide (decode cX10_freeLeft q.1 = .ok q.2)) = true := by decide +kernel
theorem dX10_freeLeft_0 : decode cX10_freeLeft 0 = .ok (.ldc2_w 64, 3) := dk_get kX10_freeLeft_ok 0 rfl
theorem dX10_freeLeft_3 : decode cX10_freeLeft 3 = .ok (.lstore 5, 2) := dk_get kX10_freeLeft_ok 1 rfl
theorem dX10_freeLeft_5 : decode cX10_freeLeft 5 = .ok (.lconst 0, 1) := dk_get kX10_freeLeft_ok 2 rfl
theorem dX10_freeLeft_6 : decode cX10_freeLeft 6 = .ok (.lstore 7, 2) := dk_get kX10_freeLeft_ok 3 rfl
theorem dX10_freeLeft_8 : decode cX10_freeLeft 8 = .ok (.iconst 0, 1) := dk_get kX10_freeLeft_ok 4 rfl
theorem dX10_freeLeft_9 : decode cX10_freeLeft 9 = .ok (.istore 9, 2) := dk_get kX10_freeLeft_ok 5 rfl
theorem dX10_freeLeft_11 : decode cX10_freeLeft 11 = .ok (.iload 9, 2) := dk_get kX10_freeLeft_ok 6 rfl
theorem dX10_freeLeft_13 : decode cX10_freeLeft 13 = .ok (.aload_n 0, 1) := dk_get kX10_freeLeft_ok 7 rfl
theorem dX10_freeLeft_14 : decode cX10_freeLeft 14 = .ok (.getfield 61, 3) := dk_get kX10_freeLeft_ok 8 rfl
theorem dX10_freeLeft_17 : decode cX10_freeLeft 17 = .ok (.if_icmp .ge 55, 3) := dk_get kX10_freeLeft_ok 9 rfl
theorem dX10_freeLeft_20 : decode cX10_freeLeft 20 = .ok (.iload 9, 2) := dk_get kX10_freeLeft_ok 10 rfl
theorem dX10_freeLeft_22 : decode cX10_freeLeft 22 = .ok (.sipush 200, 3) := dk_get kX10_freeLeft_ok 11 rfl
theorem dX10_freeLeft_25 : decode cX10_freeLeft 25 = .ok (.if_icmp .ge 47, 3) := dk_get kX10_freeLeft_ok 12 rfl
theorem dX10_freeLeft_28 : decode cX10_freeLeft 28 = .ok (.aload_n 0, 1) := dk_get kX10_freeLeft_ok 13 rfl
theorem dX10_freeLeft_29 : decode cX10_freeLeft 29 = .ok (.getfield 27, 3) := dk_get kX10_freeLeft_ok 14 rfl
theorem dX10_freeLeft_32 : decode cX10_freeLeft 32 = .ok (.iload 9, 2) := dk_get kX10_freeLeft_ok 15 rfl
theorem dX10_freeLeft_34 : decode cX10_freeLeft 34 = .ok (.laload, 1) := dk_get kX10_freeLeft_ok 16 rfl
theorem dX10_freeLeft_35 : decode cX10_freeLeft 35 = .ok (.lload_n 1, 1) := dk_get kX10_freeLeft_ok 17 rfl
theorem dX10_freeLeft_36 : decode cX10_freeLeft 36 = .ok (.land, 1) := dk_get kX10_freeLeft_ok 18 rfl
theorem dX10_freeLeft_37 : decode cX10_freeLeft 37 = .ok (.lload_n 3, 1) := dk_get kX10_freeLeft_ok 19 rfl
theorem dX10_freeLeft_38 : decode cX10_freeLeft 38 = .ok (.lcmp, 1) := dk_get kX10_freeLeft_ok 20 rfl
theorem dX10_freeLeft_39 : decode cX10_freeLeft 39 = .ok (.ifCond .ne 27, 3) := dk_get kX10_freeLeft_ok 21 rfl
theorem dX10_freeLeft_42 : decode cX10_freeLeft 42 = .ok (.lload 5, 2) := dk_get kX10_freeLeft_ok 22 rfl
theorem dX10_freeLeft_44 : decode cX10_freeLeft 44 = .ok (.aload_n 0, 1) := dk_get kX10_freeLeft_ok 23 rfl
theorem dX10_freeLeft_45 : decode cX10_freeLeft 45 = .ok (.getfield 27, 3) := dk_get kX10_freeLeft_ok 24 rfl
theorem dX10_freeLeft_48 : decode cX10_freeLeft 48 = .ok (.iload 9, 2) := dk_get kX10_freeLeft_ok 25 rfl
theorem dX10_freeLeft_50 : decode cX10_freeLeft 50 = .ok (.laload, 1) := dk_get kX10_freeLeft_ok 26 rfl
theorem dX10_freeLeft_51 : decode cX10_freeLeft 51 = .ok (.land, 1) := dk_get kX10_freeLeft_ok 27 rfl
theorem dX10_freeLeft_52 : decode cX10_freeLeft 52 = .ok (.lstore 5, 2) := dk_get kX10_freeLeft_ok 28 rfl
theorem dX10_freeLeft_54 : decode cX10_freeLeft 54 = .ok (.lload 7, 2) := dk_get kX10_freeLeft_ok 29 rfl
theorem dX10_freeLeft_56 : decode cX10_freeLeft 56 = .ok (.aload_n 0, 1) := dk_get kX10_freeLeft_ok 30 rfl
theorem dX10_freeLeft_57 : decode cX10_freeLeft 57 = .ok (.getfield 27, 3) := dk_get kX10_freeLeft_ok 31 rfl
theorem dX10_freeLeft_60 : decode cX10_freeLeft 60 = .ok (.iload 9, 2) := dk_get kX10_freeLeft_ok 32 rfl
theorem dX10_freeLeft_62 : decode cX10_freeLeft 62 = .ok (.laload, 1) := dk_get kX10_freeLeft_ok 33 rfl
theorem dX10_freeLeft_63 : decode cX10_freeLeft 63 = .ok (.lor, 1) := dk_get kX10_freeLeft_ok 34 rfl
theorem dX10_freeLeft_64 : decode cX10_freeLeft 64 = .ok (.lstore 7, 2) := dk_get kX10_freeLeft_ok 35 rfl
theorem dX10_freeLeft_66 : decode cX10_freeLeft 66 = .ok (.iinc 9 1, 3) := dk_get kX10_freeLeft_ok 36 rfl
theorem dX10_freeLeft_69 : decode cX10_freeLeft 69 = .ok (.goto (-58), 3) := dk_get kX10_freeLeft_ok 37 rfl
theorem dX10_freeLeft_72 : decode cX10_freeLeft 72 = .ok (.lload 7, 2) := dk_get kX10_freeLeft_ok 38 rfl
theorem dX10_freeLeft_74 : decode cX10_freeLeft 74 = .ok (.lload 5, 2) := dk_get kX10_freeLeft_ok 39 rfl
theorem dX10_freeLeft_76 : decode cX10_freeLeft 76 = .ok (.ldc2_w 64, 3) := dk_get kX10_freeLeft_ok 40 rfl
theorem dX10_freeLeft_79 : decode cX10_freeLeft 79 = .ok (.lxor, 1) := dk_get kX10_freeLeft_ok 41 rfl
theorem dX10_freeLeft_80 : decode cX10_freeLeft 80 = .ok (.land, 1) := dk_get kX10_freeLeft_ok 42 rfl
theorem dX10_freeLeft_81 : decode cX10_freeLeft 81 = .ok (.invokestatic 140, 3) := dk_get kX10_freeLeft_ok 43 rfl
theorem dX10_freeLeft_84 : decode cX10_freeLeft 84 = .ok (.ireturn, 1) := dk_get kX10_freeLeft_ok 44 rfl
def kX11_init : List (Nat × Instr × Nat) := [(0, .aload_n 0, 1), (1, .invokespecial 3, 3), (4, .aload_n 0, 1), (5, .new 9, 3), (8, .dup, 1), (9, .invokespecial 11, 3), (12, .putfield 12, 3), (15, .aload_n 0, 1), (16, .new 18, 3), (19, .dup, 1), (20, .invokespecial 20, 3), (23, .putfield 21, 3), (26, .aload_n 0, 1), (27, .new 25, 3), (30, .dup, 1), (31, .aload_n 0, 1), (32, .getfield 12, 3), (35, .invokespecial 27, 3), (38, .putfield 30, 3), (41, .aload_n 0, 1), (42, .new 34, 3), (45, .dup, 1), (46, .aload_n 0, 1), (47, .getfield 12, 3), (50, .aload_n 0, 1), (51, .getfield 30, 3), (54, .invokespecial 36, 3), (57, .putfield 39, 3), (60, .aload_n 0, 1), (61, .new 43, 3), (64, .dup, 1), (65, .aload_n 0, 1), (66, .getfield 30, 3), (69, .aload_n 0, 1), (70, .getfield 39, 3), (73, .invokespecial 45, 3), (76, .putfield 48, 3), (79, .aload_n 0, 1), (80, .new 52, 3), (83, .dup, 1), (84, .aload_n 0, 1), (85, .getfield 48, 3), (88, .aload_n 0, 1), (89, .getfield 30, 3), (92, .aload_n 0, 1), (93, .getfield 39, 3), (96, .invokespecial 54, 3), (99, .putfield 57, 3), (102, .aload_n 0, 1), (103, .new 61, 3), (106, .dup, 1), (107, .aload_n 0, 1), (108, .getfield 30, 3), (111, .invokespecial 63, 3), (114, .putfield 66, 3), (117, .aload_n 0, 1), (118, .new 70, 3), (121, .dup, 1), (122, .aload_n 0, 1), (123, .getfield 30, 3), (126, .aload_n 0, 1), (127, .getfield 39, 3), (130, .invokespecial 72, 3), (133, .putfield 73, 3), (136, .aload_n 0, 1), (137, .new 77, 3), (140, .dup, 1), (141, .aload_n 0, 1), (142, .getfield 30, 3), (145, .aload_n 0, 1), (146, .getfield 39, 3), (149, .invokespecial 79, 3), (152, .putfield 80, 3), (155, .aload_n 0, 1), (156, .new 84, 3), (159, .dup, 1), (160, .aload_n 0, 1), (161, .getfield 80, 3), (164, .invokespecial 86, 3), (167, .putfield 89, 3), (170, .aload_n 0, 1), (171, .bipush 30, 2), (173, .newarray .int, 2), (175, .putfield 93, 3), (178, .aload_n 0, 1), (179, .bipush 30, 2), (181, .newarray .int, 2), (183, .putfield 97, 3), (186, .return_, 1)]
set_option maxRecDepth 100000 in
theorem kX11_init_ok : kX11_init.all (fun q => decide (decode cX11_init q.1 = .ok q.2)) = true := by decide +kernel
theorem dX11_init_0 : decode cX11_init 0 = .ok (.aload_n 0, 1) := dk_get kX11_init_ok 0 rfl
theorem dX11_init_1 : decode cX11_init 1 = .ok (.invokespecial 3, 3) := dk_get kX11_init_ok 1 rfl
theorem dX11_init_4 : decode cX11_init 4 = .ok (.aload_n 0, 1) := dk_get kX11_init_ok 2 rfl
theorem dX11_init_5 : decode cX11_init 5 = .ok (.new 9, 3) := dk_get kX11_init_ok 3 rfl
theorem dX11_init_8 : decode cX11_init 8 = .ok (.dup, 1) := dk_get kX11_init_ok 4 rfl
theorem dX11_init_9 : decode cX11_init 9 = .ok (.invokespecial 11, 3) := dk_get kX11_init_ok 5 rfl
theorem dX11_init_12 : decode cX11_init 12 = .ok (.putfield 12, 3) := dk_get kX11_init_ok 6 rfl
theorem dX11_init_15 : decode cX11_init 15 = .ok (.aload_n 0, 1) := dk_get kX11_init_ok 7 rfl
theorem dX11_init_16 : decode cX11_init 16 = .ok (.new 18, 3) := dk_get kX11_init_ok 8 rfl
theorem dX11_init_19 : decode cX11_init 19 = .ok (.dup, 1) := dk_get kX11_init_ok 9 rfl
theorem dX11_init_20 : decode cX11_init 20 = .ok (.invokespecial 20, 3) := dk_get kX11_init_ok 10 rfl
theorem dX11_init_23 : decode cX11_init 23 = .ok (.putfield 21, 3) := dk_get kX11_init_ok 11 rfl
theorem dX11_init_26 : decode cX11_init 26 = .ok (.aload_n 0, 1) := dk_get kX11_init_ok 12 rfl
theorem dX11_init_27 : decode cX11_init 27 = .ok (.new 25, 3) := dk_get kX11_init_ok 13 rfl
theorem dX11_init_30 : decode cX11_init 30 = .ok (.dup, 1) := dk_get kX11_init_ok 14 rfl
theorem dX11_init_31 : decode cX11_init 31 = .ok (.aload_n 0, 1) := dk_get kX11_init_ok 15 rfl
theorem dX11_init_32 : decode cX11_init 32 = .ok (.getfield 12, 3) := dk_get kX11_init_ok 16 rfl
theorem dX11_init_35 : decode cX11_init 35 = .ok (.invokespecial 27, 3) := dk_get kX11_init_ok 17 rfl
theorem dX11_init_38 : decode cX11_init 38 = .ok (.putfield 30, 3) := dk_get kX11_init_ok 18 rfl
theorem dX11_init_41 : decode cX11_init 41 = .ok (.aload_n 0, 1) := dk_get kX11_init_ok 19 rfl
theorem dX11_init_42 : decode cX11_init 42 = .ok (.new 34, 3) := dk_get kX11_init_ok 20 rfl
theorem dX11_init_45 : decode cX11_init 45 = .ok (.dup, 1) := dk_get kX11_init_ok 21 rfl
theorem dX11_init_46 : decode cX11_init 46 = .ok (.aload_n 0, 1) := dk_get kX11_init_ok 22 rfl
theorem dX11_init_47 : decode cX11_init 47 = .ok (.getfield 12, 3) := dk_get kX11_init_ok 23 rfl
theorem dX11_init_50 : decode cX11_init 50 = .ok (.aload_n 0, 1) := dk_get kX11_init_ok 24 rfl
theorem dX11_init_51 : decode cX11_init 51 = .ok (.getfield 30, 3) := dk_get kX11_init_ok 25 rfl
theorem dX11_init_54 : decode cX11_init 54 = .ok (.invokespecial 36, 3) := dk_get kX11_init_ok 26 rfl
theorem dX11_init_57 : decode cX11_init 57 = .ok (.putfield 39, 3) := dk_get kX11_init_ok 27 rfl
theorem dX11_init_60 : decode cX11_init 60 = .ok (.aload_n 0, 1) := dk_get kX11_init_ok 28 rfl
theorem dX11_init_61 : decode cX11_init 61 = .ok (.new 43, 3) := dk_get kX11_init_ok 29 rfl
theorem dX11_init_64 : decode cX11_init 64 = .ok (.dup, 1) := dk_get kX11_init_ok 30 rfl
theorem dX11_init_65 : decode cX11_init 65 = .ok (.aload_n 0, 1) := dk_get kX11_init_ok 31 rfl
theorem dX11_init_66 : decode cX11_init 66 = .ok (.getfield 30, 3) := dk_get kX11_init_ok 32 rfl
theorem dX11_init_69 : decode cX11_init 69 = .ok (.aload_n 0, 1) := dk_get kX11_init_ok 33 rfl
theorem dX11_init_70 : decode cX11_init 70 = .ok (.getfield 39, 3) := dk_get kX11_init_ok 34 rfl
theorem dX11_init_73 : decode cX11_init 73 = .ok (.invokespecial 45, 3) := dk_get kX11_init_ok 35 rfl
theorem dX11_init_76 : decode cX11_init 76 = .ok (.putfield 48, 3) := dk_get kX11_init_ok 36 rfl
theorem dX11_init_79 : decode cX11_init 79 = .ok (.aload_n 0, 1) := dk_get kX11_init_ok 37 rfl
theorem dX11_init_80 : decode cX11_init 80 = .ok (.new 52, 3) := dk_get kX11_init_ok 38 rfl
theorem dX11_init_83 : decode cX11_init 83 = .ok (.dup, 1) := dk_get kX11_init_ok 39 rfl
theorem dX11_init_84 : decode cX11_init 84 = .ok (.aload_n 0, 1) := dk_get kX11_init_ok 40 rfl
theorem dX11_init_85 : decode cX11_init 85 = .ok (.getfield 48, 3) := dk_get kX11_init_ok 41 rfl
theorem dX11_init_88 : decode cX11_init 88 = .ok (.aload_n 0, 1) := dk_get kX11_init_ok 42 rfl
theorem dX11_init_89 : decode cX11_init 89 = .ok (.getfield 30, 3) := dk_get kX11_init_ok 43 rfl
theorem dX11_init_92 : decode cX11_init 92 = .ok (.aload_n 0, 1) := dk_get kX11_init_ok 44 rfl
theorem dX11_init_93 : decode cX11_init 93 = .ok (.getfield 39, 3) := dk_get kX11_init_ok 45 rfl
theorem dX11_init_96 : decode cX11_init 96 = .ok (.invokespecial 54, 3) := dk_get kX11_init_ok 46 rfl
theorem dX11_init_99 : decode cX11_init 99 = .ok (.putfield 57, 3) := dk_get kX11_init_ok 47 rfl
theorem dX11_init_102 : decode cX11_init 102 = .ok (.aload_n 0, 1) := dk_get kX11_init_ok 48 rfl
theorem dX11_init_103 : decode cX11_init 103 = .ok (.new 61, 3) := dk_get kX11_init_ok 49 rfl
theorem dX11_init_106 : decode cX11_init 106 = .ok (.dup, 1) := dk_get kX11_init_ok 50 rfl
theorem dX11_init_107 : decode cX11_init 107 = .ok (.aload_n 0, 1) := dk_get kX11_init_ok 51 rfl
theorem dX11_init_108 : decode cX11_init 108 = .ok (.getfield 30, 3) := dk_get kX11_init_ok 52 rfl
theorem dX11_init_111 : decode cX11_init 111 = .ok (.invokespecial 63, 3) := dk_get kX11_init_ok 53 rfl
theorem dX11_init_114 : decode cX11_init 114 = .ok (.putfield 66, 3) := dk_get kX11_init_ok 54 rfl
theorem dX11_init_117 : decode cX11_init 117 = .ok (.aload_n 0, 1) := dk_get kX11_init_ok 55 rfl
theorem dX11_init_118 : decode cX11_init 118 = .ok (.new 70, 3) := dk_get kX11_init_ok 56 rfl
theorem dX11_init_121 : decode cX11_init 121 = .ok (.dup, 1) := dk_get kX11_init_ok 57 rfl
theorem dX11_init_122 : decode cX11_init 122 = .ok (.aload_n 0, 1) := dk_get kX11_init_ok 58 rfl
theorem dX11_init_123 : decode cX11_init 123 = .ok (.getfield 30, 3) := dk_get kX11_init_ok 59 rfl
theorem dX11_init_126 : decode cX11_init 126 = .ok (.aload_n 0, 1) := dk_get kX11_init_ok 60 rfl
theorem dX11_init_127 : decode cX11_init 127 = .ok (.getfield 39, 3) := dk_get kX11_init_ok 61 rfl
theorem dX11_init_130 : decode cX11_init 130 = .ok (.invokespecial 72, 3) := dk_get kX11_init_ok 62 rfl
theorem dX11_init_133 : decode cX11_init 133 = .ok (.putfield 73, 3) := dk_get kX11_init_ok 63 rfl
theorem dX11_init_136 : decode cX11_init 136 = .ok (.aload_n 0, 1) := dk_get kX11_init_ok 64 rfl
theorem dX11_init_137 : decode cX11_init 137 = .ok (.new 77, 3) := dk_get kX11_init_ok 65 rfl
theorem dX11_init_140 : decode cX11_init 140 = .ok (.dup, 1) := dk_get kX11_init_ok 66 rfl
theorem dX11_init_141 : decode cX11_init 141 = .ok (.aload_n 0, 1) := dk_get kX11_init_ok 67 rfl
theorem dX11_init_142 : decode cX11_init 142 = .ok (.getfield 30, 3) := dk_get kX11_init_ok 68 rfl
theorem dX11_init_145 : decode cX11_init 145 = .ok (.aload_n 0, 1) := dk_get kX11_init_ok 69 rfl
theorem dX11_init_146 : decode cX11_init 146 = .ok (.getfield 39, 3) := dk_get kX11_init_ok 70 rfl
theorem dX11_init_149 : decode cX11_init 149 = .ok (.invokespecial 79, 3) := dk_get kX11_init_ok 71 rfl
theorem dX11_init_152 : decode cX11_init 152 = .ok (.putfield 80, 3) := dk_get kX11_init_ok 72 rfl
theorem dX11_init_155 : decode cX11_init 155 = .ok (.aload_n 0, 1) := dk_get kX11_init_ok 73 rfl
theorem dX11_init_156 : decode cX11_init 156 = .ok (.new 84, 3) := dk_get kX11_init_ok 74 rfl
theorem dX11_init_159 : decode cX11_init 159 = .ok (.dup, 1) := dk_get kX11_init_ok 75 rfl
theorem dX11_init_160 : decode cX11_init 160 = .ok (.aload_n 0, 1) := dk_get kX11_init_ok 76 rfl
theorem dX11_init_161 : decode cX11_init 161 = .ok (.getfield 80, 3) := dk_get kX11_init_ok 77 rfl
theorem dX11_init_164 : decode cX11_init 164 = .ok (.invokespecial 86, 3) := dk_get kX11_init_ok 78 rfl
theorem dX11_init_167 : decode cX11_init 167 = .ok (.putfield 89, 3) := dk_get kX11_init_ok 79 rfl
theorem dX11_init_170 : decode cX11_init 170 = .ok (.aload_n 0, 1) := dk_get kX11_init_ok 80 rfl
theorem dX11_init_171 : decode cX11_init 171 = .ok (.bipush 30, 2) := dk_get kX11_init_ok 81 rfl
theorem dX11_init_173 : decode cX11_init 173 = .ok (.newarray .int, 2) := dk_get kX11_init_ok 82 rfl
theorem dX11_init_175 : decode cX11_init 175 = .ok (.putfield 93, 3) := dk_get kX11_init_ok 83 rfl
theorem dX11_init_178 : decode cX11_init 178 = .ok (.aload_n 0, 1) := dk_get kX11_init_ok 84 rfl
theorem dX11_init_179 : decode cX11_init 179 = .ok (.bipush 30, 2) := dk_get kX11_init_ok 85 rfl
theorem dX11_init_181 : decode cX11_init 181 = .ok (.newarray .int, 2) := dk_get kX11_init_ok 86 rfl
theorem dX11_init_183 : decode cX11_init 183 = .ok (.putfield 97, 3) := dk_get kX11_init_ok 87 rfl
theorem dX11_init_186 : decode cX11_init 186 = .ok (.return_, 1) := dk_get kX11_init_ok 88 rfl
def kX11_entry : List (Nat × Instr × Nat) := [(0, .iload_n 1, 1), (1, .iconst 0, 1), (2, .bipush 7, 2), (4, .invokestatic 100, 3), (7, .invokestatic 104, 3), (10, .iload_n 2, 1), (11, .iconst 0, 1), (12, .bipush 15, 2), (14, .invokestatic 100, 3), (17, .invokestatic 104, 3), (20, .iload_n 3, 1), (21, .iconst 0, 1), (22, .bipush 7, 2), (24, .invokestatic 100, 3), (27, .invokestatic 104, 3), (30, .iload 4, 2), (32, .iconst 0, 1), (33, .sipush 199, 3), (36, .invokestatic 100, 3), (39, .invokestatic 104, 3), (42, .iload 5, 2), (44, .iconst (-1), 1), (45, .bipush 15, 2), (47, .invokestatic 100, 3), (50, .invokestatic 104, 3), (53, .aload_n 0, 1), (54, .getfield 12, 3), (57, .getfield 108, 3), (60, .bipush 30, 2), (62, .if_icmp .lt 5, 3), (65, .iconst (-1), 1), (66, .ireturn, 1), (67, .aload_n 0, 1), (68, .getfield 12, 3), (71, .iload_n 1, 1), (72, .iload_n 2, 1), (73, .iload_n 3, 1), (74, .iload 4, 2), (76, .iload 5, 2), (78, .invokevirtual 112, 3), (81, .istore 6, 2), (83, .aload_n 0, 1), (84, .getfield 30, 3), (87, .iload 6, 2), (89, .invokevirtual 116, 3), (92, .aload_n 0, 1), (93, .getfield 48, 3), (96, .invokevirtual 120, 3), (99, .aload_n 0, 1), (100, .getfield 66, 3), (103, .invokevirtual 123, 3), (106, .iload 6, 2), (108, .ireturn, 1)]
set_option maxRecDepth 100000 in
theorem kX11_entry_ok : kX11_entry.all (fun q => decide (decode cX11_entry q.1 = .ok q.2)) = true := by decide +kernel
theorem dX11_entry_0 : decode cX11_entry 0 = .ok (.iload_n 1, 1) := dk_get kX11_entry_ok 0 rfl
theorem dX11_entry_1 : decode cX11_entry 1 = .ok (.iconst 0, 1) := dk_get kX11_entry_ok 1 rfl
theorem dX11_entry_2 : decode cX11_entry 2 = .ok (.bipush 7, 2) := dk_get kX11_entry_ok 2 rfl
theorem dX11_entry_4 : decode cX11_entry 4 = .ok (.invokestatic 100, 3) := dk_get kX11_entry_ok 3 rfl
theorem dX11_entry_7 : decode cX11_entry 7 = .ok (.invokestatic 104, 3) := dk_get kX11_entry_ok 4 rfl
theorem dX11_entry_10 : decode cX11_entry 10 = .ok (.iload_n 2, 1) := dk_get kX11_entry_ok 5 rfl
theorem dX11_entry_11 : decode cX11_entry 11 = .ok (.iconst 0, 1) := dk_get kX11_entry_ok 6 rfl
theorem dX11_entry_12 : decode cX11_entry 12 = .ok (.bipush 15, 2) := dk_get kX11_entry_ok 7 rfl
theorem dX11_entry_14 : decode cX11_entry 14 = .ok (.invokestatic 100, 3) := dk_get kX11_entry_ok 8 rfl
theorem dX11_entry_17 : decode cX11_entry 17 = .ok (.invokestatic 104, 3) := dk_get kX11_entry_ok 9 rfl
theorem dX11_entry_20 : decode cX11_entry 20 = .ok (.iload_n 3, 1) := dk_get kX11_entry_ok 10 rfl
theorem dX11_entry_21 : decode cX11_entry 21 = .ok (.iconst 0, 1) := dk_get kX11_entry_ok 11 rfl
theorem dX11_entry_22 : decode cX11_entry 22 = .ok (.bipush 7, 2) := dk_get kX11_entry_ok 12 rfl
theorem dX11_entry_24 : decode cX11_entry 24 = .ok (.invokestatic 100, 3) := dk_get kX11_entry_ok 13 rfl
theorem dX11_entry_27 : decode cX11_entry 27 = .ok (.invokestatic 104, 3) := dk_get kX11_entry_ok 14 rfl
theorem dX11_entry_30 : decode cX11_entry 30 = .ok (.iload 4, 2) := dk_get kX11_entry_ok 15 rfl
theorem dX11_entry_32 : decode cX11_entry 32 = .ok (.iconst 0, 1) := dk_get kX11_entry_ok 16 rfl
theorem dX11_entry_33 : decode cX11_entry 33 = .ok (.sipush 199, 3) := dk_get kX11_entry_ok 17 rfl
theorem dX11_entry_36 : decode cX11_entry 36 = .ok (.invokestatic 100, 3) := dk_get kX11_entry_ok 18 rfl
theorem dX11_entry_39 : decode cX11_entry 39 = .ok (.invokestatic 104, 3) := dk_get kX11_entry_ok 19 rfl
theorem dX11_entry_42 : decode cX11_entry 42 = .ok (.iload 5, 2) := dk_get kX11_entry_ok 20 rfl
theorem dX11_entry_44 : decode cX11_entry 44 = .ok (.iconst (-1), 1) := dk_get kX11_entry_ok 21 rfl
theorem dX11_entry_45 : decode cX11_entry 45 = .ok (.bipush 15, 2) := dk_get kX11_entry_ok 22 rfl
theorem dX11_entry_47 : decode cX11_entry 47 = .ok (.invokestatic 100, 3) := dk_get kX11_entry_ok 23 rfl
theorem dX11_entry_50 : decode cX11_entry 50 = .ok (.invokestatic 104, 3) := dk_get kX11_entry_ok 24 rfl
theorem dX11_entry_53 : decode cX11_entry 53 = .ok (.aload_n 0, 1) := dk_get kX11_entry_ok 25 rfl
theorem dX11_entry_54 : decode cX11_entry 54 = .ok (.getfield 12, 3) := dk_get kX11_entry_ok 26 rfl
theorem dX11_entry_57 : decode cX11_entry 57 = .ok (.getfield 108, 3) := dk_get kX11_entry_ok 27 rfl
theorem dX11_entry_60 : decode cX11_entry 60 = .ok (.bipush 30, 2) := dk_get kX11_entry_ok 28 rfl
theorem dX11_entry_62 : decode cX11_entry 62 = .ok (.if_icmp .lt 5, 3) := dk_get kX11_entry_ok 29 rfl
theorem dX11_entry_65 : decode cX11_entry 65 = .ok (.iconst (-1), 1) := dk_get kX11_entry_ok 30 rfl
theorem dX11_entry_66 : decode cX11_entry 66 = .ok (.ireturn, 1) := dk_get kX11_entry_ok 31 rfl
theorem dX11_entry_67 : decode cX11_entry 67 = .ok (.aload_n 0, 1) := dk_get kX11_entry_ok 32 rfl
theorem dX11_entry_68 : decode cX11_entry 68 = .ok (.getfield 12, 3) := dk_get kX11_entry_ok 33 rfl
theorem dX11_entry_71 : decode cX11_entry 71 = .ok (.iload_n 1, 1) := dk_get kX11_entry_ok 34 rfl
theorem dX11_entry_72 : decode cX11_entry 72 = .ok (.iload_n 2, 1) := dk_get kX11_entry_ok 35 rfl
theorem dX11_entry_73 : decode cX11_entry 73 = .ok (.iload_n 3, 1) := dk_get kX11_entry_ok 36 rfl
theorem dX11_entry_74 : decode cX11_entry 74 = .ok (.iload 4, 2) := dk_get kX11_entry_ok 37 rfl
theorem dX11_entry_76 : decode cX11_entry 76 = .ok (.iload 5, 2) := dk_get kX11_entry_ok 38 rfl
theorem dX11_entry_78 : decode cX11_entry 78 = .ok (.invokevirtual 112, 3) := dk_get kX11_entry_ok 39 rfl
theorem dX11_entry_81 : decode cX11_entry 81 = .ok (.istore 6, 2) := dk_get kX11_entry_ok 40 rfl
theorem dX11_entry_83 : decode cX11_entry 83 = .ok (.aload_n 0, 1) := dk_get kX11_entry_ok 41 rfl
theorem dX11_entry_84 : decode cX11_entry 84 = .ok (.getfield 30, 3) := dk_get kX11_entry_ok 42 rfl
theorem dX11_entry_87 : decode cX11_entry 87 = .ok (.iload 6, 2) := dk_get kX11_entry_ok 43 rfl
theorem dX11_entry_89 : decode cX11_entry 89 = .ok (.invokevirtual 116, 3) := dk_get kX11_entry_ok 44 rfl
theorem dX11_entry_92 : decode cX11_entry 92 = .ok (.aload_n 0, 1) := dk_get kX11_entry_ok 45 rfl
theorem dX11_entry_93 : decode cX11_entry 93 = .ok (.getfield 48, 3) := dk_get kX11_entry_ok 46 rfl
theorem dX11_entry_96 : decode cX11_entry 96 = .ok (.invokevirtual 120, 3) := dk_get kX11_entry_ok 47 rfl
theorem dX11_entry_99 : decode cX11_entry 99 = .ok (.aload_n 0, 1) := dk_get kX11_entry_ok 48 rfl
theorem dX11_entry_100 : decode cX11_entry 100 = .ok (.getfield 66, 3) := dk_get kX11_entry_ok 49 rfl
theorem dX11_entry_103 : decode cX11_entry 103 = .ok (.invokevirtual 123, 3) := dk_get kX11_entry_ok 50 rfl
theorem dX11_entry_106 : decode cX11_entry 106 = .ok (.iload 6, 2) := dk_get kX11_entry_ok 51 rfl
theorem dX11_entry_108 : decode cX11_entry 108 = .ok (.ireturn, 1) := dk_get kX11_entry_ok 52 rfl
def kX11_of : List (Nat × Instr × Nat) := [(0, .aload_n 0, 1), (1, .iload_n 1, 1), (2, .invokevirtual 126, 3), (5, .iload_n 2, 1), (6, .iconst 0, 1), (7, .bipush 7, 2), (9, .invokestatic 100, 3), (12, .invokestatic 104, 3), (15, .iload_n 2, 1), (16, .iconst 5, 1), (17, .if_icmp .ge 13, 3), (20, .aload_n 0, 1), (21, .getfield 12, 3), (24, .iload_n 1, 1), (25, .iload_n 2, 1), (26, .invokevirtual 129, 3), (29, .ireturn, 1), (30, .iload_n 2, 1), (31, .iconst 5, 1), (32, .if_icmp .ne 13, 3), (35, .aload_n 0, 1), (36, .getfield 48, 3), (39, .getfield 133, 3), (42, .iload_n 1, 1), (43, .iaload, 1), (44, .ireturn, 1), (45, .aload_n 0, 1), (46, .iload_n 1, 1), (47, .invokevirtual 136, 3), (50, .istore_n 3, 1), (51, .iload_n 2, 1), (52, .bipush 6, 2), (54, .if_icmp .ne 10, 3), (57, .iload_n 3, 1), (58, .invokestatic 140, 3), (61, .goto 7, 3), (64, .iload_n 3, 1), (65, .invokestatic 143, 3), (68, .ireturn, 1)]
set_option maxRecDepth 100000 in
theorem kX11_of_ok : kX11_of.all (fun q => decide (decode cX11_of q.1 = .ok q.2)) = true := by decide +kernel
theorem dX11_of_0 : decode cX11_of 0 = .ok (.aload_n 0, 1) := dk_get kX11_of_ok 0 rfl
theorem dX11_of_1 : decode cX11_of 1 = .ok (.iload_n 1, 1) := dk_get kX11_of_ok 1 rfl
theorem dX11_of_2 : decode cX11_of 2 = .ok (.invokevirtual 126, 3) := dk_get kX11_of_ok 2 rfl
theorem dX11_of_5 : decode cX11_of 5 = .ok (.iload_n 2, 1) := dk_get kX11_of_ok 3 rfl
theorem dX11_of_6 : decode cX11_of 6 = .ok (.iconst 0, 1) := dk_get kX11_of_ok 4 rfl
theorem dX11_of_7 : decode cX11_of 7 = .ok (.bipush 7, 2) := dk_get kX11_of_ok 5 rfl
theorem dX11_of_9 : decode cX11_of 9 = .ok (.invokestatic 100, 3) := dk_get kX11_of_ok 6 rfl
theorem dX11_of_12 : decode cX11_of 12 = .ok (.invokestatic 104, 3) := dk_get kX11_of_ok 7 rfl
theorem dX11_of_15 : decode cX11_of 15 = .ok (.iload_n 2, 1) := dk_get kX11_of_ok 8 rfl
theorem dX11_of_16 : decode cX11_of 16 = .ok (.iconst 5, 1) := dk_get kX11_of_ok 9 rfl
theorem dX11_of_17 : decode cX11_of 17 = .ok (.if_icmp .ge 13, 3) := dk_get kX11_of_ok 10 rfl
theorem dX11_of_20 : decode cX11_of 20 = .ok (.aload_n 0, 1) := dk_get kX11_of_ok 11 rfl
theorem dX11_of_21 : decode cX11_of 21 = .ok (.getfield 12, 3) := dk_get kX11_of_ok 12 rfl
theorem dX11_of_24 : decode cX11_of 24 = .ok (.iload_n 1, 1) := dk_get kX11_of_ok 13 rfl
theorem dX11_of_25 : decode cX11_of 25 = .ok (.iload_n 2, 1) := dk_get kX11_of_ok 14 rfl
theorem dX11_of_26 : decode cX11_of 26 = .ok (.invokevirtual 129, 3) := dk_get kX11_of_ok 15 rfl
theorem dX11_of_29 : decode cX11_of 29 = .ok (.ireturn, 1) := dk_get kX11_of_ok 16 rfl
theorem dX11_of_30 : decode cX11_of 30 = .ok (.iload_n 2, 1) := dk_get kX11_of_ok 17 rfl
theorem dX11_of_31 : decode cX11_of 31 = .ok (.iconst 5, 1) := dk_get kX11_of_ok 18 rfl
theorem dX11_of_32 : decode cX11_of 32 = .ok (.if_icmp .ne 13, 3) := dk_get kX11_of_ok 19 rfl
theorem dX11_of_35 : decode cX11_of 35 = .ok (.aload_n 0, 1) := dk_get kX11_of_ok 20 rfl
theorem dX11_of_36 : decode cX11_of 36 = .ok (.getfield 48, 3) := dk_get kX11_of_ok 21 rfl
theorem dX11_of_39 : decode cX11_of 39 = .ok (.getfield 133, 3) := dk_get kX11_of_ok 22 rfl
theorem dX11_of_42 : decode cX11_of 42 = .ok (.iload_n 1, 1) := dk_get kX11_of_ok 23 rfl
theorem dX11_of_43 : decode cX11_of 43 = .ok (.iaload, 1) := dk_get kX11_of_ok 24 rfl
theorem dX11_of_44 : decode cX11_of 44 = .ok (.ireturn, 1) := dk_get kX11_of_ok 25 rfl
theorem dX11_of_45 : decode cX11_of 45 = .ok (.aload_n 0, 1) := dk_get kX11_of_ok 26 rfl
theorem dX11_of_46 : decode cX11_of 46 = .ok (.iload_n 1, 1) := dk_get kX11_of_ok 27 rfl
theorem dX11_of_47 : decode cX11_of 47 = .ok (.invokevirtual 136, 3) := dk_get kX11_of_ok 28 rfl
theorem dX11_of_50 : decode cX11_of 50 = .ok (.istore_n 3, 1) := dk_get kX11_of_ok 29 rfl
theorem dX11_of_51 : decode cX11_of 51 = .ok (.iload_n 2, 1) := dk_get kX11_of_ok 30 rfl
theorem dX11_of_52 : decode cX11_of 52 = .ok (.bipush 6, 2) := dk_get kX11_of_ok 31 rfl
theorem dX11_of_54 : decode cX11_of 54 = .ok (.if_icmp .ne 10, 3) := dk_get kX11_of_ok 32 rfl
theorem dX11_of_57 : decode cX11_of 57 = .ok (.iload_n 3, 1) := dk_get kX11_of_ok 33 rfl
theorem dX11_of_58 : decode cX11_of 58 = .ok (.invokestatic 140, 3) := dk_get kX11_of_ok 34 rfl
theorem dX11_of_61 : decode cX11_of 61 = .ok (.goto 7, 3) := dk_get kX11_of_ok 35 rfl
theorem dX11_of_64 : decode cX11_of 64 = .ok (.iload_n 3, 1) := dk_get kX11_of_ok 36 rfl
theorem dX11_of_65 : decode cX11_of 65 = .ok (.invokestatic 143, 3) := dk_get kX11_of_ok 37 rfl
theorem dX11_of_68 : decode cX11_of 68 = .ok (.ireturn, 1) := dk_get kX11_of_ok 38 rfl
def kX11_like : List (Nat × Instr × Nat) := [(0, .iload_n 1, 1), (1, .iconst 0, 1), (2, .bipush 15, 2), (4, .invokestatic 100, 3), (7, .invokestatic 104, 3), (10, .iload_n 2, 1), (11, .iconst 0, 1), (12, .bipush 15, 2), (14, .invokestatic 100, 3), (17, .invokestatic 104, 3), (20, .iload_n 3, 1), (21, .iconst 0, 1), (22, .bipush 100, 2), (24, .invokestatic 100, 3), (27, .invokestatic 104, 3), (30, .iload_n 1, 1), (31, .iload_n 2, 1), (32, .if_icmp .ne 5, 3), (35, .iconst (-1), 1), (36, .ireturn, 1), (37, .aload_n 0, 1), (38, .getfield 12, 3), (41, .iload_n 1, 1), (42, .iload_n 2, 1), (43, .iload_n 3, 1), (44, .invokevirtual 146, 3), (47, .istore 4, 2), (49, .aload_n 0, 1), (50, .getfield 30, 3), (53, .iconst 0, 1), (54, .invokevirtual 116, 3), (57, .aload_n 0, 1), (58, .getfield 66, 3), (61, .invokevirtual 123, 3), (64, .iload 4, 2), (66, .ireturn, 1)]
set_option maxRecDepth 100000 in
theorem kX11_like_ok : kX11_like.all (fun q => decide (decode cX11_like q.1 = .ok q.2)) = true := by decide +kernel
theorem dX11_like_0 : decode cX11_like 0 = .ok (.iload_n 1, 1) := dk_get kX11_like_ok 0 rfl
theorem dX11_like_1 : decode cX11_like 1 = .ok (.iconst 0, 1) := dk_get kX11_like_ok 1 rfl
theorem dX11_like_2 : decode cX11_like 2 = .ok (.bipush 15, 2) := dk_get kX11_like_ok 2 rfl
theorem dX11_like_4 : decode cX11_like 4 = .ok (.invokestatic 100, 3) := dk_get kX11_like_ok 3 rfl
theorem dX11_like_7 : decode cX11_like 7 = .ok (.invokestatic 104, 3) := dk_get kX11_like_ok 4 rfl
theorem dX11_like_10 : decode cX11_like 10 = .ok (.iload_n 2, 1) := dk_get kX11_like_ok 5 rfl
theorem dX11_like_11 : decode cX11_like 11 = .ok (.iconst 0, 1) := dk_get kX11_like_ok 6 rfl
theorem dX11_like_12 : decode cX11_like 12 = .ok (.bipush 15, 2) := dk_get kX11_like_ok 7 rfl
theorem dX11_like_14 : decode cX11_like 14 = .ok (.invokestatic 100, 3) := dk_get kX11_like_ok 8 rfl
theorem dX11_like_17 : decode cX11_like 17 = .ok (.invokestatic 104, 3) := dk_get kX11_like_ok 9 rfl
theorem dX11_like_20 : decode cX11_like 20 = .ok (.iload_n 3, 1) := dk_get kX11_like_ok 10 rfl
theorem dX11_like_21 : decode cX11_like 21 = .ok (.iconst 0, 1) := dk_get kX11_like_ok 11 rfl
theorem dX11_like_22 : decode cX11_like 22 = .ok (.bipush 100, 2) := dk_get kX11_like_ok 12 rfl
theorem dX11_like_24 : decode cX11_like 24 = .ok (.invokestatic 100, 3) := dk_get kX11_like_ok 13 rfl
theorem dX11_like_27 : decode cX11_like 27 = .ok (.invokestatic 104, 3) := dk_get kX11_like_ok 14 rfl
theorem dX11_like_30 : decode cX11_like 30 = .ok (.iload_n 1, 1) := dk_get kX11_like_ok 15 rfl
theorem dX11_like_31 : decode cX11_like 31 = .ok (.iload_n 2, 1) := dk_get kX11_like_ok 16 rfl
theorem dX11_like_32 : decode cX11_like 32 = .ok (.if_icmp .ne 5, 3) := dk_get kX11_like_ok 17 rfl
theorem dX11_like_35 : decode cX11_like 35 = .ok (.iconst (-1), 1) := dk_get kX11_like_ok 18 rfl
theorem dX11_like_36 : decode cX11_like 36 = .ok (.ireturn, 1) := dk_get kX11_like_ok 19 rfl
theorem dX11_like_37 : decode cX11_like 37 = .ok (.aload_n 0, 1) := dk_get kX11_like_ok 20 rfl
theorem dX11_like_38 : decode cX11_like 38 = .ok (.getfield 12, 3) := dk_get kX11_like_ok 21 rfl
theorem dX11_like_41 : decode cX11_like 41 = .ok (.iload_n 1, 1) := dk_get kX11_like_ok 22 rfl
theorem dX11_like_42 : decode cX11_like 42 = .ok (.iload_n 2, 1) := dk_get kX11_like_ok 23 rfl
theorem dX11_like_43 : decode cX11_like 43 = .ok (.iload_n 3, 1) := dk_get kX11_like_ok 24 rfl
theorem dX11_like_44 : decode cX11_like 44 = .ok (.invokevirtual 146, 3) := dk_get kX11_like_ok 25 rfl
theorem dX11_like_47 : decode cX11_like 47 = .ok (.istore 4, 2) := dk_get kX11_like_ok 26 rfl
theorem dX11_like_49 : decode cX11_like 49 = .ok (.aload_n 0, 1) := dk_get kX11_like_ok 27 rfl
theorem dX11_like_50 : decode cX11_like 50 = .ok (.getfield 30, 3) := dk_get kX11_like_ok 28 rfl
theorem dX11_like_53 : decode cX11_like 53 = .ok (.iconst 0, 1) := dk_get kX11_like_ok 29 rfl
theorem dX11_like_54 : decode cX11_like 54 = .ok (.invokevirtual 116, 3) := dk_get kX11_like_ok 30 rfl
theorem dX11_like_57 : decode cX11_like 57 = .ok (.aload_n 0, 1) := dk_get kX11_like_ok 31 rfl
theorem dX11_like_58 : decode cX11_like 58 = .ok (.getfield 66, 3) := dk_get kX11_like_ok 32 rfl
theorem dX11_like_61 : decode cX11_like 61 = .ok (.invokevirtual 123, 3) := dk_get kX11_like_ok 33 rfl
theorem dX11_like_64 : decode cX11_like 64 = .ok (.iload 4, 2) := dk_get kX11_like_ok 34 rfl
theorem dX11_like_66 : decode cX11_like 66 = .ok (.ireturn, 1) := dk_get kX11_like_ok 35 rfl
def kX11_feed : List (Nat × Instr × Nat) := [(0, .aload_n 0, 1), (1, .getfield 21, 3), (4, .getfield 150, 3), (7, .bipush 20, 2), (9, .iadd, 1), (10, .sipush 400, 3), (13, .if_icmp .le 5, 3), (16, .iconst (-1), 1), (17, .ireturn, 1), (18, .aload_n 0, 1), (19, .getfield 21, 3), (22, .iload_n 1, 1), (23, .invokevirtual 153, 3), (26, .aload_n 0, 1), (27, .getfield 21, 3), (30, .iload_n 2, 1), (31, .invokevirtual 153, 3), (34, .aload_n 0, 1), (35, .getfield 21, 3), (38, .iload_n 3, 1), (39, .invokevirtual 153, 3), (42, .aload_n 0, 1), (43, .getfield 21, 3), (46, .iload 4, 2), (48, .invokevirtual 153, 3), (51, .aload_n 0, 1), (52, .getfield 21, 3), (55, .iload 5, 2), (57, .invokevirtual 153, 3), (60, .aload_n 0, 1), (61, .getfield 21, 3), (64, .getfield 150, 3), (67, .ireturn, 1)]
set_option maxRecDepth 100000 in
theorem kX11_feed_ok : kX11_feed.all (fun q => decide (decode cX11_feed q.1 = .ok q.2)) = true := by decide +kernel
theorem dX11_feed_0 : decode cX11_feed 0 = .ok (.aload_n 0, 1) := dk_get kX11_feed_ok 0 rfl
theorem dX11_feed_1 : decode cX11_feed 1 = .ok (.getfield 21, 3) := dk_get kX11_feed_ok 1 rfl
theorem dX11_feed_4 : decode cX11_feed 4 = .ok (.getfield 150, 3) := dk_get kX11_feed_ok 2 rfl
theorem dX11_feed_7 : decode cX11_feed 7 = .ok (.bipush 20, 2) := dk_get kX11_feed_ok 3 rfl
theorem dX11_feed_9 : decode cX11_feed 9 = .ok (.iadd, 1) := dk_get kX11_feed_ok 4 rfl
theorem dX11_feed_10 : decode cX11_feed 10 = .ok (.sipush 400, 3) := dk_get kX11_feed_ok 5 rfl
theorem dX11_feed_13 : decode cX11_feed 13 = .ok (.if_icmp .le 5, 3) := dk_get kX11_feed_ok 6 rfl
theorem dX11_feed_16 : decode cX11_feed 16 = .ok (.iconst (-1), 1) := dk_get kX11_feed_ok 7 rfl
theorem dX11_feed_17 : decode cX11_feed 17 = .ok (.ireturn, 1) := dk_get kX11_feed_ok 8 rfl
theorem dX11_feed_18 : decode cX11_feed 18 = .ok (.aload_n 0, 1) := dk_get kX11_feed_ok 9 rfl
theorem dX11_feed_19 : decode cX11_feed 19 = .ok (.getfield 21, 3) := dk_get kX11_feed_ok 10 rfl
theorem dX11_feed_22 : decode cX11_feed 22 = .ok (.iload_n 1, 1) := dk_get kX11_feed_ok 11 rfl
theorem dX11_feed_23 : decode cX11_feed 23 = .ok (.invokevirtual 153, 3) := dk_get kX11_feed_ok 12 rfl
theorem dX11_feed_26 : decode cX11_feed 26 = .ok (.aload_n 0, 1) := dk_get kX11_feed_ok 13 rfl
theorem dX11_feed_27 : decode cX11_feed 27 = .ok (.getfield 21, 3) := dk_get kX11_feed_ok 14 rfl
theorem dX11_feed_30 : decode cX11_feed 30 = .ok (.iload_n 2, 1) := dk_get kX11_feed_ok 15 rfl
theorem dX11_feed_31 : decode cX11_feed 31 = .ok (.invokevirtual 153, 3) := dk_get kX11_feed_ok 16 rfl
theorem dX11_feed_34 : decode cX11_feed 34 = .ok (.aload_n 0, 1) := dk_get kX11_feed_ok 17 rfl
theorem dX11_feed_35 : decode cX11_feed 35 = .ok (.getfield 21, 3) := dk_get kX11_feed_ok 18 rfl
theorem dX11_feed_38 : decode cX11_feed 38 = .ok (.iload_n 3, 1) := dk_get kX11_feed_ok 19 rfl
theorem dX11_feed_39 : decode cX11_feed 39 = .ok (.invokevirtual 153, 3) := dk_get kX11_feed_ok 20 rfl
theorem dX11_feed_42 : decode cX11_feed 42 = .ok (.aload_n 0, 1) := dk_get kX11_feed_ok 21 rfl
theorem dX11_feed_43 : decode cX11_feed 43 = .ok (.getfield 21, 3) := dk_get kX11_feed_ok 22 rfl
theorem dX11_feed_46 : decode cX11_feed 46 = .ok (.iload 4, 2) := dk_get kX11_feed_ok 23 rfl
theorem dX11_feed_48 : decode cX11_feed 48 = .ok (.invokevirtual 153, 3) := dk_get kX11_feed_ok 24 rfl
theorem dX11_feed_51 : decode cX11_feed 51 = .ok (.aload_n 0, 1) := dk_get kX11_feed_ok 25 rfl
theorem dX11_feed_52 : decode cX11_feed 52 = .ok (.getfield 21, 3) := dk_get kX11_feed_ok 26 rfl
theorem dX11_feed_55 : decode cX11_feed 55 = .ok (.iload 5, 2) := dk_get kX11_feed_ok 27 rfl
theorem dX11_feed_57 : decode cX11_feed 57 = .ok (.invokevirtual 153, 3) := dk_get kX11_feed_ok 28 rfl
theorem dX11_feed_60 : decode cX11_feed 60 = .ok (.aload_n 0, 1) := dk_get kX11_feed_ok 29 rfl
theorem dX11_feed_61 : decode cX11_feed 61 = .ok (.getfield 21, 3) := dk_get kX11_feed_ok 30 rfl
theorem dX11_feed_64 : decode cX11_feed 64 = .ok (.getfield 150, 3) := dk_get kX11_feed_ok 31 rfl
theorem dX11_feed_67 : decode cX11_feed 67 = .ok (.ireturn, 1) := dk_get kX11_feed_ok 32 rfl
def kX11_rules : List (Nat × Instr × Nat) := [(0, .iload_n 1, 1), (1, .iconst 0, 1), (2, .aload_n 0, 1), (3, .getfield 21, 3), (6, .getfield 150, 3), (9, .invokestatic 100, 3), (12, .invokestatic 104, 3), (15, .aload_n 0, 1), (16, .getfield 21, 3), (19, .iload_n 1, 1), (20, .invokevirtual 156, 3), (23, .ifCond .ne 14, 3), (26, .aload_n 0, 1), (27, .getfield 21, 3), (30, .getfield 160, 3), (33, .bipush 10, 2), (35, .isub, 1), (36, .ireturn, 1), (37, .aload_n 0, 1), (38, .getfield 21, 3), (41, .getfield 163, 3), (44, .astore_n 2, 1), (45, .aload_n 0, 1), (46, .getfield 21, 3), (49, .aload_n 0, 1), (50, .getfield 30, 3), (53, .getfield 167, 3), (56, .putfield 163, 3), (59, .aload_n 0, 1), (60, .getfield 30, 3), (63, .aload_n 2, 1), (64, .putfield 167, 3), (67, .aload_n 0, 1), (68, .getfield 30, 3), (71, .iconst 0, 1), (72, .invokevirtual 116, 3), (75, .aload_n 0, 1), (76, .getfield 66, 3), (79, .invokevirtual 123, 3), (82, .aload_n 2, 1), (83, .getfield 170, 3), (86, .ireturn, 1)]
set_option maxRecDepth 100000 in
theorem kX11_rules_ok : kX11_rules.all (fun q => decide (decode cX11_rules q.1 = .ok q.2)) = true := by decide +kernel
theorem dX11_rules_0 : decode cX11_rules 0 = .ok (.iload_n 1, 1) := dk_get kX11_rules_ok 0 rfl
theorem dX11_rules_1 : decode cX11_rules 1 = .ok (.iconst 0, 1) := dk_get kX11_rules_ok 1 rfl
theorem dX11_rules_2 : decode cX11_rules 2 = .ok (.aload_n 0, 1) := dk_get kX11_rules_ok 2 rfl
theorem dX11_rules_3 : decode cX11_rules 3 = .ok (.getfield 21, 3) := dk_get kX11_rules_ok 3 rfl
theorem dX11_rules_6 : decode cX11_rules 6 = .ok (.getfield 150, 3) := dk_get kX11_rules_ok 4 rfl
theorem dX11_rules_9 : decode cX11_rules 9 = .ok (.invokestatic 100, 3) := dk_get kX11_rules_ok 5 rfl
theorem dX11_rules_12 : decode cX11_rules 12 = .ok (.invokestatic 104, 3) := dk_get kX11_rules_ok 6 rfl
theorem dX11_rules_15 : decode cX11_rules 15 = .ok (.aload_n 0, 1) := dk_get kX11_rules_ok 7 rfl
theorem dX11_rules_16 : decode cX11_rules 16 = .ok (.getfield 21, 3) := dk_get kX11_rules_ok 8 rfl
theorem dX11_rules_19 : decode cX11_rules 19 = .ok (.iload_n 1, 1) := dk_get kX11_rules_ok 9 rfl
theorem dX11_rules_20 : decode cX11_rules 20 = .ok (.invokevirtual 156, 3) := dk_get kX11_rules_ok 10 rfl
theorem dX11_rules_23 : decode cX11_rules 23 = .ok (.ifCond .ne 14, 3) := dk_get kX11_rules_ok 11 rfl
theorem dX11_rules_26 : decode cX11_rules 26 = .ok (.aload_n 0, 1) := dk_get kX11_rules_ok 12 rfl
theorem dX11_rules_27 : decode cX11_rules 27 = .ok (.getfield 21, 3) := dk_get kX11_rules_ok 13 rfl
theorem dX11_rules_30 : decode cX11_rules 30 = .ok (.getfield 160, 3) := dk_get kX11_rules_ok 14 rfl
theorem dX11_rules_33 : decode cX11_rules 33 = .ok (.bipush 10, 2) := dk_get kX11_rules_ok 15 rfl
theorem dX11_rules_35 : decode cX11_rules 35 = .ok (.isub, 1) := dk_get kX11_rules_ok 16 rfl
theorem dX11_rules_36 : decode cX11_rules 36 = .ok (.ireturn, 1) := dk_get kX11_rules_ok 17 rfl
theorem dX11_rules_37 : decode cX11_rules 37 = .ok (.aload_n 0, 1) := dk_get kX11_rules_ok 18 rfl
theorem dX11_rules_38 : decode cX11_rules 38 = .ok (.getfield 21, 3) := dk_get kX11_rules_ok 19 rfl
theorem dX11_rules_41 : decode cX11_rules 41 = .ok (.getfield 163, 3) := dk_get kX11_rules_ok 20 rfl
theorem dX11_rules_44 : decode cX11_rules 44 = .ok (.astore_n 2, 1) := dk_get kX11_rules_ok 21 rfl
theorem dX11_rules_45 : decode cX11_rules 45 = .ok (.aload_n 0, 1) := dk_get kX11_rules_ok 22 rfl
theorem dX11_rules_46 : decode cX11_rules 46 = .ok (.getfield 21, 3) := dk_get kX11_rules_ok 23 rfl
theorem dX11_rules_49 : decode cX11_rules 49 = .ok (.aload_n 0, 1) := dk_get kX11_rules_ok 24 rfl
theorem dX11_rules_50 : decode cX11_rules 50 = .ok (.getfield 30, 3) := dk_get kX11_rules_ok 25 rfl
theorem dX11_rules_53 : decode cX11_rules 53 = .ok (.getfield 167, 3) := dk_get kX11_rules_ok 26 rfl
theorem dX11_rules_56 : decode cX11_rules 56 = .ok (.putfield 163, 3) := dk_get kX11_rules_ok 27 rfl
theorem dX11_rules_59 : decode cX11_rules 59 = .ok (.aload_n 0, 1) := dk_get kX11_rules_ok 28 rfl
theorem dX11_rules_60 : decode cX11_rules 60 = .ok (.getfield 30, 3) := dk_get kX11_rules_ok 29 rfl
theorem dX11_rules_63 : decode cX11_rules 63 = .ok (.aload_n 2, 1) := dk_get kX11_rules_ok 30 rfl
theorem dX11_rules_64 : decode cX11_rules 64 = .ok (.putfield 167, 3) := dk_get kX11_rules_ok 31 rfl
theorem dX11_rules_67 : decode cX11_rules 67 = .ok (.aload_n 0, 1) := dk_get kX11_rules_ok 32 rfl
theorem dX11_rules_68 : decode cX11_rules 68 = .ok (.getfield 30, 3) := dk_get kX11_rules_ok 33 rfl
theorem dX11_rules_71 : decode cX11_rules 71 = .ok (.iconst 0, 1) := dk_get kX11_rules_ok 34 rfl
theorem dX11_rules_72 : decode cX11_rules 72 = .ok (.invokevirtual 116, 3) := dk_get kX11_rules_ok 35 rfl
theorem dX11_rules_75 : decode cX11_rules 75 = .ok (.aload_n 0, 1) := dk_get kX11_rules_ok 36 rfl
theorem dX11_rules_76 : decode cX11_rules 76 = .ok (.getfield 66, 3) := dk_get kX11_rules_ok 37 rfl
theorem dX11_rules_79 : decode cX11_rules 79 = .ok (.invokevirtual 123, 3) := dk_get kX11_rules_ok 38 rfl
theorem dX11_rules_82 : decode cX11_rules 82 = .ok (.aload_n 2, 1) := dk_get kX11_rules_ok 39 rfl
theorem dX11_rules_83 : decode cX11_rules 83 = .ok (.getfield 170, 3) := dk_get kX11_rules_ok 40 rfl
theorem dX11_rules_86 : decode cX11_rules 86 = .ok (.ireturn, 1) := dk_get kX11_rules_ok 41 rfl
def kX11_fault : List (Nat × Instr × Nat) := [(0, .aload_n 0, 1), (1, .getfield 21, 3), (4, .getfield 175, 3), (7, .ireturn, 1)]
set_option maxRecDepth 100000 in
theorem kX11_fault_ok : kX11_fault.all (fun q => decide (decode cX11_fault q.1 = .ok q.2)) = true := by decide +kernel
theorem dX11_fault_0 : decode cX11_fault 0 = .ok (.aload_n 0, 1) := dk_get kX11_fault_ok 0 rfl
theorem dX11_fault_1 : decode cX11_fault 1 = .ok (.getfield 21, 3) := dk_get kX11_fault_ok 1 rfl
theorem dX11_fault_4 : decode cX11_fault 4 = .ok (.getfield 175, 3) := dk_get kX11_fault_ok 2 rfl
theorem dX11_fault_7 : decode cX11_fault 7 = .ok (.ireturn, 1) := dk_get kX11_fault_ok 3 rfl
def kX11_weight : List (Nat × Instr × Nat) := [(0, .aload_n 0, 1), (1, .iload_n 1, 1), (2, .iload_n 2, 1), (3, .invokevirtual 178, 3), (6, .aload_n 0, 1), (7, .getfield 30, 3), (10, .iload_n 1, 1), (11, .iload_n 2, 1), (12, .invokevirtual 182, 3), (15, .ifCond .eq 8, 3), (18, .ldc 186, 2), (20, .goto 12, 3), (23, .aload_n 0, 1), (24, .getfield 30, 3), (27, .iload_n 1, 1), (28, .iload_n 2, 1), (29, .invokevirtual 187, 3), (32, .ireturn, 1)]
set_option maxRecDepth 100000 in
theorem kX11_weight_ok : kX11_weight.all (fun q => decide (decode cX11_weight q.1 = .ok q.2)) = true := by decide +kernel
theorem dX11_weight_0 : decode cX11_weight 0 = .ok (.aload_n 0, 1) := dk_get kX11_weight_ok 0 rfl
theorem dX11_weight_1 : decode cX11_weight 1 = .ok (.iload_n 1, 1) := dk_get kX11_weight_ok 1 rfl
theorem dX11_weight_2 : decode cX11_weight 2 = .ok (.iload_n 2, 1) := dk_get kX11_weight_ok 2 rfl
theorem dX11_weight_3 : decode cX11_weight 3 = .ok (.invokevirtual 178, 3) := dk_get kX11_weight_ok 3 rfl
theorem dX11_weight_6 : decode cX11_weight 6 = .ok (.aload_n 0, 1) := dk_get kX11_weight_ok 4 rfl
theorem dX11_weight_7 : decode cX11_weight 7 = .ok (.getfield 30, 3) := dk_get kX11_weight_ok 5 rfl
theorem dX11_weight_10 : decode cX11_weight 10 = .ok (.iload_n 1, 1) := dk_get kX11_weight_ok 6 rfl
theorem dX11_weight_11 : decode cX11_weight 11 = .ok (.iload_n 2, 1) := dk_get kX11_weight_ok 7 rfl
theorem dX11_weight_12 : decode cX11_weight 12 = .ok (.invokevirtual 182, 3) := dk_get kX11_weight_ok 8 rfl
theorem dX11_weight_15 : decode cX11_weight 15 = .ok (.ifCond .eq 8, 3) := dk_get kX11_weight_ok 9 rfl
theorem dX11_weight_18 : decode cX11_weight 18 = .ok (.ldc 186, 2) := dk_get kX11_weight_ok 10 rfl
theorem dX11_weight_20 : decode cX11_weight 20 = .ok (.goto 12, 3) := dk_get kX11_weight_ok 11 rfl
theorem dX11_weight_23 : decode cX11_weight 23 = .ok (.aload_n 0, 1) := dk_get kX11_weight_ok 12 rfl
theorem dX11_weight_24 : decode cX11_weight 24 = .ok (.getfield 30, 3) := dk_get kX11_weight_ok 13 rfl
theorem dX11_weight_27 : decode cX11_weight 27 = .ok (.iload_n 1, 1) := dk_get kX11_weight_ok 14 rfl
theorem dX11_weight_28 : decode cX11_weight 28 = .ok (.iload_n 2, 1) := dk_get kX11_weight_ok 15 rfl
theorem dX11_weight_29 : decode cX11_weight 29 = .ok (.invokevirtual 187, 3) := dk_get kX11_weight_ok 16 rfl
theorem dX11_weight_32 : decode cX11_weight 32 = .ok (.ireturn, 1) := dk_get kX11_weight_ok 17 rfl
def kX11_why : List (Nat × Instr × Nat) := [(0, .aload_n 0, 1), (1, .iload_n 1, 1), (2, .iload_n 2, 1), (3, .invokevirtual 178, 3), (6, .aload_n 0, 1), (7, .getfield 30, 3), (10, .iload_n 1, 1), (11, .iload_n 2, 1), (12, .invokevirtual 190, 3), (15, .ifCond .eq 7, 3), (18, .iconst (-1), 1), (19, .goto 12, 3), (22, .aload_n 0, 1), (23, .getfield 30, 3), (26, .iload_n 1, 1), (27, .iload_n 2, 1), (28, .invokevirtual 193, 3), (31, .ireturn, 1)]
set_option maxRecDepth 100000 in
theorem kX11_why_ok : kX11_why.all (fun q => decide (decode cX11_why q.1 = .ok q.2)) = true := by decide +kernel
theorem dX11_why_0 : decode cX11_why 0 = .ok (.aload_n 0, 1) := dk_get kX11_why_ok 0 rfl
theorem dX11_why_1 : decode cX11_why 1 = .ok (.iload_n 1, 1) := dk_get kX11_why_ok 1 rfl
theorem dX11_why_2 : decode cX11_why 2 = .ok (.iload_n 2, 1) := dk_get kX11_why_ok 2 rfl
theorem dX11_why_3 : decode cX11_why 3 = .ok (.invokevirtual 178, 3) := dk_get kX11_why_ok 3 rfl
theorem dX11_why_6 : decode cX11_why 6 = .ok (.aload_n 0, 1) := dk_get kX11_why_ok 4 rfl
theorem dX11_why_7 : decode cX11_why 7 = .ok (.getfield 30, 3) := dk_get kX11_why_ok 5 rfl
theorem dX11_why_10 : decode cX11_why 10 = .ok (.iload_n 1, 1) := dk_get kX11_why_ok 6 rfl
theorem dX11_why_11 : decode cX11_why 11 = .ok (.iload_n 2, 1) := dk_get kX11_why_ok 7 rfl
theorem dX11_why_12 : decode cX11_why 12 = .ok (.invokevirtual 190, 3) := dk_get kX11_why_ok 8 rfl
theorem dX11_why_15 : decode cX11_why 15 = .ok (.ifCond .eq 7, 3) := dk_get kX11_why_ok 9 rfl
theorem dX11_why_18 : decode cX11_why 18 = .ok (.iconst (-1), 1) := dk_get kX11_why_ok 10 rfl
theorem dX11_why_19 : decode cX11_why 19 = .ok (.goto 12, 3) := dk_get kX11_why_ok 11 rfl
theorem dX11_why_22 : decode cX11_why 22 = .ok (.aload_n 0, 1) := dk_get kX11_why_ok 12 rfl
theorem dX11_why_23 : decode cX11_why 23 = .ok (.getfield 30, 3) := dk_get kX11_why_ok 13 rfl
theorem dX11_why_26 : decode cX11_why 26 = .ok (.iload_n 1, 1) := dk_get kX11_why_ok 14 rfl
theorem dX11_why_27 : decode cX11_why 27 = .ok (.iload_n 2, 1) := dk_get kX11_why_ok 15 rfl
theorem dX11_why_28 : decode cX11_why 28 = .ok (.invokevirtual 193, 3) := dk_get kX11_why_ok 16 rfl
theorem dX11_why_31 : decode cX11_why 31 = .ok (.ireturn, 1) := dk_get kX11_why_ok 17 rfl
def kX11_weigh : List (Nat × Instr × Nat) := [(0, .aload_n 0, 1), (1, .iload_n 1, 1), (2, .iload_n 2, 1), (3, .invokevirtual 178, 3), (6, .iload_n 3, 1), (7, .ldc 186, 2), (9, .if_icmp .eq 16, 3), (12, .iload_n 3, 1), (13, .sipush (-10000), 3), (16, .sipush 10000, 3), (19, .invokestatic 100, 3), (22, .ifCond .eq 7, 3), (25, .iconst 1, 1), (26, .goto 4, 3), (29, .iconst 0, 1), (30, .invokestatic 104, 3), (33, .aload_n 0, 1), (34, .getfield 30, 3), (37, .iload_n 1, 1), (38, .iload_n 2, 1), (39, .invokevirtual 190, 3), (42, .ifCond .ne 7, 3), (45, .iconst 1, 1), (46, .goto 4, 3), (49, .iconst 0, 1), (50, .istore 4, 2), (52, .iload 4, 2), (54, .ifCond .eq 17, 3), (57, .aload_n 0, 1), (58, .getfield 30, 3), (61, .getfield 196, 3), (64, .bipush 60, 2), (66, .if_icmp .lt 5, 3), (69, .iconst (-1), 1), (70, .ireturn, 1), (71, .aload_n 0, 1), (72, .getfield 30, 3), (75, .iload_n 1, 1), (76, .iload_n 2, 1), (77, .iload_n 3, 1), (78, .invokevirtual 199, 3), (81, .aload_n 0, 1), (82, .getfield 66, 3), (85, .invokevirtual 123, 3), (88, .iload 4, 2), (90, .ifCond .eq 7, 3), (93, .iconst 1, 1), (94, .goto 4, 3), (97, .iconst 0, 1), (98, .ireturn, 1)]
set_option maxRecDepth 100000 in
theorem kX11_weigh_ok : kX11_weigh.all (fun q => decide (decode cX11_weigh q.1 = .ok q.2)) = true := by decide +kernel
theorem dX11_weigh_0 : decode cX11_weigh 0 = .ok (.aload_n 0, 1) := dk_get kX11_weigh_ok 0 rfl
theorem dX11_weigh_1 : decode cX11_weigh 1 = .ok (.iload_n 1, 1) := dk_get kX11_weigh_ok 1 rfl
theorem dX11_weigh_2 : decode cX11_weigh 2 = .ok (.iload_n 2, 1) := dk_get kX11_weigh_ok 2 rfl
theorem dX11_weigh_3 : decode cX11_weigh 3 = .ok (.invokevirtual 178, 3) := dk_get kX11_weigh_ok 3 rfl
theorem dX11_weigh_6 : decode cX11_weigh 6 = .ok (.iload_n 3, 1) := dk_get kX11_weigh_ok 4 rfl
theorem dX11_weigh_7 : decode cX11_weigh 7 = .ok (.ldc 186, 2) := dk_get kX11_weigh_ok 5 rfl
theorem dX11_weigh_9 : decode cX11_weigh 9 = .ok (.if_icmp .eq 16, 3) := dk_get kX11_weigh_ok 6 rfl
theorem dX11_weigh_12 : decode cX11_weigh 12 = .ok (.iload_n 3, 1) := dk_get kX11_weigh_ok 7 rfl
theorem dX11_weigh_13 : decode cX11_weigh 13 = .ok (.sipush (-10000), 3) := dk_get kX11_weigh_ok 8 rfl
theorem dX11_weigh_16 : decode cX11_weigh 16 = .ok (.sipush 10000, 3) := dk_get kX11_weigh_ok 9 rfl
theorem dX11_weigh_19 : decode cX11_weigh 19 = .ok (.invokestatic 100, 3) := dk_get kX11_weigh_ok 10 rfl
theorem dX11_weigh_22 : decode cX11_weigh 22 = .ok (.ifCond .eq 7, 3) := dk_get kX11_weigh_ok 11 rfl
theorem dX11_weigh_25 : decode cX11_weigh 25 = .ok (.iconst 1, 1) := dk_get kX11_weigh_ok 12 rfl
theorem dX11_weigh_26 : decode cX11_weigh 26 = .ok (.goto 4, 3) := dk_get kX11_weigh_ok 13 rfl
theorem dX11_weigh_29 : decode cX11_weigh 29 = .ok (.iconst 0, 1) := dk_get kX11_weigh_ok 14 rfl
theorem dX11_weigh_30 : decode cX11_weigh 30 = .ok (.invokestatic 104, 3) := dk_get kX11_weigh_ok 15 rfl
theorem dX11_weigh_33 : decode cX11_weigh 33 = .ok (.aload_n 0, 1) := dk_get kX11_weigh_ok 16 rfl
theorem dX11_weigh_34 : decode cX11_weigh 34 = .ok (.getfield 30, 3) := dk_get kX11_weigh_ok 17 rfl
theorem dX11_weigh_37 : decode cX11_weigh 37 = .ok (.iload_n 1, 1) := dk_get kX11_weigh_ok 18 rfl
theorem dX11_weigh_38 : decode cX11_weigh 38 = .ok (.iload_n 2, 1) := dk_get kX11_weigh_ok 19 rfl
theorem dX11_weigh_39 : decode cX11_weigh 39 = .ok (.invokevirtual 190, 3) := dk_get kX11_weigh_ok 20 rfl
theorem dX11_weigh_42 : decode cX11_weigh 42 = .ok (.ifCond .ne 7, 3) := dk_get kX11_weigh_ok 21 rfl
theorem dX11_weigh_45 : decode cX11_weigh 45 = .ok (.iconst 1, 1) := dk_get kX11_weigh_ok 22 rfl
theorem dX11_weigh_46 : decode cX11_weigh 46 = .ok (.goto 4, 3) := dk_get kX11_weigh_ok 23 rfl
theorem dX11_weigh_49 : decode cX11_weigh 49 = .ok (.iconst 0, 1) := dk_get kX11_weigh_ok 24 rfl
theorem dX11_weigh_50 : decode cX11_weigh 50 = .ok (.istore 4, 2) := dk_get kX11_weigh_ok 25 rfl
theorem dX11_weigh_52 : decode cX11_weigh 52 = .ok (.iload 4, 2) := dk_get kX11_weigh_ok 26 rfl
theorem dX11_weigh_54 : decode cX11_weigh 54 = .ok (.ifCond .eq 17, 3) := dk_get kX11_weigh_ok 27 rfl
theorem dX11_weigh_57 : decode cX11_weigh 57 = .ok (.aload_n 0, 1) := dk_get kX11_weigh_ok 28 rfl
theorem dX11_weigh_58 : decode cX11_weigh 58 = .ok (.getfield 30, 3) := dk_get kX11_weigh_ok 29 rfl
theorem dX11_weigh_61 : decode cX11_weigh 61 = .ok (.getfield 196, 3) := dk_get kX11_weigh_ok 30 rfl
theorem dX11_weigh_64 : decode cX11_weigh 64 = .ok (.bipush 60, 2) := dk_get kX11_weigh_ok 31 rfl
theorem dX11_weigh_66 : decode cX11_weigh 66 = .ok (.if_icmp .lt 5, 3) := dk_get kX11_weigh_ok 32 rfl
theorem dX11_weigh_69 : decode cX11_weigh 69 = .ok (.iconst (-1), 1) := dk_get kX11_weigh_ok 33 rfl
theorem dX11_weigh_70 : decode cX11_weigh 70 = .ok (.ireturn, 1) := dk_get kX11_weigh_ok 34 rfl
theorem dX11_weigh_71 : decode cX11_weigh 71 = .ok (.aload_n 0, 1) := dk_get kX11_weigh_ok 35 rfl
theorem dX11_weigh_72 : decode cX11_weigh 72 = .ok (.getfield 30, 3) := dk_get kX11_weigh_ok 36 rfl
theorem dX11_weigh_75 : decode cX11_weigh 75 = .ok (.iload_n 1, 1) := dk_get kX11_weigh_ok 37 rfl
theorem dX11_weigh_76 : decode cX11_weigh 76 = .ok (.iload_n 2, 1) := dk_get kX11_weigh_ok 38 rfl
theorem dX11_weigh_77 : decode cX11_weigh 77 = .ok (.iload_n 3, 1) := dk_get kX11_weigh_ok 39 rfl
theorem dX11_weigh_78 : decode cX11_weigh 78 = .ok (.invokevirtual 199, 3) := dk_get kX11_weigh_ok 40 rfl
theorem dX11_weigh_81 : decode cX11_weigh 81 = .ok (.aload_n 0, 1) := dk_get kX11_weigh_ok 41 rfl
theorem dX11_weigh_82 : decode cX11_weigh 82 = .ok (.getfield 66, 3) := dk_get kX11_weigh_ok 42 rfl
theorem dX11_weigh_85 : decode cX11_weigh 85 = .ok (.invokevirtual 123, 3) := dk_get kX11_weigh_ok 43 rfl
theorem dX11_weigh_88 : decode cX11_weigh 88 = .ok (.iload 4, 2) := dk_get kX11_weigh_ok 44 rfl
theorem dX11_weigh_90 : decode cX11_weigh 90 = .ok (.ifCond .eq 7, 3) := dk_get kX11_weigh_ok 45 rfl
theorem dX11_weigh_93 : decode cX11_weigh 93 = .ok (.iconst 1, 1) := dk_get kX11_weigh_ok 46 rfl
theorem dX11_weigh_94 : decode cX11_weigh 94 = .ok (.goto 4, 3) := dk_get kX11_weigh_ok 47 rfl
theorem dX11_weigh_97 : decode cX11_weigh 97 = .ok (.iconst 0, 1) := dk_get kX11_weigh_ok 48 rfl
theorem dX11_weigh_98 : decode cX11_weigh 98 = .ok (.ireturn, 1) := dk_get kX11_weigh_ok 49 rfl
def kX11_forget : List (Nat × Instr × Nat) := [(0, .aload_n 0, 1), (1, .iload_n 1, 1), (2, .iload_n 2, 1), (3, .invokevirtual 178, 3), (6, .aload_n 0, 1), (7, .getfield 30, 3), (10, .iload_n 1, 1), (11, .iload_n 2, 1), (12, .invokevirtual 190, 3), (15, .ifCond .ne 5, 3), (18, .iconst 0, 1), (19, .ireturn, 1), (20, .aload_n 0, 1), (21, .getfield 30, 3), (24, .iload_n 1, 1), (25, .iload_n 2, 1), (26, .invokevirtual 203, 3), (29, .aload_n 0, 1), (30, .getfield 66, 3), (33, .invokevirtual 123, 3), (36, .iconst 1, 1), (37, .ireturn, 1)]
set_option maxRecDepth 100000 in
theorem kX11_forget_ok : kX11_forget.all (fun q => decide (decode cX11_forget q.1 = .ok q.2)) = true := by decide +kernel
theorem dX11_forget_0 : decode cX11_forget 0 = .ok (.aload_n 0, 1) := dk_get kX11_forget_ok 0 rfl
theorem dX11_forget_1 : decode cX11_forget 1 = .ok (.iload_n 1, 1) := dk_get kX11_forget_ok 1 rfl
theorem dX11_forget_2 : decode cX11_forget 2 = .ok (.iload_n 2, 1) := dk_get kX11_forget_ok 2 rfl
theorem dX11_forget_3 : decode cX11_forget 3 = .ok (.invokevirtual 178, 3) := dk_get kX11_forget_ok 3 rfl
theorem dX11_forget_6 : decode cX11_forget 6 = .ok (.aload_n 0, 1) := dk_get kX11_forget_ok 4 rfl
theorem dX11_forget_7 : decode cX11_forget 7 = .ok (.getfield 30, 3) := dk_get kX11_forget_ok 5 rfl
theorem dX11_forget_10 : decode cX11_forget 10 = .ok (.iload_n 1, 1) := dk_get kX11_forget_ok 6 rfl
theorem dX11_forget_11 : decode cX11_forget 11 = .ok (.iload_n 2, 1) := dk_get kX11_forget_ok 7 rfl
theorem dX11_forget_12 : decode cX11_forget 12 = .ok (.invokevirtual 190, 3) := dk_get kX11_forget_ok 8 rfl
theorem dX11_forget_15 : decode cX11_forget 15 = .ok (.ifCond .ne 5, 3) := dk_get kX11_forget_ok 9 rfl
theorem dX11_forget_18 : decode cX11_forget 18 = .ok (.iconst 0, 1) := dk_get kX11_forget_ok 10 rfl
theorem dX11_forget_19 : decode cX11_forget 19 = .ok (.ireturn, 1) := dk_get kX11_forget_ok 11 rfl
theorem dX11_forget_20 : decode cX11_forget 20 = .ok (.aload_n 0, 1) := dk_get kX11_forget_ok 12 rfl
theorem dX11_forget_21 : decode cX11_forget 21 = .ok (.getfield 30, 3) := dk_get kX11_forget_ok 13 rfl
theorem dX11_forget_24 : decode cX11_forget 24 = .ok (.iload_n 1, 1) := dk_get kX11_forget_ok 14 rfl
theorem dX11_forget_25 : decode cX11_forget 25 = .ok (.iload_n 2, 1) := dk_get kX11_forget_ok 15 rfl
theorem dX11_forget_26 : decode cX11_forget 26 = .ok (.invokevirtual 203, 3) := dk_get kX11_forget_ok 16 rfl
theorem dX11_forget_29 : decode cX11_forget 29 = .ok (.aload_n 0, 1) := dk_get kX11_forget_ok 17 rfl
theorem dX11_forget_30 : decode cX11_forget 30 = .ok (.getfield 66, 3) := dk_get kX11_forget_ok 18 rfl
theorem dX11_forget_33 : decode cX11_forget 33 = .ok (.invokevirtual 123, 3) := dk_get kX11_forget_ok 19 rfl
theorem dX11_forget_36 : decode cX11_forget 36 = .ok (.iconst 1, 1) := dk_get kX11_forget_ok 20 rfl
theorem dX11_forget_37 : decode cX11_forget 37 = .ok (.ireturn, 1) := dk_get kX11_forget_ok 21 rfl
def kX11_law : List (Nat × Instr × Nat) := [(0, .iload_n 1, 1), (1, .iconst 0, 1), (2, .iconst 2, 1), (3, .invokestatic 100, 3), (6, .invokestatic 104, 3), (9, .iload_n 1, 1), (10, .iconst 2, 1), (11, .if_icmp .ne 7, 3), (14, .iconst (-1), 1), (15, .goto 4, 3), (18, .iconst 0, 1), (19, .istore_n 3, 1), (20, .iload_n 1, 1), (21, .ifCond .ne 8, 3), (24, .bipush 30, 2), (26, .goto 15, 3), (29, .iload_n 1, 1), (30, .iconst 1, 1), (31, .if_icmp .ne 7, 3), (34, .iconst 1, 1), (35, .goto 6, 3), (38, .sipush 199, 3), (41, .istore 4, 2), (43, .iload_n 2, 1), (44, .iload_n 3, 1), (45, .iload 4, 2), (47, .invokestatic 100, 3), (50, .invokestatic 104, 3), (53, .aload_n 0, 1), (54, .getfield 39, 3), (57, .iload_n 1, 1), (58, .iload_n 2, 1), (59, .invokevirtual 206, 3), (62, .ireturn, 1)]
set_option maxRecDepth 100000 in
theorem kX11_law_ok : kX11_law.all (fun q => decide (decode cX11_law q.1 = .ok q.2)) = true := by decide +kernel
theorem dX11_law_0 : decode cX11_law 0 = .ok (.iload_n 1, 1) := dk_get kX11_law_ok 0 rfl
theorem dX11_law_1 : decode cX11_law 1 = .ok (.iconst 0, 1) := dk_get kX11_law_ok 1 rfl
theorem dX11_law_2 : decode cX11_law 2 = .ok (.iconst 2, 1) := dk_get kX11_law_ok 2 rfl
theorem dX11_law_3 : decode cX11_law 3 = .ok (.invokestatic 100, 3) := dk_get kX11_law_ok 3 rfl
theorem dX11_law_6 : decode cX11_law 6 = .ok (.invokestatic 104, 3) := dk_get kX11_law_ok 4 rfl
theorem dX11_law_9 : decode cX11_law 9 = .ok (.iload_n 1, 1) := dk_get kX11_law_ok 5 rfl
theorem dX11_law_10 : decode cX11_law 10 = .ok (.iconst 2, 1) := dk_get kX11_law_ok 6 rfl
theorem dX11_law_11 : decode cX11_law 11 = .ok (.if_icmp .ne 7, 3) := dk_get kX11_law_ok 7 rfl
theorem dX11_law_14 : decode cX11_law 14 = .ok (.iconst (-1), 1) := dk_get kX11_law_ok 8 rfl
theorem dX11_law_15 : decode cX11_law 15 = .ok (.goto 4, 3) := dk_get kX11_law_ok 9 rfl
theorem dX11_law_18 : decode cX11_law 18 = .ok (.iconst 0, 1) := dk_get kX11_law_ok 10 rfl
theorem dX11_law_19 : decode cX11_law 19 = .ok (.istore_n 3, 1) := dk_get kX11_law_ok 11 rfl
theorem dX11_law_20 : decode cX11_law 20 = .ok (.iload_n 1, 1) := dk_get kX11_law_ok 12 rfl
theorem dX11_law_21 : decode cX11_law 21 = .ok (.ifCond .ne 8, 3) := dk_get kX11_law_ok 13 rfl
theorem dX11_law_24 : decode cX11_law 24 = .ok (.bipush 30, 2) := dk_get kX11_law_ok 14 rfl
theorem dX11_law_26 : decode cX11_law 26 = .ok (.goto 15, 3) := dk_get kX11_law_ok 15 rfl
theorem dX11_law_29 : decode cX11_law 29 = .ok (.iload_n 1, 1) := dk_get kX11_law_ok 16 rfl
theorem dX11_law_30 : decode cX11_law 30 = .ok (.iconst 1, 1) := dk_get kX11_law_ok 17 rfl
theorem dX11_law_31 : decode cX11_law 31 = .ok (.if_icmp .ne 7, 3) := dk_get kX11_law_ok 18 rfl
theorem dX11_law_34 : decode cX11_law 34 = .ok (.iconst 1, 1) := dk_get kX11_law_ok 19 rfl
theorem dX11_law_35 : decode cX11_law 35 = .ok (.goto 6, 3) := dk_get kX11_law_ok 20 rfl
theorem dX11_law_38 : decode cX11_law 38 = .ok (.sipush 199, 3) := dk_get kX11_law_ok 21 rfl
theorem dX11_law_41 : decode cX11_law 41 = .ok (.istore 4, 2) := dk_get kX11_law_ok 22 rfl
theorem dX11_law_43 : decode cX11_law 43 = .ok (.iload_n 2, 1) := dk_get kX11_law_ok 23 rfl
theorem dX11_law_44 : decode cX11_law 44 = .ok (.iload_n 3, 1) := dk_get kX11_law_ok 24 rfl
theorem dX11_law_45 : decode cX11_law 45 = .ok (.iload 4, 2) := dk_get kX11_law_ok 25 rfl
theorem dX11_law_47 : decode cX11_law 47 = .ok (.invokestatic 100, 3) := dk_get kX11_law_ok 26 rfl
theorem dX11_law_50 : decode cX11_law 50 = .ok (.invokestatic 104, 3) := dk_get kX11_law_ok 27 rfl
theorem dX11_law_53 : decode cX11_law 53 = .ok (.aload_n 0, 1) := dk_get kX11_law_ok 28 rfl
theorem dX11_law_54 : decode cX11_law 54 = .ok (.getfield 39, 3) := dk_get kX11_law_ok 29 rfl
theorem dX11_law_57 : decode cX11_law 57 = .ok (.iload_n 1, 1) := dk_get kX11_law_ok 30 rfl
theorem dX11_law_58 : decode cX11_law 58 = .ok (.iload_n 2, 1) := dk_get kX11_law_ok 31 rfl
theorem dX11_law_59 : decode cX11_law 59 = .ok (.invokevirtual 206, 3) := dk_get kX11_law_ok 32 rfl
theorem dX11_law_62 : decode cX11_law 62 = .ok (.ireturn, 1) := dk_get kX11_law_ok 33 rfl
def kX11_fix : List (Nat × Instr × Nat) := [(0, .aload_n 0, 1), (1, .iload_n 1, 1), (2, .iload_n 2, 1), (3, .invokevirtual 178, 3), (6, .aload_n 0, 1), (7, .getfield 39, 3), (10, .iload_n 1, 1), (11, .iload_n 2, 1), (12, .invokevirtual 209, 3), (15, .ifCond .eq 5, 3), (18, .iconst 0, 1), (19, .ireturn, 1), (20, .aload_n 0, 1), (21, .getfield 39, 3), (24, .getfield 212, 3), (27, .bipush 20, 2), (29, .if_icmp .lt 5, 3), (32, .iconst (-1), 1), (33, .ireturn, 1), (34, .aload_n 0, 1), (35, .getfield 39, 3), (38, .iload_n 1, 1), (39, .iload_n 2, 1), (40, .iload_n 3, 1), (41, .invokevirtual 215, 3), (44, .aload_n 0, 1), (45, .getfield 39, 3), (48, .getfield 212, 3), (51, .ireturn, 1)]
set_option maxRecDepth 100000 in
theorem kX11_fix_ok : kX11_fix.all (fun q => decide (decode cX11_fix q.1 = .ok q.2)) = true := by decide +kernel
theorem dX11_fix_0 : decode cX11_fix 0 = .ok (.aload_n 0, 1) := dk_get kX11_fix_ok 0 rfl
theorem dX11_fix_1 : decode cX11_fix 1 = .ok (.iload_n 1, 1) := dk_get kX11_fix_ok 1 rfl
theorem dX11_fix_2 : decode cX11_fix 2 = .ok (.iload_n 2, 1) := dk_get kX11_fix_ok 2 rfl
theorem dX11_fix_3 : decode cX11_fix 3 = .ok (.invokevirtual 178, 3) := dk_get kX11_fix_ok 3 rfl
theorem dX11_fix_6 : decode cX11_fix 6 = .ok (.aload_n 0, 1) := dk_get kX11_fix_ok 4 rfl
theorem dX11_fix_7 : decode cX11_fix 7 = .ok (.getfield 39, 3) := dk_get kX11_fix_ok 5 rfl
theorem dX11_fix_10 : decode cX11_fix 10 = .ok (.iload_n 1, 1) := dk_get kX11_fix_ok 6 rfl
theorem dX11_fix_11 : decode cX11_fix 11 = .ok (.iload_n 2, 1) := dk_get kX11_fix_ok 7 rfl
theorem dX11_fix_12 : decode cX11_fix 12 = .ok (.invokevirtual 209, 3) := dk_get kX11_fix_ok 8 rfl
theorem dX11_fix_15 : decode cX11_fix 15 = .ok (.ifCond .eq 5, 3) := dk_get kX11_fix_ok 9 rfl
theorem dX11_fix_18 : decode cX11_fix 18 = .ok (.iconst 0, 1) := dk_get kX11_fix_ok 10 rfl
theorem dX11_fix_19 : decode cX11_fix 19 = .ok (.ireturn, 1) := dk_get kX11_fix_ok 11 rfl
theorem dX11_fix_20 : decode cX11_fix 20 = .ok (.aload_n 0, 1) := dk_get kX11_fix_ok 12 rfl
theorem dX11_fix_21 : decode cX11_fix 21 = .ok (.getfield 39, 3) := dk_get kX11_fix_ok 13 rfl
theorem dX11_fix_24 : decode cX11_fix 24 = .ok (.getfield 212, 3) := dk_get kX11_fix_ok 14 rfl
theorem dX11_fix_27 : decode cX11_fix 27 = .ok (.bipush 20, 2) := dk_get kX11_fix_ok 15 rfl
theorem dX11_fix_29 : decode cX11_fix 29 = .ok (.if_icmp .lt 5, 3) := dk_get kX11_fix_ok 16 rfl
theorem dX11_fix_32 : decode cX11_fix 32 = .ok (.iconst (-1), 1) := dk_get kX11_fix_ok 17 rfl
theorem dX11_fix_33 : decode cX11_fix 33 = .ok (.ireturn, 1) := dk_get kX11_fix_ok 18 rfl
theorem dX11_fix_34 : decode cX11_fix 34 = .ok (.aload_n 0, 1) := dk_get kX11_fix_ok 19 rfl
theorem dX11_fix_35 : decode cX11_fix 35 = .ok (.getfield 39, 3) := dk_get kX11_fix_ok 20 rfl
theorem dX11_fix_38 : decode cX11_fix 38 = .ok (.iload_n 1, 1) := dk_get kX11_fix_ok 21 rfl
theorem dX11_fix_39 : decode cX11_fix 39 = .ok (.iload_n 2, 1) := dk_get kX11_fix_ok 22 rfl
theorem dX11_fix_40 : decode cX11_fix 40 = .ok (.iload_n 3, 1) := dk_get kX11_fix_ok 23 rfl
theorem dX11_fix_41 : decode cX11_fix 41 = .ok (.invokevirtual 215, 3) := dk_get kX11_fix_ok 24 rfl
theorem dX11_fix_44 : decode cX11_fix 44 = .ok (.aload_n 0, 1) := dk_get kX11_fix_ok 25 rfl
theorem dX11_fix_45 : decode cX11_fix 45 = .ok (.getfield 39, 3) := dk_get kX11_fix_ok 26 rfl
theorem dX11_fix_48 : decode cX11_fix 48 = .ok (.getfield 212, 3) := dk_get kX11_fix_ok 27 rfl
theorem dX11_fix_51 : decode cX11_fix 51 = .ok (.ireturn, 1) := dk_get kX11_fix_ok 28 rfl
def kX11_loose : List (Nat × Instr × Nat) := [(0, .aload_n 0, 1), (1, .iload_n 1, 1), (2, .iload_n 2, 1), (3, .invokevirtual 178, 3), (6, .aload_n 0, 1), (7, .getfield 39, 3), (10, .iload_n 1, 1), (11, .iload_n 2, 1), (12, .invokevirtual 209, 3), (15, .ifCond .ne 5, 3), (18, .iconst 0, 1), (19, .ireturn, 1), (20, .aload_n 0, 1), (21, .getfield 39, 3), (24, .iload_n 1, 1), (25, .iload_n 2, 1), (26, .invokevirtual 219, 3), (29, .iconst 1, 1), (30, .ireturn, 1)]
set_option maxRecDepth 100000 in
theorem kX11_loose_ok : kX11_loose.all (fun q => decide (decode cX11_loose q.1 = .ok q.2)) = true := by decide +kernel
theorem dX11_loose_0 : decode cX11_loose 0 = .ok (.aload_n 0, 1) := dk_get kX11_loose_ok 0 rfl
theorem dX11_loose_1 : decode cX11_loose 1 = .ok (.iload_n 1, 1) := dk_get kX11_loose_ok 1 rfl
theorem dX11_loose_2 : decode cX11_loose 2 = .ok (.iload_n 2, 1) := dk_get kX11_loose_ok 2 rfl
theorem dX11_loose_3 : decode cX11_loose 3 = .ok (.invokevirtual 178, 3) := dk_get kX11_loose_ok 3 rfl
theorem dX11_loose_6 : decode cX11_loose 6 = .ok (.aload_n 0, 1) := dk_get kX11_loose_ok 4 rfl
theorem dX11_loose_7 : decode cX11_loose 7 = .ok (.getfield 39, 3) := dk_get kX11_loose_ok 5 rfl
theorem dX11_loose_10 : decode cX11_loose 10 = .ok (.iload_n 1, 1) := dk_get kX11_loose_ok 6 rfl
theorem dX11_loose_11 : decode cX11_loose 11 = .ok (.iload_n 2, 1) := dk_get kX11_loose_ok 7 rfl
theorem dX11_loose_12 : decode cX11_loose 12 = .ok (.invokevirtual 209, 3) := dk_get kX11_loose_ok 8 rfl
theorem dX11_loose_15 : decode cX11_loose 15 = .ok (.ifCond .ne 5, 3) := dk_get kX11_loose_ok 9 rfl
theorem dX11_loose_18 : decode cX11_loose 18 = .ok (.iconst 0, 1) := dk_get kX11_loose_ok 10 rfl
theorem dX11_loose_19 : decode cX11_loose 19 = .ok (.ireturn, 1) := dk_get kX11_loose_ok 11 rfl
theorem dX11_loose_20 : decode cX11_loose 20 = .ok (.aload_n 0, 1) := dk_get kX11_loose_ok 12 rfl
theorem dX11_loose_21 : decode cX11_loose 21 = .ok (.getfield 39, 3) := dk_get kX11_loose_ok 13 rfl
theorem dX11_loose_24 : decode cX11_loose 24 = .ok (.iload_n 1, 1) := dk_get kX11_loose_ok 14 rfl
theorem dX11_loose_25 : decode cX11_loose 25 = .ok (.iload_n 2, 1) := dk_get kX11_loose_ok 15 rfl
theorem dX11_loose_26 : decode cX11_loose 26 = .ok (.invokevirtual 219, 3) := dk_get kX11_loose_ok 16 rfl
theorem dX11_loose_29 : decode cX11_loose 29 = .ok (.iconst 1, 1) := dk_get kX11_loose_ok 17 rfl
theorem dX11_loose_30 : decode cX11_loose 30 = .ok (.ireturn, 1) := dk_get kX11_loose_ok 18 rfl
def kX11_put : List (Nat × Instr × Nat) := [(0, .aload_n 0, 1), (1, .iload_n 1, 1), (2, .iload_n 2, 1), (3, .invokevirtual 178, 3), (6, .aload_n 0, 1), (7, .getfield 48, 3), (10, .iload_n 1, 1), (11, .aload_n 0, 1), (12, .getfield 48, 3), (15, .getfield 133, 3), (18, .iload_n 2, 1), (19, .iaload, 1), (20, .invokevirtual 222, 3), (23, .aload_n 0, 1), (24, .getfield 48, 3), (27, .getfield 133, 3), (30, .iload_n 1, 1), (31, .iaload, 1), (32, .ireturn, 1)]
set_option maxRecDepth 100000 in
theorem kX11_put_ok : kX11_put.all (fun q => decide (decode cX11_put q.1 = .ok q.2)) = true := by decide +kernel
theorem dX11_put_0 : decode cX11_put 0 = .ok (.aload_n 0, 1) := dk_get kX11_put_ok 0 rfl
theorem dX11_put_1 : decode cX11_put 1 = .ok (.iload_n 1, 1) := dk_get kX11_put_ok 1 rfl
theorem dX11_put_2 : decode cX11_put 2 = .ok (.iload_n 2, 1) := dk_get kX11_put_ok 2 rfl
theorem dX11_put_3 : decode cX11_put 3 = .ok (.invokevirtual 178, 3) := dk_get kX11_put_ok 3 rfl
theorem dX11_put_6 : decode cX11_put 6 = .ok (.aload_n 0, 1) := dk_get kX11_put_ok 4 rfl
theorem dX11_put_7 : decode cX11_put 7 = .ok (.getfield 48, 3) := dk_get kX11_put_ok 5 rfl
theorem dX11_put_10 : decode cX11_put 10 = .ok (.iload_n 1, 1) := dk_get kX11_put_ok 6 rfl
theorem dX11_put_11 : decode cX11_put 11 = .ok (.aload_n 0, 1) := dk_get kX11_put_ok 7 rfl
theorem dX11_put_12 : decode cX11_put 12 = .ok (.getfield 48, 3) := dk_get kX11_put_ok 8 rfl
theorem dX11_put_15 : decode cX11_put 15 = .ok (.getfield 133, 3) := dk_get kX11_put_ok 9 rfl
theorem dX11_put_18 : decode cX11_put 18 = .ok (.iload_n 2, 1) := dk_get kX11_put_ok 10 rfl
theorem dX11_put_19 : decode cX11_put 19 = .ok (.iaload, 1) := dk_get kX11_put_ok 11 rfl
theorem dX11_put_20 : decode cX11_put 20 = .ok (.invokevirtual 222, 3) := dk_get kX11_put_ok 12 rfl
theorem dX11_put_23 : decode cX11_put 23 = .ok (.aload_n 0, 1) := dk_get kX11_put_ok 13 rfl
theorem dX11_put_24 : decode cX11_put 24 = .ok (.getfield 48, 3) := dk_get kX11_put_ok 14 rfl
theorem dX11_put_27 : decode cX11_put 27 = .ok (.getfield 133, 3) := dk_get kX11_put_ok 15 rfl
theorem dX11_put_30 : decode cX11_put 30 = .ok (.iload_n 1, 1) := dk_get kX11_put_ok 16 rfl
theorem dX11_put_31 : decode cX11_put 31 = .ok (.iaload, 1) := dk_get kX11_put_ok 17 rfl
theorem dX11_put_32 : decode cX11_put 32 = .ok (.ireturn, 1) := dk_get kX11_put_ok 18 rfl
def kX11_alone : List (Nat × Instr × Nat) := [(0, .aload_n 0, 1), (1, .iload_n 1, 1), (2, .invokevirtual 126, 3), (5, .aload_n 0, 1), (6, .getfield 48, 3), (9, .iload_n 1, 1), (10, .invokevirtual 225, 3), (13, .ifCond .eq 5, 3), (16, .iconst 0, 1), (17, .ireturn, 1), (18, .aload_n 0, 1), (19, .getfield 48, 3), (22, .iload_n 1, 1), (23, .invokevirtual 228, 3), (26, .iconst 1, 1), (27, .ireturn, 1)]
set_option maxRecDepth 100000 in
theorem kX11_alone_ok : kX11_alone.all (fun q => decide (decode cX11_alone q.1 = .ok q.2)) = true := by decide +kernel
theorem dX11_alone_0 : decode cX11_alone 0 = .ok (.aload_n 0, 1) := dk_get kX11_alone_ok 0 rfl
theorem dX11_alone_1 : decode cX11_alone 1 = .ok (.iload_n 1, 1) := dk_get kX11_alone_ok 1 rfl
theorem dX11_alone_2 : decode cX11_alone 2 = .ok (.invokevirtual 126, 3) := dk_get kX11_alone_ok 2 rfl
theorem dX11_alone_5 : decode cX11_alone 5 = .ok (.aload_n 0, 1) := dk_get kX11_alone_ok 3 rfl
theorem dX11_alone_6 : decode cX11_alone 6 = .ok (.getfield 48, 3) := dk_get kX11_alone_ok 4 rfl
theorem dX11_alone_9 : decode cX11_alone 9 = .ok (.iload_n 1, 1) := dk_get kX11_alone_ok 5 rfl
theorem dX11_alone_10 : decode cX11_alone 10 = .ok (.invokevirtual 225, 3) := dk_get kX11_alone_ok 6 rfl
theorem dX11_alone_13 : decode cX11_alone 13 = .ok (.ifCond .eq 5, 3) := dk_get kX11_alone_ok 7 rfl
theorem dX11_alone_16 : decode cX11_alone 16 = .ok (.iconst 0, 1) := dk_get kX11_alone_ok 8 rfl
theorem dX11_alone_17 : decode cX11_alone 17 = .ok (.ireturn, 1) := dk_get kX11_alone_ok 9 rfl
theorem dX11_alone_18 : decode cX11_alone 18 = .ok (.aload_n 0, 1) := dk_get kX11_alone_ok 10 rfl
theorem dX11_alone_19 : decode cX11_alone 19 = .ok (.getfield 48, 3) := dk_get kX11_alone_ok 11 rfl
theorem dX11_alone_22 : decode cX11_alone 22 = .ok (.iload_n 1, 1) := dk_get kX11_alone_ok 12 rfl
theorem dX11_alone_23 : decode cX11_alone 23 = .ok (.invokevirtual 228, 3) := dk_get kX11_alone_ok 13 rfl
theorem dX11_alone_26 : decode cX11_alone 26 = .ok (.iconst 1, 1) := dk_get kX11_alone_ok 14 rfl
theorem dX11_alone_27 : decode cX11_alone 27 = .ok (.ireturn, 1) := dk_get kX11_alone_ok 15 rfl
def kX11_join : List (Nat × Instr × Nat) := [(0, .aload_n 0, 1), (1, .iload_n 1, 1), (2, .invokevirtual 126, 3), (5, .aload_n 0, 1), (6, .iload_n 2, 1), (7, .invokevirtual 126, 3), (10, .aload_n 0, 1), (11, .getfield 48, 3), (14, .getfield 133, 3), (17, .iload_n 1, 1), (18, .iaload, 1), (19, .aload_n 0, 1), (20, .getfield 48, 3), (23, .getfield 133, 3), (26, .iload_n 2, 1), (27, .iaload, 1), (28, .if_icmp .ne 5, 3), (31, .iconst (-1), 1), (32, .ireturn, 1), (33, .aload_n 0, 1), (34, .getfield 48, 3), (37, .aload_n 0, 1), (38, .getfield 48, 3), (41, .getfield 133, 3), (44, .iload_n 1, 1), (45, .iaload, 1), (46, .aload_n 0, 1), (47, .getfield 48, 3), (50, .getfield 133, 3), (53, .iload_n 2, 1), (54, .iaload, 1), (55, .invokevirtual 231, 3), (58, .aload_n 0, 1), (59, .getfield 48, 3), (62, .getfield 133, 3), (65, .iload_n 1, 1), (66, .iaload, 1), (67, .ireturn, 1)]
set_option maxRecDepth 100000 in
theorem kX11_join_ok : kX11_join.all (fun q => decide (decode cX11_join q.1 = .ok q.2)) = true := by decide +kernel
theorem dX11_join_0 : decode cX11_join 0 = .ok (.aload_n 0, 1) := dk_get kX11_join_ok 0 rfl
theorem dX11_join_1 : decode cX11_join 1 = .ok (.iload_n 1, 1) := dk_get kX11_join_ok 1 rfl
theorem dX11_join_2 : decode cX11_join 2 = .ok (.invokevirtual 126, 3) := dk_get kX11_join_ok 2 rfl
theorem dX11_join_5 : decode cX11_join 5 = .ok (.aload_n 0, 1) := dk_get kX11_join_ok 3 rfl
theorem dX11_join_6 : decode cX11_join 6 = .ok (.iload_n 2, 1) := dk_get kX11_join_ok 4 rfl
theorem dX11_join_7 : decode cX11_join 7 = .ok (.invokevirtual 126, 3) := dk_get kX11_join_ok 5 rfl
theorem dX11_join_10 : decode cX11_join 10 = .ok (.aload_n 0, 1) := dk_get kX11_join_ok 6 rfl
theorem dX11_join_11 : decode cX11_join 11 = .ok (.getfield 48, 3) := dk_get kX11_join_ok 7 rfl
theorem dX11_join_14 : decode cX11_join 14 = .ok (.getfield 133, 3) := dk_get kX11_join_ok 8 rfl
theorem dX11_join_17 : decode cX11_join 17 = .ok (.iload_n 1, 1) := dk_get kX11_join_ok 9 rfl
theorem dX11_join_18 : decode cX11_join 18 = .ok (.iaload, 1) := dk_get kX11_join_ok 10 rfl
theorem dX11_join_19 : decode cX11_join 19 = .ok (.aload_n 0, 1) := dk_get kX11_join_ok 11 rfl
theorem dX11_join_20 : decode cX11_join 20 = .ok (.getfield 48, 3) := dk_get kX11_join_ok 12 rfl
theorem dX11_join_23 : decode cX11_join 23 = .ok (.getfield 133, 3) := dk_get kX11_join_ok 13 rfl
theorem dX11_join_26 : decode cX11_join 26 = .ok (.iload_n 2, 1) := dk_get kX11_join_ok 14 rfl
theorem dX11_join_27 : decode cX11_join 27 = .ok (.iaload, 1) := dk_get kX11_join_ok 15 rfl
theorem dX11_join_28 : decode cX11_join 28 = .ok (.if_icmp .ne 5, 3) := dk_get kX11_join_ok 16 rfl
theorem dX11_join_31 : decode cX11_join 31 = .ok (.iconst (-1), 1) := dk_get kX11_join_ok 17 rfl
theorem dX11_join_32 : decode cX11_join 32 = .ok (.ireturn, 1) := dk_get kX11_join_ok 18 rfl
theorem dX11_join_33 : decode cX11_join 33 = .ok (.aload_n 0, 1) := dk_get kX11_join_ok 19 rfl
theorem dX11_join_34 : decode cX11_join 34 = .ok (.getfield 48, 3) := dk_get kX11_join_ok 20 rfl
theorem dX11_join_37 : decode cX11_join 37 = .ok (.aload_n 0, 1) := dk_get kX11_join_ok 21 rfl
theorem dX11_join_38 : decode cX11_join 38 = .ok (.getfield 48, 3) := dk_get kX11_join_ok 22 rfl
theorem dX11_join_41 : decode cX11_join 41 = .ok (.getfield 133, 3) := dk_get kX11_join_ok 23 rfl
theorem dX11_join_44 : decode cX11_join 44 = .ok (.iload_n 1, 1) := dk_get kX11_join_ok 24 rfl
theorem dX11_join_45 : decode cX11_join 45 = .ok (.iaload, 1) := dk_get kX11_join_ok 25 rfl
theorem dX11_join_46 : decode cX11_join 46 = .ok (.aload_n 0, 1) := dk_get kX11_join_ok 26 rfl
theorem dX11_join_47 : decode cX11_join 47 = .ok (.getfield 48, 3) := dk_get kX11_join_ok 27 rfl
theorem dX11_join_50 : decode cX11_join 50 = .ok (.getfield 133, 3) := dk_get kX11_join_ok 28 rfl
theorem dX11_join_53 : decode cX11_join 53 = .ok (.iload_n 2, 1) := dk_get kX11_join_ok 29 rfl
theorem dX11_join_54 : decode cX11_join 54 = .ok (.iaload, 1) := dk_get kX11_join_ok 30 rfl
theorem dX11_join_55 : decode cX11_join 55 = .ok (.invokevirtual 231, 3) := dk_get kX11_join_ok 31 rfl
theorem dX11_join_58 : decode cX11_join 58 = .ok (.aload_n 0, 1) := dk_get kX11_join_ok 32 rfl
theorem dX11_join_59 : decode cX11_join 59 = .ok (.getfield 48, 3) := dk_get kX11_join_ok 33 rfl
theorem dX11_join_62 : decode cX11_join 62 = .ok (.getfield 133, 3) := dk_get kX11_join_ok 34 rfl
theorem dX11_join_65 : decode cX11_join 65 = .ok (.iload_n 1, 1) := dk_get kX11_join_ok 35 rfl
theorem dX11_join_66 : decode cX11_join 66 = .ok (.iaload, 1) := dk_get kX11_join_ok 36 rfl
theorem dX11_join_67 : decode cX11_join 67 = .ok (.ireturn, 1) := dk_get kX11_join_ok 37 rfl
def kX11_swap : List (Nat × Instr × Nat) := [(0, .aload_n 0, 1), (1, .iload_n 1, 1), (2, .invokevirtual 126, 3), (5, .aload_n 0, 1), (6, .iload_n 2, 1), (7, .invokevirtual 126, 3), (10, .aload_n 0, 1), (11, .getfield 48, 3), (14, .getfield 133, 3), (17, .iload_n 1, 1), (18, .iaload, 1), (19, .aload_n 0, 1), (20, .getfield 48, 3), (23, .getfield 133, 3), (26, .iload_n 2, 1), (27, .iaload, 1), (28, .if_icmp .ne 5, 3), (31, .iconst (-1), 1), (32, .ireturn, 1), (33, .aload_n 0, 1), (34, .getfield 48, 3), (37, .iload_n 1, 1), (38, .iload_n 2, 1), (39, .invokevirtual 234, 3), (42, .iconst 1, 1), (43, .ireturn, 1)]
set_option maxRecDepth 100000 in
theorem kX11_swap_ok : kX11_swap.all (fun q => decide (decode cX11_swap q.1 = .ok q.2)) = true := by decide +kernel
theorem dX11_swap_0 : decode cX11_swap 0 = .ok (.aload_n 0, 1) := dk_get kX11_swap_ok 0 rfl
theorem dX11_swap_1 : decode cX11_swap 1 = .ok (.iload_n 1, 1) := dk_get kX11_swap_ok 1 rfl
theorem dX11_swap_2 : decode cX11_swap 2 = .ok (.invokevirtual 126, 3) := dk_get kX11_swap_ok 2 rfl
theorem dX11_swap_5 : decode cX11_swap 5 = .ok (.aload_n 0, 1) := dk_get kX11_swap_ok 3 rfl
theorem dX11_swap_6 : decode cX11_swap 6 = .ok (.iload_n 2, 1) := dk_get kX11_swap_ok 4 rfl
theorem dX11_swap_7 : decode cX11_swap 7 = .ok (.invokevirtual 126, 3) := dk_get kX11_swap_ok 5 rfl
theorem dX11_swap_10 : decode cX11_swap 10 = .ok (.aload_n 0, 1) := dk_get kX11_swap_ok 6 rfl
theorem dX11_swap_11 : decode cX11_swap 11 = .ok (.getfield 48, 3) := dk_get kX11_swap_ok 7 rfl
theorem dX11_swap_14 : decode cX11_swap 14 = .ok (.getfield 133, 3) := dk_get kX11_swap_ok 8 rfl
theorem dX11_swap_17 : decode cX11_swap 17 = .ok (.iload_n 1, 1) := dk_get kX11_swap_ok 9 rfl
theorem dX11_swap_18 : decode cX11_swap 18 = .ok (.iaload, 1) := dk_get kX11_swap_ok 10 rfl
theorem dX11_swap_19 : decode cX11_swap 19 = .ok (.aload_n 0, 1) := dk_get kX11_swap_ok 11 rfl
theorem dX11_swap_20 : decode cX11_swap 20 = .ok (.getfield 48, 3) := dk_get kX11_swap_ok 12 rfl
theorem dX11_swap_23 : decode cX11_swap 23 = .ok (.getfield 133, 3) := dk_get kX11_swap_ok 13 rfl
theorem dX11_swap_26 : decode cX11_swap 26 = .ok (.iload_n 2, 1) := dk_get kX11_swap_ok 14 rfl
theorem dX11_swap_27 : decode cX11_swap 27 = .ok (.iaload, 1) := dk_get kX11_swap_ok 15 rfl
theorem dX11_swap_28 : decode cX11_swap 28 = .ok (.if_icmp .ne 5, 3) := dk_get kX11_swap_ok 16 rfl
theorem dX11_swap_31 : decode cX11_swap 31 = .ok (.iconst (-1), 1) := dk_get kX11_swap_ok 17 rfl
theorem dX11_swap_32 : decode cX11_swap 32 = .ok (.ireturn, 1) := dk_get kX11_swap_ok 18 rfl
theorem dX11_swap_33 : decode cX11_swap 33 = .ok (.aload_n 0, 1) := dk_get kX11_swap_ok 19 rfl
theorem dX11_swap_34 : decode cX11_swap 34 = .ok (.getfield 48, 3) := dk_get kX11_swap_ok 20 rfl
theorem dX11_swap_37 : decode cX11_swap 37 = .ok (.iload_n 1, 1) := dk_get kX11_swap_ok 21 rfl
theorem dX11_swap_38 : decode cX11_swap 38 = .ok (.iload_n 2, 1) := dk_get kX11_swap_ok 22 rfl
theorem dX11_swap_39 : decode cX11_swap 39 = .ok (.invokevirtual 234, 3) := dk_get kX11_swap_ok 23 rfl
theorem dX11_swap_42 : decode cX11_swap 42 = .ok (.iconst 1, 1) := dk_get kX11_swap_ok 24 rfl
theorem dX11_swap_43 : decode cX11_swap 43 = .ok (.ireturn, 1) := dk_get kX11_swap_ok 25 rfl
def kX11_cost : List (Nat × Instr × Nat) := [(0, .aload_n 0, 1), (1, .getfield 48, 3), (4, .invokevirtual 237, 3), (7, .lreturn, 1)]
set_option maxRecDepth 100000 in
theorem kX11_cost_ok : kX11_cost.all (fun q => decide (decode cX11_cost q.1 = .ok q.2)) = true := by decide +kernel
theorem dX11_cost_0 : decode cX11_cost 0 = .ok (.aload_n 0, 1) := dk_get kX11_cost_ok 0 rfl
theorem dX11_cost_1 : decode cX11_cost 1 = .ok (.getfield 48, 3) := dk_get kX11_cost_ok 1 rfl
theorem dX11_cost_4 : decode cX11_cost 4 = .ok (.invokevirtual 237, 3) := dk_get kX11_cost_ok 2 rfl
theorem dX11_cost_7 : decode cX11_cost 7 = .ok (.lreturn, 1) := dk_get kX11_cost_ok 3 rfl
def kX11_barred : List (Nat × Instr × Nat) := [(0, .aload_n 0, 1), (1, .getfield 48, 3), (4, .invokevirtual 241, 3), (7, .ireturn, 1)]
set_option maxRecDepth 100000 in
theorem kX11_barred_ok : kX11_barred.all (fun q => decide (decode cX11_barred q.1 = .ok q.2)) = true := by decide +kernel
theorem dX11_barred_0 : decode cX11_barred 0 = .ok (.aload_n 0, 1) := dk_get kX11_barred_ok 0 rfl
theorem dX11_barred_1 : decode cX11_barred 1 = .ok (.getfield 48, 3) := dk_get kX11_barred_ok 1 rfl
theorem dX11_barred_4 : decode cX11_barred 4 = .ok (.invokevirtual 241, 3) := dk_get kX11_barred_ok 2 rfl
theorem dX11_barred_7 : decode cX11_barred 7 = .ok (.ireturn, 1) := dk_get kX11_barred_ok 3 rfl
def kX11_better : List (Nat × Instr × Nat) := [(0, .iload_n 1, 1), (1, .iconst 0, 1), (2, .iconst 3, 1), (3, .invokestatic 100, 3), (6, .invokestatic 104, 3), (9, .aload_n 0, 1), (10, .getfield 48, 3), (13, .invokevirtual 241, 3), (16, .iconst (-1), 1), (17, .if_icmp .eq 7, 3), (20, .ldc2_w 245, 3), (23, .lreturn, 1), (24, .aload_n 0, 1), (25, .getfield 57, 3), (28, .invokevirtual 247, 3), (31, .aload_n 0, 1), (32, .getfield 57, 3), (35, .invokevirtual 250, 3), (38, .aload_n 0, 1), (39, .getfield 57, 3), (42, .getfield 253, 3), (45, .iconst (-1), 1), (46, .if_icmp .ne 7, 3), (49, .ldc2_w 245, 3), (52, .lreturn, 1), (53, .iload_n 1, 1), (54, .ifCond .ne 11, 3), (57, .aload_n 0, 1), (58, .getfield 57, 3), (61, .getfield 256, 3), (64, .lreturn, 1), (65, .iload_n 1, 1), (66, .iconst 1, 1), (67, .if_icmp .ne 14, 3), (70, .aload_n 0, 1), (71, .getfield 57, 3), (74, .getfield 253, 3), (77, .i2l, 1), (78, .goto 27, 3), (81, .iload_n 1, 1), (82, .iconst 2, 1), (83, .if_icmp .ne 14, 3), (86, .aload_n 0, 1), (87, .getfield 57, 3), (90, .getfield 260, 3), (93, .i2l, 1), (94, .goto 11, 3), (97, .aload_n 0, 1), (98, .getfield 57, 3), (101, .getfield 263, 3), (104, .i2l, 1), (105, .lreturn, 1)]
set_option maxRecDepth 100000 in
theorem kX11_better_ok : kX11_better.all (fun q => decide (decode cX11_better q.1 = .ok q.2)) = true := by decide +kernel
theorem dX11_better_0 : decode cX11_better 0 = .ok (.iload_n 1, 1) := dk_get kX11_better_ok 0 rfl
theorem dX11_better_1 : decode cX11_better 1 = .ok (.iconst 0, 1) := dk_get kX11_better_ok 1 rfl
theorem dX11_better_2 : decode cX11_better 2 = .ok (.iconst 3, 1) := dk_get kX11_better_ok 2 rfl
theorem dX11_better_3 : decode cX11_better 3 = .ok (.invokestatic 100, 3) := dk_get kX11_better_ok 3 rfl
theorem dX11_better_6 : decode cX11_better 6 = .ok (.invokestatic 104, 3) := dk_get kX11_better_ok 4 rfl
theorem dX11_better_9 : decode cX11_better 9 = .ok (.aload_n 0, 1) := dk_get kX11_better_ok 5 rfl
theorem dX11_better_10 : decode cX11_better 10 = .ok (.getfield 48, 3) := dk_get kX11_better_ok 6 rfl
theorem dX11_better_13 : decode cX11_better 13 = .ok (.invokevirtual 241, 3) := dk_get kX11_better_ok 7 rfl
theorem dX11_better_16 : decode cX11_better 16 = .ok (.iconst (-1), 1) := dk_get kX11_better_ok 8 rfl
theorem dX11_better_17 : decode cX11_better 17 = .ok (.if_icmp .eq 7, 3) := dk_get kX11_better_ok 9 rfl
theorem dX11_better_20 : decode cX11_better 20 = .ok (.ldc2_w 245, 3) := dk_get kX11_better_ok 10 rfl
theorem dX11_better_23 : decode cX11_better 23 = .ok (.lreturn, 1) := dk_get kX11_better_ok 11 rfl
theorem dX11_better_24 : decode cX11_better 24 = .ok (.aload_n 0, 1) := dk_get kX11_better_ok 12 rfl
theorem dX11_better_25 : decode cX11_better 25 = .ok (.getfield 57, 3) := dk_get kX11_better_ok 13 rfl
theorem dX11_better_28 : decode cX11_better 28 = .ok (.invokevirtual 247, 3) := dk_get kX11_better_ok 14 rfl
theorem dX11_better_31 : decode cX11_better 31 = .ok (.aload_n 0, 1) := dk_get kX11_better_ok 15 rfl
theorem dX11_better_32 : decode cX11_better 32 = .ok (.getfield 57, 3) := dk_get kX11_better_ok 16 rfl
theorem dX11_better_35 : decode cX11_better 35 = .ok (.invokevirtual 250, 3) := dk_get kX11_better_ok 17 rfl
theorem dX11_better_38 : decode cX11_better 38 = .ok (.aload_n 0, 1) := dk_get kX11_better_ok 18 rfl
theorem dX11_better_39 : decode cX11_better 39 = .ok (.getfield 57, 3) := dk_get kX11_better_ok 19 rfl
theorem dX11_better_42 : decode cX11_better 42 = .ok (.getfield 253, 3) := dk_get kX11_better_ok 20 rfl
theorem dX11_better_45 : decode cX11_better 45 = .ok (.iconst (-1), 1) := dk_get kX11_better_ok 21 rfl
theorem dX11_better_46 : decode cX11_better 46 = .ok (.if_icmp .ne 7, 3) := dk_get kX11_better_ok 22 rfl
theorem dX11_better_49 : decode cX11_better 49 = .ok (.ldc2_w 245, 3) := dk_get kX11_better_ok 23 rfl
theorem dX11_better_52 : decode cX11_better 52 = .ok (.lreturn, 1) := dk_get kX11_better_ok 24 rfl
theorem dX11_better_53 : decode cX11_better 53 = .ok (.iload_n 1, 1) := dk_get kX11_better_ok 25 rfl
theorem dX11_better_54 : decode cX11_better 54 = .ok (.ifCond .ne 11, 3) := dk_get kX11_better_ok 26 rfl
theorem dX11_better_57 : decode cX11_better 57 = .ok (.aload_n 0, 1) := dk_get kX11_better_ok 27 rfl
theorem dX11_better_58 : decode cX11_better 58 = .ok (.getfield 57, 3) := dk_get kX11_better_ok 28 rfl
theorem dX11_better_61 : decode cX11_better 61 = .ok (.getfield 256, 3) := dk_get kX11_better_ok 29 rfl
theorem dX11_better_64 : decode cX11_better 64 = .ok (.lreturn, 1) := dk_get kX11_better_ok 30 rfl
theorem dX11_better_65 : decode cX11_better 65 = .ok (.iload_n 1, 1) := dk_get kX11_better_ok 31 rfl
theorem dX11_better_66 : decode cX11_better 66 = .ok (.iconst 1, 1) := dk_get kX11_better_ok 32 rfl
theorem dX11_better_67 : decode cX11_better 67 = .ok (.if_icmp .ne 14, 3) := dk_get kX11_better_ok 33 rfl
theorem dX11_better_70 : decode cX11_better 70 = .ok (.aload_n 0, 1) := dk_get kX11_better_ok 34 rfl
theorem dX11_better_71 : decode cX11_better 71 = .ok (.getfield 57, 3) := dk_get kX11_better_ok 35 rfl
theorem dX11_better_74 : decode cX11_better 74 = .ok (.getfield 253, 3) := dk_get kX11_better_ok 36 rfl
theorem dX11_better_77 : decode cX11_better 77 = .ok (.i2l, 1) := dk_get kX11_better_ok 37 rfl
theorem dX11_better_78 : decode cX11_better 78 = .ok (.goto 27, 3) := dk_get kX11_better_ok 38 rfl
theorem dX11_better_81 : decode cX11_better 81 = .ok (.iload_n 1, 1) := dk_get kX11_better_ok 39 rfl
theorem dX11_better_82 : decode cX11_better 82 = .ok (.iconst 2, 1) := dk_get kX11_better_ok 40 rfl
theorem dX11_better_83 : decode cX11_better 83 = .ok (.if_icmp .ne 14, 3) := dk_get kX11_better_ok 41 rfl
theorem dX11_better_86 : decode cX11_better 86 = .ok (.aload_n 0, 1) := dk_get kX11_better_ok 42 rfl
theorem dX11_better_87 : decode cX11_better 87 = .ok (.getfield 57, 3) := dk_get kX11_better_ok 43 rfl
theorem dX11_better_90 : decode cX11_better 90 = .ok (.getfield 260, 3) := dk_get kX11_better_ok 44 rfl
theorem dX11_better_93 : decode cX11_better 93 = .ok (.i2l, 1) := dk_get kX11_better_ok 45 rfl
theorem dX11_better_94 : decode cX11_better 94 = .ok (.goto 11, 3) := dk_get kX11_better_ok 46 rfl
theorem dX11_better_97 : decode cX11_better 97 = .ok (.aload_n 0, 1) := dk_get kX11_better_ok 47 rfl
theorem dX11_better_98 : decode cX11_better 98 = .ok (.getfield 57, 3) := dk_get kX11_better_ok 48 rfl
theorem dX11_better_101 : decode cX11_better 101 = .ok (.getfield 263, 3) := dk_get kX11_better_ok 49 rfl
theorem dX11_better_104 : decode cX11_better 104 = .ok (.i2l, 1) := dk_get kX11_better_ok 50 rfl
theorem dX11_better_105 : decode cX11_better 105 = .ok (.lreturn, 1) := dk_get kX11_better_ok 51 rfl
def kX11_grow : List (Nat × Instr × Nat) := [(0, .iload_n 1, 1), (1, .iconst 0, 1), (2, .bipush 100, 2), (4, .invokestatic 100, 3), (7, .invokestatic 104, 3), (10, .aload_n 0, 1), (11, .getfield 48, 3), (14, .invokevirtual 241, 3), (17, .iconst (-1), 1), (18, .if_icmp .eq 5, 3), (21, .iconst (-1), 1), (22, .ireturn, 1), (23, .aload_n 0, 1), (24, .getfield 57, 3), (27, .invokevirtual 247, 3), (30, .iconst 0, 1), (31, .istore_n 2, 1), (32, .iconst 0, 1), (33, .istore_n 3, 1), (34, .iload_n 3, 1), (35, .iload_n 1, 1), (36, .if_icmp .ge 40, 3), (39, .aload_n 0, 1), (40, .getfield 57, 3), (43, .invokevirtual 250, 3), (46, .aload_n 0, 1), (47, .getfield 57, 3), (50, .getfield 253, 3), (53, .iconst (-1), 1), (54, .if_icmp .ne 6, 3), (57, .goto 19, 3), (60, .aload_n 0, 1), (61, .getfield 57, 3), (64, .invokevirtual 266, 3), (67, .iinc 2 1, 3), (70, .iinc 3 1, 3), (73, .goto (-39), 3), (76, .iload_n 2, 1), (77, .ireturn, 1)]
set_option maxRecDepth 100000 in
theorem kX11_grow_ok : kX11_grow.all (fun q => decide (decode cX11_grow q.1 = .ok q.2)) = true := by decide +kernel
theorem dX11_grow_0 : decode cX11_grow 0 = .ok (.iload_n 1, 1) := dk_get kX11_grow_ok 0 rfl
theorem dX11_grow_1 : decode cX11_grow 1 = .ok (.iconst 0, 1) := dk_get kX11_grow_ok 1 rfl
theorem dX11_grow_2 : decode cX11_grow 2 = .ok (.bipush 100, 2) := dk_get kX11_grow_ok 2 rfl
theorem dX11_grow_4 : decode cX11_grow 4 = .ok (.invokestatic 100, 3) := dk_get kX11_grow_ok 3 rfl
theorem dX11_grow_7 : decode cX11_grow 7 = .ok (.invokestatic 104, 3) := dk_get kX11_grow_ok 4 rfl
theorem dX11_grow_10 : decode cX11_grow 10 = .ok (.aload_n 0, 1) := dk_get kX11_grow_ok 5 rfl
theorem dX11_grow_11 : decode cX11_grow 11 = .ok (.getfield 48, 3) := dk_get kX11_grow_ok 6 rfl
theorem dX11_grow_14 : decode cX11_grow 14 = .ok (.invokevirtual 241, 3) := dk_get kX11_grow_ok 7 rfl
theorem dX11_grow_17 : decode cX11_grow 17 = .ok (.iconst (-1), 1) := dk_get kX11_grow_ok 8 rfl
theorem dX11_grow_18 : decode cX11_grow 18 = .ok (.if_icmp .eq 5, 3) := dk_get kX11_grow_ok 9 rfl
theorem dX11_grow_21 : decode cX11_grow 21 = .ok (.iconst (-1), 1) := dk_get kX11_grow_ok 10 rfl
theorem dX11_grow_22 : decode cX11_grow 22 = .ok (.ireturn, 1) := dk_get kX11_grow_ok 11 rfl
theorem dX11_grow_23 : decode cX11_grow 23 = .ok (.aload_n 0, 1) := dk_get kX11_grow_ok 12 rfl
theorem dX11_grow_24 : decode cX11_grow 24 = .ok (.getfield 57, 3) := dk_get kX11_grow_ok 13 rfl
theorem dX11_grow_27 : decode cX11_grow 27 = .ok (.invokevirtual 247, 3) := dk_get kX11_grow_ok 14 rfl
theorem dX11_grow_30 : decode cX11_grow 30 = .ok (.iconst 0, 1) := dk_get kX11_grow_ok 15 rfl
theorem dX11_grow_31 : decode cX11_grow 31 = .ok (.istore_n 2, 1) := dk_get kX11_grow_ok 16 rfl
theorem dX11_grow_32 : decode cX11_grow 32 = .ok (.iconst 0, 1) := dk_get kX11_grow_ok 17 rfl
theorem dX11_grow_33 : decode cX11_grow 33 = .ok (.istore_n 3, 1) := dk_get kX11_grow_ok 18 rfl
theorem dX11_grow_34 : decode cX11_grow 34 = .ok (.iload_n 3, 1) := dk_get kX11_grow_ok 19 rfl
theorem dX11_grow_35 : decode cX11_grow 35 = .ok (.iload_n 1, 1) := dk_get kX11_grow_ok 20 rfl
theorem dX11_grow_36 : decode cX11_grow 36 = .ok (.if_icmp .ge 40, 3) := dk_get kX11_grow_ok 21 rfl
theorem dX11_grow_39 : decode cX11_grow 39 = .ok (.aload_n 0, 1) := dk_get kX11_grow_ok 22 rfl
theorem dX11_grow_40 : decode cX11_grow 40 = .ok (.getfield 57, 3) := dk_get kX11_grow_ok 23 rfl
theorem dX11_grow_43 : decode cX11_grow 43 = .ok (.invokevirtual 250, 3) := dk_get kX11_grow_ok 24 rfl
theorem dX11_grow_46 : decode cX11_grow 46 = .ok (.aload_n 0, 1) := dk_get kX11_grow_ok 25 rfl
theorem dX11_grow_47 : decode cX11_grow 47 = .ok (.getfield 57, 3) := dk_get kX11_grow_ok 26 rfl
theorem dX11_grow_50 : decode cX11_grow 50 = .ok (.getfield 253, 3) := dk_get kX11_grow_ok 27 rfl
theorem dX11_grow_53 : decode cX11_grow 53 = .ok (.iconst (-1), 1) := dk_get kX11_grow_ok 28 rfl
theorem dX11_grow_54 : decode cX11_grow 54 = .ok (.if_icmp .ne 6, 3) := dk_get kX11_grow_ok 29 rfl
theorem dX11_grow_57 : decode cX11_grow 57 = .ok (.goto 19, 3) := dk_get kX11_grow_ok 30 rfl
theorem dX11_grow_60 : decode cX11_grow 60 = .ok (.aload_n 0, 1) := dk_get kX11_grow_ok 31 rfl
theorem dX11_grow_61 : decode cX11_grow 61 = .ok (.getfield 57, 3) := dk_get kX11_grow_ok 32 rfl
theorem dX11_grow_64 : decode cX11_grow 64 = .ok (.invokevirtual 266, 3) := dk_get kX11_grow_ok 33 rfl
theorem dX11_grow_67 : decode cX11_grow 67 = .ok (.iinc 2 1, 3) := dk_get kX11_grow_ok 34 rfl
theorem dX11_grow_70 : decode cX11_grow 70 = .ok (.iinc 3 1, 3) := dk_get kX11_grow_ok 35 rfl
theorem dX11_grow_73 : decode cX11_grow 73 = .ok (.goto (-39), 3) := dk_get kX11_grow_ok 36 rfl
theorem dX11_grow_76 : decode cX11_grow 76 = .ok (.iload_n 2, 1) := dk_get kX11_grow_ok 37 rfl
theorem dX11_grow_77 : decode cX11_grow 77 = .ok (.ireturn, 1) := dk_get kX11_grow_ok 38 rfl
def kX11_bound : List (Nat × Instr × Nat) := [(0, .aload_n 0, 1), (1, .getfield 66, 3), (4, .iconst (-1), 1), (5, .invokevirtual 269, 3), (8, .aload_n 0, 1), (9, .getfield 66, 3), (12, .getfield 272, 3), (15, .lreturn, 1)]
set_option maxRecDepth 100000 in
theorem kX11_bound_ok : kX11_bound.all (fun q => decide (decode cX11_bound q.1 = .ok q.2)) = true := by decide +kernel
theorem dX11_bound_0 : decode cX11_bound 0 = .ok (.aload_n 0, 1) := dk_get kX11_bound_ok 0 rfl
theorem dX11_bound_1 : decode cX11_bound 1 = .ok (.getfield 66, 3) := dk_get kX11_bound_ok 1 rfl
theorem dX11_bound_4 : decode cX11_bound 4 = .ok (.iconst (-1), 1) := dk_get kX11_bound_ok 2 rfl
theorem dX11_bound_5 : decode cX11_bound 5 = .ok (.invokevirtual 269, 3) := dk_get kX11_bound_ok 3 rfl
theorem dX11_bound_8 : decode cX11_bound 8 = .ok (.aload_n 0, 1) := dk_get kX11_bound_ok 4 rfl
theorem dX11_bound_9 : decode cX11_bound 9 = .ok (.getfield 66, 3) := dk_get kX11_bound_ok 5 rfl
theorem dX11_bound_12 : decode cX11_bound 12 = .ok (.getfield 272, 3) := dk_get kX11_bound_ok 6 rfl
theorem dX11_bound_15 : decode cX11_bound 15 = .ok (.lreturn, 1) := dk_get kX11_bound_ok 7 rfl
def kX11_ring : List (Nat × Instr × Nat) := [(0, .iload_n 2, 1), (1, .iconst 0, 1), (2, .iconst 3, 1), (3, .invokestatic 100, 3), (6, .invokestatic 104, 3), (9, .iload_n 1, 1), (10, .ifCond .ge 5, 3), (13, .iconst (-1), 1), (14, .ireturn, 1), (15, .aload_n 0, 1), (16, .getfield 66, 3), (19, .iload_n 1, 1), (20, .invokevirtual 269, 3), (23, .aload_n 0, 1), (24, .getfield 66, 3), (27, .iload_n 2, 1), (28, .invokevirtual 275, 3), (31, .ireturn, 1)]
set_option maxRecDepth 100000 in
theorem kX11_ring_ok : kX11_ring.all (fun q => decide (decode cX11_ring q.1 = .ok q.2)) = true := by decide +kernel
theorem dX11_ring_0 : decode cX11_ring 0 = .ok (.iload_n 2, 1) := dk_get kX11_ring_ok 0 rfl
theorem dX11_ring_1 : decode cX11_ring 1 = .ok (.iconst 0, 1) := dk_get kX11_ring_ok 1 rfl
theorem dX11_ring_2 : decode cX11_ring 2 = .ok (.iconst 3, 1) := dk_get kX11_ring_ok 2 rfl
theorem dX11_ring_3 : decode cX11_ring 3 = .ok (.invokestatic 100, 3) := dk_get kX11_ring_ok 3 rfl
theorem dX11_ring_6 : decode cX11_ring 6 = .ok (.invokestatic 104, 3) := dk_get kX11_ring_ok 4 rfl
theorem dX11_ring_9 : decode cX11_ring 9 = .ok (.iload_n 1, 1) := dk_get kX11_ring_ok 5 rfl
theorem dX11_ring_10 : decode cX11_ring 10 = .ok (.ifCond .ge 5, 3) := dk_get kX11_ring_ok 6 rfl
theorem dX11_ring_13 : decode cX11_ring 13 = .ok (.iconst (-1), 1) := dk_get kX11_ring_ok 7 rfl
theorem dX11_ring_14 : decode cX11_ring 14 = .ok (.ireturn, 1) := dk_get kX11_ring_ok 8 rfl
theorem dX11_ring_15 : decode cX11_ring 15 = .ok (.aload_n 0, 1) := dk_get kX11_ring_ok 9 rfl
theorem dX11_ring_16 : decode cX11_ring 16 = .ok (.getfield 66, 3) := dk_get kX11_ring_ok 10 rfl
theorem dX11_ring_19 : decode cX11_ring 19 = .ok (.iload_n 1, 1) := dk_get kX11_ring_ok 11 rfl
theorem dX11_ring_20 : decode cX11_ring 20 = .ok (.invokevirtual 269, 3) := dk_get kX11_ring_ok 12 rfl
theorem dX11_ring_23 : decode cX11_ring 23 = .ok (.aload_n 0, 1) := dk_get kX11_ring_ok 13 rfl
theorem dX11_ring_24 : decode cX11_ring 24 = .ok (.getfield 66, 3) := dk_get kX11_ring_ok 14 rfl
theorem dX11_ring_27 : decode cX11_ring 27 = .ok (.iload_n 2, 1) := dk_get kX11_ring_ok 15 rfl
theorem dX11_ring_28 : decode cX11_ring 28 = .ok (.invokevirtual 275, 3) := dk_get kX11_ring_ok 16 rfl
theorem dX11_ring_31 : decode cX11_ring 31 = .ok (.ireturn, 1) := dk_get kX11_ring_ok 17 rfl
def kX11_rings : List (Nat × Instr × Nat) := [(0, .aload_n 0, 1), (1, .getfield 66, 3), (4, .invokevirtual 278, 3), (7, .ireturn, 1)]
set_option maxRecDepth 100000 in
theorem kX11_rings_ok : kX11_rings.all (fun q => decide (decode cX11_rings q.1 = .ok q.2)) = true := by decide +kernel
theorem dX11_rings_0 : decode cX11_rings 0 = .ok (.aload_n 0, 1) := dk_get kX11_rings_ok 0 rfl
theorem dX11_rings_1 : decode cX11_rings 1 = .ok (.getfield 66, 3) := dk_get kX11_rings_ok 1 rfl
theorem dX11_rings_4 : decode cX11_rings 4 = .ok (.invokevirtual 278, 3) := dk_get kX11_rings_ok 2 rfl
theorem dX11_rings_7 : decode cX11_rings 7 = .ok (.ireturn, 1) := dk_get kX11_rings_ok 3 rfl
def kX11_told : List (Nat × Instr × Nat) := [(0, .aload_n 0, 1), (1, .iload_n 1, 1), (2, .invokevirtual 126, 3), (5, .aload_n 0, 1), (6, .iload_n 2, 1), (7, .invokevirtual 126, 3), (10, .aload_n 0, 1), (11, .iload_n 3, 1), (12, .invokevirtual 126, 3), (15, .iload_n 1, 1), (16, .iload_n 2, 1), (17, .if_icmp .eq 17, 3), (20, .iload_n 2, 1), (21, .iload_n 3, 1), (22, .if_icmp .eq 12, 3), (25, .iload_n 1, 1), (26, .iload_n 3, 1), (27, .if_icmp .eq 7, 3), (30, .iconst 1, 1), (31, .goto 4, 3), (34, .iconst 0, 1), (35, .invokestatic 104, 3), (38, .iload 4, 2), (40, .iconst 1, 1), (41, .ldc_w 281, 3), (44, .invokestatic 100, 3), (47, .invokestatic 104, 3), (50, .aload_n 0, 1), (51, .getfield 66, 3), (54, .iload_n 1, 1), (55, .iload_n 2, 1), (56, .iload_n 3, 1), (57, .invokevirtual 282, 3), (60, .ifCond .ne 7, 3), (63, .ldc2_w 285, 3), (66, .lreturn, 1), (67, .aload_n 0, 1), (68, .getfield 66, 3), (71, .iload_n 1, 1), (72, .iload_n 2, 1), (73, .iload_n 3, 1), (74, .iload 4, 2), (76, .invokevirtual 287, 3), (79, .ifCond .ne 7, 3), (82, .ldc2_w 291, 3), (85, .lreturn, 1), (86, .aload_n 0, 1), (87, .getfield 66, 3), (90, .getfield 293, 3), (93, .bipush 40, 2), (95, .if_icmp .lt 7, 3), (98, .ldc2_w 296, 3), (101, .lreturn, 1), (102, .aload_n 0, 1), (103, .getfield 66, 3), (106, .iload_n 1, 1), (107, .iload_n 2, 1), (108, .iload_n 3, 1), (109, .iload 4, 2), (111, .invokevirtual 298, 3), (114, .aload_n 0, 1), (115, .getfield 66, 3), (118, .getfield 302, 3), (121, .lreturn, 1)]
set_option maxRecDepth 100000 in
theorem kX11_told_ok : kX11_told.all (fun q => decide (decode cX11_told q.1 = .ok q.2)) = true := by decide +kernel
theorem dX11_told_0 : decode cX11_told 0 = .ok (.aload_n 0, 1) := dk_get kX11_told_ok 0 rfl
theorem dX11_told_1 : decode cX11_told 1 = .ok (.iload_n 1, 1) := dk_get kX11_told_ok 1 rfl
theorem dX11_told_2 : decode cX11_told 2 = .ok (.invokevirtual 126, 3) := dk_get kX11_told_ok 2 rfl
theorem dX11_told_5 : decode cX11_told 5 = .ok (.aload_n 0, 1) := dk_get kX11_told_ok 3 rfl
theorem dX11_told_6 : decode cX11_told 6 = .ok (.iload_n 2, 1) := dk_get kX11_told_ok 4 rfl
theorem dX11_told_7 : decode cX11_told 7 = .ok (.invokevirtual 126, 3) := dk_get kX11_told_ok 5 rfl
theorem dX11_told_10 : decode cX11_told 10 = .ok (.aload_n 0, 1) := dk_get kX11_told_ok 6 rfl
theorem dX11_told_11 : decode cX11_told 11 = .ok (.iload_n 3, 1) := dk_get kX11_told_ok 7 rfl
theorem dX11_told_12 : decode cX11_told 12 = .ok (.invokevirtual 126, 3) := dk_get kX11_told_ok 8 rfl
theorem dX11_told_15 : decode cX11_told 15 = .ok (.iload_n 1, 1) := dk_get kX11_told_ok 9 rfl
theorem dX11_told_16 : decode cX11_told 16 = .ok (.iload_n 2, 1) := dk_get kX11_told_ok 10 rfl
theorem dX11_told_17 : decode cX11_told 17 = .ok (.if_icmp .eq 17, 3) := dk_get kX11_told_ok 11 rfl
theorem dX11_told_20 : decode cX11_told 20 = .ok (.iload_n 2, 1) := dk_get kX11_told_ok 12 rfl
theorem dX11_told_21 : decode cX11_told 21 = .ok (.iload_n 3, 1) := dk_get kX11_told_ok 13 rfl
theorem dX11_told_22 : decode cX11_told 22 = .ok (.if_icmp .eq 12, 3) := dk_get kX11_told_ok 14 rfl
theorem dX11_told_25 : decode cX11_told 25 = .ok (.iload_n 1, 1) := dk_get kX11_told_ok 15 rfl
theorem dX11_told_26 : decode cX11_told 26 = .ok (.iload_n 3, 1) := dk_get kX11_told_ok 16 rfl
theorem dX11_told_27 : decode cX11_told 27 = .ok (.if_icmp .eq 7, 3) := dk_get kX11_told_ok 17 rfl
theorem dX11_told_30 : decode cX11_told 30 = .ok (.iconst 1, 1) := dk_get kX11_told_ok 18 rfl
theorem dX11_told_31 : decode cX11_told 31 = .ok (.goto 4, 3) := dk_get kX11_told_ok 19 rfl
theorem dX11_told_34 : decode cX11_told 34 = .ok (.iconst 0, 1) := dk_get kX11_told_ok 20 rfl
theorem dX11_told_35 : decode cX11_told 35 = .ok (.invokestatic 104, 3) := dk_get kX11_told_ok 21 rfl
theorem dX11_told_38 : decode cX11_told 38 = .ok (.iload 4, 2) := dk_get kX11_told_ok 22 rfl
theorem dX11_told_40 : decode cX11_told 40 = .ok (.iconst 1, 1) := dk_get kX11_told_ok 23 rfl
theorem dX11_told_41 : decode cX11_told 41 = .ok (.ldc_w 281, 3) := dk_get kX11_told_ok 24 rfl
theorem dX11_told_44 : decode cX11_told 44 = .ok (.invokestatic 100, 3) := dk_get kX11_told_ok 25 rfl
theorem dX11_told_47 : decode cX11_told 47 = .ok (.invokestatic 104, 3) := dk_get kX11_told_ok 26 rfl
theorem dX11_told_50 : decode cX11_told 50 = .ok (.aload_n 0, 1) := dk_get kX11_told_ok 27 rfl
theorem dX11_told_51 : decode cX11_told 51 = .ok (.getfield 66, 3) := dk_get kX11_told_ok 28 rfl
theorem dX11_told_54 : decode cX11_told 54 = .ok (.iload_n 1, 1) := dk_get kX11_told_ok 29 rfl
theorem dX11_told_55 : decode cX11_told 55 = .ok (.iload_n 2, 1) := dk_get kX11_told_ok 30 rfl
theorem dX11_told_56 : decode cX11_told 56 = .ok (.iload_n 3, 1) := dk_get kX11_told_ok 31 rfl
theorem dX11_told_57 : decode cX11_told 57 = .ok (.invokevirtual 282, 3) := dk_get kX11_told_ok 32 rfl
theorem dX11_told_60 : decode cX11_told 60 = .ok (.ifCond .ne 7, 3) := dk_get kX11_told_ok 33 rfl
theorem dX11_told_63 : decode cX11_told 63 = .ok (.ldc2_w 285, 3) := dk_get kX11_told_ok 34 rfl
theorem dX11_told_66 : decode cX11_told 66 = .ok (.lreturn, 1) := dk_get kX11_told_ok 35 rfl
theorem dX11_told_67 : decode cX11_told 67 = .ok (.aload_n 0, 1) := dk_get kX11_told_ok 36 rfl
theorem dX11_told_68 : decode cX11_told 68 = .ok (.getfield 66, 3) := dk_get kX11_told_ok 37 rfl
theorem dX11_told_71 : decode cX11_told 71 = .ok (.iload_n 1, 1) := dk_get kX11_told_ok 38 rfl
theorem dX11_told_72 : decode cX11_told 72 = .ok (.iload_n 2, 1) := dk_get kX11_told_ok 39 rfl
theorem dX11_told_73 : decode cX11_told 73 = .ok (.iload_n 3, 1) := dk_get kX11_told_ok 40 rfl
theorem dX11_told_74 : decode cX11_told 74 = .ok (.iload 4, 2) := dk_get kX11_told_ok 41 rfl
theorem dX11_told_76 : decode cX11_told 76 = .ok (.invokevirtual 287, 3) := dk_get kX11_told_ok 42 rfl
theorem dX11_told_79 : decode cX11_told 79 = .ok (.ifCond .ne 7, 3) := dk_get kX11_told_ok 43 rfl
theorem dX11_told_82 : decode cX11_told 82 = .ok (.ldc2_w 291, 3) := dk_get kX11_told_ok 44 rfl
theorem dX11_told_85 : decode cX11_told 85 = .ok (.lreturn, 1) := dk_get kX11_told_ok 45 rfl
theorem dX11_told_86 : decode cX11_told 86 = .ok (.aload_n 0, 1) := dk_get kX11_told_ok 46 rfl
theorem dX11_told_87 : decode cX11_told 87 = .ok (.getfield 66, 3) := dk_get kX11_told_ok 47 rfl
theorem dX11_told_90 : decode cX11_told 90 = .ok (.getfield 293, 3) := dk_get kX11_told_ok 48 rfl
theorem dX11_told_93 : decode cX11_told 93 = .ok (.bipush 40, 2) := dk_get kX11_told_ok 49 rfl
theorem dX11_told_95 : decode cX11_told 95 = .ok (.if_icmp .lt 7, 3) := dk_get kX11_told_ok 50 rfl
theorem dX11_told_98 : decode cX11_told 98 = .ok (.ldc2_w 296, 3) := dk_get kX11_told_ok 51 rfl
theorem dX11_told_101 : decode cX11_told 101 = .ok (.lreturn, 1) := dk_get kX11_told_ok 52 rfl
theorem dX11_told_102 : decode cX11_told 102 = .ok (.aload_n 0, 1) := dk_get kX11_told_ok 53 rfl
theorem dX11_told_103 : decode cX11_told 103 = .ok (.getfield 66, 3) := dk_get kX11_told_ok 54 rfl
theorem dX11_told_106 : decode cX11_told 106 = .ok (.iload_n 1, 1) := dk_get kX11_told_ok 55 rfl
theorem dX11_told_107 : decode cX11_told 107 = .ok (.iload_n 2, 1) := dk_get kX11_told_ok 56 rfl
theorem dX11_told_108 : decode cX11_told 108 = .ok (.iload_n 3, 1) := dk_get kX11_told_ok 57 rfl
theorem dX11_told_109 : decode cX11_told 109 = .ok (.iload 4, 2) := dk_get kX11_told_ok 58 rfl
theorem dX11_told_111 : decode cX11_told 111 = .ok (.invokevirtual 298, 3) := dk_get kX11_told_ok 59 rfl
theorem dX11_told_114 : decode cX11_told 114 = .ok (.aload_n 0, 1) := dk_get kX11_told_ok 60 rfl
theorem dX11_told_115 : decode cX11_told 115 = .ok (.getfield 66, 3) := dk_get kX11_told_ok 61 rfl
theorem dX11_told_118 : decode cX11_told 118 = .ok (.getfield 302, 3) := dk_get kX11_told_ok 62 rfl
theorem dX11_told_121 : decode cX11_told 121 = .ok (.lreturn, 1) := dk_get kX11_told_ok 63 rfl
def kX11_best : List (Nat × Instr × Nat) := [(0, .aload_n 0, 1), (1, .iload_n 1, 1), (2, .invokevirtual 126, 3), (5, .aload_n 0, 1), (6, .aload_n 0, 1), (7, .iload_n 1, 1), (8, .invokevirtual 136, 3), (11, .invokevirtual 305, 3), (14, .istore_n 2, 1), (15, .iload_n 2, 1), (16, .ifCond .ge 8, 3), (19, .iload_n 2, 1), (20, .i2l, 1), (21, .goto 11, 3), (24, .aload_n 0, 1), (25, .getfield 89, 3), (28, .getfield 308, 3), (31, .i2l, 1), (32, .lreturn, 1)]
set_option maxRecDepth 100000 in
theorem kX11_best_ok : kX11_best.all (fun q => decide (decode cX11_best q.1 = .ok q.2)) = true := by decide +kernel
theorem dX11_best_0 : decode cX11_best 0 = .ok (.aload_n 0, 1) := dk_get kX11_best_ok 0 rfl
theorem dX11_best_1 : decode cX11_best 1 = .ok (.iload_n 1, 1) := dk_get kX11_best_ok 1 rfl
theorem dX11_best_2 : decode cX11_best 2 = .ok (.invokevirtual 126, 3) := dk_get kX11_best_ok 2 rfl
theorem dX11_best_5 : decode cX11_best 5 = .ok (.aload_n 0, 1) := dk_get kX11_best_ok 3 rfl
theorem dX11_best_6 : decode cX11_best 6 = .ok (.aload_n 0, 1) := dk_get kX11_best_ok 4 rfl
theorem dX11_best_7 : decode cX11_best 7 = .ok (.iload_n 1, 1) := dk_get kX11_best_ok 5 rfl
theorem dX11_best_8 : decode cX11_best 8 = .ok (.invokevirtual 136, 3) := dk_get kX11_best_ok 6 rfl
theorem dX11_best_11 : decode cX11_best 11 = .ok (.invokevirtual 305, 3) := dk_get kX11_best_ok 7 rfl
theorem dX11_best_14 : decode cX11_best 14 = .ok (.istore_n 2, 1) := dk_get kX11_best_ok 8 rfl
theorem dX11_best_15 : decode cX11_best 15 = .ok (.iload_n 2, 1) := dk_get kX11_best_ok 9 rfl
theorem dX11_best_16 : decode cX11_best 16 = .ok (.ifCond .ge 8, 3) := dk_get kX11_best_ok 10 rfl
theorem dX11_best_19 : decode cX11_best 19 = .ok (.iload_n 2, 1) := dk_get kX11_best_ok 11 rfl
theorem dX11_best_20 : decode cX11_best 20 = .ok (.i2l, 1) := dk_get kX11_best_ok 12 rfl
theorem dX11_best_21 : decode cX11_best 21 = .ok (.goto 11, 3) := dk_get kX11_best_ok 13 rfl
theorem dX11_best_24 : decode cX11_best 24 = .ok (.aload_n 0, 1) := dk_get kX11_best_ok 14 rfl
theorem dX11_best_25 : decode cX11_best 25 = .ok (.getfield 89, 3) := dk_get kX11_best_ok 15 rfl
theorem dX11_best_28 : decode cX11_best 28 = .ok (.getfield 308, 3) := dk_get kX11_best_ok 16 rfl
theorem dX11_best_31 : decode cX11_best 31 = .ok (.i2l, 1) := dk_get kX11_best_ok 17 rfl
theorem dX11_best_32 : decode cX11_best 32 = .ok (.lreturn, 1) := dk_get kX11_best_ok 18 rfl
def kX11_many : List (Nat × Instr × Nat) := [(0, .aload_n 0, 1), (1, .iload_n 1, 1), (2, .invokevirtual 126, 3), (5, .aload_n 0, 1), (6, .iload_n 1, 1), (7, .invokevirtual 310, 3), (10, .istore_n 2, 1), (11, .iload_n 2, 1), (12, .bipush (-2), 2), (14, .if_icmp .ne 8, 3), (17, .bipush (-2), 2), (19, .goto 18, 3), (22, .iload_n 2, 1), (23, .ifCond .ge 7, 3), (26, .iconst 0, 1), (27, .goto 10, 3), (30, .aload_n 0, 1), (31, .getfield 89, 3), (34, .getfield 313, 3), (37, .ireturn, 1)]
set_option maxRecDepth 100000 in
theorem kX11_many_ok : kX11_many.all (fun q => decide (decode cX11_many q.1 = .ok q.2)) = true := by decide +kernel
theorem dX11_many_0 : decode cX11_many 0 = .ok (.aload_n 0, 1) := dk_get kX11_many_ok 0 rfl
theorem dX11_many_1 : decode cX11_many 1 = .ok (.iload_n 1, 1) := dk_get kX11_many_ok 1 rfl
theorem dX11_many_2 : decode cX11_many 2 = .ok (.invokevirtual 126, 3) := dk_get kX11_many_ok 2 rfl
theorem dX11_many_5 : decode cX11_many 5 = .ok (.aload_n 0, 1) := dk_get kX11_many_ok 3 rfl
theorem dX11_many_6 : decode cX11_many 6 = .ok (.iload_n 1, 1) := dk_get kX11_many_ok 4 rfl
theorem dX11_many_7 : decode cX11_many 7 = .ok (.invokevirtual 310, 3) := dk_get kX11_many_ok 5 rfl
theorem dX11_many_10 : decode cX11_many 10 = .ok (.istore_n 2, 1) := dk_get kX11_many_ok 6 rfl
theorem dX11_many_11 : decode cX11_many 11 = .ok (.iload_n 2, 1) := dk_get kX11_many_ok 7 rfl
theorem dX11_many_12 : decode cX11_many 12 = .ok (.bipush (-2), 2) := dk_get kX11_many_ok 8 rfl
theorem dX11_many_14 : decode cX11_many 14 = .ok (.if_icmp .ne 8, 3) := dk_get kX11_many_ok 9 rfl
theorem dX11_many_17 : decode cX11_many 17 = .ok (.bipush (-2), 2) := dk_get kX11_many_ok 10 rfl
theorem dX11_many_19 : decode cX11_many 19 = .ok (.goto 18, 3) := dk_get kX11_many_ok 11 rfl
theorem dX11_many_22 : decode cX11_many 22 = .ok (.iload_n 2, 1) := dk_get kX11_many_ok 12 rfl
theorem dX11_many_23 : decode cX11_many 23 = .ok (.ifCond .ge 7, 3) := dk_get kX11_many_ok 13 rfl
theorem dX11_many_26 : decode cX11_many 26 = .ok (.iconst 0, 1) := dk_get kX11_many_ok 14 rfl
theorem dX11_many_27 : decode cX11_many 27 = .ok (.goto 10, 3) := dk_get kX11_many_ok 15 rfl
theorem dX11_many_30 : decode cX11_many 30 = .ok (.aload_n 0, 1) := dk_get kX11_many_ok 16 rfl
theorem dX11_many_31 : decode cX11_many 31 = .ok (.getfield 89, 3) := dk_get kX11_many_ok 17 rfl
theorem dX11_many_34 : decode cX11_many 34 = .ok (.getfield 313, 3) := dk_get kX11_many_ok 18 rfl
theorem dX11_many_37 : decode cX11_many 37 = .ok (.ireturn, 1) := dk_get kX11_many_ok 19 rfl
def kX11_first : List (Nat × Instr × Nat) := [(0, .aload_n 0, 1), (1, .iload_n 1, 1), (2, .invokevirtual 126, 3), (5, .aload_n 0, 1), (6, .iload_n 1, 1), (7, .invokevirtual 310, 3), (10, .istore_n 2, 1), (11, .iload_n 2, 1), (12, .ifCond .ge 7, 3), (15, .iload_n 2, 1), (16, .goto 11, 3), (19, .aload_n 0, 1), (20, .getfield 89, 3), (23, .iload_n 1, 1), (24, .invokevirtual 316, 3), (27, .ireturn, 1)]
set_option maxRecDepth 100000 in
theorem kX11_first_ok : kX11_first.all (fun q => decide (decode cX11_first q.1 = .ok q.2)) = true := by decide +kernel
theorem dX11_first_0 : decode cX11_first 0 = .ok (.aload_n 0, 1) := dk_get kX11_first_ok 0 rfl
theorem dX11_first_1 : decode cX11_first 1 = .ok (.iload_n 1, 1) := dk_get kX11_first_ok 1 rfl
theorem dX11_first_2 : decode cX11_first 2 = .ok (.invokevirtual 126, 3) := dk_get kX11_first_ok 2 rfl
theorem dX11_first_5 : decode cX11_first 5 = .ok (.aload_n 0, 1) := dk_get kX11_first_ok 3 rfl
theorem dX11_first_6 : decode cX11_first 6 = .ok (.iload_n 1, 1) := dk_get kX11_first_ok 4 rfl
theorem dX11_first_7 : decode cX11_first 7 = .ok (.invokevirtual 310, 3) := dk_get kX11_first_ok 5 rfl
theorem dX11_first_10 : decode cX11_first 10 = .ok (.istore_n 2, 1) := dk_get kX11_first_ok 6 rfl
theorem dX11_first_11 : decode cX11_first 11 = .ok (.iload_n 2, 1) := dk_get kX11_first_ok 7 rfl
theorem dX11_first_12 : decode cX11_first 12 = .ok (.ifCond .ge 7, 3) := dk_get kX11_first_ok 8 rfl
theorem dX11_first_15 : decode cX11_first 15 = .ok (.iload_n 2, 1) := dk_get kX11_first_ok 9 rfl
theorem dX11_first_16 : decode cX11_first 16 = .ok (.goto 11, 3) := dk_get kX11_first_ok 10 rfl
theorem dX11_first_19 : decode cX11_first 19 = .ok (.aload_n 0, 1) := dk_get kX11_first_ok 11 rfl
theorem dX11_first_20 : decode cX11_first 20 = .ok (.getfield 89, 3) := dk_get kX11_first_ok 12 rfl
theorem dX11_first_23 : decode cX11_first 23 = .ok (.iload_n 1, 1) := dk_get kX11_first_ok 13 rfl
theorem dX11_first_24 : decode cX11_first 24 = .ok (.invokevirtual 316, 3) := dk_get kX11_first_ok 14 rfl
theorem dX11_first_27 : decode cX11_first 27 = .ok (.ireturn, 1) := dk_get kX11_first_ok 15 rfl
def kX11_all : List (Nat × Instr × Nat) := [(0, .aload_n 0, 1), (1, .aload_n 0, 1), (2, .getfield 12, 3), (5, .invokevirtual 319, 3), (8, .aload_n 0, 1), (9, .getfield 93, 3), (12, .invokevirtual 322, 3), (15, .lreturn, 1)]
set_option maxRecDepth 100000 in
theorem kX11_all_ok : kX11_all.all (fun q => decide (decode cX11_all q.1 = .ok q.2)) = true := by decide +kernel
theorem dX11_all_0 : decode cX11_all 0 = .ok (.aload_n 0, 1) := dk_get kX11_all_ok 0 rfl
theorem dX11_all_1 : decode cX11_all 1 = .ok (.aload_n 0, 1) := dk_get kX11_all_ok 1 rfl
theorem dX11_all_2 : decode cX11_all 2 = .ok (.getfield 12, 3) := dk_get kX11_all_ok 2 rfl
theorem dX11_all_5 : decode cX11_all 5 = .ok (.invokevirtual 319, 3) := dk_get kX11_all_ok 3 rfl
theorem dX11_all_8 : decode cX11_all 8 = .ok (.aload_n 0, 1) := dk_get kX11_all_ok 4 rfl
theorem dX11_all_9 : decode cX11_all 9 = .ok (.getfield 93, 3) := dk_get kX11_all_ok 5 rfl
theorem dX11_all_12 : decode cX11_all 12 = .ok (.invokevirtual 322, 3) := dk_get kX11_all_ok 6 rfl
theorem dX11_all_15 : decode cX11_all 15 = .ok (.lreturn, 1) := dk_get kX11_all_ok 7 rfl
def kX11_take : List (Nat × Instr × Nat) := [(0, .aload_n 0, 1), (1, .aload_n 0, 1), (2, .getfield 12, 3), (5, .invokevirtual 319, 3), (8, .aload_n 0, 1), (9, .getfield 93, 3), (12, .invokevirtual 322, 3), (15, .lstore_n 1, 1), (16, .lload_n 1, 1), (17, .lconst 0, 1), (18, .lcmp, 1), (19, .ifCond .ge 6, 3), (22, .lload_n 1, 1), (23, .l2i, 1), (24, .ireturn, 1), (25, .aload_n 0, 1), (26, .getfield 48, 3), (29, .aload_n 0, 1), (30, .getfield 93, 3), (33, .invokevirtual 326, 3), (36, .iconst 1, 1), (37, .ireturn, 1)]
set_option maxRecDepth 100000 in
theorem kX11_take_ok : kX11_take.all (fun q => decide (decode cX11_take q.1 = .ok q.2)) = true := by decide +kernel
theorem dX11_take_0 : decode cX11_take 0 = .ok (.aload_n 0, 1) := dk_get kX11_take_ok 0 rfl
theorem dX11_take_1 : decode cX11_take 1 = .ok (.aload_n 0, 1) := dk_get kX11_take_ok 1 rfl
theorem dX11_take_2 : decode cX11_take 2 = .ok (.getfield 12, 3) := dk_get kX11_take_ok 2 rfl
theorem dX11_take_5 : decode cX11_take 5 = .ok (.invokevirtual 319, 3) := dk_get kX11_take_ok 3 rfl
theorem dX11_take_8 : decode cX11_take 8 = .ok (.aload_n 0, 1) := dk_get kX11_take_ok 4 rfl
theorem dX11_take_9 : decode cX11_take 9 = .ok (.getfield 93, 3) := dk_get kX11_take_ok 5 rfl
theorem dX11_take_12 : decode cX11_take 12 = .ok (.invokevirtual 322, 3) := dk_get kX11_take_ok 6 rfl
theorem dX11_take_15 : decode cX11_take 15 = .ok (.lstore_n 1, 1) := dk_get kX11_take_ok 7 rfl
theorem dX11_take_16 : decode cX11_take 16 = .ok (.lload_n 1, 1) := dk_get kX11_take_ok 8 rfl
theorem dX11_take_17 : decode cX11_take 17 = .ok (.lconst 0, 1) := dk_get kX11_take_ok 9 rfl
theorem dX11_take_18 : decode cX11_take 18 = .ok (.lcmp, 1) := dk_get kX11_take_ok 10 rfl
theorem dX11_take_19 : decode cX11_take 19 = .ok (.ifCond .ge 6, 3) := dk_get kX11_take_ok 11 rfl
theorem dX11_take_22 : decode cX11_take 22 = .ok (.lload_n 1, 1) := dk_get kX11_take_ok 12 rfl
theorem dX11_take_23 : decode cX11_take 23 = .ok (.l2i, 1) := dk_get kX11_take_ok 13 rfl
theorem dX11_take_24 : decode cX11_take 24 = .ok (.ireturn, 1) := dk_get kX11_take_ok 14 rfl
theorem dX11_take_25 : decode cX11_take 25 = .ok (.aload_n 0, 1) := dk_get kX11_take_ok 15 rfl
theorem dX11_take_26 : decode cX11_take 26 = .ok (.getfield 48, 3) := dk_get kX11_take_ok 16 rfl
theorem dX11_take_29 : decode cX11_take 29 = .ok (.aload_n 0, 1) := dk_get kX11_take_ok 17 rfl
theorem dX11_take_30 : decode cX11_take 30 = .ok (.getfield 93, 3) := dk_get kX11_take_ok 18 rfl
theorem dX11_take_33 : decode cX11_take 33 = .ok (.invokevirtual 326, 3) := dk_get kX11_take_ok 19 rfl
theorem dX11_take_36 : decode cX11_take 36 = .ok (.iconst 1, 1) := dk_get kX11_take_ok 20 rfl
theorem dX11_take_37 : decode cX11_take 37 = .ok (.ireturn, 1) := dk_get kX11_take_ok 21 rfl
def kX11_always : List (Nat × Instr × Nat) := [(0, .aload_n 0, 1), (1, .iload_n 1, 1), (2, .iload_n 2, 1), (3, .invokevirtual 178, 3), (6, .aload_n 0, 1), (7, .iload_n 1, 1), (8, .invokevirtual 310, 3), (11, .ifCond .ge 8, 3), (14, .bipush (-2), 2), (16, .goto 12, 3), (19, .aload_n 0, 1), (20, .getfield 89, 3), (23, .iload_n 1, 1), (24, .iload_n 2, 1), (25, .invokevirtual 330, 3), (28, .ireturn, 1)]
set_option maxRecDepth 100000 in
theorem kX11_always_ok : kX11_always.all (fun q => decide (decode cX11_always q.1 = .ok q.2)) = true := by decide +kernel
theorem dX11_always_0 : decode cX11_always 0 = .ok (.aload_n 0, 1) := dk_get kX11_always_ok 0 rfl
theorem dX11_always_1 : decode cX11_always 1 = .ok (.iload_n 1, 1) := dk_get kX11_always_ok 1 rfl
theorem dX11_always_2 : decode cX11_always 2 = .ok (.iload_n 2, 1) := dk_get kX11_always_ok 2 rfl
theorem dX11_always_3 : decode cX11_always 3 = .ok (.invokevirtual 178, 3) := dk_get kX11_always_ok 3 rfl
theorem dX11_always_6 : decode cX11_always 6 = .ok (.aload_n 0, 1) := dk_get kX11_always_ok 4 rfl
theorem dX11_always_7 : decode cX11_always 7 = .ok (.iload_n 1, 1) := dk_get kX11_always_ok 5 rfl
theorem dX11_always_8 : decode cX11_always 8 = .ok (.invokevirtual 310, 3) := dk_get kX11_always_ok 6 rfl
theorem dX11_always_11 : decode cX11_always 11 = .ok (.ifCond .ge 8, 3) := dk_get kX11_always_ok 7 rfl
theorem dX11_always_14 : decode cX11_always 14 = .ok (.bipush (-2), 2) := dk_get kX11_always_ok 8 rfl
theorem dX11_always_16 : decode cX11_always 16 = .ok (.goto 12, 3) := dk_get kX11_always_ok 9 rfl
theorem dX11_always_19 : decode cX11_always 19 = .ok (.aload_n 0, 1) := dk_get kX11_always_ok 10 rfl
theorem dX11_always_20 : decode cX11_always 20 = .ok (.getfield 89, 3) := dk_get kX11_always_ok 11 rfl
theorem dX11_always_23 : decode cX11_always 23 = .ok (.iload_n 1, 1) := dk_get kX11_always_ok 12 rfl
theorem dX11_always_24 : decode cX11_always 24 = .ok (.iload_n 2, 1) := dk_get kX11_always_ok 13 rfl
theorem dX11_always_25 : decode cX11_always 25 = .ok (.invokevirtual 330, 3) := dk_get kX11_always_ok 14 rfl
theorem dX11_always_28 : decode cX11_always 28 = .ok (.ireturn, 1) := dk_get kX11_always_ok 15 rfl
def kX11_edge : List (Nat × Instr × Nat) := [(0, .aload_n 0, 1), (1, .iload_n 1, 1), (2, .iload_n 2, 1), (3, .invokevirtual 178, 3), (6, .aload_n 0, 1), (7, .iload_n 1, 1), (8, .iload_n 2, 1), (9, .invokevirtual 333, 3), (12, .lreturn, 1)]
set_option maxRecDepth 100000 in
theorem kX11_edge_ok : kX11_edge.all (fun q => decide (decode cX11_edge q.1 = .ok q.2)) = true := by decide +kernel
theorem dX11_edge_0 : decode cX11_edge 0 = .ok (.aload_n 0, 1) := dk_get kX11_edge_ok 0 rfl
theorem dX11_edge_1 : decode cX11_edge 1 = .ok (.iload_n 1, 1) := dk_get kX11_edge_ok 1 rfl
theorem dX11_edge_2 : decode cX11_edge 2 = .ok (.iload_n 2, 1) := dk_get kX11_edge_ok 2 rfl
theorem dX11_edge_3 : decode cX11_edge 3 = .ok (.invokevirtual 178, 3) := dk_get kX11_edge_ok 3 rfl
theorem dX11_edge_6 : decode cX11_edge 6 = .ok (.aload_n 0, 1) := dk_get kX11_edge_ok 4 rfl
theorem dX11_edge_7 : decode cX11_edge 7 = .ok (.iload_n 1, 1) := dk_get kX11_edge_ok 5 rfl
theorem dX11_edge_8 : decode cX11_edge 8 = .ok (.iload_n 2, 1) := dk_get kX11_edge_ok 6 rfl
theorem dX11_edge_9 : decode cX11_edge 9 = .ok (.invokevirtual 333, 3) := dk_get kX11_edge_ok 7 rfl
theorem dX11_edge_12 : decode cX11_edge 12 = .ok (.lreturn, 1) := dk_get kX11_edge_ok 8 rfl
def kX11_holds : List (Nat × Instr × Nat) := [(0, .aload_n 0, 1), (1, .iload_n 1, 1), (2, .iload_n 2, 1), (3, .invokevirtual 178, 3), (6, .iload_n 3, 1), (7, .iconst 0, 1), (8, .bipush 100, 2), (10, .invokestatic 100, 3), (13, .invokestatic 104, 3), (16, .aload_n 0, 1), (17, .iload_n 1, 1), (18, .iload_n 2, 1), (19, .invokevirtual 333, 3), (22, .lstore 4, 2), (24, .lload 4, 2), (26, .ldc2_w 245, 3), (29, .lcmp, 1), (30, .ifCond .ne 6, 3), (33, .bipush (-2), 2), (35, .ireturn, 1), (36, .ldc2_w 337, 3), (39, .iload_n 3, 1), (40, .i2l, 1), (41, .lmul, 1), (42, .aload_n 0, 1), (43, .getfield 80, 3), (46, .invokevirtual 339, 3), (49, .lmul, 1), (50, .lstore 6, 2), (52, .ldc2_w 342, 3), (55, .lload 4, 2), (57, .lmul, 1), (58, .lload 6, 2), (60, .lcmp, 1), (61, .ifCond .le 7, 3), (64, .iconst 1, 1), (65, .goto 21, 3), (68, .ldc2_w 342, 3), (71, .lload 4, 2), (73, .lmul, 1), (74, .lload 6, 2), (76, .lneg, 1), (77, .lcmp, 1), (78, .ifCond .ge 7, 3), (81, .iconst (-1), 1), (82, .goto 4, 3), (85, .iconst 0, 1), (86, .ireturn, 1)]
set_option maxRecDepth 100000 in
theorem kX11_holds_ok : kX11_holds.all (fun q => decide (decode cX11_holds q.1 = .ok q.2)) = true := by decide +kernel
theorem dX11_holds_0 : decode cX11_holds 0 = .ok (.aload_n 0, 1) := dk_get kX11_holds_ok 0 rfl
theorem dX11_holds_1 : decode cX11_holds 1 = .ok (.iload_n 1, 1) := dk_get kX11_holds_ok 1 rfl
theorem dX11_holds_2 : decode cX11_holds 2 = .ok (.iload_n 2, 1) := dk_get kX11_holds_ok 2 rfl
theorem dX11_holds_3 : decode cX11_holds 3 = .ok (.invokevirtual 178, 3) := dk_get kX11_holds_ok 3 rfl
theorem dX11_holds_6 : decode cX11_holds 6 = .ok (.iload_n 3, 1) := dk_get kX11_holds_ok 4 rfl
theorem dX11_holds_7 : decode cX11_holds 7 = .ok (.iconst 0, 1) := dk_get kX11_holds_ok 5 rfl
theorem dX11_holds_8 : decode cX11_holds 8 = .ok (.bipush 100, 2) := dk_get kX11_holds_ok 6 rfl
theorem dX11_holds_10 : decode cX11_holds 10 = .ok (.invokestatic 100, 3) := dk_get kX11_holds_ok 7 rfl
theorem dX11_holds_13 : decode cX11_holds 13 = .ok (.invokestatic 104, 3) := dk_get kX11_holds_ok 8 rfl
theorem dX11_holds_16 : decode cX11_holds 16 = .ok (.aload_n 0, 1) := dk_get kX11_holds_ok 9 rfl
theorem dX11_holds_17 : decode cX11_holds 17 = .ok (.iload_n 1, 1) := dk_get kX11_holds_ok 10 rfl
theorem dX11_holds_18 : decode cX11_holds 18 = .ok (.iload_n 2, 1) := dk_get kX11_holds_ok 11 rfl
theorem dX11_holds_19 : decode cX11_holds 19 = .ok (.invokevirtual 333, 3) := dk_get kX11_holds_ok 12 rfl
theorem dX11_holds_22 : decode cX11_holds 22 = .ok (.lstore 4, 2) := dk_get kX11_holds_ok 13 rfl
theorem dX11_holds_24 : decode cX11_holds 24 = .ok (.lload 4, 2) := dk_get kX11_holds_ok 14 rfl
theorem dX11_holds_26 : decode cX11_holds 26 = .ok (.ldc2_w 245, 3) := dk_get kX11_holds_ok 15 rfl
theorem dX11_holds_29 : decode cX11_holds 29 = .ok (.lcmp, 1) := dk_get kX11_holds_ok 16 rfl
theorem dX11_holds_30 : decode cX11_holds 30 = .ok (.ifCond .ne 6, 3) := dk_get kX11_holds_ok 17 rfl
theorem dX11_holds_33 : decode cX11_holds 33 = .ok (.bipush (-2), 2) := dk_get kX11_holds_ok 18 rfl
theorem dX11_holds_35 : decode cX11_holds 35 = .ok (.ireturn, 1) := dk_get kX11_holds_ok 19 rfl
theorem dX11_holds_36 : decode cX11_holds 36 = .ok (.ldc2_w 337, 3) := dk_get kX11_holds_ok 20 rfl
theorem dX11_holds_39 : decode cX11_holds 39 = .ok (.iload_n 3, 1) := dk_get kX11_holds_ok 21 rfl
theorem dX11_holds_40 : decode cX11_holds 40 = .ok (.i2l, 1) := dk_get kX11_holds_ok 22 rfl
theorem dX11_holds_41 : decode cX11_holds 41 = .ok (.lmul, 1) := dk_get kX11_holds_ok 23 rfl
theorem dX11_holds_42 : decode cX11_holds 42 = .ok (.aload_n 0, 1) := dk_get kX11_holds_ok 24 rfl
theorem dX11_holds_43 : decode cX11_holds 43 = .ok (.getfield 80, 3) := dk_get kX11_holds_ok 25 rfl
theorem dX11_holds_46 : decode cX11_holds 46 = .ok (.invokevirtual 339, 3) := dk_get kX11_holds_ok 26 rfl
theorem dX11_holds_49 : decode cX11_holds 49 = .ok (.lmul, 1) := dk_get kX11_holds_ok 27 rfl
theorem dX11_holds_50 : decode cX11_holds 50 = .ok (.lstore 6, 2) := dk_get kX11_holds_ok 28 rfl
theorem dX11_holds_52 : decode cX11_holds 52 = .ok (.ldc2_w 342, 3) := dk_get kX11_holds_ok 29 rfl
theorem dX11_holds_55 : decode cX11_holds 55 = .ok (.lload 4, 2) := dk_get kX11_holds_ok 30 rfl
theorem dX11_holds_57 : decode cX11_holds 57 = .ok (.lmul, 1) := dk_get kX11_holds_ok 31 rfl
theorem dX11_holds_58 : decode cX11_holds 58 = .ok (.lload 6, 2) := dk_get kX11_holds_ok 32 rfl
theorem dX11_holds_60 : decode cX11_holds 60 = .ok (.lcmp, 1) := dk_get kX11_holds_ok 33 rfl
theorem dX11_holds_61 : decode cX11_holds 61 = .ok (.ifCond .le 7, 3) := dk_get kX11_holds_ok 34 rfl
theorem dX11_holds_64 : decode cX11_holds 64 = .ok (.iconst 1, 1) := dk_get kX11_holds_ok 35 rfl
theorem dX11_holds_65 : decode cX11_holds 65 = .ok (.goto 21, 3) := dk_get kX11_holds_ok 36 rfl
theorem dX11_holds_68 : decode cX11_holds 68 = .ok (.ldc2_w 342, 3) := dk_get kX11_holds_ok 37 rfl
theorem dX11_holds_71 : decode cX11_holds 71 = .ok (.lload 4, 2) := dk_get kX11_holds_ok 38 rfl
theorem dX11_holds_73 : decode cX11_holds 73 = .ok (.lmul, 1) := dk_get kX11_holds_ok 39 rfl
theorem dX11_holds_74 : decode cX11_holds 74 = .ok (.lload 6, 2) := dk_get kX11_holds_ok 40 rfl
theorem dX11_holds_76 : decode cX11_holds 76 = .ok (.lneg, 1) := dk_get kX11_holds_ok 41 rfl
theorem dX11_holds_77 : decode cX11_holds 77 = .ok (.lcmp, 1) := dk_get kX11_holds_ok 42 rfl
theorem dX11_holds_78 : decode cX11_holds 78 = .ok (.ifCond .ge 7, 3) := dk_get kX11_holds_ok 43 rfl
theorem dX11_holds_81 : decode cX11_holds 81 = .ok (.iconst (-1), 1) := dk_get kX11_holds_ok 44 rfl
theorem dX11_holds_82 : decode cX11_holds 82 = .ok (.goto 4, 3) := dk_get kX11_holds_ok 45 rfl
theorem dX11_holds_85 : decode cX11_holds 85 = .ok (.iconst 0, 1) := dk_get kX11_holds_ok 46 rfl
theorem dX11_holds_86 : decode cX11_holds 86 = .ok (.ireturn, 1) := dk_get kX11_holds_ok 47 rfl
def kX11_asked : List (Nat × Instr × Nat) := [(0, .aload_n 0, 1), (1, .iload_n 1, 1), (2, .invokevirtual 126, 3), (5, .aload_n 0, 1), (6, .iload_n 1, 1), (7, .invokevirtual 310, 3), (10, .istore_n 2, 1), (11, .iload_n 2, 1), (12, .ifCond .ge 5, 3), (15, .iload_n 2, 1), (16, .ireturn, 1), (17, .aload_n 0, 1), (18, .getfield 89, 3), (21, .getfield 313, 3), (24, .sipush 200, 3), (27, .if_icmp .le 8, 3), (30, .bipush (-2), 2), (32, .goto 10, 3), (35, .aload_n 0, 1), (36, .getfield 89, 3), (39, .invokevirtual 344, 3), (42, .ireturn, 1)]
set_option maxRecDepth 100000 in
theorem kX11_asked_ok : kX11_asked.all (fun q => decide (decode cX11_asked q.1 = .ok q.2)) = true := by decide +kernel
theorem dX11_asked_0 : decode cX11_asked 0 = .ok (.aload_n 0, 1) := dk_get kX11_asked_ok 0 rfl
theorem dX11_asked_1 : decode cX11_asked 1 = .ok (.iload_n 1, 1) := dk_get kX11_asked_ok 1 rfl
theorem dX11_asked_2 : decode cX11_asked 2 = .ok (.invokevirtual 126, 3) := dk_get kX11_asked_ok 2 rfl
theorem dX11_asked_5 : decode cX11_asked 5 = .ok (.aload_n 0, 1) := dk_get kX11_asked_ok 3 rfl
theorem dX11_asked_6 : decode cX11_asked 6 = .ok (.iload_n 1, 1) := dk_get kX11_asked_ok 4 rfl
theorem dX11_asked_7 : decode cX11_asked 7 = .ok (.invokevirtual 310, 3) := dk_get kX11_asked_ok 5 rfl
theorem dX11_asked_10 : decode cX11_asked 10 = .ok (.istore_n 2, 1) := dk_get kX11_asked_ok 6 rfl
theorem dX11_asked_11 : decode cX11_asked 11 = .ok (.iload_n 2, 1) := dk_get kX11_asked_ok 7 rfl
theorem dX11_asked_12 : decode cX11_asked 12 = .ok (.ifCond .ge 5, 3) := dk_get kX11_asked_ok 8 rfl
theorem dX11_asked_15 : decode cX11_asked 15 = .ok (.iload_n 2, 1) := dk_get kX11_asked_ok 9 rfl
theorem dX11_asked_16 : decode cX11_asked 16 = .ok (.ireturn, 1) := dk_get kX11_asked_ok 10 rfl
theorem dX11_asked_17 : decode cX11_asked 17 = .ok (.aload_n 0, 1) := dk_get kX11_asked_ok 11 rfl
theorem dX11_asked_18 : decode cX11_asked 18 = .ok (.getfield 89, 3) := dk_get kX11_asked_ok 12 rfl
theorem dX11_asked_21 : decode cX11_asked 21 = .ok (.getfield 313, 3) := dk_get kX11_asked_ok 13 rfl
theorem dX11_asked_24 : decode cX11_asked 24 = .ok (.sipush 200, 3) := dk_get kX11_asked_ok 14 rfl
theorem dX11_asked_27 : decode cX11_asked 27 = .ok (.if_icmp .le 8, 3) := dk_get kX11_asked_ok 15 rfl
theorem dX11_asked_30 : decode cX11_asked 30 = .ok (.bipush (-2), 2) := dk_get kX11_asked_ok 16 rfl
theorem dX11_asked_32 : decode cX11_asked 32 = .ok (.goto 10, 3) := dk_get kX11_asked_ok 17 rfl
theorem dX11_asked_35 : decode cX11_asked 35 = .ok (.aload_n 0, 1) := dk_get kX11_asked_ok 18 rfl
theorem dX11_asked_36 : decode cX11_asked 36 = .ok (.getfield 89, 3) := dk_get kX11_asked_ok 19 rfl
theorem dX11_asked_39 : decode cX11_asked 39 = .ok (.invokevirtual 344, 3) := dk_get kX11_asked_ok 20 rfl
theorem dX11_asked_42 : decode cX11_asked 42 = .ok (.ireturn, 1) := dk_get kX11_asked_ok 21 rfl
def kX11_near : List (Nat × Instr × Nat) := [(0, .aload_n 0, 1), (1, .iload_n 1, 1), (2, .invokevirtual 126, 3), (5, .iload_n 2, 1), (6, .iconst 0, 1), (7, .ldc_w 347, 3), (10, .invokestatic 100, 3), (13, .invokestatic 104, 3), (16, .aload_n 0, 1), (17, .iload_n 1, 1), (18, .iload_n 2, 1), (19, .invokevirtual 348, 3), (22, .istore_n 3, 1), (23, .iload_n 3, 1), (24, .ifCond .ge 7, 3), (27, .iload_n 3, 1), (28, .goto 10, 3), (31, .aload_n 0, 1), (32, .getfield 89, 3), (35, .getfield 351, 3), (38, .ireturn, 1)]
set_option maxRecDepth 100000 in
theorem kX11_near_ok : kX11_near.all (fun q => decide (decode cX11_near q.1 = .ok q.2)) = true := by decide +kernel
theorem dX11_near_0 : decode cX11_near 0 = .ok (.aload_n 0, 1) := dk_get kX11_near_ok 0 rfl
theorem dX11_near_1 : decode cX11_near 1 = .ok (.iload_n 1, 1) := dk_get kX11_near_ok 1 rfl
theorem dX11_near_2 : decode cX11_near 2 = .ok (.invokevirtual 126, 3) := dk_get kX11_near_ok 2 rfl
theorem dX11_near_5 : decode cX11_near 5 = .ok (.iload_n 2, 1) := dk_get kX11_near_ok 3 rfl
theorem dX11_near_6 : decode cX11_near 6 = .ok (.iconst 0, 1) := dk_get kX11_near_ok 4 rfl
theorem dX11_near_7 : decode cX11_near 7 = .ok (.ldc_w 347, 3) := dk_get kX11_near_ok 5 rfl
theorem dX11_near_10 : decode cX11_near 10 = .ok (.invokestatic 100, 3) := dk_get kX11_near_ok 6 rfl
theorem dX11_near_13 : decode cX11_near 13 = .ok (.invokestatic 104, 3) := dk_get kX11_near_ok 7 rfl
theorem dX11_near_16 : decode cX11_near 16 = .ok (.aload_n 0, 1) := dk_get kX11_near_ok 8 rfl
theorem dX11_near_17 : decode cX11_near 17 = .ok (.iload_n 1, 1) := dk_get kX11_near_ok 9 rfl
theorem dX11_near_18 : decode cX11_near 18 = .ok (.iload_n 2, 1) := dk_get kX11_near_ok 10 rfl
theorem dX11_near_19 : decode cX11_near 19 = .ok (.invokevirtual 348, 3) := dk_get kX11_near_ok 11 rfl
theorem dX11_near_22 : decode cX11_near 22 = .ok (.istore_n 3, 1) := dk_get kX11_near_ok 12 rfl
theorem dX11_near_23 : decode cX11_near 23 = .ok (.iload_n 3, 1) := dk_get kX11_near_ok 13 rfl
theorem dX11_near_24 : decode cX11_near 24 = .ok (.ifCond .ge 7, 3) := dk_get kX11_near_ok 14 rfl
theorem dX11_near_27 : decode cX11_near 27 = .ok (.iload_n 3, 1) := dk_get kX11_near_ok 15 rfl
theorem dX11_near_28 : decode cX11_near 28 = .ok (.goto 10, 3) := dk_get kX11_near_ok 16 rfl
theorem dX11_near_31 : decode cX11_near 31 = .ok (.aload_n 0, 1) := dk_get kX11_near_ok 17 rfl
theorem dX11_near_32 : decode cX11_near 32 = .ok (.getfield 89, 3) := dk_get kX11_near_ok 18 rfl
theorem dX11_near_35 : decode cX11_near 35 = .ok (.getfield 351, 3) := dk_get kX11_near_ok 19 rfl
theorem dX11_near_38 : decode cX11_near 38 = .ok (.ireturn, 1) := dk_get kX11_near_ok 20 rfl
def kX11_nearest : List (Nat × Instr × Nat) := [(0, .aload_n 0, 1), (1, .iload_n 1, 1), (2, .invokevirtual 126, 3), (5, .iload_n 2, 1), (6, .iconst 0, 1), (7, .ldc_w 347, 3), (10, .invokestatic 100, 3), (13, .invokestatic 104, 3), (16, .aload_n 0, 1), (17, .iload_n 1, 1), (18, .iload_n 2, 1), (19, .invokevirtual 348, 3), (22, .istore_n 3, 1), (23, .iload_n 3, 1), (24, .ifCond .ge 7, 3), (27, .iload_n 3, 1), (28, .goto 11, 3), (31, .aload_n 0, 1), (32, .getfield 89, 3), (35, .iload_n 1, 1), (36, .invokevirtual 316, 3), (39, .ireturn, 1)]
set_option maxRecDepth 100000 in
theorem kX11_nearest_ok : kX11_nearest.all (fun q => decide (decode cX11_nearest q.1 = .ok q.2)) = true := by decide +kernel
theorem dX11_nearest_0 : decode cX11_nearest 0 = .ok (.aload_n 0, 1) := dk_get kX11_nearest_ok 0 rfl
theorem dX11_nearest_1 : decode cX11_nearest 1 = .ok (.iload_n 1, 1) := dk_get kX11_nearest_ok 1 rfl
theorem dX11_nearest_2 : decode cX11_nearest 2 = .ok (.invokevirtual 126, 3) := dk_get kX11_nearest_ok 2 rfl
theorem dX11_nearest_5 : decode cX11_nearest 5 = .ok (.iload_n 2, 1) := dk_get kX11_nearest_ok 3 rfl
theorem dX11_nearest_6 : decode cX11_nearest 6 = .ok (.iconst 0, 1) := dk_get kX11_nearest_ok 4 rfl
theorem dX11_nearest_7 : decode cX11_nearest 7 = .ok (.ldc_w 347, 3) := dk_get kX11_nearest_ok 5 rfl
theorem dX11_nearest_10 : decode cX11_nearest 10 = .ok (.invokestatic 100, 3) := dk_get kX11_nearest_ok 6 rfl
theorem dX11_nearest_13 : decode cX11_nearest 13 = .ok (.invokestatic 104, 3) := dk_get kX11_nearest_ok 7 rfl
theorem dX11_nearest_16 : decode cX11_nearest 16 = .ok (.aload_n 0, 1) := dk_get kX11_nearest_ok 8 rfl
theorem dX11_nearest_17 : decode cX11_nearest 17 = .ok (.iload_n 1, 1) := dk_get kX11_nearest_ok 9 rfl
theorem dX11_nearest_18 : decode cX11_nearest 18 = .ok (.iload_n 2, 1) := dk_get kX11_nearest_ok 10 rfl
theorem dX11_nearest_19 : decode cX11_nearest 19 = .ok (.invokevirtual 348, 3) := dk_get kX11_nearest_ok 11 rfl
theorem dX11_nearest_22 : decode cX11_nearest 22 = .ok (.istore_n 3, 1) := dk_get kX11_nearest_ok 12 rfl
theorem dX11_nearest_23 : decode cX11_nearest 23 = .ok (.iload_n 3, 1) := dk_get kX11_nearest_ok 13 rfl
theorem dX11_nearest_24 : decode cX11_nearest 24 = .ok (.ifCond .ge 7, 3) := dk_get kX11_nearest_ok 14 rfl
theorem dX11_nearest_27 : decode cX11_nearest 27 = .ok (.iload_n 3, 1) := dk_get kX11_nearest_ok 15 rfl
theorem dX11_nearest_28 : decode cX11_nearest 28 = .ok (.goto 11, 3) := dk_get kX11_nearest_ok 16 rfl
theorem dX11_nearest_31 : decode cX11_nearest 31 = .ok (.aload_n 0, 1) := dk_get kX11_nearest_ok 17 rfl
theorem dX11_nearest_32 : decode cX11_nearest 32 = .ok (.getfield 89, 3) := dk_get kX11_nearest_ok 18 rfl
theorem dX11_nearest_35 : decode cX11_nearest 35 = .ok (.iload_n 1, 1) := dk_get kX11_nearest_ok 19 rfl
theorem dX11_nearest_36 : decode cX11_nearest 36 = .ok (.invokevirtual 316, 3) := dk_get kX11_nearest_ok 20 rfl
theorem dX11_nearest_39 : decode cX11_nearest 39 = .ok (.ireturn, 1) := dk_get kX11_nearest_ok 21 rfl
def kX11_without : List (Nat × Instr × Nat) := [(0, .iload_n 1, 1), (1, .iconst 0, 1), (2, .bipush 7, 2), (4, .invokestatic 100, 3), (7, .invokestatic 104, 3), (10, .aload_n 0, 1), (11, .aload_n 0, 1), (12, .getfield 12, 3), (15, .iload_n 1, 1), (16, .invokevirtual 354, 3), (19, .aload_n 0, 1), (20, .getfield 97, 3), (23, .invokevirtual 322, 3), (26, .lreturn, 1)]
set_option maxRecDepth 100000 in
theorem kX11_without_ok : kX11_without.all (fun q => decide (decode cX11_without q.1 = .ok q.2)) = true := by decide +kernel
theorem dX11_without_0 : decode cX11_without 0 = .ok (.iload_n 1, 1) := dk_get kX11_without_ok 0 rfl
theorem dX11_without_1 : decode cX11_without 1 = .ok (.iconst 0, 1) := dk_get kX11_without_ok 1 rfl
theorem dX11_without_2 : decode cX11_without 2 = .ok (.bipush 7, 2) := dk_get kX11_without_ok 2 rfl
theorem dX11_without_4 : decode cX11_without 4 = .ok (.invokestatic 100, 3) := dk_get kX11_without_ok 3 rfl
theorem dX11_without_7 : decode cX11_without 7 = .ok (.invokestatic 104, 3) := dk_get kX11_without_ok 4 rfl
theorem dX11_without_10 : decode cX11_without 10 = .ok (.aload_n 0, 1) := dk_get kX11_without_ok 5 rfl
theorem dX11_without_11 : decode cX11_without 11 = .ok (.aload_n 0, 1) := dk_get kX11_without_ok 6 rfl
theorem dX11_without_12 : decode cX11_without 12 = .ok (.getfield 12, 3) := dk_get kX11_without_ok 7 rfl
theorem dX11_without_15 : decode cX11_without 15 = .ok (.iload_n 1, 1) := dk_get kX11_without_ok 8 rfl
theorem dX11_without_16 : decode cX11_without 16 = .ok (.invokevirtual 354, 3) := dk_get kX11_without_ok 9 rfl
theorem dX11_without_19 : decode cX11_without 19 = .ok (.aload_n 0, 1) := dk_get kX11_without_ok 10 rfl
theorem dX11_without_20 : decode cX11_without 20 = .ok (.getfield 97, 3) := dk_get kX11_without_ok 11 rfl
theorem dX11_without_23 : decode cX11_without 23 = .ok (.invokevirtual 322, 3) := dk_get kX11_without_ok 12 rfl
theorem dX11_without_26 : decode cX11_without 26 = .ok (.lreturn, 1) := dk_get kX11_without_ok 13 rfl
def kX11_stands : List (Nat × Instr × Nat) := [(0, .iload_n 1, 1), (1, .iconst 0, 1), (2, .bipush 7, 2), (4, .invokestatic 100, 3), (7, .invokestatic 104, 3), (10, .aload_n 0, 1), (11, .aload_n 0, 1), (12, .getfield 12, 3), (15, .invokevirtual 319, 3), (18, .aload_n 0, 1), (19, .getfield 93, 3), (22, .invokevirtual 322, 3), (25, .lstore_n 2, 1), (26, .lload_n 2, 1), (27, .lconst 0, 1), (28, .lcmp, 1), (29, .ifCond .ge 6, 3), (32, .lload_n 2, 1), (33, .l2i, 1), (34, .ireturn, 1), (35, .aload_n 0, 1), (36, .getfield 12, 3), (39, .iload_n 1, 1), (40, .invokevirtual 354, 3), (43, .istore 4, 2), (45, .aload_n 0, 1), (46, .iload 4, 2), (48, .aload_n 0, 1), (49, .getfield 97, 3), (52, .invokevirtual 322, 3), (55, .lstore_n 2, 1), (56, .lload_n 2, 1), (57, .lconst 0, 1), (58, .lcmp, 1), (59, .ifCond .ge 6, 3), (62, .lload_n 2, 1), (63, .l2i, 1), (64, .ireturn, 1), (65, .iconst 0, 1), (66, .istore 5, 2), (68, .iconst 0, 1), (69, .istore 6, 2), (71, .iload 6, 2), (73, .aload_n 0, 1), (74, .getfield 12, 3), (77, .getfield 108, 3), (80, .if_icmp .ge 50, 3), (83, .aload_n 0, 1), (84, .aload_n 0, 1), (85, .getfield 93, 3), (88, .iload 6, 2), (90, .invokevirtual 357, 3), (93, .iload 4, 2), (95, .iand, 1), (96, .istore 7, 2), (98, .iload 7, 2), (100, .ifCond .eq 24, 3), (103, .iload 7, 2), (105, .aload_n 0, 1), (106, .aload_n 0, 1), (107, .getfield 97, 3), (110, .iload 7, 2), (112, .invokestatic 140, 3), (115, .invokevirtual 357, 3), (118, .if_icmp .ne 6, 3), (121, .iinc 5 1, 3), (124, .iinc 6 1, 3), (127, .goto (-56), 3), (130, .iload 5, 2), (132, .ireturn, 1)]
set_option maxRecDepth 100000 in
theorem kX11_stands_ok : kX11_stands.all (fun q => decide (decode cX11_stands q.1 = .ok q.2)) = true := by decide +kernel
theorem dX11_stands_0 : decode cX11_stands 0 = .ok (.iload_n 1, 1) := dk_get kX11_stands_ok 0 rfl
theorem dX11_stands_1 : decode cX11_stands 1 = .ok (.iconst 0, 1) := dk_get kX11_stands_ok 1 rfl
theorem dX11_stands_2 : decode cX11_stands 2 = .ok (.bipush 7, 2) := dk_get kX11_stands_ok 2 rfl
theorem dX11_stands_4 : decode cX11_stands 4 = .ok (.invokestatic 100, 3) := dk_get kX11_stands_ok 3 rfl
theorem dX11_stands_7 : decode cX11_stands 7 = .ok (.invokestatic 104, 3) := dk_get kX11_stands_ok 4 rfl
theorem dX11_stands_10 : decode cX11_stands 10 = .ok (.aload_n 0, 1) := dk_get kX11_stands_ok 5 rfl
theorem dX11_stands_11 : decode cX11_stands 11 = .ok (.aload_n 0, 1) := dk_get kX11_stands_ok 6 rfl
theorem dX11_stands_12 : decode cX11_stands 12 = .ok (.getfield 12, 3) := dk_get kX11_stands_ok 7 rfl
theorem dX11_stands_15 : decode cX11_stands 15 = .ok (.invokevirtual 319, 3) := dk_get kX11_stands_ok 8 rfl
theorem dX11_stands_18 : decode cX11_stands 18 = .ok (.aload_n 0, 1) := dk_get kX11_stands_ok 9 rfl
theorem dX11_stands_19 : decode cX11_stands 19 = .ok (.getfield 93, 3) := dk_get kX11_stands_ok 10 rfl
theorem dX11_stands_22 : decode cX11_stands 22 = .ok (.invokevirtual 322, 3) := dk_get kX11_stands_ok 11 rfl
theorem dX11_stands_25 : decode cX11_stands 25 = .ok (.lstore_n 2, 1) := dk_get kX11_stands_ok 12 rfl
theorem dX11_stands_26 : decode cX11_stands 26 = .ok (.lload_n 2, 1) := dk_get kX11_stands_ok 13 rfl
theorem dX11_stands_27 : decode cX11_stands 27 = .ok (.lconst 0, 1) := dk_get kX11_stands_ok 14 rfl
theorem dX11_stands_28 : decode cX11_stands 28 = .ok (.lcmp, 1) := dk_get kX11_stands_ok 15 rfl
theorem dX11_stands_29 : decode cX11_stands 29 = .ok (.ifCond .ge 6, 3) := dk_get kX11_stands_ok 16 rfl
theorem dX11_stands_32 : decode cX11_stands 32 = .ok (.lload_n 2, 1) := dk_get kX11_stands_ok 17 rfl
theorem dX11_stands_33 : decode cX11_stands 33 = .ok (.l2i, 1) := dk_get kX11_stands_ok 18 rfl
theorem dX11_stands_34 : decode cX11_stands 34 = .ok (.ireturn, 1) := dk_get kX11_stands_ok 19 rfl
theorem dX11_stands_35 : decode cX11_stands 35 = .ok (.aload_n 0, 1) := dk_get kX11_stands_ok 20 rfl
theorem dX11_stands_36 : decode cX11_stands 36 = .ok (.getfield 12, 3) := dk_get kX11_stands_ok 21 rfl
theorem dX11_stands_39 : decode cX11_stands 39 = .ok (.iload_n 1, 1) := dk_get kX11_stands_ok 22 rfl
theorem dX11_stands_40 : decode cX11_stands 40 = .ok (.invokevirtual 354, 3) := dk_get kX11_stands_ok 23 rfl
theorem dX11_stands_43 : decode cX11_stands 43 = .ok (.istore 4, 2) := dk_get kX11_stands_ok 24 rfl
theorem dX11_stands_45 : decode cX11_stands 45 = .ok (.aload_n 0, 1) := dk_get kX11_stands_ok 25 rfl
theorem dX11_stands_46 : decode cX11_stands 46 = .ok (.iload 4, 2) := dk_get kX11_stands_ok 26 rfl
theorem dX11_stands_48 : decode cX11_stands 48 = .ok (.aload_n 0, 1) := dk_get kX11_stands_ok 27 rfl
theorem dX11_stands_49 : decode cX11_stands 49 = .ok (.getfield 97, 3) := dk_get kX11_stands_ok 28 rfl
theorem dX11_stands_52 : decode cX11_stands 52 = .ok (.invokevirtual 322, 3) := dk_get kX11_stands_ok 29 rfl
theorem dX11_stands_55 : decode cX11_stands 55 = .ok (.lstore_n 2, 1) := dk_get kX11_stands_ok 30 rfl
theorem dX11_stands_56 : decode cX11_stands 56 = .ok (.lload_n 2, 1) := dk_get kX11_stands_ok 31 rfl
theorem dX11_stands_57 : decode cX11_stands 57 = .ok (.lconst 0, 1) := dk_get kX11_stands_ok 32 rfl
theorem dX11_stands_58 : decode cX11_stands 58 = .ok (.lcmp, 1) := dk_get kX11_stands_ok 33 rfl
theorem dX11_stands_59 : decode cX11_stands 59 = .ok (.ifCond .ge 6, 3) := dk_get kX11_stands_ok 34 rfl
theorem dX11_stands_62 : decode cX11_stands 62 = .ok (.lload_n 2, 1) := dk_get kX11_stands_ok 35 rfl
theorem dX11_stands_63 : decode cX11_stands 63 = .ok (.l2i, 1) := dk_get kX11_stands_ok 36 rfl
theorem dX11_stands_64 : decode cX11_stands 64 = .ok (.ireturn, 1) := dk_get kX11_stands_ok 37 rfl
theorem dX11_stands_65 : decode cX11_stands 65 = .ok (.iconst 0, 1) := dk_get kX11_stands_ok 38 rfl
theorem dX11_stands_66 : decode cX11_stands 66 = .ok (.istore 5, 2) := dk_get kX11_stands_ok 39 rfl
theorem dX11_stands_68 : decode cX11_stands 68 = .ok (.iconst 0, 1) := dk_get kX11_stands_ok 40 rfl
theorem dX11_stands_69 : decode cX11_stands 69 = .ok (.istore 6, 2) := dk_get kX11_stands_ok 41 rfl
theorem dX11_stands_71 : decode cX11_stands 71 = .ok (.iload 6, 2) := dk_get kX11_stands_ok 42 rfl
theorem dX11_stands_73 : decode cX11_stands 73 = .ok (.aload_n 0, 1) := dk_get kX11_stands_ok 43 rfl
theorem dX11_stands_74 : decode cX11_stands 74 = .ok (.getfield 12, 3) := dk_get kX11_stands_ok 44 rfl
theorem dX11_stands_77 : decode cX11_stands 77 = .ok (.getfield 108, 3) := dk_get kX11_stands_ok 45 rfl
theorem dX11_stands_80 : decode cX11_stands 80 = .ok (.if_icmp .ge 50, 3) := dk_get kX11_stands_ok 46 rfl
theorem dX11_stands_83 : decode cX11_stands 83 = .ok (.aload_n 0, 1) := dk_get kX11_stands_ok 47 rfl
theorem dX11_stands_84 : decode cX11_stands 84 = .ok (.aload_n 0, 1) := dk_get kX11_stands_ok 48 rfl
theorem dX11_stands_85 : decode cX11_stands 85 = .ok (.getfield 93, 3) := dk_get kX11_stands_ok 49 rfl
theorem dX11_stands_88 : decode cX11_stands 88 = .ok (.iload 6, 2) := dk_get kX11_stands_ok 50 rfl
theorem dX11_stands_90 : decode cX11_stands 90 = .ok (.invokevirtual 357, 3) := dk_get kX11_stands_ok 51 rfl
theorem dX11_stands_93 : decode cX11_stands 93 = .ok (.iload 4, 2) := dk_get kX11_stands_ok 52 rfl
theorem dX11_stands_95 : decode cX11_stands 95 = .ok (.iand, 1) := dk_get kX11_stands_ok 53 rfl
theorem dX11_stands_96 : decode cX11_stands 96 = .ok (.istore 7, 2) := dk_get kX11_stands_ok 54 rfl
theorem dX11_stands_98 : decode cX11_stands 98 = .ok (.iload 7, 2) := dk_get kX11_stands_ok 55 rfl
theorem dX11_stands_100 : decode cX11_stands 100 = .ok (.ifCond .eq 24, 3) := dk_get kX11_stands_ok 56 rfl
theorem dX11_stands_103 : decode cX11_stands 103 = .ok (.iload 7, 2) := dk_get kX11_stands_ok 57 rfl
theorem dX11_stands_105 : decode cX11_stands 105 = .ok (.aload_n 0, 1) := dk_get kX11_stands_ok 58 rfl
theorem dX11_stands_106 : decode cX11_stands 106 = .ok (.aload_n 0, 1) := dk_get kX11_stands_ok 59 rfl
theorem dX11_stands_107 : decode cX11_stands 107 = .ok (.getfield 97, 3) := dk_get kX11_stands_ok 60 rfl
theorem dX11_stands_110 : decode cX11_stands 110 = .ok (.iload 7, 2) := dk_get kX11_stands_ok 61 rfl
theorem dX11_stands_112 : decode cX11_stands 112 = .ok (.invokestatic 140, 3) := dk_get kX11_stands_ok 62 rfl
theorem dX11_stands_115 : decode cX11_stands 115 = .ok (.invokevirtual 357, 3) := dk_get kX11_stands_ok 63 rfl
theorem dX11_stands_118 : decode cX11_stands 118 = .ok (.if_icmp .ne 6, 3) := dk_get kX11_stands_ok 64 rfl
theorem dX11_stands_121 : decode cX11_stands 121 = .ok (.iinc 5 1, 3) := dk_get kX11_stands_ok 65 rfl
theorem dX11_stands_124 : decode cX11_stands 124 = .ok (.iinc 6 1, 3) := dk_get kX11_stands_ok 66 rfl
theorem dX11_stands_127 : decode cX11_stands 127 = .ok (.goto (-56), 3) := dk_get kX11_stands_ok 67 rfl
theorem dX11_stands_130 : decode cX11_stands 130 = .ok (.iload 5, 2) := dk_get kX11_stands_ok 68 rfl
theorem dX11_stands_132 : decode cX11_stands 132 = .ok (.ireturn, 1) := dk_get kX11_stands_ok 69 rfl
def kX11_mark : List (Nat × Instr × Nat) := [(0, .aload_n 0, 1), (1, .getfield 48, 3), (4, .invokevirtual 361, 3), (7, .ifCond .eq 13, 3), (10, .aload_n 0, 1), (11, .getfield 48, 3), (14, .getfield 365, 3), (17, .goto 4, 3), (20, .iconst (-1), 1), (21, .ireturn, 1)]
set_option maxRecDepth 100000 in
theorem kX11_mark_ok : kX11_mark.all (fun q => decide (decode cX11_mark q.1 = .ok q.2)) = true := by decide +kernel
theorem dX11_mark_0 : decode cX11_mark 0 = .ok (.aload_n 0, 1) := dk_get kX11_mark_ok 0 rfl
theorem dX11_mark_1 : decode cX11_mark 1 = .ok (.getfield 48, 3) := dk_get kX11_mark_ok 1 rfl
theorem dX11_mark_4 : decode cX11_mark 4 = .ok (.invokevirtual 361, 3) := dk_get kX11_mark_ok 2 rfl
theorem dX11_mark_7 : decode cX11_mark 7 = .ok (.ifCond .eq 13, 3) := dk_get kX11_mark_ok 3 rfl
theorem dX11_mark_10 : decode cX11_mark 10 = .ok (.aload_n 0, 1) := dk_get kX11_mark_ok 4 rfl
theorem dX11_mark_11 : decode cX11_mark 11 = .ok (.getfield 48, 3) := dk_get kX11_mark_ok 5 rfl
theorem dX11_mark_14 : decode cX11_mark 14 = .ok (.getfield 365, 3) := dk_get kX11_mark_ok 6 rfl
theorem dX11_mark_17 : decode cX11_mark 17 = .ok (.goto 4, 3) := dk_get kX11_mark_ok 7 rfl
theorem dX11_mark_20 : decode cX11_mark 20 = .ok (.iconst (-1), 1) := dk_get kX11_mark_ok 8 rfl
theorem dX11_mark_21 : decode cX11_mark 21 = .ok (.ireturn, 1) := dk_get kX11_mark_ok 9 rfl
def kX11_back : List (Nat × Instr × Nat) := [(0, .aload_n 0, 1), (1, .getfield 48, 3), (4, .invokevirtual 368, 3), (7, .ifCond .eq 13, 3), (10, .aload_n 0, 1), (11, .getfield 48, 3), (14, .getfield 365, 3), (17, .goto 4, 3), (20, .iconst (-1), 1), (21, .ireturn, 1)]
set_option maxRecDepth 100000 in
theorem kX11_back_ok : kX11_back.all (fun q => decide (decode cX11_back q.1 = .ok q.2)) = true := by decide +kernel
theorem dX11_back_0 : decode cX11_back 0 = .ok (.aload_n 0, 1) := dk_get kX11_back_ok 0 rfl
theorem dX11_back_1 : decode cX11_back 1 = .ok (.getfield 48, 3) := dk_get kX11_back_ok 1 rfl
theorem dX11_back_4 : decode cX11_back 4 = .ok (.invokevirtual 368, 3) := dk_get kX11_back_ok 2 rfl
theorem dX11_back_7 : decode cX11_back 7 = .ok (.ifCond .eq 13, 3) := dk_get kX11_back_ok 3 rfl
theorem dX11_back_10 : decode cX11_back 10 = .ok (.aload_n 0, 1) := dk_get kX11_back_ok 4 rfl
theorem dX11_back_11 : decode cX11_back 11 = .ok (.getfield 48, 3) := dk_get kX11_back_ok 5 rfl
theorem dX11_back_14 : decode cX11_back 14 = .ok (.getfield 365, 3) := dk_get kX11_back_ok 6 rfl
theorem dX11_back_17 : decode cX11_back 17 = .ok (.goto 4, 3) := dk_get kX11_back_ok 7 rfl
theorem dX11_back_20 : decode cX11_back 20 = .ok (.iconst (-1), 1) := dk_get kX11_back_ok 8 rfl
theorem dX11_back_21 : decode cX11_back 21 = .ok (.ireturn, 1) := dk_get kX11_back_ok 9 rfl
def kX11_count : List (Nat × Instr × Nat) := [(0, .iload_n 1, 1), (1, .tableswitch 145 0 9 #[55, 63, 74, 82, 90, 98, 113, 121, 129, 137], 55), (56, .aload_n 0, 1), (57, .getfield 12, 3), (60, .getfield 108, 3), (63, .ireturn, 1), (64, .aload_n 0, 1), (65, .getfield 30, 3), (68, .getfield 167, 3), (71, .getfield 170, 3), (74, .ireturn, 1), (75, .aload_n 0, 1), (76, .getfield 30, 3), (79, .getfield 196, 3), (82, .ireturn, 1), (83, .aload_n 0, 1), (84, .getfield 39, 3), (87, .getfield 212, 3), (90, .ireturn, 1), (91, .aload_n 0, 1), (92, .getfield 48, 3), (95, .invokevirtual 371, 3), (98, .ireturn, 1), (99, .aload_n 0, 1), (100, .getfield 73, 3), (103, .aload_n 0, 1), (104, .getfield 12, 3), (107, .invokevirtual 319, 3), (110, .invokevirtual 374, 3), (113, .ireturn, 1), (114, .aload_n 0, 1), (115, .getfield 66, 3), (118, .getfield 293, 3), (121, .ireturn, 1), (122, .aload_n 0, 1), (123, .getfield 48, 3), (126, .getfield 365, 3), (129, .ireturn, 1), (130, .aload_n 0, 1), (131, .getfield 21, 3), (134, .getfield 150, 3), (137, .ireturn, 1), (138, .aload_n 0, 1), (139, .getfield 30, 3), (142, .invokevirtual 377, 3), (145, .ireturn, 1), (146, .iconst (-1), 1), (147, .ireturn, 1)]
set_option maxRecDepth 100000 in
theorem kX11_count_ok : kX11_count.all (fun q => decide (decode cX11_count q.1 = .ok q.2)) = true := by decide +kernel
theorem dX11_count_0 : decode cX11_count 0 = .ok (.iload_n 1, 1) := dk_get kX11_count_ok 0 rfl
theorem dX11_count_1 : decode cX11_count 1 = .ok (.tableswitch 145 0 9 #[55, 63, 74, 82, 90, 98, 113, 121, 129, 137], 55) := dk_get kX11_count_ok 1 rfl
theorem dX11_count_56 : decode cX11_count 56 = .ok (.aload_n 0, 1) := dk_get kX11_count_ok 2 rfl
theorem dX11_count_57 : decode cX11_count 57 = .ok (.getfield 12, 3) := dk_get kX11_count_ok 3 rfl
theorem dX11_count_60 : decode cX11_count 60 = .ok (.getfield 108, 3) := dk_get kX11_count_ok 4 rfl
theorem dX11_count_63 : decode cX11_count 63 = .ok (.ireturn, 1) := dk_get kX11_count_ok 5 rfl
theorem dX11_count_64 : decode cX11_count 64 = .ok (.aload_n 0, 1) := dk_get kX11_count_ok 6 rfl
theorem dX11_count_65 : decode cX11_count 65 = .ok (.getfield 30, 3) := dk_get kX11_count_ok 7 rfl
theorem dX11_count_68 : decode cX11_count 68 = .ok (.getfield 167, 3) := dk_get kX11_count_ok 8 rfl
theorem dX11_count_71 : decode cX11_count 71 = .ok (.getfield 170, 3) := dk_get kX11_count_ok 9 rfl
theorem dX11_count_74 : decode cX11_count 74 = .ok (.ireturn, 1) := dk_get kX11_count_ok 10 rfl
theorem dX11_count_75 : decode cX11_count 75 = .ok (.aload_n 0, 1) := dk_get kX11_count_ok 11 rfl
theorem dX11_count_76 : decode cX11_count 76 = .ok (.getfield 30, 3) := dk_get kX11_count_ok 12 rfl
theorem dX11_count_79 : decode cX11_count 79 = .ok (.getfield 196, 3) := dk_get kX11_count_ok 13 rfl
theorem dX11_count_82 : decode cX11_count 82 = .ok (.ireturn, 1) := dk_get kX11_count_ok 14 rfl
theorem dX11_count_83 : decode cX11_count 83 = .ok (.aload_n 0, 1) := dk_get kX11_count_ok 15 rfl
theorem dX11_count_84 : decode cX11_count 84 = .ok (.getfield 39, 3) := dk_get kX11_count_ok 16 rfl
theorem dX11_count_87 : decode cX11_count 87 = .ok (.getfield 212, 3) := dk_get kX11_count_ok 17 rfl
theorem dX11_count_90 : decode cX11_count 90 = .ok (.ireturn, 1) := dk_get kX11_count_ok 18 rfl
theorem dX11_count_91 : decode cX11_count 91 = .ok (.aload_n 0, 1) := dk_get kX11_count_ok 19 rfl
theorem dX11_count_92 : decode cX11_count 92 = .ok (.getfield 48, 3) := dk_get kX11_count_ok 20 rfl
theorem dX11_count_95 : decode cX11_count 95 = .ok (.invokevirtual 371, 3) := dk_get kX11_count_ok 21 rfl
theorem dX11_count_98 : decode cX11_count 98 = .ok (.ireturn, 1) := dk_get kX11_count_ok 22 rfl
theorem dX11_count_99 : decode cX11_count 99 = .ok (.aload_n 0, 1) := dk_get kX11_count_ok 23 rfl
theorem dX11_count_100 : decode cX11_count 100 = .ok (.getfield 73, 3) := dk_get kX11_count_ok 24 rfl
theorem dX11_count_103 : decode cX11_count 103 = .ok (.aload_n 0, 1) := dk_get kX11_count_ok 25 rfl
theorem dX11_count_104 : decode cX11_count 104 = .ok (.getfield 12, 3) := dk_get kX11_count_ok 26 rfl
theorem dX11_count_107 : decode cX11_count 107 = .ok (.invokevirtual 319, 3) := dk_get kX11_count_ok 27 rfl
theorem dX11_count_110 : decode cX11_count 110 = .ok (.invokevirtual 374, 3) := dk_get kX11_count_ok 28 rfl
theorem dX11_count_113 : decode cX11_count 113 = .ok (.ireturn, 1) := dk_get kX11_count_ok 29 rfl
theorem dX11_count_114 : decode cX11_count 114 = .ok (.aload_n 0, 1) := dk_get kX11_count_ok 30 rfl
theorem dX11_count_115 : decode cX11_count 115 = .ok (.getfield 66, 3) := dk_get kX11_count_ok 31 rfl
theorem dX11_count_118 : decode cX11_count 118 = .ok (.getfield 293, 3) := dk_get kX11_count_ok 32 rfl
theorem dX11_count_121 : decode cX11_count 121 = .ok (.ireturn, 1) := dk_get kX11_count_ok 33 rfl
theorem dX11_count_122 : decode cX11_count 122 = .ok (.aload_n 0, 1) := dk_get kX11_count_ok 34 rfl
theorem dX11_count_123 : decode cX11_count 123 = .ok (.getfield 48, 3) := dk_get kX11_count_ok 35 rfl
theorem dX11_count_126 : decode cX11_count 126 = .ok (.getfield 365, 3) := dk_get kX11_count_ok 36 rfl
theorem dX11_count_129 : decode cX11_count 129 = .ok (.ireturn, 1) := dk_get kX11_count_ok 37 rfl
theorem dX11_count_130 : decode cX11_count 130 = .ok (.aload_n 0, 1) := dk_get kX11_count_ok 38 rfl
theorem dX11_count_131 : decode cX11_count 131 = .ok (.getfield 21, 3) := dk_get kX11_count_ok 39 rfl
theorem dX11_count_134 : decode cX11_count 134 = .ok (.getfield 150, 3) := dk_get kX11_count_ok 40 rfl
theorem dX11_count_137 : decode cX11_count 137 = .ok (.ireturn, 1) := dk_get kX11_count_ok 41 rfl
theorem dX11_count_138 : decode cX11_count 138 = .ok (.aload_n 0, 1) := dk_get kX11_count_ok 42 rfl
theorem dX11_count_139 : decode cX11_count 139 = .ok (.getfield 30, 3) := dk_get kX11_count_ok 43 rfl
theorem dX11_count_142 : decode cX11_count 142 = .ok (.invokevirtual 377, 3) := dk_get kX11_count_ok 44 rfl
theorem dX11_count_145 : decode cX11_count 145 = .ok (.ireturn, 1) := dk_get kX11_count_ok 45 rfl
theorem dX11_count_146 : decode cX11_count 146 = .ok (.iconst (-1), 1) := dk_get kX11_count_ok 46 rfl
theorem dX11_count_147 : decode cX11_count 147 = .ok (.ireturn, 1) := dk_get kX11_count_ok 47 rfl
def kX11_isWithin : List (Nat × Instr × Nat) := [(0, .iload_n 0, 1), (1, .iload_n 1, 1), (2, .if_icmp .lt 12, 3), (5, .iload_n 0, 1), (6, .iload_n 2, 1), (7, .if_icmp .gt 7, 3), (10, .iconst 1, 1), (11, .goto 4, 3), (14, .iconst 0, 1), (15, .ireturn, 1)]
set_option maxRecDepth 100000 in
theorem kX11_isWithin_ok : kX11_isWithin.all (fun q => decide (decode cX11_isWithin q.1 = .ok q.2)) = true := by decide +kernel
theorem dX11_isWithin_0 : decode cX11_isWithin 0 = .ok (.iload_n 0, 1) := dk_get kX11_isWithin_ok 0 rfl
theorem dX11_isWithin_1 : decode cX11_isWithin 1 = .ok (.iload_n 1, 1) := dk_get kX11_isWithin_ok 1 rfl
theorem dX11_isWithin_2 : decode cX11_isWithin 2 = .ok (.if_icmp .lt 12, 3) := dk_get kX11_isWithin_ok 2 rfl
theorem dX11_isWithin_5 : decode cX11_isWithin 5 = .ok (.iload_n 0, 1) := dk_get kX11_isWithin_ok 3 rfl
theorem dX11_isWithin_6 : decode cX11_isWithin 6 = .ok (.iload_n 2, 1) := dk_get kX11_isWithin_ok 4 rfl
theorem dX11_isWithin_7 : decode cX11_isWithin 7 = .ok (.if_icmp .gt 7, 3) := dk_get kX11_isWithin_ok 5 rfl
theorem dX11_isWithin_10 : decode cX11_isWithin 10 = .ok (.iconst 1, 1) := dk_get kX11_isWithin_ok 6 rfl
theorem dX11_isWithin_11 : decode cX11_isWithin 11 = .ok (.goto 4, 3) := dk_get kX11_isWithin_ok 7 rfl
theorem dX11_isWithin_14 : decode cX11_isWithin 14 = .ok (.iconst 0, 1) := dk_get kX11_isWithin_ok 8 rfl
theorem dX11_isWithin_15 : decode cX11_isWithin 15 = .ok (.ireturn, 1) := dk_get kX11_isWithin_ok 9 rfl
def kX11_refuseUnless : List (Nat × Instr × Nat) := [(0, .iload_n 0, 1), (1, .ifCond .ne 11, 3), (4, .new 380, 3), (7, .dup, 1), (8, .invokespecial 382, 3), (11, .athrow, 1), (12, .return_, 1)]
set_option maxRecDepth 100000 in
theorem kX11_refuseUnless_ok : kX11_refuseUnless.all (fun q => decide (decode cX11_refuseUnless q.1 = .ok q.2)) = true := by decide +kernel
theorem dX11_refuseUnless_0 : decode cX11_refuseUnless 0 = .ok (.iload_n 0, 1) := dk_get kX11_refuseUnless_ok 0 rfl
theorem dX11_refuseUnless_1 : decode cX11_refuseUnless 1 = .ok (.ifCond .ne 11, 3) := dk_get kX11_refuseUnless_ok 1 rfl
theorem dX11_refuseUnless_4 : decode cX11_refuseUnless 4 = .ok (.new 380, 3) := dk_get kX11_refuseUnless_ok 2 rfl
theorem dX11_refuseUnless_7 : decode cX11_refuseUnless 7 = .ok (.dup, 1) := dk_get kX11_refuseUnless_ok 3 rfl
theorem dX11_refuseUnless_8 : decode cX11_refuseUnless 8 = .ok (.invokespecial 382, 3) := dk_get kX11_refuseUnless_ok 4 rfl
theorem dX11_refuseUnless_11 : decode cX11_refuseUnless 11 = .ok (.athrow, 1) := dk_get kX11_refuseUnless_ok 5 rfl
theorem dX11_refuseUnless_12 : decode cX11_refuseUnless 12 = .ok (.return_, 1) := dk_get kX11_refuseUnless_ok 6 rfl
def kX11_needEntry : List (Nat × Instr × Nat) := [(0, .iload_n 1, 1), (1, .ifCond .lt 14, 3), (4, .iload_n 1, 1), (5, .aload_n 0, 1), (6, .getfield 12, 3), (9, .getfield 108, 3), (12, .if_icmp .lt 11, 3), (15, .new 383, 3), (18, .dup, 1), (19, .invokespecial 385, 3), (22, .athrow, 1), (23, .return_, 1)]
set_option maxRecDepth 100000 in
theorem kX11_needEntry_ok : kX11_needEntry.all (fun q => decide (decode cX11_needEntry q.1 = .ok q.2)) = true := by decide +kernel
theorem dX11_needEntry_0 : decode cX11_needEntry 0 = .ok (.iload_n 1, 1) := dk_get kX11_needEntry_ok 0 rfl
theorem dX11_needEntry_1 : decode cX11_needEntry 1 = .ok (.ifCond .lt 14, 3) := dk_get kX11_needEntry_ok 1 rfl
theorem dX11_needEntry_4 : decode cX11_needEntry 4 = .ok (.iload_n 1, 1) := dk_get kX11_needEntry_ok 2 rfl
theorem dX11_needEntry_5 : decode cX11_needEntry 5 = .ok (.aload_n 0, 1) := dk_get kX11_needEntry_ok 3 rfl
theorem dX11_needEntry_6 : decode cX11_needEntry 6 = .ok (.getfield 12, 3) := dk_get kX11_needEntry_ok 4 rfl
theorem dX11_needEntry_9 : decode cX11_needEntry 9 = .ok (.getfield 108, 3) := dk_get kX11_needEntry_ok 5 rfl
theorem dX11_needEntry_12 : decode cX11_needEntry 12 = .ok (.if_icmp .lt 11, 3) := dk_get kX11_needEntry_ok 6 rfl
theorem dX11_needEntry_15 : decode cX11_needEntry 15 = .ok (.new 383, 3) := dk_get kX11_needEntry_ok 7 rfl
theorem dX11_needEntry_18 : decode cX11_needEntry 18 = .ok (.dup, 1) := dk_get kX11_needEntry_ok 8 rfl
theorem dX11_needEntry_19 : decode cX11_needEntry 19 = .ok (.invokespecial 385, 3) := dk_get kX11_needEntry_ok 9 rfl
theorem dX11_needEntry_22 : decode cX11_needEntry 22 = .ok (.athrow, 1) := dk_get kX11_needEntry_ok 10 rfl
theorem dX11_needEntry_23 : decode cX11_needEntry 23 = .ok (.return_, 1) := dk_get kX11_needEntry_ok 11 rfl
def kX11_needPair : List (Nat × Instr × Nat) := [(0, .aload_n 0, 1), (1, .iload_n 1, 1), (2, .invokevirtual 126, 3), (5, .aload_n 0, 1), (6, .iload_n 2, 1), (7, .invokevirtual 126, 3), (10, .iload_n 1, 1), (11, .iload_n 2, 1), (12, .if_icmp .eq 7, 3), (15, .iconst 1, 1), (16, .goto 4, 3), (19, .iconst 0, 1), (20, .invokestatic 104, 3), (23, .return_, 1)]
set_option maxRecDepth 100000 in
theorem kX11_needPair_ok : kX11_needPair.all (fun q => decide (decode cX11_needPair q.1 = .ok q.2)) = true := by decide +kernel
theorem dX11_needPair_0 : decode cX11_needPair 0 = .ok (.aload_n 0, 1) := dk_get kX11_needPair_ok 0 rfl
theorem dX11_needPair_1 : decode cX11_needPair 1 = .ok (.iload_n 1, 1) := dk_get kX11_needPair_ok 1 rfl
theorem dX11_needPair_2 : decode cX11_needPair 2 = .ok (.invokevirtual 126, 3) := dk_get kX11_needPair_ok 2 rfl
theorem dX11_needPair_5 : decode cX11_needPair 5 = .ok (.aload_n 0, 1) := dk_get kX11_needPair_ok 3 rfl
theorem dX11_needPair_6 : decode cX11_needPair 6 = .ok (.iload_n 2, 1) := dk_get kX11_needPair_ok 4 rfl
theorem dX11_needPair_7 : decode cX11_needPair 7 = .ok (.invokevirtual 126, 3) := dk_get kX11_needPair_ok 5 rfl
theorem dX11_needPair_10 : decode cX11_needPair 10 = .ok (.iload_n 1, 1) := dk_get kX11_needPair_ok 6 rfl
theorem dX11_needPair_11 : decode cX11_needPair 11 = .ok (.iload_n 2, 1) := dk_get kX11_needPair_ok 7 rfl
theorem dX11_needPair_12 : decode cX11_needPair 12 = .ok (.if_icmp .eq 7, 3) := dk_get kX11_needPair_ok 8 rfl
theorem dX11_needPair_15 : decode cX11_needPair 15 = .ok (.iconst 1, 1) := dk_get kX11_needPair_ok 9 rfl
theorem dX11_needPair_16 : decode cX11_needPair 16 = .ok (.goto 4, 3) := dk_get kX11_needPair_ok 10 rfl
theorem dX11_needPair_19 : decode cX11_needPair 19 = .ok (.iconst 0, 1) := dk_get kX11_needPair_ok 11 rfl
theorem dX11_needPair_20 : decode cX11_needPair 20 = .ok (.invokestatic 104, 3) := dk_get kX11_needPair_ok 12 rfl
theorem dX11_needPair_23 : decode cX11_needPair 23 = .ok (.return_, 1) := dk_get kX11_needPair_ok 13 rfl
def kX11_membersOfPart : List (Nat × Instr × Nat) := [(0, .aload_n 0, 1), (1, .getfield 73, 3), (4, .aload_n 0, 1), (5, .getfield 12, 3), (8, .invokevirtual 319, 3), (11, .invokevirtual 374, 3), (14, .pop, 1), (15, .aload_n 0, 1), (16, .getfield 73, 3), (19, .iload_n 1, 1), (20, .invokevirtual 386, 3), (23, .ireturn, 1)]
set_option maxRecDepth 100000 in
theorem kX11_membersOfPart_ok : kX11_membersOfPart.all (fun q => decide (decode cX11_membersOfPart q.1 = .ok q.2)) = true := by decide +kernel
theorem dX11_membersOfPart_0 : decode cX11_membersOfPart 0 = .ok (.aload_n 0, 1) := dk_get kX11_membersOfPart_ok 0 rfl
theorem dX11_membersOfPart_1 : decode cX11_membersOfPart 1 = .ok (.getfield 73, 3) := dk_get kX11_membersOfPart_ok 1 rfl
theorem dX11_membersOfPart_4 : decode cX11_membersOfPart 4 = .ok (.aload_n 0, 1) := dk_get kX11_membersOfPart_ok 2 rfl
theorem dX11_membersOfPart_5 : decode cX11_membersOfPart 5 = .ok (.getfield 12, 3) := dk_get kX11_membersOfPart_ok 3 rfl
theorem dX11_membersOfPart_8 : decode cX11_membersOfPart 8 = .ok (.invokevirtual 319, 3) := dk_get kX11_membersOfPart_ok 4 rfl
theorem dX11_membersOfPart_11 : decode cX11_membersOfPart 11 = .ok (.invokevirtual 374, 3) := dk_get kX11_membersOfPart_ok 5 rfl
theorem dX11_membersOfPart_14 : decode cX11_membersOfPart 14 = .ok (.pop, 1) := dk_get kX11_membersOfPart_ok 6 rfl
theorem dX11_membersOfPart_15 : decode cX11_membersOfPart 15 = .ok (.aload_n 0, 1) := dk_get kX11_membersOfPart_ok 7 rfl
theorem dX11_membersOfPart_16 : decode cX11_membersOfPart 16 = .ok (.getfield 73, 3) := dk_get kX11_membersOfPart_ok 8 rfl
theorem dX11_membersOfPart_19 : decode cX11_membersOfPart 19 = .ok (.iload_n 1, 1) := dk_get kX11_membersOfPart_ok 9 rfl
theorem dX11_membersOfPart_20 : decode cX11_membersOfPart 20 = .ok (.invokevirtual 386, 3) := dk_get kX11_membersOfPart_ok 10 rfl
theorem dX11_membersOfPart_23 : decode cX11_membersOfPart 23 = .ok (.ireturn, 1) := dk_get kX11_membersOfPart_ok 11 rfl
def kX11_solve : List (Nat × Instr × Nat) := [(0, .iload_n 1, 1), (1, .invokestatic 143, 3), (4, .bipush 10, 2), (6, .if_icmp .le 6, 3), (9, .bipush (-2), 2), (11, .ireturn, 1), (12, .aload_n 0, 1), (13, .getfield 80, 3), (16, .iload_n 1, 1), (17, .invokevirtual 389, 3), (20, .aload_n 0, 1), (21, .getfield 89, 3), (24, .invokevirtual 392, 3), (27, .ifCond .eq 7, 3), (30, .iconst 1, 1), (31, .goto 4, 3), (34, .iconst (-1), 1), (35, .ireturn, 1)]
set_option maxRecDepth 100000 in
theorem kX11_solve_ok : kX11_solve.all (fun q => decide (decode cX11_solve q.1 = .ok q.2)) = true := by decide +kernel
theorem dX11_solve_0 : decode cX11_solve 0 = .ok (.iload_n 1, 1) := dk_get kX11_solve_ok 0 rfl
theorem dX11_solve_1 : decode cX11_solve 1 = .ok (.invokestatic 143, 3) := dk_get kX11_solve_ok 1 rfl
theorem dX11_solve_4 : decode cX11_solve 4 = .ok (.bipush 10, 2) := dk_get kX11_solve_ok 2 rfl
theorem dX11_solve_6 : decode cX11_solve 6 = .ok (.if_icmp .le 6, 3) := dk_get kX11_solve_ok 3 rfl
theorem dX11_solve_9 : decode cX11_solve 9 = .ok (.bipush (-2), 2) := dk_get kX11_solve_ok 4 rfl
theorem dX11_solve_11 : decode cX11_solve 11 = .ok (.ireturn, 1) := dk_get kX11_solve_ok 5 rfl
theorem dX11_solve_12 : decode cX11_solve 12 = .ok (.aload_n 0, 1) := dk_get kX11_solve_ok 6 rfl
theorem dX11_solve_13 : decode cX11_solve 13 = .ok (.getfield 80, 3) := dk_get kX11_solve_ok 7 rfl
theorem dX11_solve_16 : decode cX11_solve 16 = .ok (.iload_n 1, 1) := dk_get kX11_solve_ok 8 rfl
theorem dX11_solve_17 : decode cX11_solve 17 = .ok (.invokevirtual 389, 3) := dk_get kX11_solve_ok 9 rfl
theorem dX11_solve_20 : decode cX11_solve 20 = .ok (.aload_n 0, 1) := dk_get kX11_solve_ok 10 rfl
theorem dX11_solve_21 : decode cX11_solve 21 = .ok (.getfield 89, 3) := dk_get kX11_solve_ok 11 rfl
theorem dX11_solve_24 : decode cX11_solve 24 = .ok (.invokevirtual 392, 3) := dk_get kX11_solve_ok 12 rfl
theorem dX11_solve_27 : decode cX11_solve 27 = .ok (.ifCond .eq 7, 3) := dk_get kX11_solve_ok 13 rfl
theorem dX11_solve_30 : decode cX11_solve 30 = .ok (.iconst 1, 1) := dk_get kX11_solve_ok 14 rfl
theorem dX11_solve_31 : decode cX11_solve 31 = .ok (.goto 4, 3) := dk_get kX11_solve_ok 15 rfl
theorem dX11_solve_34 : decode cX11_solve 34 = .ok (.iconst (-1), 1) := dk_get kX11_solve_ok 16 rfl
theorem dX11_solve_35 : decode cX11_solve 35 = .ok (.ireturn, 1) := dk_get kX11_solve_ok 17 rfl
def kX11_listPartOf : List (Nat × Instr × Nat) := [(0, .aload_n 0, 1), (1, .aload_n 0, 1), (2, .iload_n 1, 1), (3, .invokevirtual 136, 3), (6, .invokevirtual 305, 3), (9, .istore_n 2, 1), (10, .iload_n 2, 1), (11, .ifCond .le 10, 3), (14, .aload_n 0, 1), (15, .getfield 89, 3), (18, .invokevirtual 395, 3), (21, .iload_n 2, 1), (22, .ireturn, 1)]
set_option maxRecDepth 100000 in
theorem kX11_listPartOf_ok : kX11_listPartOf.all (fun q => decide (decode cX11_listPartOf q.1 = .ok q.2)) = true := by decide +kernel
theorem dX11_listPartOf_0 : decode cX11_listPartOf 0 = .ok (.aload_n 0, 1) := dk_get kX11_listPartOf_ok 0 rfl
theorem dX11_listPartOf_1 : decode cX11_listPartOf 1 = .ok (.aload_n 0, 1) := dk_get kX11_listPartOf_ok 1 rfl
theorem dX11_listPartOf_2 : decode cX11_listPartOf 2 = .ok (.iload_n 1, 1) := dk_get kX11_listPartOf_ok 2 rfl
theorem dX11_listPartOf_3 : decode cX11_listPartOf 3 = .ok (.invokevirtual 136, 3) := dk_get kX11_listPartOf_ok 3 rfl
theorem dX11_listPartOf_6 : decode cX11_listPartOf 6 = .ok (.invokevirtual 305, 3) := dk_get kX11_listPartOf_ok 4 rfl
theorem dX11_listPartOf_9 : decode cX11_listPartOf 9 = .ok (.istore_n 2, 1) := dk_get kX11_listPartOf_ok 5 rfl
theorem dX11_listPartOf_10 : decode cX11_listPartOf 10 = .ok (.iload_n 2, 1) := dk_get kX11_listPartOf_ok 6 rfl
theorem dX11_listPartOf_11 : decode cX11_listPartOf 11 = .ok (.ifCond .le 10, 3) := dk_get kX11_listPartOf_ok 7 rfl
theorem dX11_listPartOf_14 : decode cX11_listPartOf 14 = .ok (.aload_n 0, 1) := dk_get kX11_listPartOf_ok 8 rfl
theorem dX11_listPartOf_15 : decode cX11_listPartOf 15 = .ok (.getfield 89, 3) := dk_get kX11_listPartOf_ok 9 rfl
theorem dX11_listPartOf_18 : decode cX11_listPartOf 18 = .ok (.invokevirtual 395, 3) := dk_get kX11_listPartOf_ok 10 rfl
theorem dX11_listPartOf_21 : decode cX11_listPartOf 21 = .ok (.iload_n 2, 1) := dk_get kX11_listPartOf_ok 11 rfl
theorem dX11_listPartOf_22 : decode cX11_listPartOf 22 = .ok (.ireturn, 1) := dk_get kX11_listPartOf_ok 12 rfl
def kX11_solveAmong : List (Nat × Instr × Nat) := [(0, .aload_n 0, 1), (1, .getfield 73, 3), (4, .iload_n 1, 1), (5, .invokevirtual 374, 3), (8, .pop, 1), (9, .aload_n 2, 1), (10, .iconst (-1), 1), (11, .invokestatic 398, 3), (14, .lconst 0, 1), (15, .lstore_n 3, 1), (16, .iconst 0, 1), (17, .istore 5, 2), (19, .iconst 0, 1), (20, .istore 6, 2), (22, .iload 6, 2), (24, .aload_n 0, 1), (25, .getfield 12, 3), (28, .getfield 108, 3), (31, .if_icmp .ge 91, 3), (34, .aload_n 0, 1), (35, .getfield 73, 3), (38, .getfield 404, 3), (41, .iload 6, 2), (43, .iaload, 1), (44, .iload 6, 2), (46, .if_icmp .eq 6, 3), (49, .goto 67, 3), (52, .aload_n 0, 1), (53, .aload_n 0, 1), (54, .getfield 73, 3), (57, .iload 6, 2), (59, .invokevirtual 386, 3), (62, .invokevirtual 305, 3), (65, .istore 7, 2), (67, .iload 7, 2), (69, .iconst (-1), 1), (70, .if_icmp .ne 7, 3), (73, .ldc2_w 285, 3), (76, .lreturn, 1), (77, .iload 7, 2), (79, .bipush (-2), 2), (81, .if_icmp .ne 9, 3), (84, .iconst 1, 1), (85, .istore 5, 2), (87, .goto 29, 3), (90, .lload_n 3, 1), (91, .aload_n 0, 1), (92, .getfield 89, 3), (95, .getfield 308, 3), (98, .i2l, 1), (99, .ladd, 1), (100, .lstore_n 3, 1), (101, .aload_n 0, 1), (102, .getfield 89, 3), (105, .invokevirtual 395, 3), (108, .aload_n 0, 1), (109, .getfield 89, 3), (112, .aload_n 2, 1), (113, .invokevirtual 407, 3), (116, .iinc 6 1, 3), (119, .goto (-97), 3), (122, .iload 5, 2), (124, .ifCond .eq 9, 3), (127, .ldc2_w 291, 3), (130, .goto 4, 3), (133, .lload_n 3, 1), (134, .lreturn, 1)]
set_option maxRecDepth 100000 in
theorem kX11_solveAmong_ok : kX11_solveAmong.all (fun q => decide (decode cX11_solveAmong q.1 = .ok q.2)) = true := by decide +kernel
theorem dX11_solveAmong_0 : decode cX11_solveAmong 0 = .ok (.aload_n 0, 1) := dk_get kX11_solveAmong_ok 0 rfl
theorem dX11_solveAmong_1 : decode cX11_solveAmong 1 = .ok (.getfield 73, 3) := dk_get kX11_solveAmong_ok 1 rfl
theorem dX11_solveAmong_4 : decode cX11_solveAmong 4 = .ok (.iload_n 1, 1) := dk_get kX11_solveAmong_ok 2 rfl
theorem dX11_solveAmong_5 : decode cX11_solveAmong 5 = .ok (.invokevirtual 374, 3) := dk_get kX11_solveAmong_ok 3 rfl
theorem dX11_solveAmong_8 : decode cX11_solveAmong 8 = .ok (.pop, 1) := dk_get kX11_solveAmong_ok 4 rfl
theorem dX11_solveAmong_9 : decode cX11_solveAmong 9 = .ok (.aload_n 2, 1) := dk_get kX11_solveAmong_ok 5 rfl
theorem dX11_solveAmong_10 : decode cX11_solveAmong 10 = .ok (.iconst (-1), 1) := dk_get kX11_solveAmong_ok 6 rfl
theorem dX11_solveAmong_11 : decode cX11_solveAmong 11 = .ok (.invokestatic 398, 3) := dk_get kX11_solveAmong_ok 7 rfl
theorem dX11_solveAmong_14 : decode cX11_solveAmong 14 = .ok (.lconst 0, 1) := dk_get kX11_solveAmong_ok 8 rfl
theorem dX11_solveAmong_15 : decode cX11_solveAmong 15 = .ok (.lstore_n 3, 1) := dk_get kX11_solveAmong_ok 9 rfl
theorem dX11_solveAmong_16 : decode cX11_solveAmong 16 = .ok (.iconst 0, 1) := dk_get kX11_solveAmong_ok 10 rfl
theorem dX11_solveAmong_17 : decode cX11_solveAmong 17 = .ok (.istore 5, 2) := dk_get kX11_solveAmong_ok 11 rfl
theorem dX11_solveAmong_19 : decode cX11_solveAmong 19 = .ok (.iconst 0, 1) := dk_get kX11_solveAmong_ok 12 rfl
theorem dX11_solveAmong_20 : decode cX11_solveAmong 20 = .ok (.istore 6, 2) := dk_get kX11_solveAmong_ok 13 rfl
theorem dX11_solveAmong_22 : decode cX11_solveAmong 22 = .ok (.iload 6, 2) := dk_get kX11_solveAmong_ok 14 rfl
theorem dX11_solveAmong_24 : decode cX11_solveAmong 24 = .ok (.aload_n 0, 1) := dk_get kX11_solveAmong_ok 15 rfl
theorem dX11_solveAmong_25 : decode cX11_solveAmong 25 = .ok (.getfield 12, 3) := dk_get kX11_solveAmong_ok 16 rfl
theorem dX11_solveAmong_28 : decode cX11_solveAmong 28 = .ok (.getfield 108, 3) := dk_get kX11_solveAmong_ok 17 rfl
theorem dX11_solveAmong_31 : decode cX11_solveAmong 31 = .ok (.if_icmp .ge 91, 3) := dk_get kX11_solveAmong_ok 18 rfl
theorem dX11_solveAmong_34 : decode cX11_solveAmong 34 = .ok (.aload_n 0, 1) := dk_get kX11_solveAmong_ok 19 rfl
theorem dX11_solveAmong_35 : decode cX11_solveAmong 35 = .ok (.getfield 73, 3) := dk_get kX11_solveAmong_ok 20 rfl
theorem dX11_solveAmong_38 : decode cX11_solveAmong 38 = .ok (.getfield 404, 3) := dk_get kX11_solveAmong_ok 21 rfl
theorem dX11_solveAmong_41 : decode cX11_solveAmong 41 = .ok (.iload 6, 2) := dk_get kX11_solveAmong_ok 22 rfl
theorem dX11_solveAmong_43 : decode cX11_solveAmong 43 = .ok (.iaload, 1) := dk_get kX11_solveAmong_ok 23 rfl
theorem dX11_solveAmong_44 : decode cX11_solveAmong 44 = .ok (.iload 6, 2) := dk_get kX11_solveAmong_ok 24 rfl
theorem dX11_solveAmong_46 : decode cX11_solveAmong 46 = .ok (.if_icmp .eq 6, 3) := dk_get kX11_solveAmong_ok 25 rfl
theorem dX11_solveAmong_49 : decode cX11_solveAmong 49 = .ok (.goto 67, 3) := dk_get kX11_solveAmong_ok 26 rfl
theorem dX11_solveAmong_52 : decode cX11_solveAmong 52 = .ok (.aload_n 0, 1) := dk_get kX11_solveAmong_ok 27 rfl
theorem dX11_solveAmong_53 : decode cX11_solveAmong 53 = .ok (.aload_n 0, 1) := dk_get kX11_solveAmong_ok 28 rfl
theorem dX11_solveAmong_54 : decode cX11_solveAmong 54 = .ok (.getfield 73, 3) := dk_get kX11_solveAmong_ok 29 rfl
theorem dX11_solveAmong_57 : decode cX11_solveAmong 57 = .ok (.iload 6, 2) := dk_get kX11_solveAmong_ok 30 rfl
theorem dX11_solveAmong_59 : decode cX11_solveAmong 59 = .ok (.invokevirtual 386, 3) := dk_get kX11_solveAmong_ok 31 rfl
theorem dX11_solveAmong_62 : decode cX11_solveAmong 62 = .ok (.invokevirtual 305, 3) := dk_get kX11_solveAmong_ok 32 rfl
theorem dX11_solveAmong_65 : decode cX11_solveAmong 65 = .ok (.istore 7, 2) := dk_get kX11_solveAmong_ok 33 rfl
theorem dX11_solveAmong_67 : decode cX11_solveAmong 67 = .ok (.iload 7, 2) := dk_get kX11_solveAmong_ok 34 rfl
theorem dX11_solveAmong_69 : decode cX11_solveAmong 69 = .ok (.iconst (-1), 1) := dk_get kX11_solveAmong_ok 35 rfl
theorem dX11_solveAmong_70 : decode cX11_solveAmong 70 = .ok (.if_icmp .ne 7, 3) := dk_get kX11_solveAmong_ok 36 rfl
theorem dX11_solveAmong_73 : decode cX11_solveAmong 73 = .ok (.ldc2_w 285, 3) := dk_get kX11_solveAmong_ok 37 rfl
theorem dX11_solveAmong_76 : decode cX11_solveAmong 76 = .ok (.lreturn, 1) := dk_get kX11_solveAmong_ok 38 rfl
theorem dX11_solveAmong_77 : decode cX11_solveAmong 77 = .ok (.iload 7, 2) := dk_get kX11_solveAmong_ok 39 rfl
theorem dX11_solveAmong_79 : decode cX11_solveAmong 79 = .ok (.bipush (-2), 2) := dk_get kX11_solveAmong_ok 40 rfl
theorem dX11_solveAmong_81 : decode cX11_solveAmong 81 = .ok (.if_icmp .ne 9, 3) := dk_get kX11_solveAmong_ok 41 rfl
theorem dX11_solveAmong_84 : decode cX11_solveAmong 84 = .ok (.iconst 1, 1) := dk_get kX11_solveAmong_ok 42 rfl
theorem dX11_solveAmong_85 : decode cX11_solveAmong 85 = .ok (.istore 5, 2) := dk_get kX11_solveAmong_ok 43 rfl
theorem dX11_solveAmong_87 : decode cX11_solveAmong 87 = .ok (.goto 29, 3) := dk_get kX11_solveAmong_ok 44 rfl
theorem dX11_solveAmong_90 : decode cX11_solveAmong 90 = .ok (.lload_n 3, 1) := dk_get kX11_solveAmong_ok 45 rfl
theorem dX11_solveAmong_91 : decode cX11_solveAmong 91 = .ok (.aload_n 0, 1) := dk_get kX11_solveAmong_ok 46 rfl
theorem dX11_solveAmong_92 : decode cX11_solveAmong 92 = .ok (.getfield 89, 3) := dk_get kX11_solveAmong_ok 47 rfl
theorem dX11_solveAmong_95 : decode cX11_solveAmong 95 = .ok (.getfield 308, 3) := dk_get kX11_solveAmong_ok 48 rfl
theorem dX11_solveAmong_98 : decode cX11_solveAmong 98 = .ok (.i2l, 1) := dk_get kX11_solveAmong_ok 49 rfl
theorem dX11_solveAmong_99 : decode cX11_solveAmong 99 = .ok (.ladd, 1) := dk_get kX11_solveAmong_ok 50 rfl
theorem dX11_solveAmong_100 : decode cX11_solveAmong 100 = .ok (.lstore_n 3, 1) := dk_get kX11_solveAmong_ok 51 rfl
theorem dX11_solveAmong_101 : decode cX11_solveAmong 101 = .ok (.aload_n 0, 1) := dk_get kX11_solveAmong_ok 52 rfl
theorem dX11_solveAmong_102 : decode cX11_solveAmong 102 = .ok (.getfield 89, 3) := dk_get kX11_solveAmong_ok 53 rfl
theorem dX11_solveAmong_105 : decode cX11_solveAmong 105 = .ok (.invokevirtual 395, 3) := dk_get kX11_solveAmong_ok 54 rfl
theorem dX11_solveAmong_108 : decode cX11_solveAmong 108 = .ok (.aload_n 0, 1) := dk_get kX11_solveAmong_ok 55 rfl
theorem dX11_solveAmong_109 : decode cX11_solveAmong 109 = .ok (.getfield 89, 3) := dk_get kX11_solveAmong_ok 56 rfl
theorem dX11_solveAmong_112 : decode cX11_solveAmong 112 = .ok (.aload_n 2, 1) := dk_get kX11_solveAmong_ok 57 rfl
theorem dX11_solveAmong_113 : decode cX11_solveAmong 113 = .ok (.invokevirtual 407, 3) := dk_get kX11_solveAmong_ok 58 rfl
theorem dX11_solveAmong_116 : decode cX11_solveAmong 116 = .ok (.iinc 6 1, 3) := dk_get kX11_solveAmong_ok 59 rfl
theorem dX11_solveAmong_119 : decode cX11_solveAmong 119 = .ok (.goto (-97), 3) := dk_get kX11_solveAmong_ok 60 rfl
theorem dX11_solveAmong_122 : decode cX11_solveAmong 122 = .ok (.iload 5, 2) := dk_get kX11_solveAmong_ok 61 rfl
theorem dX11_solveAmong_124 : decode cX11_solveAmong 124 = .ok (.ifCond .eq 9, 3) := dk_get kX11_solveAmong_ok 62 rfl
theorem dX11_solveAmong_127 : decode cX11_solveAmong 127 = .ok (.ldc2_w 291, 3) := dk_get kX11_solveAmong_ok 63 rfl
theorem dX11_solveAmong_130 : decode cX11_solveAmong 130 = .ok (.goto 4, 3) := dk_get kX11_solveAmong_ok 64 rfl
theorem dX11_solveAmong_133 : decode cX11_solveAmong 133 = .ok (.lload_n 3, 1) := dk_get kX11_solveAmong_ok 65 rfl
theorem dX11_solveAmong_134 : decode cX11_solveAmong 134 = .ok (.lreturn, 1) := dk_get kX11_solveAmong_ok 66 rfl
def kX11_edgeOf : List (Nat × Instr × Nat) := [(0, .aload_n 0, 1), (1, .iload_n 1, 1), (2, .invokevirtual 136, 3), (5, .istore_n 3, 1), (6, .iload_n 3, 1), (7, .invokestatic 143, 3), (10, .bipush 10, 2), (12, .if_icmp .gt 11, 3), (15, .iload_n 3, 1), (16, .iload_n 2, 1), (17, .iushr, 1), (18, .iconst 1, 1), (19, .iand, 1), (20, .ifCond .ne 7, 3), (23, .ldc2_w 245, 3), (26, .lreturn, 1), (27, .aload_n 0, 1), (28, .getfield 80, 3), (31, .iload_n 3, 1), (32, .invokevirtual 389, 3), (35, .aload_n 0, 1), (36, .getfield 80, 3), (39, .iload_n 1, 1), (40, .iload_n 2, 1), (41, .iconst 1, 1), (42, .invokevirtual 410, 3), (45, .aload_n 0, 1), (46, .getfield 89, 3), (49, .invokevirtual 392, 3), (52, .ifCond .ne 7, 3), (55, .ldc2_w 245, 3), (58, .lreturn, 1), (59, .aload_n 0, 1), (60, .getfield 89, 3), (63, .getfield 308, 3), (66, .i2l, 1), (67, .lstore 4, 2), (69, .aload_n 0, 1), (70, .getfield 80, 3), (73, .iload_n 3, 1), (74, .invokevirtual 389, 3), (77, .aload_n 0, 1), (78, .getfield 80, 3), (81, .iload_n 1, 1), (82, .iload_n 2, 1), (83, .iconst 0, 1), (84, .invokevirtual 410, 3), (87, .aload_n 0, 1), (88, .getfield 89, 3), (91, .invokevirtual 392, 3), (94, .ifCond .eq 17, 3), (97, .aload_n 0, 1), (98, .getfield 89, 3), (101, .getfield 308, 3), (104, .i2l, 1), (105, .lload 4, 2), (107, .lsub, 1), (108, .goto 6, 3), (111, .ldc2_w 245, 3), (114, .lreturn, 1)]
set_option maxRecDepth 100000 in
theorem kX11_edgeOf_ok : kX11_edgeOf.all (fun q => decide (decode cX11_edgeOf q.1 = .ok q.2)) = true := by decide +kernel
theorem dX11_edgeOf_0 : decode cX11_edgeOf 0 = .ok (.aload_n 0, 1) := dk_get kX11_edgeOf_ok 0 rfl
theorem dX11_edgeOf_1 : decode cX11_edgeOf 1 = .ok (.iload_n 1, 1) := dk_get kX11_edgeOf_ok 1 rfl
theorem dX11_edgeOf_2 : decode cX11_edgeOf 2 = .ok (.invokevirtual 136, 3) := dk_get kX11_edgeOf_ok 2 rfl
theorem dX11_edgeOf_5 : decode cX11_edgeOf 5 = .ok (.istore_n 3, 1) := dk_get kX11_edgeOf_ok 3 rfl
theorem dX11_edgeOf_6 : decode cX11_edgeOf 6 = .ok (.iload_n 3, 1) := dk_get kX11_edgeOf_ok 4 rfl
theorem dX11_edgeOf_7 : decode cX11_edgeOf 7 = .ok (.invokestatic 143, 3) := dk_get kX11_edgeOf_ok 5 rfl
theorem dX11_edgeOf_10 : decode cX11_edgeOf 10 = .ok (.bipush 10, 2) := dk_get kX11_edgeOf_ok 6 rfl
theorem dX11_edgeOf_12 : decode cX11_edgeOf 12 = .ok (.if_icmp .gt 11, 3) := dk_get kX11_edgeOf_ok 7 rfl
theorem dX11_edgeOf_15 : decode cX11_edgeOf 15 = .ok (.iload_n 3, 1) := dk_get kX11_edgeOf_ok 8 rfl
theorem dX11_edgeOf_16 : decode cX11_edgeOf 16 = .ok (.iload_n 2, 1) := dk_get kX11_edgeOf_ok 9 rfl
theorem dX11_edgeOf_17 : decode cX11_edgeOf 17 = .ok (.iushr, 1) := dk_get kX11_edgeOf_ok 10 rfl
theorem dX11_edgeOf_18 : decode cX11_edgeOf 18 = .ok (.iconst 1, 1) := dk_get kX11_edgeOf_ok 11 rfl
theorem dX11_edgeOf_19 : decode cX11_edgeOf 19 = .ok (.iand, 1) := dk_get kX11_edgeOf_ok 12 rfl
theorem dX11_edgeOf_20 : decode cX11_edgeOf 20 = .ok (.ifCond .ne 7, 3) := dk_get kX11_edgeOf_ok 13 rfl
theorem dX11_edgeOf_23 : decode cX11_edgeOf 23 = .ok (.ldc2_w 245, 3) := dk_get kX11_edgeOf_ok 14 rfl
theorem dX11_edgeOf_26 : decode cX11_edgeOf 26 = .ok (.lreturn, 1) := dk_get kX11_edgeOf_ok 15 rfl
theorem dX11_edgeOf_27 : decode cX11_edgeOf 27 = .ok (.aload_n 0, 1) := dk_get kX11_edgeOf_ok 16 rfl
theorem dX11_edgeOf_28 : decode cX11_edgeOf 28 = .ok (.getfield 80, 3) := dk_get kX11_edgeOf_ok 17 rfl
theorem dX11_edgeOf_31 : decode cX11_edgeOf 31 = .ok (.iload_n 3, 1) := dk_get kX11_edgeOf_ok 18 rfl
theorem dX11_edgeOf_32 : decode cX11_edgeOf 32 = .ok (.invokevirtual 389, 3) := dk_get kX11_edgeOf_ok 19 rfl
theorem dX11_edgeOf_35 : decode cX11_edgeOf 35 = .ok (.aload_n 0, 1) := dk_get kX11_edgeOf_ok 20 rfl
theorem dX11_edgeOf_36 : decode cX11_edgeOf 36 = .ok (.getfield 80, 3) := dk_get kX11_edgeOf_ok 21 rfl
theorem dX11_edgeOf_39 : decode cX11_edgeOf 39 = .ok (.iload_n 1, 1) := dk_get kX11_edgeOf_ok 22 rfl
theorem dX11_edgeOf_40 : decode cX11_edgeOf 40 = .ok (.iload_n 2, 1) := dk_get kX11_edgeOf_ok 23 rfl
theorem dX11_edgeOf_41 : decode cX11_edgeOf 41 = .ok (.iconst 1, 1) := dk_get kX11_edgeOf_ok 24 rfl
theorem dX11_edgeOf_42 : decode cX11_edgeOf 42 = .ok (.invokevirtual 410, 3) := dk_get kX11_edgeOf_ok 25 rfl
theorem dX11_edgeOf_45 : decode cX11_edgeOf 45 = .ok (.aload_n 0, 1) := dk_get kX11_edgeOf_ok 26 rfl
theorem dX11_edgeOf_46 : decode cX11_edgeOf 46 = .ok (.getfield 89, 3) := dk_get kX11_edgeOf_ok 27 rfl
theorem dX11_edgeOf_49 : decode cX11_edgeOf 49 = .ok (.invokevirtual 392, 3) := dk_get kX11_edgeOf_ok 28 rfl
theorem dX11_edgeOf_52 : decode cX11_edgeOf 52 = .ok (.ifCond .ne 7, 3) := dk_get kX11_edgeOf_ok 29 rfl
theorem dX11_edgeOf_55 : decode cX11_edgeOf 55 = .ok (.ldc2_w 245, 3) := dk_get kX11_edgeOf_ok 30 rfl
theorem dX11_edgeOf_58 : decode cX11_edgeOf 58 = .ok (.lreturn, 1) := dk_get kX11_edgeOf_ok 31 rfl
theorem dX11_edgeOf_59 : decode cX11_edgeOf 59 = .ok (.aload_n 0, 1) := dk_get kX11_edgeOf_ok 32 rfl
theorem dX11_edgeOf_60 : decode cX11_edgeOf 60 = .ok (.getfield 89, 3) := dk_get kX11_edgeOf_ok 33 rfl
theorem dX11_edgeOf_63 : decode cX11_edgeOf 63 = .ok (.getfield 308, 3) := dk_get kX11_edgeOf_ok 34 rfl
theorem dX11_edgeOf_66 : decode cX11_edgeOf 66 = .ok (.i2l, 1) := dk_get kX11_edgeOf_ok 35 rfl
theorem dX11_edgeOf_67 : decode cX11_edgeOf 67 = .ok (.lstore 4, 2) := dk_get kX11_edgeOf_ok 36 rfl
theorem dX11_edgeOf_69 : decode cX11_edgeOf 69 = .ok (.aload_n 0, 1) := dk_get kX11_edgeOf_ok 37 rfl
theorem dX11_edgeOf_70 : decode cX11_edgeOf 70 = .ok (.getfield 80, 3) := dk_get kX11_edgeOf_ok 38 rfl
theorem dX11_edgeOf_73 : decode cX11_edgeOf 73 = .ok (.iload_n 3, 1) := dk_get kX11_edgeOf_ok 39 rfl
theorem dX11_edgeOf_74 : decode cX11_edgeOf 74 = .ok (.invokevirtual 389, 3) := dk_get kX11_edgeOf_ok 40 rfl
theorem dX11_edgeOf_77 : decode cX11_edgeOf 77 = .ok (.aload_n 0, 1) := dk_get kX11_edgeOf_ok 41 rfl
theorem dX11_edgeOf_78 : decode cX11_edgeOf 78 = .ok (.getfield 80, 3) := dk_get kX11_edgeOf_ok 42 rfl
theorem dX11_edgeOf_81 : decode cX11_edgeOf 81 = .ok (.iload_n 1, 1) := dk_get kX11_edgeOf_ok 43 rfl
theorem dX11_edgeOf_82 : decode cX11_edgeOf 82 = .ok (.iload_n 2, 1) := dk_get kX11_edgeOf_ok 44 rfl
theorem dX11_edgeOf_83 : decode cX11_edgeOf 83 = .ok (.iconst 0, 1) := dk_get kX11_edgeOf_ok 45 rfl
theorem dX11_edgeOf_84 : decode cX11_edgeOf 84 = .ok (.invokevirtual 410, 3) := dk_get kX11_edgeOf_ok 46 rfl
theorem dX11_edgeOf_87 : decode cX11_edgeOf 87 = .ok (.aload_n 0, 1) := dk_get kX11_edgeOf_ok 47 rfl
theorem dX11_edgeOf_88 : decode cX11_edgeOf 88 = .ok (.getfield 89, 3) := dk_get kX11_edgeOf_ok 48 rfl
theorem dX11_edgeOf_91 : decode cX11_edgeOf 91 = .ok (.invokevirtual 392, 3) := dk_get kX11_edgeOf_ok 49 rfl
theorem dX11_edgeOf_94 : decode cX11_edgeOf 94 = .ok (.ifCond .eq 17, 3) := dk_get kX11_edgeOf_ok 50 rfl
theorem dX11_edgeOf_97 : decode cX11_edgeOf 97 = .ok (.aload_n 0, 1) := dk_get kX11_edgeOf_ok 51 rfl
theorem dX11_edgeOf_98 : decode cX11_edgeOf 98 = .ok (.getfield 89, 3) := dk_get kX11_edgeOf_ok 52 rfl
theorem dX11_edgeOf_101 : decode cX11_edgeOf 101 = .ok (.getfield 308, 3) := dk_get kX11_edgeOf_ok 53 rfl
theorem dX11_edgeOf_104 : decode cX11_edgeOf 104 = .ok (.i2l, 1) := dk_get kX11_edgeOf_ok 54 rfl
theorem dX11_edgeOf_105 : decode cX11_edgeOf 105 = .ok (.lload 4, 2) := dk_get kX11_edgeOf_ok 55 rfl
theorem dX11_edgeOf_107 : decode cX11_edgeOf 107 = .ok (.lsub, 1) := dk_get kX11_edgeOf_ok 56 rfl
theorem dX11_edgeOf_108 : decode cX11_edgeOf 108 = .ok (.goto 6, 3) := dk_get kX11_edgeOf_ok 57 rfl
theorem dX11_edgeOf_111 : decode cX11_edgeOf 111 = .ok (.ldc2_w 245, 3) := dk_get kX11_edgeOf_ok 58 rfl
theorem dX11_edgeOf_114 : decode cX11_edgeOf 114 = .ok (.lreturn, 1) := dk_get kX11_edgeOf_ok 59 rfl
def kX11_nearPartOf : List (Nat × Instr × Nat) := [(0, .aload_n 0, 1), (1, .aload_n 0, 1), (2, .iload_n 1, 1), (3, .invokevirtual 136, 3), (6, .invokevirtual 305, 3), (9, .istore_n 3, 1), (10, .iload_n 3, 1), (11, .ifCond .le 25, 3), (14, .aload_n 0, 1), (15, .getfield 80, 3), (18, .aload_n 0, 1), (19, .getfield 48, 3), (22, .getfield 133, 3), (25, .invokevirtual 413, 3), (28, .aload_n 0, 1), (29, .getfield 89, 3), (32, .iload_n 2, 1), (33, .invokevirtual 416, 3), (36, .iload_n 3, 1), (37, .ireturn, 1)]
set_option maxRecDepth 100000 in
theorem kX11_nearPartOf_ok : kX11_nearPartOf.all (fun q => decide (decode cX11_nearPartOf q.1 = .ok q.2)) = true := by decide +kernel
theorem dX11_nearPartOf_0 : decode cX11_nearPartOf 0 = .ok (.aload_n 0, 1) := dk_get kX11_nearPartOf_ok 0 rfl
theorem dX11_nearPartOf_1 : decode cX11_nearPartOf 1 = .ok (.aload_n 0, 1) := dk_get kX11_nearPartOf_ok 1 rfl
theorem dX11_nearPartOf_2 : decode cX11_nearPartOf 2 = .ok (.iload_n 1, 1) := dk_get kX11_nearPartOf_ok 2 rfl
theorem dX11_nearPartOf_3 : decode cX11_nearPartOf 3 = .ok (.invokevirtual 136, 3) := dk_get kX11_nearPartOf_ok 3 rfl
theorem dX11_nearPartOf_6 : decode cX11_nearPartOf 6 = .ok (.invokevirtual 305, 3) := dk_get kX11_nearPartOf_ok 4 rfl
theorem dX11_nearPartOf_9 : decode cX11_nearPartOf 9 = .ok (.istore_n 3, 1) := dk_get kX11_nearPartOf_ok 5 rfl
theorem dX11_nearPartOf_10 : decode cX11_nearPartOf 10 = .ok (.iload_n 3, 1) := dk_get kX11_nearPartOf_ok 6 rfl
theorem dX11_nearPartOf_11 : decode cX11_nearPartOf 11 = .ok (.ifCond .le 25, 3) := dk_get kX11_nearPartOf_ok 7 rfl
theorem dX11_nearPartOf_14 : decode cX11_nearPartOf 14 = .ok (.aload_n 0, 1) := dk_get kX11_nearPartOf_ok 8 rfl
theorem dX11_nearPartOf_15 : decode cX11_nearPartOf 15 = .ok (.getfield 80, 3) := dk_get kX11_nearPartOf_ok 9 rfl
theorem dX11_nearPartOf_18 : decode cX11_nearPartOf 18 = .ok (.aload_n 0, 1) := dk_get kX11_nearPartOf_ok 10 rfl
theorem dX11_nearPartOf_19 : decode cX11_nearPartOf 19 = .ok (.getfield 48, 3) := dk_get kX11_nearPartOf_ok 11 rfl
theorem dX11_nearPartOf_22 : decode cX11_nearPartOf 22 = .ok (.getfield 133, 3) := dk_get kX11_nearPartOf_ok 12 rfl
theorem dX11_nearPartOf_25 : decode cX11_nearPartOf 25 = .ok (.invokevirtual 413, 3) := dk_get kX11_nearPartOf_ok 13 rfl
theorem dX11_nearPartOf_28 : decode cX11_nearPartOf 28 = .ok (.aload_n 0, 1) := dk_get kX11_nearPartOf_ok 14 rfl
theorem dX11_nearPartOf_29 : decode cX11_nearPartOf 29 = .ok (.getfield 89, 3) := dk_get kX11_nearPartOf_ok 15 rfl
theorem dX11_nearPartOf_32 : decode cX11_nearPartOf 32 = .ok (.iload_n 2, 1) := dk_get kX11_nearPartOf_ok 16 rfl
theorem dX11_nearPartOf_33 : decode cX11_nearPartOf 33 = .ok (.invokevirtual 416, 3) := dk_get kX11_nearPartOf_ok 17 rfl
theorem dX11_nearPartOf_36 : decode cX11_nearPartOf 36 = .ok (.iload_n 3, 1) := dk_get kX11_nearPartOf_ok 18 rfl
theorem dX11_nearPartOf_37 : decode cX11_nearPartOf 37 = .ok (.ireturn, 1) := dk_get kX11_nearPartOf_ok 19 rfl
def kX11_maskOf : List (Nat × Instr × Nat) := [(0, .iconst 0, 1), (1, .istore_n 3, 1), (2, .iconst 0, 1), (3, .istore 4, 2), (5, .iload 4, 2), (7, .aload_n 0, 1), (8, .getfield 12, 3), (11, .getfield 108, 3), (14, .if_icmp .ge 24, 3), (17, .aload_n 1, 1), (18, .iload 4, 2), (20, .iaload, 1), (21, .iload_n 2, 1), (22, .if_icmp .ne 10, 3), (25, .iload_n 3, 1), (26, .iconst 1, 1), (27, .iload 4, 2), (29, .ishl, 1), (30, .ior, 1), (31, .istore_n 3, 1), (32, .iinc 4 1, 3), (35, .goto (-30), 3), (38, .iload_n 3, 1), (39, .ireturn, 1)]
set_option maxRecDepth 100000 in
theorem kX11_maskOf_ok : kX11_maskOf.all (fun q => decide (decode cX11_maskOf q.1 = .ok q.2)) = true := by decide +kernel
theorem dX11_maskOf_0 : decode cX11_maskOf 0 = .ok (.iconst 0, 1) := dk_get kX11_maskOf_ok 0 rfl
theorem dX11_maskOf_1 : decode cX11_maskOf 1 = .ok (.istore_n 3, 1) := dk_get kX11_maskOf_ok 1 rfl
theorem dX11_maskOf_2 : decode cX11_maskOf 2 = .ok (.iconst 0, 1) := dk_get kX11_maskOf_ok 2 rfl
theorem dX11_maskOf_3 : decode cX11_maskOf 3 = .ok (.istore 4, 2) := dk_get kX11_maskOf_ok 3 rfl
theorem dX11_maskOf_5 : decode cX11_maskOf 5 = .ok (.iload 4, 2) := dk_get kX11_maskOf_ok 4 rfl
theorem dX11_maskOf_7 : decode cX11_maskOf 7 = .ok (.aload_n 0, 1) := dk_get kX11_maskOf_ok 5 rfl
theorem dX11_maskOf_8 : decode cX11_maskOf 8 = .ok (.getfield 12, 3) := dk_get kX11_maskOf_ok 6 rfl
theorem dX11_maskOf_11 : decode cX11_maskOf 11 = .ok (.getfield 108, 3) := dk_get kX11_maskOf_ok 7 rfl
theorem dX11_maskOf_14 : decode cX11_maskOf 14 = .ok (.if_icmp .ge 24, 3) := dk_get kX11_maskOf_ok 8 rfl
theorem dX11_maskOf_17 : decode cX11_maskOf 17 = .ok (.aload_n 1, 1) := dk_get kX11_maskOf_ok 9 rfl
theorem dX11_maskOf_18 : decode cX11_maskOf 18 = .ok (.iload 4, 2) := dk_get kX11_maskOf_ok 10 rfl
theorem dX11_maskOf_20 : decode cX11_maskOf 20 = .ok (.iaload, 1) := dk_get kX11_maskOf_ok 11 rfl
theorem dX11_maskOf_21 : decode cX11_maskOf 21 = .ok (.iload_n 2, 1) := dk_get kX11_maskOf_ok 12 rfl
theorem dX11_maskOf_22 : decode cX11_maskOf 22 = .ok (.if_icmp .ne 10, 3) := dk_get kX11_maskOf_ok 13 rfl
theorem dX11_maskOf_25 : decode cX11_maskOf 25 = .ok (.iload_n 3, 1) := dk_get kX11_maskOf_ok 14 rfl
theorem dX11_maskOf_26 : decode cX11_maskOf 26 = .ok (.iconst 1, 1) := dk_get kX11_maskOf_ok 15 rfl
theorem dX11_maskOf_27 : decode cX11_maskOf 27 = .ok (.iload 4, 2) := dk_get kX11_maskOf_ok 16 rfl
theorem dX11_maskOf_29 : decode cX11_maskOf 29 = .ok (.ishl, 1) := dk_get kX11_maskOf_ok 17 rfl
theorem dX11_maskOf_30 : decode cX11_maskOf 30 = .ok (.ior, 1) := dk_get kX11_maskOf_ok 18 rfl
theorem dX11_maskOf_31 : decode cX11_maskOf 31 = .ok (.istore_n 3, 1) := dk_get kX11_maskOf_ok 19 rfl
theorem dX11_maskOf_32 : decode cX11_maskOf 32 = .ok (.iinc 4 1, 3) := dk_get kX11_maskOf_ok 20 rfl
theorem dX11_maskOf_35 : decode cX11_maskOf 35 = .ok (.goto (-30), 3) := dk_get kX11_maskOf_ok 21 rfl
theorem dX11_maskOf_38 : decode cX11_maskOf 38 = .ok (.iload_n 3, 1) := dk_get kX11_maskOf_ok 22 rfl
theorem dX11_maskOf_39 : decode cX11_maskOf 39 = .ok (.ireturn, 1) := dk_get kX11_maskOf_ok 23 rfl
def kX11_setBit : List (Nat × Instr × Nat) := [(0, .iload_n 3, 1), (1, .ifCond .eq 24, 3), (4, .aload_n 0, 1), (5, .iload_n 1, 1), (6, .dup2, 1), (7, .iaload, 1), (8, .iconst 1, 1), (9, .iload_n 2, 1), (10, .ishl, 1), (11, .ior, 1), (12, .iastore, 1), (13, .aload_n 0, 1), (14, .iload_n 2, 1), (15, .dup2, 1), (16, .iaload, 1), (17, .iconst 1, 1), (18, .iload_n 1, 1), (19, .ishl, 1), (20, .ior, 1), (21, .iastore, 1), (22, .goto 25, 3), (25, .aload_n 0, 1), (26, .iload_n 1, 1), (27, .dup2, 1), (28, .iaload, 1), (29, .iconst 1, 1), (30, .iload_n 2, 1), (31, .ishl, 1), (32, .iconst (-1), 1), (33, .ixor, 1), (34, .iand, 1), (35, .iastore, 1), (36, .aload_n 0, 1), (37, .iload_n 2, 1), (38, .dup2, 1), (39, .iaload, 1), (40, .iconst 1, 1), (41, .iload_n 1, 1), (42, .ishl, 1), (43, .iconst (-1), 1), (44, .ixor, 1), (45, .iand, 1), (46, .iastore, 1), (47, .return_, 1)]
set_option maxRecDepth 100000 in
theorem kX11_setBit_ok : kX11_setBit.all (fun q => decide (decode cX11_setBit q.1 = .ok q.2)) = true := by decide +kernel
theorem dX11_setBit_0 : decode cX11_setBit 0 = .ok (.iload_n 3, 1) := dk_get kX11_setBit_ok 0 rfl
theorem dX11_setBit_1 : decode cX11_setBit 1 = .ok (.ifCond .eq 24, 3) := dk_get kX11_setBit_ok 1 rfl
theorem dX11_setBit_4 : decode cX11_setBit 4 = .ok (.aload_n 0, 1) := dk_get kX11_setBit_ok 2 rfl
theorem dX11_setBit_5 : decode cX11_setBit 5 = .ok (.iload_n 1, 1) := dk_get kX11_setBit_ok 3 rfl
theorem dX11_setBit_6 : decode cX11_setBit 6 = .ok (.dup2, 1) := dk_get kX11_setBit_ok 4 rfl
theorem dX11_setBit_7 : decode cX11_setBit 7 = .ok (.iaload, 1) := dk_get kX11_setBit_ok 5 rfl
theorem dX11_setBit_8 : decode cX11_setBit 8 = .ok (.iconst 1, 1) := dk_get kX11_setBit_ok 6 rfl
theorem dX11_setBit_9 : decode cX11_setBit 9 = .ok (.iload_n 2, 1) := dk_get kX11_setBit_ok 7 rfl
theorem dX11_setBit_10 : decode cX11_setBit 10 = .ok (.ishl, 1) := dk_get kX11_setBit_ok 8 rfl
theorem dX11_setBit_11 : decode cX11_setBit 11 = .ok (.ior, 1) := dk_get kX11_setBit_ok 9 rfl
theorem dX11_setBit_12 : decode cX11_setBit 12 = .ok (.iastore, 1) := dk_get kX11_setBit_ok 10 rfl
theorem dX11_setBit_13 : decode cX11_setBit 13 = .ok (.aload_n 0, 1) := dk_get kX11_setBit_ok 11 rfl
theorem dX11_setBit_14 : decode cX11_setBit 14 = .ok (.iload_n 2, 1) := dk_get kX11_setBit_ok 12 rfl
theorem dX11_setBit_15 : decode cX11_setBit 15 = .ok (.dup2, 1) := dk_get kX11_setBit_ok 13 rfl
theorem dX11_setBit_16 : decode cX11_setBit 16 = .ok (.iaload, 1) := dk_get kX11_setBit_ok 14 rfl
theorem dX11_setBit_17 : decode cX11_setBit 17 = .ok (.iconst 1, 1) := dk_get kX11_setBit_ok 15 rfl
theorem dX11_setBit_18 : decode cX11_setBit 18 = .ok (.iload_n 1, 1) := dk_get kX11_setBit_ok 16 rfl
theorem dX11_setBit_19 : decode cX11_setBit 19 = .ok (.ishl, 1) := dk_get kX11_setBit_ok 17 rfl
theorem dX11_setBit_20 : decode cX11_setBit 20 = .ok (.ior, 1) := dk_get kX11_setBit_ok 18 rfl
theorem dX11_setBit_21 : decode cX11_setBit 21 = .ok (.iastore, 1) := dk_get kX11_setBit_ok 19 rfl
theorem dX11_setBit_22 : decode cX11_setBit 22 = .ok (.goto 25, 3) := dk_get kX11_setBit_ok 20 rfl
theorem dX11_setBit_25 : decode cX11_setBit 25 = .ok (.aload_n 0, 1) := dk_get kX11_setBit_ok 21 rfl
theorem dX11_setBit_26 : decode cX11_setBit 26 = .ok (.iload_n 1, 1) := dk_get kX11_setBit_ok 22 rfl
theorem dX11_setBit_27 : decode cX11_setBit 27 = .ok (.dup2, 1) := dk_get kX11_setBit_ok 23 rfl
theorem dX11_setBit_28 : decode cX11_setBit 28 = .ok (.iaload, 1) := dk_get kX11_setBit_ok 24 rfl
theorem dX11_setBit_29 : decode cX11_setBit 29 = .ok (.iconst 1, 1) := dk_get kX11_setBit_ok 25 rfl
theorem dX11_setBit_30 : decode cX11_setBit 30 = .ok (.iload_n 2, 1) := dk_get kX11_setBit_ok 26 rfl
theorem dX11_setBit_31 : decode cX11_setBit 31 = .ok (.ishl, 1) := dk_get kX11_setBit_ok 27 rfl
theorem dX11_setBit_32 : decode cX11_setBit 32 = .ok (.iconst (-1), 1) := dk_get kX11_setBit_ok 28 rfl
theorem dX11_setBit_33 : decode cX11_setBit 33 = .ok (.ixor, 1) := dk_get kX11_setBit_ok 29 rfl
theorem dX11_setBit_34 : decode cX11_setBit 34 = .ok (.iand, 1) := dk_get kX11_setBit_ok 30 rfl
theorem dX11_setBit_35 : decode cX11_setBit 35 = .ok (.iastore, 1) := dk_get kX11_setBit_ok 31 rfl
theorem dX11_setBit_36 : decode cX11_setBit 36 = .ok (.aload_n 0, 1) := dk_get kX11_setBit_ok 32 rfl
theorem dX11_setBit_37 : decode cX11_setBit 37 = .ok (.iload_n 2, 1) := dk_get kX11_setBit_ok 33 rfl
theorem dX11_setBit_38 : decode cX11_setBit 38 = .ok (.dup2, 1) := dk_get kX11_setBit_ok 34 rfl
theorem dX11_setBit_39 : decode cX11_setBit 39 = .ok (.iaload, 1) := dk_get kX11_setBit_ok 35 rfl
theorem dX11_setBit_40 : decode cX11_setBit 40 = .ok (.iconst 1, 1) := dk_get kX11_setBit_ok 36 rfl
theorem dX11_setBit_41 : decode cX11_setBit 41 = .ok (.iload_n 1, 1) := dk_get kX11_setBit_ok 37 rfl
theorem dX11_setBit_42 : decode cX11_setBit 42 = .ok (.ishl, 1) := dk_get kX11_setBit_ok 38 rfl
theorem dX11_setBit_43 : decode cX11_setBit 43 = .ok (.iconst (-1), 1) := dk_get kX11_setBit_ok 39 rfl
theorem dX11_setBit_44 : decode cX11_setBit 44 = .ok (.ixor, 1) := dk_get kX11_setBit_ok 40 rfl
theorem dX11_setBit_45 : decode cX11_setBit 45 = .ok (.iand, 1) := dk_get kX11_setBit_ok 41 rfl
theorem dX11_setBit_46 : decode cX11_setBit 46 = .ok (.iastore, 1) := dk_get kX11_setBit_ok 42 rfl
theorem dX11_setBit_47 : decode cX11_setBit 47 = .ok (.return_, 1) := dk_get kX11_setBit_ok 43 rfl
