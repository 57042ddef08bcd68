def kX12_join : List (Nat × Instr × Nat) := [(0, .aload_n 0, 1), (1, .iconst 0, 1), (2, .putfield 1, 3), (5, .aload_n 0, 1), (6, .iload_n 1, 1), (7, .invokevirtual 183, 3), (10, .ifCond .eq 11, 3), (13, .aload_n 0, 1), (14, .iload_n 2, 1), (15, .invokevirtual 183, 3), (18, .ifCond .ne 5, 3), (21, .iconst 0, 1), (22, .ireturn, 1), (23, .aload_n 0, 1), (24, .getfield 29, 3), (27, .iload_n 1, 1), (28, .iaload, 1), (29, .aload_n 0, 1), (30, .getfield 29, 3), (33, .iload_n 2, 1), (34, .iaload, 1), (35, .if_icmp .ne 5, 3), (38, .iconst (-1), 1), (39, .ireturn, 1), (40, .aload_n 0, 1), (41, .aload_n 0, 1), (42, .getfield 29, 3), (45, .aload_n 0, 1), (46, .getfield 29, 3), (49, .iload_n 1, 1), (50, .iaload, 1), (51, .aload_n 0, 1), (52, .getfield 29, 3), (55, .iload_n 2, 1), (56, .iaload, 1), (57, .invokevirtual 381, 3), (60, .aload_n 0, 1), (61, .aload_n 0, 1), (62, .getfield 29, 3), (65, .invokevirtual 371, 3), (68, .aload_n 0, 1), (69, .getfield 29, 3), (72, .iload_n 1, 1), (73, .iaload, 1), (74, .ireturn, 1)]
set_option maxRecDepth 100000 in
theorem kX12_join_ok : kX12_join.all (fun q => decide (decode cX12_join q.1 = .ok q.2)) = true := by decide +kernel
theorem dX12_join_0 : decode cX12_join 0 = .ok (.aload_n 0, 1) := dk_get kX12_join_ok 0 rfl
theorem dX12_join_1 : decode cX12_join 1 = .ok (.iconst 0, 1) := dk_get kX12_join_ok 1 rfl
theorem dX12_join_2 : decode cX12_join 2 = .ok (.putfield 1, 3) := dk_get kX12_join_ok 2 rfl
theorem dX12_join_5 : decode cX12_join 5 = .ok (.aload_n 0, 1) := dk_get kX12_join_ok 3 rfl
theorem dX12_join_6 : decode cX12_join 6 = .ok (.iload_n 1, 1) := dk_get kX12_join_ok 4 rfl
theorem dX12_join_7 : decode cX12_join 7 = .ok (.invokevirtual 183, 3) := dk_get kX12_join_ok 5 rfl
theorem dX12_join_10 : decode cX12_join 10 = .ok (.ifCond .eq 11, 3) := dk_get kX12_join_ok 6 rfl
theorem dX12_join_13 : decode cX12_join 13 = .ok (.aload_n 0, 1) := dk_get kX12_join_ok 7 rfl
theorem dX12_join_14 : decode cX12_join 14 = .ok (.iload_n 2, 1) := dk_get kX12_join_ok 8 rfl
theorem dX12_join_15 : decode cX12_join 15 = .ok (.invokevirtual 183, 3) := dk_get kX12_join_ok 9 rfl
theorem dX12_join_18 : decode cX12_join 18 = .ok (.ifCond .ne 5, 3) := dk_get kX12_join_ok 10 rfl
theorem dX12_join_21 : decode cX12_join 21 = .ok (.iconst 0, 1) := dk_get kX12_join_ok 11 rfl
theorem dX12_join_22 : decode cX12_join 22 = .ok (.ireturn, 1) := dk_get kX12_join_ok 12 rfl
theorem dX12_join_23 : decode cX12_join 23 = .ok (.aload_n 0, 1) := dk_get kX12_join_ok 13 rfl
theorem dX12_join_24 : decode cX12_join 24 = .ok (.getfield 29, 3) := dk_get kX12_join_ok 14 rfl
theorem dX12_join_27 : decode cX12_join 27 = .ok (.iload_n 1, 1) := dk_get kX12_join_ok 15 rfl
theorem dX12_join_28 : decode cX12_join 28 = .ok (.iaload, 1) := dk_get kX12_join_ok 16 rfl
theorem dX12_join_29 : decode cX12_join 29 = .ok (.aload_n 0, 1) := dk_get kX12_join_ok 17 rfl
theorem dX12_join_30 : decode cX12_join 30 = .ok (.getfield 29, 3) := dk_get kX12_join_ok 18 rfl
theorem dX12_join_33 : decode cX12_join 33 = .ok (.iload_n 2, 1) := dk_get kX12_join_ok 19 rfl
theorem dX12_join_34 : decode cX12_join 34 = .ok (.iaload, 1) := dk_get kX12_join_ok 20 rfl
theorem dX12_join_35 : decode cX12_join 35 = .ok (.if_icmp .ne 5, 3) := dk_get kX12_join_ok 21 rfl
theorem dX12_join_38 : decode cX12_join 38 = .ok (.iconst (-1), 1) := dk_get kX12_join_ok 22 rfl
theorem dX12_join_39 : decode cX12_join 39 = .ok (.ireturn, 1) := dk_get kX12_join_ok 23 rfl
theorem dX12_join_40 : decode cX12_join 40 = .ok (.aload_n 0, 1) := dk_get kX12_join_ok 24 rfl
theorem dX12_join_41 : decode cX12_join 41 = .ok (.aload_n 0, 1) := dk_get kX12_join_ok 25 rfl
theorem dX12_join_42 : decode cX12_join 42 = .ok (.getfield 29, 3) := dk_get kX12_join_ok 26 rfl
theorem dX12_join_45 : decode cX12_join 45 = .ok (.aload_n 0, 1) := dk_get kX12_join_ok 27 rfl
theorem dX12_join_46 : decode cX12_join 46 = .ok (.getfield 29, 3) := dk_get kX12_join_ok 28 rfl
theorem dX12_join_49 : decode cX12_join 49 = .ok (.iload_n 1, 1) := dk_get kX12_join_ok 29 rfl
theorem dX12_join_50 : decode cX12_join 50 = .ok (.iaload, 1) := dk_get kX12_join_ok 30 rfl
theorem dX12_join_51 : decode cX12_join 51 = .ok (.aload_n 0, 1) := dk_get kX12_join_ok 31 rfl
theorem dX12_join_52 : decode cX12_join 52 = .ok (.getfield 29, 3) := dk_get kX12_join_ok 32 rfl
theorem dX12_join_55 : decode cX12_join 55 = .ok (.iload_n 2, 1) := dk_get kX12_join_ok 33 rfl
theorem dX12_join_56 : decode cX12_join 56 = .ok (.iaload, 1) := dk_get kX12_join_ok 34 rfl
theorem dX12_join_57 : decode cX12_join 57 = .ok (.invokevirtual 381, 3) := dk_get kX12_join_ok 35 rfl
theorem dX12_join_60 : decode cX12_join 60 = .ok (.aload_n 0, 1) := dk_get kX12_join_ok 36 rfl
theorem dX12_join_61 : decode cX12_join 61 = .ok (.aload_n 0, 1) := dk_get kX12_join_ok 37 rfl
theorem dX12_join_62 : decode cX12_join 62 = .ok (.getfield 29, 3) := dk_get kX12_join_ok 38 rfl
theorem dX12_join_65 : decode cX12_join 65 = .ok (.invokevirtual 371, 3) := dk_get kX12_join_ok 39 rfl
theorem dX12_join_68 : decode cX12_join 68 = .ok (.aload_n 0, 1) := dk_get kX12_join_ok 40 rfl
theorem dX12_join_69 : decode cX12_join 69 = .ok (.getfield 29, 3) := dk_get kX12_join_ok 41 rfl
theorem dX12_join_72 : decode cX12_join 72 = .ok (.iload_n 1, 1) := dk_get kX12_join_ok 42 rfl
theorem dX12_join_73 : decode cX12_join 73 = .ok (.iaload, 1) := dk_get kX12_join_ok 43 rfl
theorem dX12_join_74 : decode cX12_join 74 = .ok (.ireturn, 1) := dk_get kX12_join_ok 44 rfl
def kX12_joins : List (Nat × Instr × Nat) := [(0, .iconst 0, 1), (1, .istore 4, 2), (3, .iload 4, 2), (5, .aload_n 0, 1), (6, .getfield 177, 3), (9, .if_icmp .ge 22, 3), (12, .aload_n 1, 1), (13, .iload 4, 2), (15, .iaload, 1), (16, .iload_n 3, 1), (17, .if_icmp .ne 8, 3), (20, .aload_n 1, 1), (21, .iload 4, 2), (23, .iload_n 2, 1), (24, .iastore, 1), (25, .iinc 4 1, 3), (28, .goto (-25), 3), (31, .return_, 1)]
set_option maxRecDepth 100000 in
theorem kX12_joins_ok : kX12_joins.all (fun q => decide (decode cX12_joins q.1 = .ok q.2)) = true := by decide +kernel
theorem dX12_joins_0 : decode cX12_joins 0 = .ok (.iconst 0, 1) := dk_get kX12_joins_ok 0 rfl
theorem dX12_joins_1 : decode cX12_joins 1 = .ok (.istore 4, 2) := dk_get kX12_joins_ok 1 rfl
theorem dX12_joins_3 : decode cX12_joins 3 = .ok (.iload 4, 2) := dk_get kX12_joins_ok 2 rfl
theorem dX12_joins_5 : decode cX12_joins 5 = .ok (.aload_n 0, 1) := dk_get kX12_joins_ok 3 rfl
theorem dX12_joins_6 : decode cX12_joins 6 = .ok (.getfield 177, 3) := dk_get kX12_joins_ok 4 rfl
theorem dX12_joins_9 : decode cX12_joins 9 = .ok (.if_icmp .ge 22, 3) := dk_get kX12_joins_ok 5 rfl
theorem dX12_joins_12 : decode cX12_joins 12 = .ok (.aload_n 1, 1) := dk_get kX12_joins_ok 6 rfl
theorem dX12_joins_13 : decode cX12_joins 13 = .ok (.iload 4, 2) := dk_get kX12_joins_ok 7 rfl
theorem dX12_joins_15 : decode cX12_joins 15 = .ok (.iaload, 1) := dk_get kX12_joins_ok 8 rfl
theorem dX12_joins_16 : decode cX12_joins 16 = .ok (.iload_n 3, 1) := dk_get kX12_joins_ok 9 rfl
theorem dX12_joins_17 : decode cX12_joins 17 = .ok (.if_icmp .ne 8, 3) := dk_get kX12_joins_ok 10 rfl
theorem dX12_joins_20 : decode cX12_joins 20 = .ok (.aload_n 1, 1) := dk_get kX12_joins_ok 11 rfl
theorem dX12_joins_21 : decode cX12_joins 21 = .ok (.iload 4, 2) := dk_get kX12_joins_ok 12 rfl
theorem dX12_joins_23 : decode cX12_joins 23 = .ok (.iload_n 2, 1) := dk_get kX12_joins_ok 13 rfl
theorem dX12_joins_24 : decode cX12_joins 24 = .ok (.iastore, 1) := dk_get kX12_joins_ok 14 rfl
theorem dX12_joins_25 : decode cX12_joins 25 = .ok (.iinc 4 1, 3) := dk_get kX12_joins_ok 15 rfl
theorem dX12_joins_28 : decode cX12_joins 28 = .ok (.goto (-25), 3) := dk_get kX12_joins_ok 16 rfl
theorem dX12_joins_31 : decode cX12_joins 31 = .ok (.return_, 1) := dk_get kX12_joins_ok 17 rfl
def kX12_swap : List (Nat × Instr × Nat) := [(0, .aload_n 0, 1), (1, .iconst 0, 1), (2, .putfield 1, 3), (5, .aload_n 0, 1), (6, .iload_n 1, 1), (7, .invokevirtual 183, 3), (10, .ifCond .eq 11, 3), (13, .aload_n 0, 1), (14, .iload_n 2, 1), (15, .invokevirtual 183, 3), (18, .ifCond .ne 5, 3), (21, .iconst 0, 1), (22, .ireturn, 1), (23, .aload_n 0, 1), (24, .getfield 29, 3), (27, .iload_n 1, 1), (28, .iaload, 1), (29, .aload_n 0, 1), (30, .getfield 29, 3), (33, .iload_n 2, 1), (34, .iaload, 1), (35, .if_icmp .ne 5, 3), (38, .iconst (-1), 1), (39, .ireturn, 1), (40, .aload_n 0, 1), (41, .getfield 29, 3), (44, .iload_n 1, 1), (45, .iaload, 1), (46, .istore_n 3, 1), (47, .aload_n 0, 1), (48, .getfield 29, 3), (51, .iload_n 1, 1), (52, .aload_n 0, 1), (53, .getfield 29, 3), (56, .iload_n 2, 1), (57, .iaload, 1), (58, .iastore, 1), (59, .aload_n 0, 1), (60, .getfield 29, 3), (63, .iload_n 2, 1), (64, .iload_n 3, 1), (65, .iastore, 1), (66, .aload_n 0, 1), (67, .aload_n 0, 1), (68, .getfield 29, 3), (71, .invokevirtual 371, 3), (74, .iconst 1, 1), (75, .ireturn, 1)]
set_option maxRecDepth 100000 in
theorem kX12_swap_ok : kX12_swap.all (fun q => decide (decode cX12_swap q.1 = .ok q.2)) = true := by decide +kernel
theorem dX12_swap_0 : decode cX12_swap 0 = .ok (.aload_n 0, 1) := dk_get kX12_swap_ok 0 rfl
theorem dX12_swap_1 : decode cX12_swap 1 = .ok (.iconst 0, 1) := dk_get kX12_swap_ok 1 rfl
theorem dX12_swap_2 : decode cX12_swap 2 = .ok (.putfield 1, 3) := dk_get kX12_swap_ok 2 rfl
theorem dX12_swap_5 : decode cX12_swap 5 = .ok (.aload_n 0, 1) := dk_get kX12_swap_ok 3 rfl
theorem dX12_swap_6 : decode cX12_swap 6 = .ok (.iload_n 1, 1) := dk_get kX12_swap_ok 4 rfl
theorem dX12_swap_7 : decode cX12_swap 7 = .ok (.invokevirtual 183, 3) := dk_get kX12_swap_ok 5 rfl
theorem dX12_swap_10 : decode cX12_swap 10 = .ok (.ifCond .eq 11, 3) := dk_get kX12_swap_ok 6 rfl
theorem dX12_swap_13 : decode cX12_swap 13 = .ok (.aload_n 0, 1) := dk_get kX12_swap_ok 7 rfl
theorem dX12_swap_14 : decode cX12_swap 14 = .ok (.iload_n 2, 1) := dk_get kX12_swap_ok 8 rfl
theorem dX12_swap_15 : decode cX12_swap 15 = .ok (.invokevirtual 183, 3) := dk_get kX12_swap_ok 9 rfl
theorem dX12_swap_18 : decode cX12_swap 18 = .ok (.ifCond .ne 5, 3) := dk_get kX12_swap_ok 10 rfl
theorem dX12_swap_21 : decode cX12_swap 21 = .ok (.iconst 0, 1) := dk_get kX12_swap_ok 11 rfl
theorem dX12_swap_22 : decode cX12_swap 22 = .ok (.ireturn, 1) := dk_get kX12_swap_ok 12 rfl
theorem dX12_swap_23 : decode cX12_swap 23 = .ok (.aload_n 0, 1) := dk_get kX12_swap_ok 13 rfl
theorem dX12_swap_24 : decode cX12_swap 24 = .ok (.getfield 29, 3) := dk_get kX12_swap_ok 14 rfl
theorem dX12_swap_27 : decode cX12_swap 27 = .ok (.iload_n 1, 1) := dk_get kX12_swap_ok 15 rfl
theorem dX12_swap_28 : decode cX12_swap 28 = .ok (.iaload, 1) := dk_get kX12_swap_ok 16 rfl
theorem dX12_swap_29 : decode cX12_swap 29 = .ok (.aload_n 0, 1) := dk_get kX12_swap_ok 17 rfl
theorem dX12_swap_30 : decode cX12_swap 30 = .ok (.getfield 29, 3) := dk_get kX12_swap_ok 18 rfl
theorem dX12_swap_33 : decode cX12_swap 33 = .ok (.iload_n 2, 1) := dk_get kX12_swap_ok 19 rfl
theorem dX12_swap_34 : decode cX12_swap 34 = .ok (.iaload, 1) := dk_get kX12_swap_ok 20 rfl
theorem dX12_swap_35 : decode cX12_swap 35 = .ok (.if_icmp .ne 5, 3) := dk_get kX12_swap_ok 21 rfl
theorem dX12_swap_38 : decode cX12_swap 38 = .ok (.iconst (-1), 1) := dk_get kX12_swap_ok 22 rfl
theorem dX12_swap_39 : decode cX12_swap 39 = .ok (.ireturn, 1) := dk_get kX12_swap_ok 23 rfl
theorem dX12_swap_40 : decode cX12_swap 40 = .ok (.aload_n 0, 1) := dk_get kX12_swap_ok 24 rfl
theorem dX12_swap_41 : decode cX12_swap 41 = .ok (.getfield 29, 3) := dk_get kX12_swap_ok 25 rfl
theorem dX12_swap_44 : decode cX12_swap 44 = .ok (.iload_n 1, 1) := dk_get kX12_swap_ok 26 rfl
theorem dX12_swap_45 : decode cX12_swap 45 = .ok (.iaload, 1) := dk_get kX12_swap_ok 27 rfl
theorem dX12_swap_46 : decode cX12_swap 46 = .ok (.istore_n 3, 1) := dk_get kX12_swap_ok 28 rfl
theorem dX12_swap_47 : decode cX12_swap 47 = .ok (.aload_n 0, 1) := dk_get kX12_swap_ok 29 rfl
theorem dX12_swap_48 : decode cX12_swap 48 = .ok (.getfield 29, 3) := dk_get kX12_swap_ok 30 rfl
theorem dX12_swap_51 : decode cX12_swap 51 = .ok (.iload_n 1, 1) := dk_get kX12_swap_ok 31 rfl
theorem dX12_swap_52 : decode cX12_swap 52 = .ok (.aload_n 0, 1) := dk_get kX12_swap_ok 32 rfl
theorem dX12_swap_53 : decode cX12_swap 53 = .ok (.getfield 29, 3) := dk_get kX12_swap_ok 33 rfl
theorem dX12_swap_56 : decode cX12_swap 56 = .ok (.iload_n 2, 1) := dk_get kX12_swap_ok 34 rfl
theorem dX12_swap_57 : decode cX12_swap 57 = .ok (.iaload, 1) := dk_get kX12_swap_ok 35 rfl
theorem dX12_swap_58 : decode cX12_swap 58 = .ok (.iastore, 1) := dk_get kX12_swap_ok 36 rfl
theorem dX12_swap_59 : decode cX12_swap 59 = .ok (.aload_n 0, 1) := dk_get kX12_swap_ok 37 rfl
theorem dX12_swap_60 : decode cX12_swap 60 = .ok (.getfield 29, 3) := dk_get kX12_swap_ok 38 rfl
theorem dX12_swap_63 : decode cX12_swap 63 = .ok (.iload_n 2, 1) := dk_get kX12_swap_ok 39 rfl
theorem dX12_swap_64 : decode cX12_swap 64 = .ok (.iload_n 3, 1) := dk_get kX12_swap_ok 40 rfl
theorem dX12_swap_65 : decode cX12_swap 65 = .ok (.iastore, 1) := dk_get kX12_swap_ok 41 rfl
theorem dX12_swap_66 : decode cX12_swap 66 = .ok (.aload_n 0, 1) := dk_get kX12_swap_ok 42 rfl
theorem dX12_swap_67 : decode cX12_swap 67 = .ok (.aload_n 0, 1) := dk_get kX12_swap_ok 43 rfl
theorem dX12_swap_68 : decode cX12_swap 68 = .ok (.getfield 29, 3) := dk_get kX12_swap_ok 44 rfl
theorem dX12_swap_71 : decode cX12_swap 71 = .ok (.invokevirtual 371, 3) := dk_get kX12_swap_ok 45 rfl
theorem dX12_swap_74 : decode cX12_swap 74 = .ok (.iconst 1, 1) := dk_get kX12_swap_ok 46 rfl
theorem dX12_swap_75 : decode cX12_swap 75 = .ok (.ireturn, 1) := dk_get kX12_swap_ok 47 rfl
def kX12_cost : List (Nat × Instr × Nat) := [(0, .aload_n 0, 1), (1, .iconst 0, 1), (2, .putfield 1, 3), (5, .aload_n 0, 1), (6, .invokevirtual 385, 3), (9, .aload_n 0, 1), (10, .aload_n 0, 1), (11, .getfield 29, 3), (14, .invokevirtual 388, 3), (17, .lreturn, 1)]
set_option maxRecDepth 100000 in
theorem kX12_cost_ok : kX12_cost.all (fun q => decide (decode cX12_cost q.1 = .ok q.2)) = true := by decide +kernel
theorem dX12_cost_0 : decode cX12_cost 0 = .ok (.aload_n 0, 1) := dk_get kX12_cost_ok 0 rfl
theorem dX12_cost_1 : decode cX12_cost 1 = .ok (.iconst 0, 1) := dk_get kX12_cost_ok 1 rfl
theorem dX12_cost_2 : decode cX12_cost 2 = .ok (.putfield 1, 3) := dk_get kX12_cost_ok 2 rfl
theorem dX12_cost_5 : decode cX12_cost 5 = .ok (.aload_n 0, 1) := dk_get kX12_cost_ok 3 rfl
theorem dX12_cost_6 : decode cX12_cost 6 = .ok (.invokevirtual 385, 3) := dk_get kX12_cost_ok 4 rfl
theorem dX12_cost_9 : decode cX12_cost 9 = .ok (.aload_n 0, 1) := dk_get kX12_cost_ok 5 rfl
theorem dX12_cost_10 : decode cX12_cost 10 = .ok (.aload_n 0, 1) := dk_get kX12_cost_ok 6 rfl
theorem dX12_cost_11 : decode cX12_cost 11 = .ok (.getfield 29, 3) := dk_get kX12_cost_ok 7 rfl
theorem dX12_cost_14 : decode cX12_cost 14 = .ok (.invokevirtual 388, 3) := dk_get kX12_cost_ok 8 rfl
theorem dX12_cost_17 : decode cX12_cost 17 = .ok (.lreturn, 1) := dk_get kX12_cost_ok 9 rfl
def kX12_barred : List (Nat × Instr × Nat) := [(0, .aload_n 0, 1), (1, .iconst 0, 1), (2, .putfield 1, 3), (5, .aload_n 0, 1), (6, .invokevirtual 385, 3), (9, .aload_n 0, 1), (10, .aload_n 0, 1), (11, .getfield 29, 3), (14, .invokevirtual 392, 3), (17, .ireturn, 1)]
set_option maxRecDepth 100000 in
theorem kX12_barred_ok : kX12_barred.all (fun q => decide (decode cX12_barred q.1 = .ok q.2)) = true := by decide +kernel
theorem dX12_barred_0 : decode cX12_barred 0 = .ok (.aload_n 0, 1) := dk_get kX12_barred_ok 0 rfl
theorem dX12_barred_1 : decode cX12_barred 1 = .ok (.iconst 0, 1) := dk_get kX12_barred_ok 1 rfl
theorem dX12_barred_2 : decode cX12_barred 2 = .ok (.putfield 1, 3) := dk_get kX12_barred_ok 2 rfl
theorem dX12_barred_5 : decode cX12_barred 5 = .ok (.aload_n 0, 1) := dk_get kX12_barred_ok 3 rfl
theorem dX12_barred_6 : decode cX12_barred 6 = .ok (.invokevirtual 385, 3) := dk_get kX12_barred_ok 4 rfl
theorem dX12_barred_9 : decode cX12_barred 9 = .ok (.aload_n 0, 1) := dk_get kX12_barred_ok 5 rfl
theorem dX12_barred_10 : decode cX12_barred 10 = .ok (.aload_n 0, 1) := dk_get kX12_barred_ok 6 rfl
theorem dX12_barred_11 : decode cX12_barred 11 = .ok (.getfield 29, 3) := dk_get kX12_barred_ok 7 rfl
theorem dX12_barred_14 : decode cX12_barred 14 = .ok (.invokevirtual 392, 3) := dk_get kX12_barred_ok 8 rfl
theorem dX12_barred_17 : decode cX12_barred 17 = .ok (.ireturn, 1) := dk_get kX12_barred_ok 9 rfl
def kX12_tries : List (Nat × Instr × Nat) := [(0, .aload_n 0, 1), (1, .aload_n 0, 1), (2, .getfield 114, 3), (5, .invokevirtual 392, 3), (8, .iconst (-1), 1), (9, .if_icmp .eq 4, 3), (12, .return_, 1), (13, .aload_n 0, 1), (14, .aload_n 0, 1), (15, .getfield 114, 3), (18, .invokevirtual 388, 3), (21, .lstore 4, 2), (23, .lload 4, 2), (25, .aload_n 0, 1), (26, .getfield 396, 3), (29, .lcmp, 1), (30, .ifCond .lt 4, 3), (33, .return_, 1), (34, .aload_n 0, 1), (35, .iconst 1, 1), (36, .putfield 400, 3), (39, .aload_n 0, 1), (40, .lload 4, 2), (42, .putfield 396, 3), (45, .aload_n 0, 1), (46, .iload_n 1, 1), (47, .putfield 404, 3), (50, .aload_n 0, 1), (51, .iload_n 2, 1), (52, .putfield 407, 3), (55, .aload_n 0, 1), (56, .iload_n 3, 1), (57, .putfield 410, 3), (60, .iconst 0, 1), (61, .istore 6, 2), (63, .iload 6, 2), (65, .aload_n 0, 1), (66, .getfield 177, 3), (69, .if_icmp .ge 23, 3), (72, .aload_n 0, 1), (73, .getfield 120, 3), (76, .iload 6, 2), (78, .aload_n 0, 1), (79, .getfield 114, 3), (82, .iload 6, 2), (84, .iaload, 1), (85, .iastore, 1), (86, .iinc 6 1, 3), (89, .goto (-26), 3), (92, .return_, 1)]
set_option maxRecDepth 100000 in
theorem kX12_tries_ok : kX12_tries.all (fun q => decide (decode cX12_tries q.1 = .ok q.2)) = true := by decide +kernel
theorem dX12_tries_0 : decode cX12_tries 0 = .ok (.aload_n 0, 1) := dk_get kX12_tries_ok 0 rfl
theorem dX12_tries_1 : decode cX12_tries 1 = .ok (.aload_n 0, 1) := dk_get kX12_tries_ok 1 rfl
theorem dX12_tries_2 : decode cX12_tries 2 = .ok (.getfield 114, 3) := dk_get kX12_tries_ok 2 rfl
theorem dX12_tries_5 : decode cX12_tries 5 = .ok (.invokevirtual 392, 3) := dk_get kX12_tries_ok 3 rfl
theorem dX12_tries_8 : decode cX12_tries 8 = .ok (.iconst (-1), 1) := dk_get kX12_tries_ok 4 rfl
theorem dX12_tries_9 : decode cX12_tries 9 = .ok (.if_icmp .eq 4, 3) := dk_get kX12_tries_ok 5 rfl
theorem dX12_tries_12 : decode cX12_tries 12 = .ok (.return_, 1) := dk_get kX12_tries_ok 6 rfl
theorem dX12_tries_13 : decode cX12_tries 13 = .ok (.aload_n 0, 1) := dk_get kX12_tries_ok 7 rfl
theorem dX12_tries_14 : decode cX12_tries 14 = .ok (.aload_n 0, 1) := dk_get kX12_tries_ok 8 rfl
theorem dX12_tries_15 : decode cX12_tries 15 = .ok (.getfield 114, 3) := dk_get kX12_tries_ok 9 rfl
theorem dX12_tries_18 : decode cX12_tries 18 = .ok (.invokevirtual 388, 3) := dk_get kX12_tries_ok 10 rfl
theorem dX12_tries_21 : decode cX12_tries 21 = .ok (.lstore 4, 2) := dk_get kX12_tries_ok 11 rfl
theorem dX12_tries_23 : decode cX12_tries 23 = .ok (.lload 4, 2) := dk_get kX12_tries_ok 12 rfl
theorem dX12_tries_25 : decode cX12_tries 25 = .ok (.aload_n 0, 1) := dk_get kX12_tries_ok 13 rfl
theorem dX12_tries_26 : decode cX12_tries 26 = .ok (.getfield 396, 3) := dk_get kX12_tries_ok 14 rfl
theorem dX12_tries_29 : decode cX12_tries 29 = .ok (.lcmp, 1) := dk_get kX12_tries_ok 15 rfl
theorem dX12_tries_30 : decode cX12_tries 30 = .ok (.ifCond .lt 4, 3) := dk_get kX12_tries_ok 16 rfl
theorem dX12_tries_33 : decode cX12_tries 33 = .ok (.return_, 1) := dk_get kX12_tries_ok 17 rfl
theorem dX12_tries_34 : decode cX12_tries 34 = .ok (.aload_n 0, 1) := dk_get kX12_tries_ok 18 rfl
theorem dX12_tries_35 : decode cX12_tries 35 = .ok (.iconst 1, 1) := dk_get kX12_tries_ok 19 rfl
theorem dX12_tries_36 : decode cX12_tries 36 = .ok (.putfield 400, 3) := dk_get kX12_tries_ok 20 rfl
theorem dX12_tries_39 : decode cX12_tries 39 = .ok (.aload_n 0, 1) := dk_get kX12_tries_ok 21 rfl
theorem dX12_tries_40 : decode cX12_tries 40 = .ok (.lload 4, 2) := dk_get kX12_tries_ok 22 rfl
theorem dX12_tries_42 : decode cX12_tries 42 = .ok (.putfield 396, 3) := dk_get kX12_tries_ok 23 rfl
theorem dX12_tries_45 : decode cX12_tries 45 = .ok (.aload_n 0, 1) := dk_get kX12_tries_ok 24 rfl
theorem dX12_tries_46 : decode cX12_tries 46 = .ok (.iload_n 1, 1) := dk_get kX12_tries_ok 25 rfl
theorem dX12_tries_47 : decode cX12_tries 47 = .ok (.putfield 404, 3) := dk_get kX12_tries_ok 26 rfl
theorem dX12_tries_50 : decode cX12_tries 50 = .ok (.aload_n 0, 1) := dk_get kX12_tries_ok 27 rfl
theorem dX12_tries_51 : decode cX12_tries 51 = .ok (.iload_n 2, 1) := dk_get kX12_tries_ok 28 rfl
theorem dX12_tries_52 : decode cX12_tries 52 = .ok (.putfield 407, 3) := dk_get kX12_tries_ok 29 rfl
theorem dX12_tries_55 : decode cX12_tries 55 = .ok (.aload_n 0, 1) := dk_get kX12_tries_ok 30 rfl
theorem dX12_tries_56 : decode cX12_tries 56 = .ok (.iload_n 3, 1) := dk_get kX12_tries_ok 31 rfl
theorem dX12_tries_57 : decode cX12_tries 57 = .ok (.putfield 410, 3) := dk_get kX12_tries_ok 32 rfl
theorem dX12_tries_60 : decode cX12_tries 60 = .ok (.iconst 0, 1) := dk_get kX12_tries_ok 33 rfl
theorem dX12_tries_61 : decode cX12_tries 61 = .ok (.istore 6, 2) := dk_get kX12_tries_ok 34 rfl
theorem dX12_tries_63 : decode cX12_tries 63 = .ok (.iload 6, 2) := dk_get kX12_tries_ok 35 rfl
theorem dX12_tries_65 : decode cX12_tries 65 = .ok (.aload_n 0, 1) := dk_get kX12_tries_ok 36 rfl
theorem dX12_tries_66 : decode cX12_tries 66 = .ok (.getfield 177, 3) := dk_get kX12_tries_ok 37 rfl
theorem dX12_tries_69 : decode cX12_tries 69 = .ok (.if_icmp .ge 23, 3) := dk_get kX12_tries_ok 38 rfl
theorem dX12_tries_72 : decode cX12_tries 72 = .ok (.aload_n 0, 1) := dk_get kX12_tries_ok 39 rfl
theorem dX12_tries_73 : decode cX12_tries 73 = .ok (.getfield 120, 3) := dk_get kX12_tries_ok 40 rfl
theorem dX12_tries_76 : decode cX12_tries 76 = .ok (.iload 6, 2) := dk_get kX12_tries_ok 41 rfl
theorem dX12_tries_78 : decode cX12_tries 78 = .ok (.aload_n 0, 1) := dk_get kX12_tries_ok 42 rfl
theorem dX12_tries_79 : decode cX12_tries 79 = .ok (.getfield 114, 3) := dk_get kX12_tries_ok 43 rfl
theorem dX12_tries_82 : decode cX12_tries 82 = .ok (.iload 6, 2) := dk_get kX12_tries_ok 44 rfl
theorem dX12_tries_84 : decode cX12_tries 84 = .ok (.iaload, 1) := dk_get kX12_tries_ok 45 rfl
theorem dX12_tries_85 : decode cX12_tries 85 = .ok (.iastore, 1) := dk_get kX12_tries_ok 46 rfl
theorem dX12_tries_86 : decode cX12_tries 86 = .ok (.iinc 6 1, 3) := dk_get kX12_tries_ok 47 rfl
theorem dX12_tries_89 : decode cX12_tries 89 = .ok (.goto (-26), 3) := dk_get kX12_tries_ok 48 rfl
theorem dX12_tries_92 : decode cX12_tries 92 = .ok (.return_, 1) := dk_get kX12_tries_ok 49 rfl
def kX12_findBetter_0 : List (Nat × Instr × Nat) := [(0, .aload_n 0, 1), (1, .iconst 0, 1), (2, .putfield 400, 3), (5, .aload_n 0, 1), (6, .aload_n 0, 1), (7, .aload_n 0, 1), (8, .getfield 29, 3), (11, .invokevirtual 388, 3), (14, .putfield 396, 3), (17, .iconst 0, 1), (18, .istore_n 1, 1), (19, .iload_n 1, 1), (20, .aload_n 0, 1), (21, .getfield 177, 3), (24, .if_icmp .ge 112, 3), (27, .iconst 0, 1), (28, .istore_n 2, 1), (29, .iload_n 2, 1), (30, .aload_n 0, 1), (31, .getfield 177, 3), (34, .if_icmp .ge 54, 3), (37, .aload_n 0, 1), (38, .getfield 29, 3), (41, .iload_n 2, 1), (42, .iaload, 1), (43, .iload_n 2, 1), (44, .if_icmp .ne 38, 3), (47, .iload_n 2, 1), (48, .aload_n 0, 1), (49, .getfield 29, 3), (52, .iload_n 1, 1), (53, .iaload, 1), (54, .if_icmp .ne 6, 3), (57, .goto 25, 3), (60, .aload_n 0, 1), (61, .aload_n 0, 1), (62, .getfield 114, 3), (65, .invokevirtual 413, 3), (68, .aload_n 0, 1), (69, .getfield 114, 3), (72, .iload_n 1, 1), (73, .iload_n 2, 1), (74, .iastore, 1), (75, .aload_n 0, 1), (76, .iconst 0, 1), (77, .iload_n 1, 1), (78, .iload_n 2, 1), (79, .invokevirtual 416, 3), (82, .iinc 2 1, 3), (85, .goto (-56), 3), (88, .aload_n 0, 1), (89, .aload_n 0, 1), (90, .getfield 29, 3), (93, .iload_n 1, 1), (94, .iaload, 1), (95, .invokevirtual 375, 3), (98, .iconst 1, 1), (99, .if_icmp .ne 6, 3), (102, .goto 28, 3), (105, .aload_n 0, 1), (106, .aload_n 0, 1), (107, .getfield 114, 3), (110, .invokevirtual 413, 3), (113, .aload_n 0, 1), (114, .getfield 114, 3), (117, .iload_n 1, 1), (118, .iload_n 1, 1), (119, .invokestatic 378, 3), (122, .iastore, 1), (123, .aload_n 0, 1), (124, .iconst 0, 1), (125, .iload_n 1, 1), (126, .iconst (-1), 1), (127, .invokevirtual 416, 3), (130, .iinc 1 1, 3), (133, .goto (-114), 3), (136, .iconst 0, 1), (137, .istore_n 1, 1), (138, .iload_n 1, 1), (139, .aload_n 0, 1), (140, .getfield 177, 3), (143, .if_icmp .ge 75, 3), (146, .iload_n 1, 1), (147, .iconst 1, 1), (148, .iadd, 1), (149, .istore_n 2, 1), (150, .iload_n 2, 1), (151, .aload_n 0, 1), (152, .getfield 177, 3), (155, .if_icmp .ge 57, 3), (158, .aload_n 0, 1), (159, .getfield 29, 3), (162, .iload_n 1, 1), (163, .iaload, 1), (164, .iload_n 1, 1), (165, .if_icmp .ne 41, 3), (168, .aload_n 0, 1), (169, .getfield 29, 3), (172, .iload_n 2, 1), (173, .iaload, 1), (174, .iload_n 2, 1), (175, .if_icmp .eq 6, 3), (178, .goto 28, 3), (181, .aload_n 0, 1), (182, .aload_n 0, 1), (183, .getfield 114, 3), (186, .invokevirtual 413, 3), (189, .aload_n 0, 1), (190, .aload_n 0, 1), (191, .getfield 114, 3), (194, .iload_n 1, 1), (195, .iload_n 2, 1), (196, .invokevirtual 381, 3), (199, .aload_n 0, 1), (200, .iconst 1, 1), (201, .iload_n 1, 1), (202, .iload_n 2, 1), (203, .invokevirtual 416, 3), (206, .iinc 2 1, 3), (209, .goto (-59), 3)]
set_option maxRecDepth 100000 in
theorem kX12_findBetter_0_ok : kX12_findBetter_0.all (fun q => decide (decode cX12_findBetter q.1 = .ok q.2)) = true := by decide +kernel
theorem dX12_findBetter_0 : decode cX12_findBetter 0 = .ok (.aload_n 0, 1) := dk_get kX12_findBetter_0_ok 0 rfl
theorem dX12_findBetter_1 : decode cX12_findBetter 1 = .ok (.iconst 0, 1) := dk_get kX12_findBetter_0_ok 1 rfl
theorem dX12_findBetter_2 : decode cX12_findBetter 2 = .ok (.putfield 400, 3) := dk_get kX12_findBetter_0_ok 2 rfl
theorem dX12_findBetter_5 : decode cX12_findBetter 5 = .ok (.aload_n 0, 1) := dk_get kX12_findBetter_0_ok 3 rfl
theorem dX12_findBetter_6 : decode cX12_findBetter 6 = .ok (.aload_n 0, 1) := dk_get kX12_findBetter_0_ok 4 rfl
theorem dX12_findBetter_7 : decode cX12_findBetter 7 = .ok (.aload_n 0, 1) := dk_get kX12_findBetter_0_ok 5 rfl
theorem dX12_findBetter_8 : decode cX12_findBetter 8 = .ok (.getfield 29, 3) := dk_get kX12_findBetter_0_ok 6 rfl
theorem dX12_findBetter_11 : decode cX12_findBetter 11 = .ok (.invokevirtual 388, 3) := dk_get kX12_findBetter_0_ok 7 rfl
theorem dX12_findBetter_14 : decode cX12_findBetter 14 = .ok (.putfield 396, 3) := dk_get kX12_findBetter_0_ok 8 rfl
theorem dX12_findBetter_17 : decode cX12_findBetter 17 = .ok (.iconst 0, 1) := dk_get kX12_findBetter_0_ok 9 rfl
theorem dX12_findBetter_18 : decode cX12_findBetter 18 = .ok (.istore_n 1, 1) := dk_get kX12_findBetter_0_ok 10 rfl
theorem dX12_findBetter_19 : decode cX12_findBetter 19 = .ok (.iload_n 1, 1) := dk_get kX12_findBetter_0_ok 11 rfl
theorem dX12_findBetter_20 : decode cX12_findBetter 20 = .ok (.aload_n 0, 1) := dk_get kX12_findBetter_0_ok 12 rfl
theorem dX12_findBetter_21 : decode cX12_findBetter 21 = .ok (.getfield 177, 3) := dk_get kX12_findBetter_0_ok 13 rfl
theorem dX12_findBetter_24 : decode cX12_findBetter 24 = .ok (.if_icmp .ge 112, 3) := dk_get kX12_findBetter_0_ok 14 rfl
theorem dX12_findBetter_27 : decode cX12_findBetter 27 = .ok (.iconst 0, 1) := dk_get kX12_findBetter_0_ok 15 rfl
theorem dX12_findBetter_28 : decode cX12_findBetter 28 = .ok (.istore_n 2, 1) := dk_get kX12_findBetter_0_ok 16 rfl
theorem dX12_findBetter_29 : decode cX12_findBetter 29 = .ok (.iload_n 2, 1) := dk_get kX12_findBetter_0_ok 17 rfl
theorem dX12_findBetter_30 : decode cX12_findBetter 30 = .ok (.aload_n 0, 1) := dk_get kX12_findBetter_0_ok 18 rfl
theorem dX12_findBetter_31 : decode cX12_findBetter 31 = .ok (.getfield 177, 3) := dk_get kX12_findBetter_0_ok 19 rfl
theorem dX12_findBetter_34 : decode cX12_findBetter 34 = .ok (.if_icmp .ge 54, 3) := dk_get kX12_findBetter_0_ok 20 rfl
theorem dX12_findBetter_37 : decode cX12_findBetter 37 = .ok (.aload_n 0, 1) := dk_get kX12_findBetter_0_ok 21 rfl
theorem dX12_findBetter_38 : decode cX12_findBetter 38 = .ok (.getfield 29, 3) := dk_get kX12_findBetter_0_ok 22 rfl
theorem dX12_findBetter_41 : decode cX12_findBetter 41 = .ok (.iload_n 2, 1) := dk_get kX12_findBetter_0_ok 23 rfl
theorem dX12_findBetter_42 : decode cX12_findBetter 42 = .ok (.iaload, 1) := dk_get kX12_findBetter_0_ok 24 rfl
theorem dX12_findBetter_43 : decode cX12_findBetter 43 = .ok (.iload_n 2, 1) := dk_get kX12_findBetter_0_ok 25 rfl
theorem dX12_findBetter_44 : decode cX12_findBetter 44 = .ok (.if_icmp .ne 38, 3) := dk_get kX12_findBetter_0_ok 26 rfl
theorem dX12_findBetter_47 : decode cX12_findBetter 47 = .ok (.iload_n 2, 1) := dk_get kX12_findBetter_0_ok 27 rfl
theorem dX12_findBetter_48 : decode cX12_findBetter 48 = .ok (.aload_n 0, 1) := dk_get kX12_findBetter_0_ok 28 rfl
theorem dX12_findBetter_49 : decode cX12_findBetter 49 = .ok (.getfield 29, 3) := dk_get kX12_findBetter_0_ok 29 rfl
theorem dX12_findBetter_52 : decode cX12_findBetter 52 = .ok (.iload_n 1, 1) := dk_get kX12_findBetter_0_ok 30 rfl
theorem dX12_findBetter_53 : decode cX12_findBetter 53 = .ok (.iaload, 1) := dk_get kX12_findBetter_0_ok 31 rfl
theorem dX12_findBetter_54 : decode cX12_findBetter 54 = .ok (.if_icmp .ne 6, 3) := dk_get kX12_findBetter_0_ok 32 rfl
theorem dX12_findBetter_57 : decode cX12_findBetter 57 = .ok (.goto 25, 3) := dk_get kX12_findBetter_0_ok 33 rfl
theorem dX12_findBetter_60 : decode cX12_findBetter 60 = .ok (.aload_n 0, 1) := dk_get kX12_findBetter_0_ok 34 rfl
theorem dX12_findBetter_61 : decode cX12_findBetter 61 = .ok (.aload_n 0, 1) := dk_get kX12_findBetter_0_ok 35 rfl
theorem dX12_findBetter_62 : decode cX12_findBetter 62 = .ok (.getfield 114, 3) := dk_get kX12_findBetter_0_ok 36 rfl
theorem dX12_findBetter_65 : decode cX12_findBetter 65 = .ok (.invokevirtual 413, 3) := dk_get kX12_findBetter_0_ok 37 rfl
theorem dX12_findBetter_68 : decode cX12_findBetter 68 = .ok (.aload_n 0, 1) := dk_get kX12_findBetter_0_ok 38 rfl
theorem dX12_findBetter_69 : decode cX12_findBetter 69 = .ok (.getfield 114, 3) := dk_get kX12_findBetter_0_ok 39 rfl
theorem dX12_findBetter_72 : decode cX12_findBetter 72 = .ok (.iload_n 1, 1) := dk_get kX12_findBetter_0_ok 40 rfl
theorem dX12_findBetter_73 : decode cX12_findBetter 73 = .ok (.iload_n 2, 1) := dk_get kX12_findBetter_0_ok 41 rfl
theorem dX12_findBetter_74 : decode cX12_findBetter 74 = .ok (.iastore, 1) := dk_get kX12_findBetter_0_ok 42 rfl
theorem dX12_findBetter_75 : decode cX12_findBetter 75 = .ok (.aload_n 0, 1) := dk_get kX12_findBetter_0_ok 43 rfl
theorem dX12_findBetter_76 : decode cX12_findBetter 76 = .ok (.iconst 0, 1) := dk_get kX12_findBetter_0_ok 44 rfl
theorem dX12_findBetter_77 : decode cX12_findBetter 77 = .ok (.iload_n 1, 1) := dk_get kX12_findBetter_0_ok 45 rfl
theorem dX12_findBetter_78 : decode cX12_findBetter 78 = .ok (.iload_n 2, 1) := dk_get kX12_findBetter_0_ok 46 rfl
theorem dX12_findBetter_79 : decode cX12_findBetter 79 = .ok (.invokevirtual 416, 3) := dk_get kX12_findBetter_0_ok 47 rfl
theorem dX12_findBetter_82 : decode cX12_findBetter 82 = .ok (.iinc 2 1, 3) := dk_get kX12_findBetter_0_ok 48 rfl
theorem dX12_findBetter_85 : decode cX12_findBetter 85 = .ok (.goto (-56), 3) := dk_get kX12_findBetter_0_ok 49 rfl
theorem dX12_findBetter_88 : decode cX12_findBetter 88 = .ok (.aload_n 0, 1) := dk_get kX12_findBetter_0_ok 50 rfl
theorem dX12_findBetter_89 : decode cX12_findBetter 89 = .ok (.aload_n 0, 1) := dk_get kX12_findBetter_0_ok 51 rfl
theorem dX12_findBetter_90 : decode cX12_findBetter 90 = .ok (.getfield 29, 3) := dk_get kX12_findBetter_0_ok 52 rfl
theorem dX12_findBetter_93 : decode cX12_findBetter 93 = .ok (.iload_n 1, 1) := dk_get kX12_findBetter_0_ok 53 rfl
theorem dX12_findBetter_94 : decode cX12_findBetter 94 = .ok (.iaload, 1) := dk_get kX12_findBetter_0_ok 54 rfl
theorem dX12_findBetter_95 : decode cX12_findBetter 95 = .ok (.invokevirtual 375, 3) := dk_get kX12_findBetter_0_ok 55 rfl
theorem dX12_findBetter_98 : decode cX12_findBetter 98 = .ok (.iconst 1, 1) := dk_get kX12_findBetter_0_ok 56 rfl
theorem dX12_findBetter_99 : decode cX12_findBetter 99 = .ok (.if_icmp .ne 6, 3) := dk_get kX12_findBetter_0_ok 57 rfl
theorem dX12_findBetter_102 : decode cX12_findBetter 102 = .ok (.goto 28, 3) := dk_get kX12_findBetter_0_ok 58 rfl
theorem dX12_findBetter_105 : decode cX12_findBetter 105 = .ok (.aload_n 0, 1) := dk_get kX12_findBetter_0_ok 59 rfl
theorem dX12_findBetter_106 : decode cX12_findBetter 106 = .ok (.aload_n 0, 1) := dk_get kX12_findBetter_0_ok 60 rfl
theorem dX12_findBetter_107 : decode cX12_findBetter 107 = .ok (.getfield 114, 3) := dk_get kX12_findBetter_0_ok 61 rfl
theorem dX12_findBetter_110 : decode cX12_findBetter 110 = .ok (.invokevirtual 413, 3) := dk_get kX12_findBetter_0_ok 62 rfl
theorem dX12_findBetter_113 : decode cX12_findBetter 113 = .ok (.aload_n 0, 1) := dk_get kX12_findBetter_0_ok 63 rfl
theorem dX12_findBetter_114 : decode cX12_findBetter 114 = .ok (.getfield 114, 3) := dk_get kX12_findBetter_0_ok 64 rfl
theorem dX12_findBetter_117 : decode cX12_findBetter 117 = .ok (.iload_n 1, 1) := dk_get kX12_findBetter_0_ok 65 rfl
theorem dX12_findBetter_118 : decode cX12_findBetter 118 = .ok (.iload_n 1, 1) := dk_get kX12_findBetter_0_ok 66 rfl
theorem dX12_findBetter_119 : decode cX12_findBetter 119 = .ok (.invokestatic 378, 3) := dk_get kX12_findBetter_0_ok 67 rfl
theorem dX12_findBetter_122 : decode cX12_findBetter 122 = .ok (.iastore, 1) := dk_get kX12_findBetter_0_ok 68 rfl
theorem dX12_findBetter_123 : decode cX12_findBetter 123 = .ok (.aload_n 0, 1) := dk_get kX12_findBetter_0_ok 69 rfl
theorem dX12_findBetter_124 : decode cX12_findBetter 124 = .ok (.iconst 0, 1) := dk_get kX12_findBetter_0_ok 70 rfl
theorem dX12_findBetter_125 : decode cX12_findBetter 125 = .ok (.iload_n 1, 1) := dk_get kX12_findBetter_0_ok 71 rfl
theorem dX12_findBetter_126 : decode cX12_findBetter 126 = .ok (.iconst (-1), 1) := dk_get kX12_findBetter_0_ok 72 rfl
theorem dX12_findBetter_127 : decode cX12_findBetter 127 = .ok (.invokevirtual 416, 3) := dk_get kX12_findBetter_0_ok 73 rfl
theorem dX12_findBetter_130 : decode cX12_findBetter 130 = .ok (.iinc 1 1, 3) := dk_get kX12_findBetter_0_ok 74 rfl
theorem dX12_findBetter_133 : decode cX12_findBetter 133 = .ok (.goto (-114), 3) := dk_get kX12_findBetter_0_ok 75 rfl
theorem dX12_findBetter_136 : decode cX12_findBetter 136 = .ok (.iconst 0, 1) := dk_get kX12_findBetter_0_ok 76 rfl
theorem dX12_findBetter_137 : decode cX12_findBetter 137 = .ok (.istore_n 1, 1) := dk_get kX12_findBetter_0_ok 77 rfl
theorem dX12_findBetter_138 : decode cX12_findBetter 138 = .ok (.iload_n 1, 1) := dk_get kX12_findBetter_0_ok 78 rfl
theorem dX12_findBetter_139 : decode cX12_findBetter 139 = .ok (.aload_n 0, 1) := dk_get kX12_findBetter_0_ok 79 rfl
theorem dX12_findBetter_140 : decode cX12_findBetter 140 = .ok (.getfield 177, 3) := dk_get kX12_findBetter_0_ok 80 rfl
theorem dX12_findBetter_143 : decode cX12_findBetter 143 = .ok (.if_icmp .ge 75, 3) := dk_get kX12_findBetter_0_ok 81 rfl
theorem dX12_findBetter_146 : decode cX12_findBetter 146 = .ok (.iload_n 1, 1) := dk_get kX12_findBetter_0_ok 82 rfl
theorem dX12_findBetter_147 : decode cX12_findBetter 147 = .ok (.iconst 1, 1) := dk_get kX12_findBetter_0_ok 83 rfl
theorem dX12_findBetter_148 : decode cX12_findBetter 148 = .ok (.iadd, 1) := dk_get kX12_findBetter_0_ok 84 rfl
theorem dX12_findBetter_149 : decode cX12_findBetter 149 = .ok (.istore_n 2, 1) := dk_get kX12_findBetter_0_ok 85 rfl
theorem dX12_findBetter_150 : decode cX12_findBetter 150 = .ok (.iload_n 2, 1) := dk_get kX12_findBetter_0_ok 86 rfl
theorem dX12_findBetter_151 : decode cX12_findBetter 151 = .ok (.aload_n 0, 1) := dk_get kX12_findBetter_0_ok 87 rfl
theorem dX12_findBetter_152 : decode cX12_findBetter 152 = .ok (.getfield 177, 3) := dk_get kX12_findBetter_0_ok 88 rfl
theorem dX12_findBetter_155 : decode cX12_findBetter 155 = .ok (.if_icmp .ge 57, 3) := dk_get kX12_findBetter_0_ok 89 rfl
theorem dX12_findBetter_158 : decode cX12_findBetter 158 = .ok (.aload_n 0, 1) := dk_get kX12_findBetter_0_ok 90 rfl
theorem dX12_findBetter_159 : decode cX12_findBetter 159 = .ok (.getfield 29, 3) := dk_get kX12_findBetter_0_ok 91 rfl
theorem dX12_findBetter_162 : decode cX12_findBetter 162 = .ok (.iload_n 1, 1) := dk_get kX12_findBetter_0_ok 92 rfl
theorem dX12_findBetter_163 : decode cX12_findBetter 163 = .ok (.iaload, 1) := dk_get kX12_findBetter_0_ok 93 rfl
theorem dX12_findBetter_164 : decode cX12_findBetter 164 = .ok (.iload_n 1, 1) := dk_get kX12_findBetter_0_ok 94 rfl
theorem dX12_findBetter_165 : decode cX12_findBetter 165 = .ok (.if_icmp .ne 41, 3) := dk_get kX12_findBetter_0_ok 95 rfl
theorem dX12_findBetter_168 : decode cX12_findBetter 168 = .ok (.aload_n 0, 1) := dk_get kX12_findBetter_0_ok 96 rfl
theorem dX12_findBetter_169 : decode cX12_findBetter 169 = .ok (.getfield 29, 3) := dk_get kX12_findBetter_0_ok 97 rfl
theorem dX12_findBetter_172 : decode cX12_findBetter 172 = .ok (.iload_n 2, 1) := dk_get kX12_findBetter_0_ok 98 rfl
theorem dX12_findBetter_173 : decode cX12_findBetter 173 = .ok (.iaload, 1) := dk_get kX12_findBetter_0_ok 99 rfl
theorem dX12_findBetter_174 : decode cX12_findBetter 174 = .ok (.iload_n 2, 1) := dk_get kX12_findBetter_0_ok 100 rfl
theorem dX12_findBetter_175 : decode cX12_findBetter 175 = .ok (.if_icmp .eq 6, 3) := dk_get kX12_findBetter_0_ok 101 rfl
theorem dX12_findBetter_178 : decode cX12_findBetter 178 = .ok (.goto 28, 3) := dk_get kX12_findBetter_0_ok 102 rfl
theorem dX12_findBetter_181 : decode cX12_findBetter 181 = .ok (.aload_n 0, 1) := dk_get kX12_findBetter_0_ok 103 rfl
theorem dX12_findBetter_182 : decode cX12_findBetter 182 = .ok (.aload_n 0, 1) := dk_get kX12_findBetter_0_ok 104 rfl
theorem dX12_findBetter_183 : decode cX12_findBetter 183 = .ok (.getfield 114, 3) := dk_get kX12_findBetter_0_ok 105 rfl
theorem dX12_findBetter_186 : decode cX12_findBetter 186 = .ok (.invokevirtual 413, 3) := dk_get kX12_findBetter_0_ok 106 rfl
theorem dX12_findBetter_189 : decode cX12_findBetter 189 = .ok (.aload_n 0, 1) := dk_get kX12_findBetter_0_ok 107 rfl
theorem dX12_findBetter_190 : decode cX12_findBetter 190 = .ok (.aload_n 0, 1) := dk_get kX12_findBetter_0_ok 108 rfl
theorem dX12_findBetter_191 : decode cX12_findBetter 191 = .ok (.getfield 114, 3) := dk_get kX12_findBetter_0_ok 109 rfl
theorem dX12_findBetter_194 : decode cX12_findBetter 194 = .ok (.iload_n 1, 1) := dk_get kX12_findBetter_0_ok 110 rfl
theorem dX12_findBetter_195 : decode cX12_findBetter 195 = .ok (.iload_n 2, 1) := dk_get kX12_findBetter_0_ok 111 rfl
theorem dX12_findBetter_196 : decode cX12_findBetter 196 = .ok (.invokevirtual 381, 3) := dk_get kX12_findBetter_0_ok 112 rfl
theorem dX12_findBetter_199 : decode cX12_findBetter 199 = .ok (.aload_n 0, 1) := dk_get kX12_findBetter_0_ok 113 rfl
theorem dX12_findBetter_200 : decode cX12_findBetter 200 = .ok (.iconst 1, 1) := dk_get kX12_findBetter_0_ok 114 rfl
theorem dX12_findBetter_201 : decode cX12_findBetter 201 = .ok (.iload_n 1, 1) := dk_get kX12_findBetter_0_ok 115 rfl
theorem dX12_findBetter_202 : decode cX12_findBetter 202 = .ok (.iload_n 2, 1) := dk_get kX12_findBetter_0_ok 116 rfl
theorem dX12_findBetter_203 : decode cX12_findBetter 203 = .ok (.invokevirtual 416, 3) := dk_get kX12_findBetter_0_ok 117 rfl
theorem dX12_findBetter_206 : decode cX12_findBetter 206 = .ok (.iinc 2 1, 3) := dk_get kX12_findBetter_0_ok 118 rfl
theorem dX12_findBetter_209 : decode cX12_findBetter 209 = .ok (.goto (-59), 3) := dk_get kX12_findBetter_0_ok 119 rfl
def kX12_findBetter_1 : List (Nat × Instr × Nat) := [(212, .iinc 1 1, 3), (215, .goto (-77), 3), (218, .iconst 0, 1), (219, .istore_n 1, 1), (220, .iload_n 1, 1), (221, .aload_n 0, 1), (222, .getfield 177, 3), (225, .if_icmp .ge 84, 3), (228, .iload_n 1, 1), (229, .iconst 1, 1), (230, .iadd, 1), (231, .istore_n 2, 1), (232, .iload_n 2, 1), (233, .aload_n 0, 1), (234, .getfield 177, 3), (237, .if_icmp .ge 66, 3), (240, .aload_n 0, 1), (241, .getfield 29, 3), (244, .iload_n 1, 1), (245, .iaload, 1), (246, .aload_n 0, 1), (247, .getfield 29, 3), (250, .iload_n 2, 1), (251, .iaload, 1), (252, .if_icmp .ne 6, 3), (255, .goto 42, 3), (258, .aload_n 0, 1), (259, .aload_n 0, 1), (260, .getfield 114, 3), (263, .invokevirtual 413, 3), (266, .aload_n 0, 1), (267, .getfield 114, 3), (270, .iload_n 1, 1), (271, .aload_n 0, 1), (272, .getfield 29, 3), (275, .iload_n 2, 1), (276, .iaload, 1), (277, .iastore, 1), (278, .aload_n 0, 1), (279, .getfield 114, 3), (282, .iload_n 2, 1), (283, .aload_n 0, 1), (284, .getfield 29, 3), (287, .iload_n 1, 1), (288, .iaload, 1), (289, .iastore, 1), (290, .aload_n 0, 1), (291, .iconst 2, 1), (292, .iload_n 1, 1), (293, .iload_n 2, 1), (294, .invokevirtual 416, 3), (297, .iinc 2 1, 3), (300, .goto (-68), 3), (303, .iinc 1 1, 3), (306, .goto (-86), 3), (309, .aload_n 0, 1), (310, .getfield 400, 3), (313, .ireturn, 1)]
set_option maxRecDepth 100000 in
theorem kX12_findBetter_1_ok : kX12_findBetter_1.all (fun q => decide (decode cX12_findBetter q.1 = .ok q.2)) = true := by decide +kernel
theorem dX12_findBetter_212 : decode cX12_findBetter 212 = .ok (.iinc 1 1, 3) := dk_get kX12_findBetter_1_ok 0 rfl
theorem dX12_findBetter_215 : decode cX12_findBetter 215 = .ok (.goto (-77), 3) := dk_get kX12_findBetter_1_ok 1 rfl
theorem dX12_findBetter_218 : decode cX12_findBetter 218 = .ok (.iconst 0, 1) := dk_get kX12_findBetter_1_ok 2 rfl
theorem dX12_findBetter_219 : decode cX12_findBetter 219 = .ok (.istore_n 1, 1) := dk_get kX12_findBetter_1_ok 3 rfl
theorem dX12_findBetter_220 : decode cX12_findBetter 220 = .ok (.iload_n 1, 1) := dk_get kX12_findBetter_1_ok 4 rfl
theorem dX12_findBetter_221 : decode cX12_findBetter 221 = .ok (.aload_n 0, 1) := dk_get kX12_findBetter_1_ok 5 rfl
theorem dX12_findBetter_222 : decode cX12_findBetter 222 = .ok (.getfield 177, 3) := dk_get kX12_findBetter_1_ok 6 rfl
theorem dX12_findBetter_225 : decode cX12_findBetter 225 = .ok (.if_icmp .ge 84, 3) := dk_get kX12_findBetter_1_ok 7 rfl
theorem dX12_findBetter_228 : decode cX12_findBetter 228 = .ok (.iload_n 1, 1) := dk_get kX12_findBetter_1_ok 8 rfl
theorem dX12_findBetter_229 : decode cX12_findBetter 229 = .ok (.iconst 1, 1) := dk_get kX12_findBetter_1_ok 9 rfl
theorem dX12_findBetter_230 : decode cX12_findBetter 230 = .ok (.iadd, 1) := dk_get kX12_findBetter_1_ok 10 rfl
theorem dX12_findBetter_231 : decode cX12_findBetter 231 = .ok (.istore_n 2, 1) := dk_get kX12_findBetter_1_ok 11 rfl
theorem dX12_findBetter_232 : decode cX12_findBetter 232 = .ok (.iload_n 2, 1) := dk_get kX12_findBetter_1_ok 12 rfl
theorem dX12_findBetter_233 : decode cX12_findBetter 233 = .ok (.aload_n 0, 1) := dk_get kX12_findBetter_1_ok 13 rfl
theorem dX12_findBetter_234 : decode cX12_findBetter 234 = .ok (.getfield 177, 3) := dk_get kX12_findBetter_1_ok 14 rfl
theorem dX12_findBetter_237 : decode cX12_findBetter 237 = .ok (.if_icmp .ge 66, 3) := dk_get kX12_findBetter_1_ok 15 rfl
theorem dX12_findBetter_240 : decode cX12_findBetter 240 = .ok (.aload_n 0, 1) := dk_get kX12_findBetter_1_ok 16 rfl
theorem dX12_findBetter_241 : decode cX12_findBetter 241 = .ok (.getfield 29, 3) := dk_get kX12_findBetter_1_ok 17 rfl
theorem dX12_findBetter_244 : decode cX12_findBetter 244 = .ok (.iload_n 1, 1) := dk_get kX12_findBetter_1_ok 18 rfl
theorem dX12_findBetter_245 : decode cX12_findBetter 245 = .ok (.iaload, 1) := dk_get kX12_findBetter_1_ok 19 rfl
theorem dX12_findBetter_246 : decode cX12_findBetter 246 = .ok (.aload_n 0, 1) := dk_get kX12_findBetter_1_ok 20 rfl
theorem dX12_findBetter_247 : decode cX12_findBetter 247 = .ok (.getfield 29, 3) := dk_get kX12_findBetter_1_ok 21 rfl
theorem dX12_findBetter_250 : decode cX12_findBetter 250 = .ok (.iload_n 2, 1) := dk_get kX12_findBetter_1_ok 22 rfl
theorem dX12_findBetter_251 : decode cX12_findBetter 251 = .ok (.iaload, 1) := dk_get kX12_findBetter_1_ok 23 rfl
theorem dX12_findBetter_252 : decode cX12_findBetter 252 = .ok (.if_icmp .ne 6, 3) := dk_get kX12_findBetter_1_ok 24 rfl
theorem dX12_findBetter_255 : decode cX12_findBetter 255 = .ok (.goto 42, 3) := dk_get kX12_findBetter_1_ok 25 rfl
theorem dX12_findBetter_258 : decode cX12_findBetter 258 = .ok (.aload_n 0, 1) := dk_get kX12_findBetter_1_ok 26 rfl
theorem dX12_findBetter_259 : decode cX12_findBetter 259 = .ok (.aload_n 0, 1) := dk_get kX12_findBetter_1_ok 27 rfl
theorem dX12_findBetter_260 : decode cX12_findBetter 260 = .ok (.getfield 114, 3) := dk_get kX12_findBetter_1_ok 28 rfl
theorem dX12_findBetter_263 : decode cX12_findBetter 263 = .ok (.invokevirtual 413, 3) := dk_get kX12_findBetter_1_ok 29 rfl
theorem dX12_findBetter_266 : decode cX12_findBetter 266 = .ok (.aload_n 0, 1) := dk_get kX12_findBetter_1_ok 30 rfl
theorem dX12_findBetter_267 : decode cX12_findBetter 267 = .ok (.getfield 114, 3) := dk_get kX12_findBetter_1_ok 31 rfl
theorem dX12_findBetter_270 : decode cX12_findBetter 270 = .ok (.iload_n 1, 1) := dk_get kX12_findBetter_1_ok 32 rfl
theorem dX12_findBetter_271 : decode cX12_findBetter 271 = .ok (.aload_n 0, 1) := dk_get kX12_findBetter_1_ok 33 rfl
theorem dX12_findBetter_272 : decode cX12_findBetter 272 = .ok (.getfield 29, 3) := dk_get kX12_findBetter_1_ok 34 rfl
theorem dX12_findBetter_275 : decode cX12_findBetter 275 = .ok (.iload_n 2, 1) := dk_get kX12_findBetter_1_ok 35 rfl
theorem dX12_findBetter_276 : decode cX12_findBetter 276 = .ok (.iaload, 1) := dk_get kX12_findBetter_1_ok 36 rfl
theorem dX12_findBetter_277 : decode cX12_findBetter 277 = .ok (.iastore, 1) := dk_get kX12_findBetter_1_ok 37 rfl
theorem dX12_findBetter_278 : decode cX12_findBetter 278 = .ok (.aload_n 0, 1) := dk_get kX12_findBetter_1_ok 38 rfl
theorem dX12_findBetter_279 : decode cX12_findBetter 279 = .ok (.getfield 114, 3) := dk_get kX12_findBetter_1_ok 39 rfl
theorem dX12_findBetter_282 : decode cX12_findBetter 282 = .ok (.iload_n 2, 1) := dk_get kX12_findBetter_1_ok 40 rfl
theorem dX12_findBetter_283 : decode cX12_findBetter 283 = .ok (.aload_n 0, 1) := dk_get kX12_findBetter_1_ok 41 rfl
theorem dX12_findBetter_284 : decode cX12_findBetter 284 = .ok (.getfield 29, 3) := dk_get kX12_findBetter_1_ok 42 rfl
theorem dX12_findBetter_287 : decode cX12_findBetter 287 = .ok (.iload_n 1, 1) := dk_get kX12_findBetter_1_ok 43 rfl
theorem dX12_findBetter_288 : decode cX12_findBetter 288 = .ok (.iaload, 1) := dk_get kX12_findBetter_1_ok 44 rfl
theorem dX12_findBetter_289 : decode cX12_findBetter 289 = .ok (.iastore, 1) := dk_get kX12_findBetter_1_ok 45 rfl
theorem dX12_findBetter_290 : decode cX12_findBetter 290 = .ok (.aload_n 0, 1) := dk_get kX12_findBetter_1_ok 46 rfl
theorem dX12_findBetter_291 : decode cX12_findBetter 291 = .ok (.iconst 2, 1) := dk_get kX12_findBetter_1_ok 47 rfl
theorem dX12_findBetter_292 : decode cX12_findBetter 292 = .ok (.iload_n 1, 1) := dk_get kX12_findBetter_1_ok 48 rfl
theorem dX12_findBetter_293 : decode cX12_findBetter 293 = .ok (.iload_n 2, 1) := dk_get kX12_findBetter_1_ok 49 rfl
theorem dX12_findBetter_294 : decode cX12_findBetter 294 = .ok (.invokevirtual 416, 3) := dk_get kX12_findBetter_1_ok 50 rfl
theorem dX12_findBetter_297 : decode cX12_findBetter 297 = .ok (.iinc 2 1, 3) := dk_get kX12_findBetter_1_ok 51 rfl
theorem dX12_findBetter_300 : decode cX12_findBetter 300 = .ok (.goto (-68), 3) := dk_get kX12_findBetter_1_ok 52 rfl
theorem dX12_findBetter_303 : decode cX12_findBetter 303 = .ok (.iinc 1 1, 3) := dk_get kX12_findBetter_1_ok 53 rfl
theorem dX12_findBetter_306 : decode cX12_findBetter 306 = .ok (.goto (-86), 3) := dk_get kX12_findBetter_1_ok 54 rfl
theorem dX12_findBetter_309 : decode cX12_findBetter 309 = .ok (.aload_n 0, 1) := dk_get kX12_findBetter_1_ok 55 rfl
theorem dX12_findBetter_310 : decode cX12_findBetter 310 = .ok (.getfield 400, 3) := dk_get kX12_findBetter_1_ok 56 rfl
theorem dX12_findBetter_313 : decode cX12_findBetter 313 = .ok (.ireturn, 1) := dk_get kX12_findBetter_1_ok 57 rfl
def kX12_better : List (Nat × Instr × Nat) := [(0, .aload_n 0, 1), (1, .iconst 0, 1), (2, .putfield 1, 3), (5, .aload_n 0, 1), (6, .iload_n 1, 1), (7, .iconst 0, 1), (8, .iconst 3, 1), (9, .invokestatic 169, 3), (12, .iconst 1, 1), (13, .invokevirtual 173, 3), (16, .ifCond .ne 5, 3), (19, .lconst 0, 1), (20, .lreturn, 1), (21, .aload_n 0, 1), (22, .invokevirtual 385, 3), (25, .aload_n 0, 1), (26, .aload_n 0, 1), (27, .getfield 29, 3), (30, .invokevirtual 392, 3), (33, .iconst (-1), 1), (34, .if_icmp .ne 10, 3), (37, .aload_n 0, 1), (38, .invokevirtual 420, 3), (41, .ifCond .ne 7, 3), (44, .ldc2_w 423, 3), (47, .lreturn, 1), (48, .iload_n 1, 1), (49, .ifCond .ne 10, 3), (52, .aload_n 0, 1), (53, .getfield 396, 3), (56, .goto 34, 3), (59, .iload_n 1, 1), (60, .iconst 1, 1), (61, .if_icmp .ne 11, 3), (64, .aload_n 0, 1), (65, .getfield 404, 3), (68, .i2l, 1), (69, .goto 21, 3), (72, .iload_n 1, 1), (73, .iconst 2, 1), (74, .if_icmp .ne 11, 3), (77, .aload_n 0, 1), (78, .getfield 407, 3), (81, .i2l, 1), (82, .goto 8, 3), (85, .aload_n 0, 1), (86, .getfield 410, 3), (89, .i2l, 1), (90, .lreturn, 1)]
set_option maxRecDepth 100000 in
theorem kX12_better_ok : kX12_better.all (fun q => decide (decode cX12_better q.1 = .ok q.2)) = true := by decide +kernel
theorem dX12_better_0 : decode cX12_better 0 = .ok (.aload_n 0, 1) := dk_get kX12_better_ok 0 rfl
theorem dX12_better_1 : decode cX12_better 1 = .ok (.iconst 0, 1) := dk_get kX12_better_ok 1 rfl
theorem dX12_better_2 : decode cX12_better 2 = .ok (.putfield 1, 3) := dk_get kX12_better_ok 2 rfl
theorem dX12_better_5 : decode cX12_better 5 = .ok (.aload_n 0, 1) := dk_get kX12_better_ok 3 rfl
theorem dX12_better_6 : decode cX12_better 6 = .ok (.iload_n 1, 1) := dk_get kX12_better_ok 4 rfl
theorem dX12_better_7 : decode cX12_better 7 = .ok (.iconst 0, 1) := dk_get kX12_better_ok 5 rfl
theorem dX12_better_8 : decode cX12_better 8 = .ok (.iconst 3, 1) := dk_get kX12_better_ok 6 rfl
theorem dX12_better_9 : decode cX12_better 9 = .ok (.invokestatic 169, 3) := dk_get kX12_better_ok 7 rfl
theorem dX12_better_12 : decode cX12_better 12 = .ok (.iconst 1, 1) := dk_get kX12_better_ok 8 rfl
theorem dX12_better_13 : decode cX12_better 13 = .ok (.invokevirtual 173, 3) := dk_get kX12_better_ok 9 rfl
theorem dX12_better_16 : decode cX12_better 16 = .ok (.ifCond .ne 5, 3) := dk_get kX12_better_ok 10 rfl
theorem dX12_better_19 : decode cX12_better 19 = .ok (.lconst 0, 1) := dk_get kX12_better_ok 11 rfl
theorem dX12_better_20 : decode cX12_better 20 = .ok (.lreturn, 1) := dk_get kX12_better_ok 12 rfl
theorem dX12_better_21 : decode cX12_better 21 = .ok (.aload_n 0, 1) := dk_get kX12_better_ok 13 rfl
theorem dX12_better_22 : decode cX12_better 22 = .ok (.invokevirtual 385, 3) := dk_get kX12_better_ok 14 rfl
theorem dX12_better_25 : decode cX12_better 25 = .ok (.aload_n 0, 1) := dk_get kX12_better_ok 15 rfl
theorem dX12_better_26 : decode cX12_better 26 = .ok (.aload_n 0, 1) := dk_get kX12_better_ok 16 rfl
theorem dX12_better_27 : decode cX12_better 27 = .ok (.getfield 29, 3) := dk_get kX12_better_ok 17 rfl
theorem dX12_better_30 : decode cX12_better 30 = .ok (.invokevirtual 392, 3) := dk_get kX12_better_ok 18 rfl
theorem dX12_better_33 : decode cX12_better 33 = .ok (.iconst (-1), 1) := dk_get kX12_better_ok 19 rfl
theorem dX12_better_34 : decode cX12_better 34 = .ok (.if_icmp .ne 10, 3) := dk_get kX12_better_ok 20 rfl
theorem dX12_better_37 : decode cX12_better 37 = .ok (.aload_n 0, 1) := dk_get kX12_better_ok 21 rfl
theorem dX12_better_38 : decode cX12_better 38 = .ok (.invokevirtual 420, 3) := dk_get kX12_better_ok 22 rfl
theorem dX12_better_41 : decode cX12_better 41 = .ok (.ifCond .ne 7, 3) := dk_get kX12_better_ok 23 rfl
theorem dX12_better_44 : decode cX12_better 44 = .ok (.ldc2_w 423, 3) := dk_get kX12_better_ok 24 rfl
theorem dX12_better_47 : decode cX12_better 47 = .ok (.lreturn, 1) := dk_get kX12_better_ok 25 rfl
theorem dX12_better_48 : decode cX12_better 48 = .ok (.iload_n 1, 1) := dk_get kX12_better_ok 26 rfl
theorem dX12_better_49 : decode cX12_better 49 = .ok (.ifCond .ne 10, 3) := dk_get kX12_better_ok 27 rfl
theorem dX12_better_52 : decode cX12_better 52 = .ok (.aload_n 0, 1) := dk_get kX12_better_ok 28 rfl
theorem dX12_better_53 : decode cX12_better 53 = .ok (.getfield 396, 3) := dk_get kX12_better_ok 29 rfl
theorem dX12_better_56 : decode cX12_better 56 = .ok (.goto 34, 3) := dk_get kX12_better_ok 30 rfl
theorem dX12_better_59 : decode cX12_better 59 = .ok (.iload_n 1, 1) := dk_get kX12_better_ok 31 rfl
theorem dX12_better_60 : decode cX12_better 60 = .ok (.iconst 1, 1) := dk_get kX12_better_ok 32 rfl
theorem dX12_better_61 : decode cX12_better 61 = .ok (.if_icmp .ne 11, 3) := dk_get kX12_better_ok 33 rfl
theorem dX12_better_64 : decode cX12_better 64 = .ok (.aload_n 0, 1) := dk_get kX12_better_ok 34 rfl
theorem dX12_better_65 : decode cX12_better 65 = .ok (.getfield 404, 3) := dk_get kX12_better_ok 35 rfl
theorem dX12_better_68 : decode cX12_better 68 = .ok (.i2l, 1) := dk_get kX12_better_ok 36 rfl
theorem dX12_better_69 : decode cX12_better 69 = .ok (.goto 21, 3) := dk_get kX12_better_ok 37 rfl
theorem dX12_better_72 : decode cX12_better 72 = .ok (.iload_n 1, 1) := dk_get kX12_better_ok 38 rfl
theorem dX12_better_73 : decode cX12_better 73 = .ok (.iconst 2, 1) := dk_get kX12_better_ok 39 rfl
theorem dX12_better_74 : decode cX12_better 74 = .ok (.if_icmp .ne 11, 3) := dk_get kX12_better_ok 40 rfl
theorem dX12_better_77 : decode cX12_better 77 = .ok (.aload_n 0, 1) := dk_get kX12_better_ok 41 rfl
theorem dX12_better_78 : decode cX12_better 78 = .ok (.getfield 407, 3) := dk_get kX12_better_ok 42 rfl
theorem dX12_better_81 : decode cX12_better 81 = .ok (.i2l, 1) := dk_get kX12_better_ok 43 rfl
theorem dX12_better_82 : decode cX12_better 82 = .ok (.goto 8, 3) := dk_get kX12_better_ok 44 rfl
theorem dX12_better_85 : decode cX12_better 85 = .ok (.aload_n 0, 1) := dk_get kX12_better_ok 45 rfl
theorem dX12_better_86 : decode cX12_better 86 = .ok (.getfield 410, 3) := dk_get kX12_better_ok 46 rfl
theorem dX12_better_89 : decode cX12_better 89 = .ok (.i2l, 1) := dk_get kX12_better_ok 47 rfl
theorem dX12_better_90 : decode cX12_better 90 = .ok (.lreturn, 1) := dk_get kX12_better_ok 48 rfl
def kX12_grow : List (Nat × Instr × Nat) := [(0, .aload_n 0, 1), (1, .iconst 0, 1), (2, .putfield 1, 3), (5, .aload_n 0, 1), (6, .iload_n 1, 1), (7, .iconst 0, 1), (8, .bipush 100, 2), (10, .invokestatic 169, 3), (13, .iconst 1, 1), (14, .invokevirtual 173, 3), (17, .ifCond .ne 5, 3), (20, .iconst 0, 1), (21, .ireturn, 1), (22, .aload_n 0, 1), (23, .invokevirtual 385, 3), (26, .aload_n 0, 1), (27, .aload_n 0, 1), (28, .getfield 29, 3), (31, .invokevirtual 392, 3), (34, .iconst (-1), 1), (35, .if_icmp .eq 5, 3), (38, .iconst (-1), 1), (39, .ireturn, 1), (40, .iconst 0, 1), (41, .istore_n 2, 1), (42, .iload_n 2, 1), (43, .iload_n 1, 1), (44, .if_icmp .ge 24, 3), (47, .aload_n 0, 1), (48, .invokevirtual 420, 3), (51, .ifCond .eq 17, 3), (54, .aload_n 0, 1), (55, .aload_n 0, 1), (56, .getfield 120, 3), (59, .invokevirtual 425, 3), (62, .iinc 2 1, 3), (65, .goto (-23), 3), (68, .iload_n 2, 1), (69, .ireturn, 1)]
set_option maxRecDepth 100000 in
theorem kX12_grow_ok : kX12_grow.all (fun q => decide (decode cX12_grow q.1 = .ok q.2)) = true := by decide +kernel
theorem dX12_grow_0 : decode cX12_grow 0 = .ok (.aload_n 0, 1) := dk_get kX12_grow_ok 0 rfl
theorem dX12_grow_1 : decode cX12_grow 1 = .ok (.iconst 0, 1) := dk_get kX12_grow_ok 1 rfl
theorem dX12_grow_2 : decode cX12_grow 2 = .ok (.putfield 1, 3) := dk_get kX12_grow_ok 2 rfl
theorem dX12_grow_5 : decode cX12_grow 5 = .ok (.aload_n 0, 1) := dk_get kX12_grow_ok 3 rfl
theorem dX12_grow_6 : decode cX12_grow 6 = .ok (.iload_n 1, 1) := dk_get kX12_grow_ok 4 rfl
theorem dX12_grow_7 : decode cX12_grow 7 = .ok (.iconst 0, 1) := dk_get kX12_grow_ok 5 rfl
theorem dX12_grow_8 : decode cX12_grow 8 = .ok (.bipush 100, 2) := dk_get kX12_grow_ok 6 rfl
theorem dX12_grow_10 : decode cX12_grow 10 = .ok (.invokestatic 169, 3) := dk_get kX12_grow_ok 7 rfl
theorem dX12_grow_13 : decode cX12_grow 13 = .ok (.iconst 1, 1) := dk_get kX12_grow_ok 8 rfl
theorem dX12_grow_14 : decode cX12_grow 14 = .ok (.invokevirtual 173, 3) := dk_get kX12_grow_ok 9 rfl
theorem dX12_grow_17 : decode cX12_grow 17 = .ok (.ifCond .ne 5, 3) := dk_get kX12_grow_ok 10 rfl
theorem dX12_grow_20 : decode cX12_grow 20 = .ok (.iconst 0, 1) := dk_get kX12_grow_ok 11 rfl
theorem dX12_grow_21 : decode cX12_grow 21 = .ok (.ireturn, 1) := dk_get kX12_grow_ok 12 rfl
theorem dX12_grow_22 : decode cX12_grow 22 = .ok (.aload_n 0, 1) := dk_get kX12_grow_ok 13 rfl
theorem dX12_grow_23 : decode cX12_grow 23 = .ok (.invokevirtual 385, 3) := dk_get kX12_grow_ok 14 rfl
theorem dX12_grow_26 : decode cX12_grow 26 = .ok (.aload_n 0, 1) := dk_get kX12_grow_ok 15 rfl
theorem dX12_grow_27 : decode cX12_grow 27 = .ok (.aload_n 0, 1) := dk_get kX12_grow_ok 16 rfl
theorem dX12_grow_28 : decode cX12_grow 28 = .ok (.getfield 29, 3) := dk_get kX12_grow_ok 17 rfl
theorem dX12_grow_31 : decode cX12_grow 31 = .ok (.invokevirtual 392, 3) := dk_get kX12_grow_ok 18 rfl
theorem dX12_grow_34 : decode cX12_grow 34 = .ok (.iconst (-1), 1) := dk_get kX12_grow_ok 19 rfl
theorem dX12_grow_35 : decode cX12_grow 35 = .ok (.if_icmp .eq 5, 3) := dk_get kX12_grow_ok 20 rfl
theorem dX12_grow_38 : decode cX12_grow 38 = .ok (.iconst (-1), 1) := dk_get kX12_grow_ok 21 rfl
theorem dX12_grow_39 : decode cX12_grow 39 = .ok (.ireturn, 1) := dk_get kX12_grow_ok 22 rfl
theorem dX12_grow_40 : decode cX12_grow 40 = .ok (.iconst 0, 1) := dk_get kX12_grow_ok 23 rfl
theorem dX12_grow_41 : decode cX12_grow 41 = .ok (.istore_n 2, 1) := dk_get kX12_grow_ok 24 rfl
theorem dX12_grow_42 : decode cX12_grow 42 = .ok (.iload_n 2, 1) := dk_get kX12_grow_ok 25 rfl
theorem dX12_grow_43 : decode cX12_grow 43 = .ok (.iload_n 1, 1) := dk_get kX12_grow_ok 26 rfl
theorem dX12_grow_44 : decode cX12_grow 44 = .ok (.if_icmp .ge 24, 3) := dk_get kX12_grow_ok 27 rfl
theorem dX12_grow_47 : decode cX12_grow 47 = .ok (.aload_n 0, 1) := dk_get kX12_grow_ok 28 rfl
theorem dX12_grow_48 : decode cX12_grow 48 = .ok (.invokevirtual 420, 3) := dk_get kX12_grow_ok 29 rfl
theorem dX12_grow_51 : decode cX12_grow 51 = .ok (.ifCond .eq 17, 3) := dk_get kX12_grow_ok 30 rfl
theorem dX12_grow_54 : decode cX12_grow 54 = .ok (.aload_n 0, 1) := dk_get kX12_grow_ok 31 rfl
theorem dX12_grow_55 : decode cX12_grow 55 = .ok (.aload_n 0, 1) := dk_get kX12_grow_ok 32 rfl
theorem dX12_grow_56 : decode cX12_grow 56 = .ok (.getfield 120, 3) := dk_get kX12_grow_ok 33 rfl
theorem dX12_grow_59 : decode cX12_grow 59 = .ok (.invokevirtual 425, 3) := dk_get kX12_grow_ok 34 rfl
theorem dX12_grow_62 : decode cX12_grow 62 = .ok (.iinc 2 1, 3) := dk_get kX12_grow_ok 35 rfl
theorem dX12_grow_65 : decode cX12_grow 65 = .ok (.goto (-23), 3) := dk_get kX12_grow_ok 36 rfl
theorem dX12_grow_68 : decode cX12_grow 68 = .ok (.iload_n 2, 1) := dk_get kX12_grow_ok 37 rfl
theorem dX12_grow_69 : decode cX12_grow 69 = .ok (.ireturn, 1) := dk_get kX12_grow_ok 38 rfl
def kX12_isAbove : List (Nat × Instr × Nat) := [(0, .aload_n 0, 1), (1, .getfield 89, 3), (4, .bipush 30, 2), (6, .iload_n 1, 1), (7, .imul, 1), (8, .iload_n 2, 1), (9, .iadd, 1), (10, .iaload, 1), (11, .ifCond .le 7, 3), (14, .iconst 1, 1), (15, .goto 4, 3), (18, .iconst 0, 1), (19, .ireturn, 1)]
set_option maxRecDepth 100000 in
theorem kX12_isAbove_ok : kX12_isAbove.all (fun q => decide (decode cX12_isAbove q.1 = .ok q.2)) = true := by decide +kernel
theorem dX12_isAbove_0 : decode cX12_isAbove 0 = .ok (.aload_n 0, 1) := dk_get kX12_isAbove_ok 0 rfl
theorem dX12_isAbove_1 : decode cX12_isAbove 1 = .ok (.getfield 89, 3) := dk_get kX12_isAbove_ok 1 rfl
theorem dX12_isAbove_4 : decode cX12_isAbove 4 = .ok (.bipush 30, 2) := dk_get kX12_isAbove_ok 2 rfl
theorem dX12_isAbove_6 : decode cX12_isAbove 6 = .ok (.iload_n 1, 1) := dk_get kX12_isAbove_ok 3 rfl
theorem dX12_isAbove_7 : decode cX12_isAbove 7 = .ok (.imul, 1) := dk_get kX12_isAbove_ok 4 rfl
theorem dX12_isAbove_8 : decode cX12_isAbove 8 = .ok (.iload_n 2, 1) := dk_get kX12_isAbove_ok 5 rfl
theorem dX12_isAbove_9 : decode cX12_isAbove 9 = .ok (.iadd, 1) := dk_get kX12_isAbove_ok 6 rfl
theorem dX12_isAbove_10 : decode cX12_isAbove 10 = .ok (.iaload, 1) := dk_get kX12_isAbove_ok 7 rfl
theorem dX12_isAbove_11 : decode cX12_isAbove 11 = .ok (.ifCond .le 7, 3) := dk_get kX12_isAbove_ok 8 rfl
theorem dX12_isAbove_14 : decode cX12_isAbove 14 = .ok (.iconst 1, 1) := dk_get kX12_isAbove_ok 9 rfl
theorem dX12_isAbove_15 : decode cX12_isAbove 15 = .ok (.goto 4, 3) := dk_get kX12_isAbove_ok 10 rfl
theorem dX12_isAbove_18 : decode cX12_isAbove 18 = .ok (.iconst 0, 1) := dk_get kX12_isAbove_ok 11 rfl
theorem dX12_isAbove_19 : decode cX12_isAbove 19 = .ok (.ireturn, 1) := dk_get kX12_isAbove_ok 12 rfl
def kX12_isBelow : List (Nat × Instr × Nat) := [(0, .aload_n 0, 1), (1, .getfield 89, 3), (4, .bipush 30, 2), (6, .iload_n 1, 1), (7, .imul, 1), (8, .iload_n 2, 1), (9, .iadd, 1), (10, .iaload, 1), (11, .ifCond .lt 17, 3), (14, .aload_n 0, 1), (15, .getfield 92, 3), (18, .bipush 30, 2), (20, .iload_n 1, 1), (21, .imul, 1), (22, .iload_n 2, 1), (23, .iadd, 1), (24, .baload, 1), (25, .ifCond .eq 7, 3), (28, .iconst 1, 1), (29, .goto 4, 3), (32, .iconst 0, 1), (33, .ireturn, 1)]
set_option maxRecDepth 100000 in
theorem kX12_isBelow_ok : kX12_isBelow.all (fun q => decide (decode cX12_isBelow q.1 = .ok q.2)) = true := by decide +kernel
theorem dX12_isBelow_0 : decode cX12_isBelow 0 = .ok (.aload_n 0, 1) := dk_get kX12_isBelow_ok 0 rfl
theorem dX12_isBelow_1 : decode cX12_isBelow 1 = .ok (.getfield 89, 3) := dk_get kX12_isBelow_ok 1 rfl
theorem dX12_isBelow_4 : decode cX12_isBelow 4 = .ok (.bipush 30, 2) := dk_get kX12_isBelow_ok 2 rfl
theorem dX12_isBelow_6 : decode cX12_isBelow 6 = .ok (.iload_n 1, 1) := dk_get kX12_isBelow_ok 3 rfl
theorem dX12_isBelow_7 : decode cX12_isBelow 7 = .ok (.imul, 1) := dk_get kX12_isBelow_ok 4 rfl
theorem dX12_isBelow_8 : decode cX12_isBelow 8 = .ok (.iload_n 2, 1) := dk_get kX12_isBelow_ok 5 rfl
theorem dX12_isBelow_9 : decode cX12_isBelow 9 = .ok (.iadd, 1) := dk_get kX12_isBelow_ok 6 rfl
theorem dX12_isBelow_10 : decode cX12_isBelow 10 = .ok (.iaload, 1) := dk_get kX12_isBelow_ok 7 rfl
theorem dX12_isBelow_11 : decode cX12_isBelow 11 = .ok (.ifCond .lt 17, 3) := dk_get kX12_isBelow_ok 8 rfl
theorem dX12_isBelow_14 : decode cX12_isBelow 14 = .ok (.aload_n 0, 1) := dk_get kX12_isBelow_ok 9 rfl
theorem dX12_isBelow_15 : decode cX12_isBelow 15 = .ok (.getfield 92, 3) := dk_get kX12_isBelow_ok 10 rfl
theorem dX12_isBelow_18 : decode cX12_isBelow 18 = .ok (.bipush 30, 2) := dk_get kX12_isBelow_ok 11 rfl
theorem dX12_isBelow_20 : decode cX12_isBelow 20 = .ok (.iload_n 1, 1) := dk_get kX12_isBelow_ok 12 rfl
theorem dX12_isBelow_21 : decode cX12_isBelow 21 = .ok (.imul, 1) := dk_get kX12_isBelow_ok 13 rfl
theorem dX12_isBelow_22 : decode cX12_isBelow 22 = .ok (.iload_n 2, 1) := dk_get kX12_isBelow_ok 14 rfl
theorem dX12_isBelow_23 : decode cX12_isBelow 23 = .ok (.iadd, 1) := dk_get kX12_isBelow_ok 15 rfl
theorem dX12_isBelow_24 : decode cX12_isBelow 24 = .ok (.baload, 1) := dk_get kX12_isBelow_ok 16 rfl
theorem dX12_isBelow_25 : decode cX12_isBelow 25 = .ok (.ifCond .eq 7, 3) := dk_get kX12_isBelow_ok 17 rfl
theorem dX12_isBelow_28 : decode cX12_isBelow 28 = .ok (.iconst 1, 1) := dk_get kX12_isBelow_ok 18 rfl
theorem dX12_isBelow_29 : decode cX12_isBelow 29 = .ok (.goto 4, 3) := dk_get kX12_isBelow_ok 19 rfl
theorem dX12_isBelow_32 : decode cX12_isBelow 32 = .ok (.iconst 0, 1) := dk_get kX12_isBelow_ok 20 rfl
theorem dX12_isBelow_33 : decode cX12_isBelow 33 = .ok (.ireturn, 1) := dk_get kX12_isBelow_ok 21 rfl
def kX12_isRing : List (Nat × Instr × Nat) := [(0, .aload_n 0, 1), (1, .iload_n 1, 1), (2, .iload_n 2, 1), (3, .invokevirtual 428, 3), (6, .ifCond .eq 7, 3), (9, .iconst 1, 1), (10, .goto 4, 3), (13, .iconst 0, 1), (14, .aload_n 0, 1), (15, .iload_n 1, 1), (16, .iload_n 3, 1), (17, .invokevirtual 428, 3), (20, .ifCond .eq 7, 3), (23, .iconst 1, 1), (24, .goto 4, 3), (27, .iconst 0, 1), (28, .iadd, 1), (29, .aload_n 0, 1), (30, .iload_n 2, 1), (31, .iload_n 3, 1), (32, .invokevirtual 428, 3), (35, .ifCond .eq 7, 3), (38, .iconst 1, 1), (39, .goto 4, 3), (42, .iconst 0, 1), (43, .iadd, 1), (44, .istore 4, 2), (46, .iload 4, 2), (48, .iconst 2, 1), (49, .if_icmp .ne 34, 3), (52, .aload_n 0, 1), (53, .iload_n 1, 1), (54, .iload_n 2, 1), (55, .invokevirtual 431, 3), (58, .ifCond .ne 21, 3), (61, .aload_n 0, 1), (62, .iload_n 1, 1), (63, .iload_n 3, 1), (64, .invokevirtual 431, 3), (67, .ifCond .ne 12, 3), (70, .aload_n 0, 1), (71, .iload_n 2, 1), (72, .iload_n 3, 1), (73, .invokevirtual 431, 3), (76, .ifCond .eq 7, 3), (79, .iconst 1, 1), (80, .goto 4, 3), (83, .iconst 0, 1), (84, .ireturn, 1)]
set_option maxRecDepth 100000 in
theorem kX12_isRing_ok : kX12_isRing.all (fun q => decide (decode cX12_isRing q.1 = .ok q.2)) = true := by decide +kernel
theorem dX12_isRing_0 : decode cX12_isRing 0 = .ok (.aload_n 0, 1) := dk_get kX12_isRing_ok 0 rfl
theorem dX12_isRing_1 : decode cX12_isRing 1 = .ok (.iload_n 1, 1) := dk_get kX12_isRing_ok 1 rfl
theorem dX12_isRing_2 : decode cX12_isRing 2 = .ok (.iload_n 2, 1) := dk_get kX12_isRing_ok 2 rfl
theorem dX12_isRing_3 : decode cX12_isRing 3 = .ok (.invokevirtual 428, 3) := dk_get kX12_isRing_ok 3 rfl
theorem dX12_isRing_6 : decode cX12_isRing 6 = .ok (.ifCond .eq 7, 3) := dk_get kX12_isRing_ok 4 rfl
theorem dX12_isRing_9 : decode cX12_isRing 9 = .ok (.iconst 1, 1) := dk_get kX12_isRing_ok 5 rfl
theorem dX12_isRing_10 : decode cX12_isRing 10 = .ok (.goto 4, 3) := dk_get kX12_isRing_ok 6 rfl
theorem dX12_isRing_13 : decode cX12_isRing 13 = .ok (.iconst 0, 1) := dk_get kX12_isRing_ok 7 rfl
theorem dX12_isRing_14 : decode cX12_isRing 14 = .ok (.aload_n 0, 1) := dk_get kX12_isRing_ok 8 rfl
theorem dX12_isRing_15 : decode cX12_isRing 15 = .ok (.iload_n 1, 1) := dk_get kX12_isRing_ok 9 rfl
theorem dX12_isRing_16 : decode cX12_isRing 16 = .ok (.iload_n 3, 1) := dk_get kX12_isRing_ok 10 rfl
theorem dX12_isRing_17 : decode cX12_isRing 17 = .ok (.invokevirtual 428, 3) := dk_get kX12_isRing_ok 11 rfl
theorem dX12_isRing_20 : decode cX12_isRing 20 = .ok (.ifCond .eq 7, 3) := dk_get kX12_isRing_ok 12 rfl
theorem dX12_isRing_23 : decode cX12_isRing 23 = .ok (.iconst 1, 1) := dk_get kX12_isRing_ok 13 rfl
theorem dX12_isRing_24 : decode cX12_isRing 24 = .ok (.goto 4, 3) := dk_get kX12_isRing_ok 14 rfl
theorem dX12_isRing_27 : decode cX12_isRing 27 = .ok (.iconst 0, 1) := dk_get kX12_isRing_ok 15 rfl
theorem dX12_isRing_28 : decode cX12_isRing 28 = .ok (.iadd, 1) := dk_get kX12_isRing_ok 16 rfl
theorem dX12_isRing_29 : decode cX12_isRing 29 = .ok (.aload_n 0, 1) := dk_get kX12_isRing_ok 17 rfl
theorem dX12_isRing_30 : decode cX12_isRing 30 = .ok (.iload_n 2, 1) := dk_get kX12_isRing_ok 18 rfl
theorem dX12_isRing_31 : decode cX12_isRing 31 = .ok (.iload_n 3, 1) := dk_get kX12_isRing_ok 19 rfl
theorem dX12_isRing_32 : decode cX12_isRing 32 = .ok (.invokevirtual 428, 3) := dk_get kX12_isRing_ok 20 rfl
theorem dX12_isRing_35 : decode cX12_isRing 35 = .ok (.ifCond .eq 7, 3) := dk_get kX12_isRing_ok 21 rfl
theorem dX12_isRing_38 : decode cX12_isRing 38 = .ok (.iconst 1, 1) := dk_get kX12_isRing_ok 22 rfl
theorem dX12_isRing_39 : decode cX12_isRing 39 = .ok (.goto 4, 3) := dk_get kX12_isRing_ok 23 rfl
theorem dX12_isRing_42 : decode cX12_isRing 42 = .ok (.iconst 0, 1) := dk_get kX12_isRing_ok 24 rfl
theorem dX12_isRing_43 : decode cX12_isRing 43 = .ok (.iadd, 1) := dk_get kX12_isRing_ok 25 rfl
theorem dX12_isRing_44 : decode cX12_isRing 44 = .ok (.istore 4, 2) := dk_get kX12_isRing_ok 26 rfl
theorem dX12_isRing_46 : decode cX12_isRing 46 = .ok (.iload 4, 2) := dk_get kX12_isRing_ok 27 rfl
theorem dX12_isRing_48 : decode cX12_isRing 48 = .ok (.iconst 2, 1) := dk_get kX12_isRing_ok 28 rfl
theorem dX12_isRing_49 : decode cX12_isRing 49 = .ok (.if_icmp .ne 34, 3) := dk_get kX12_isRing_ok 29 rfl
theorem dX12_isRing_52 : decode cX12_isRing 52 = .ok (.aload_n 0, 1) := dk_get kX12_isRing_ok 30 rfl
theorem dX12_isRing_53 : decode cX12_isRing 53 = .ok (.iload_n 1, 1) := dk_get kX12_isRing_ok 31 rfl
theorem dX12_isRing_54 : decode cX12_isRing 54 = .ok (.iload_n 2, 1) := dk_get kX12_isRing_ok 32 rfl
theorem dX12_isRing_55 : decode cX12_isRing 55 = .ok (.invokevirtual 431, 3) := dk_get kX12_isRing_ok 33 rfl
theorem dX12_isRing_58 : decode cX12_isRing 58 = .ok (.ifCond .ne 21, 3) := dk_get kX12_isRing_ok 34 rfl
theorem dX12_isRing_61 : decode cX12_isRing 61 = .ok (.aload_n 0, 1) := dk_get kX12_isRing_ok 35 rfl
theorem dX12_isRing_62 : decode cX12_isRing 62 = .ok (.iload_n 1, 1) := dk_get kX12_isRing_ok 36 rfl
theorem dX12_isRing_63 : decode cX12_isRing 63 = .ok (.iload_n 3, 1) := dk_get kX12_isRing_ok 37 rfl
theorem dX12_isRing_64 : decode cX12_isRing 64 = .ok (.invokevirtual 431, 3) := dk_get kX12_isRing_ok 38 rfl
theorem dX12_isRing_67 : decode cX12_isRing 67 = .ok (.ifCond .ne 12, 3) := dk_get kX12_isRing_ok 39 rfl
theorem dX12_isRing_70 : decode cX12_isRing 70 = .ok (.aload_n 0, 1) := dk_get kX12_isRing_ok 40 rfl
theorem dX12_isRing_71 : decode cX12_isRing 71 = .ok (.iload_n 2, 1) := dk_get kX12_isRing_ok 41 rfl
theorem dX12_isRing_72 : decode cX12_isRing 72 = .ok (.iload_n 3, 1) := dk_get kX12_isRing_ok 42 rfl
theorem dX12_isRing_73 : decode cX12_isRing 73 = .ok (.invokevirtual 431, 3) := dk_get kX12_isRing_ok 43 rfl
theorem dX12_isRing_76 : decode cX12_isRing 76 = .ok (.ifCond .eq 7, 3) := dk_get kX12_isRing_ok 44 rfl
theorem dX12_isRing_79 : decode cX12_isRing 79 = .ok (.iconst 1, 1) := dk_get kX12_isRing_ok 45 rfl
theorem dX12_isRing_80 : decode cX12_isRing 80 = .ok (.goto 4, 3) := dk_get kX12_isRing_ok 46 rfl
theorem dX12_isRing_83 : decode cX12_isRing 83 = .ok (.iconst 0, 1) := dk_get kX12_isRing_ok 47 rfl
theorem dX12_isRing_84 : decode cX12_isRing 84 = .ok (.ireturn, 1) := dk_get kX12_isRing_ok 48 rfl
def kX12_setRests : List (Nat × Instr × Nat) := [(0, .iconst 0, 1), (1, .istore_n 2, 1), (2, .iload_n 2, 1), (3, .aload_n 0, 1), (4, .getfield 177, 3), (7, .if_icmp .ge 69, 3), (10, .iload_n 2, 1), (11, .iconst 1, 1), (12, .iadd, 1), (13, .istore_n 3, 1), (14, .iload_n 3, 1), (15, .aload_n 0, 1), (16, .getfield 177, 3), (19, .if_icmp .ge 51, 3), (22, .aload_n 1, 1), (23, .bipush 30, 2), (25, .iload_n 2, 1), (26, .imul, 1), (27, .iload_n 3, 1), (28, .iadd, 1), (29, .aload_n 0, 1), (30, .getfield 92, 3), (33, .bipush 30, 2), (35, .iload_n 2, 1), (36, .imul, 1), (37, .iload_n 3, 1), (38, .iadd, 1), (39, .baload, 1), (40, .ifCond .eq 9, 3), (43, .ldc_w 434, 3), (46, .goto 17, 3), (49, .aload_n 0, 1), (50, .getfield 89, 3), (53, .bipush 30, 2), (55, .iload_n 2, 1), (56, .imul, 1), (57, .iload_n 3, 1), (58, .iadd, 1), (59, .iaload, 1), (60, .invokestatic 323, 3), (63, .iastore, 1), (64, .iinc 3 1, 3), (67, .goto (-53), 3), (70, .iinc 2 1, 3), (73, .goto (-71), 3), (76, .return_, 1)]
set_option maxRecDepth 100000 in
theorem kX12_setRests_ok : kX12_setRests.all (fun q => decide (decode cX12_setRests q.1 = .ok q.2)) = true := by decide +kernel
theorem dX12_setRests_0 : decode cX12_setRests 0 = .ok (.iconst 0, 1) := dk_get kX12_setRests_ok 0 rfl
theorem dX12_setRests_1 : decode cX12_setRests 1 = .ok (.istore_n 2, 1) := dk_get kX12_setRests_ok 1 rfl
theorem dX12_setRests_2 : decode cX12_setRests 2 = .ok (.iload_n 2, 1) := dk_get kX12_setRests_ok 2 rfl
theorem dX12_setRests_3 : decode cX12_setRests 3 = .ok (.aload_n 0, 1) := dk_get kX12_setRests_ok 3 rfl
theorem dX12_setRests_4 : decode cX12_setRests 4 = .ok (.getfield 177, 3) := dk_get kX12_setRests_ok 4 rfl
theorem dX12_setRests_7 : decode cX12_setRests 7 = .ok (.if_icmp .ge 69, 3) := dk_get kX12_setRests_ok 5 rfl
theorem dX12_setRests_10 : decode cX12_setRests 10 = .ok (.iload_n 2, 1) := dk_get kX12_setRests_ok 6 rfl
theorem dX12_setRests_11 : decode cX12_setRests 11 = .ok (.iconst 1, 1) := dk_get kX12_setRests_ok 7 rfl
theorem dX12_setRests_12 : decode cX12_setRests 12 = .ok (.iadd, 1) := dk_get kX12_setRests_ok 8 rfl
theorem dX12_setRests_13 : decode cX12_setRests 13 = .ok (.istore_n 3, 1) := dk_get kX12_setRests_ok 9 rfl
theorem dX12_setRests_14 : decode cX12_setRests 14 = .ok (.iload_n 3, 1) := dk_get kX12_setRests_ok 10 rfl
theorem dX12_setRests_15 : decode cX12_setRests 15 = .ok (.aload_n 0, 1) := dk_get kX12_setRests_ok 11 rfl
theorem dX12_setRests_16 : decode cX12_setRests 16 = .ok (.getfield 177, 3) := dk_get kX12_setRests_ok 12 rfl
theorem dX12_setRests_19 : decode cX12_setRests 19 = .ok (.if_icmp .ge 51, 3) := dk_get kX12_setRests_ok 13 rfl
theorem dX12_setRests_22 : decode cX12_setRests 22 = .ok (.aload_n 1, 1) := dk_get kX12_setRests_ok 14 rfl
theorem dX12_setRests_23 : decode cX12_setRests 23 = .ok (.bipush 30, 2) := dk_get kX12_setRests_ok 15 rfl
theorem dX12_setRests_25 : decode cX12_setRests 25 = .ok (.iload_n 2, 1) := dk_get kX12_setRests_ok 16 rfl
theorem dX12_setRests_26 : decode cX12_setRests 26 = .ok (.imul, 1) := dk_get kX12_setRests_ok 17 rfl
theorem dX12_setRests_27 : decode cX12_setRests 27 = .ok (.iload_n 3, 1) := dk_get kX12_setRests_ok 18 rfl
theorem dX12_setRests_28 : decode cX12_setRests 28 = .ok (.iadd, 1) := dk_get kX12_setRests_ok 19 rfl
theorem dX12_setRests_29 : decode cX12_setRests 29 = .ok (.aload_n 0, 1) := dk_get kX12_setRests_ok 20 rfl
theorem dX12_setRests_30 : decode cX12_setRests 30 = .ok (.getfield 92, 3) := dk_get kX12_setRests_ok 21 rfl
theorem dX12_setRests_33 : decode cX12_setRests 33 = .ok (.bipush 30, 2) := dk_get kX12_setRests_ok 22 rfl
theorem dX12_setRests_35 : decode cX12_setRests 35 = .ok (.iload_n 2, 1) := dk_get kX12_setRests_ok 23 rfl
theorem dX12_setRests_36 : decode cX12_setRests 36 = .ok (.imul, 1) := dk_get kX12_setRests_ok 24 rfl
theorem dX12_setRests_37 : decode cX12_setRests 37 = .ok (.iload_n 3, 1) := dk_get kX12_setRests_ok 25 rfl
theorem dX12_setRests_38 : decode cX12_setRests 38 = .ok (.iadd, 1) := dk_get kX12_setRests_ok 26 rfl
theorem dX12_setRests_39 : decode cX12_setRests 39 = .ok (.baload, 1) := dk_get kX12_setRests_ok 27 rfl
theorem dX12_setRests_40 : decode cX12_setRests 40 = .ok (.ifCond .eq 9, 3) := dk_get kX12_setRests_ok 28 rfl
theorem dX12_setRests_43 : decode cX12_setRests 43 = .ok (.ldc_w 434, 3) := dk_get kX12_setRests_ok 29 rfl
theorem dX12_setRests_46 : decode cX12_setRests 46 = .ok (.goto 17, 3) := dk_get kX12_setRests_ok 30 rfl
theorem dX12_setRests_49 : decode cX12_setRests 49 = .ok (.aload_n 0, 1) := dk_get kX12_setRests_ok 31 rfl
theorem dX12_setRests_50 : decode cX12_setRests 50 = .ok (.getfield 89, 3) := dk_get kX12_setRests_ok 32 rfl
theorem dX12_setRests_53 : decode cX12_setRests 53 = .ok (.bipush 30, 2) := dk_get kX12_setRests_ok 33 rfl
theorem dX12_setRests_55 : decode cX12_setRests 55 = .ok (.iload_n 2, 1) := dk_get kX12_setRests_ok 34 rfl
theorem dX12_setRests_56 : decode cX12_setRests 56 = .ok (.imul, 1) := dk_get kX12_setRests_ok 35 rfl
theorem dX12_setRests_57 : decode cX12_setRests 57 = .ok (.iload_n 3, 1) := dk_get kX12_setRests_ok 36 rfl
theorem dX12_setRests_58 : decode cX12_setRests 58 = .ok (.iadd, 1) := dk_get kX12_setRests_ok 37 rfl
theorem dX12_setRests_59 : decode cX12_setRests 59 = .ok (.iaload, 1) := dk_get kX12_setRests_ok 38 rfl
theorem dX12_setRests_60 : decode cX12_setRests 60 = .ok (.invokestatic 323, 3) := dk_get kX12_setRests_ok 39 rfl
theorem dX12_setRests_63 : decode cX12_setRests 63 = .ok (.iastore, 1) := dk_get kX12_setRests_ok 40 rfl
theorem dX12_setRests_64 : decode cX12_setRests 64 = .ok (.iinc 3 1, 3) := dk_get kX12_setRests_ok 41 rfl
theorem dX12_setRests_67 : decode cX12_setRests 67 = .ok (.goto (-53), 3) := dk_get kX12_setRests_ok 42 rfl
theorem dX12_setRests_70 : decode cX12_setRests 70 = .ok (.iinc 2 1, 3) := dk_get kX12_setRests_ok 43 rfl
theorem dX12_setRests_73 : decode cX12_setRests 73 = .ok (.goto (-71), 3) := dk_get kX12_setRests_ok 44 rfl
theorem dX12_setRests_76 : decode cX12_setRests 76 = .ok (.return_, 1) := dk_get kX12_setRests_ok 45 rfl
def kX12_leastRest : List (Nat × Instr × Nat) := [(0, .aload_n 1, 1), (1, .bipush 30, 2), (3, .iload_n 2, 1), (4, .imul, 1), (5, .iload_n 3, 1), (6, .iadd, 1), (7, .iaload, 1), (8, .aload_n 1, 1), (9, .bipush 30, 2), (11, .iload_n 2, 1), (12, .imul, 1), (13, .iload 4, 2), (15, .iadd, 1), (16, .iaload, 1), (17, .if_icmp .ge 14, 3), (20, .aload_n 1, 1), (21, .bipush 30, 2), (23, .iload_n 2, 1), (24, .imul, 1), (25, .iload_n 3, 1), (26, .iadd, 1), (27, .iaload, 1), (28, .goto 12, 3), (31, .aload_n 1, 1), (32, .bipush 30, 2), (34, .iload_n 2, 1), (35, .imul, 1), (36, .iload 4, 2), (38, .iadd, 1), (39, .iaload, 1), (40, .istore 5, 2), (42, .iload 5, 2), (44, .aload_n 1, 1), (45, .bipush 30, 2), (47, .iload_n 3, 1), (48, .imul, 1), (49, .iload 4, 2), (51, .iadd, 1), (52, .iaload, 1), (53, .if_icmp .ge 8, 3), (56, .iload 5, 2), (58, .goto 12, 3), (61, .aload_n 1, 1), (62, .bipush 30, 2), (64, .iload_n 3, 1), (65, .imul, 1), (66, .iload 4, 2), (68, .iadd, 1), (69, .iaload, 1), (70, .ireturn, 1)]
set_option maxRecDepth 100000 in
theorem kX12_leastRest_ok : kX12_leastRest.all (fun q => decide (decode cX12_leastRest q.1 = .ok q.2)) = true := by decide +kernel
theorem dX12_leastRest_0 : decode cX12_leastRest 0 = .ok (.aload_n 1, 1) := dk_get kX12_leastRest_ok 0 rfl
theorem dX12_leastRest_1 : decode cX12_leastRest 1 = .ok (.bipush 30, 2) := dk_get kX12_leastRest_ok 1 rfl
theorem dX12_leastRest_3 : decode cX12_leastRest 3 = .ok (.iload_n 2, 1) := dk_get kX12_leastRest_ok 2 rfl
theorem dX12_leastRest_4 : decode cX12_leastRest 4 = .ok (.imul, 1) := dk_get kX12_leastRest_ok 3 rfl
theorem dX12_leastRest_5 : decode cX12_leastRest 5 = .ok (.iload_n 3, 1) := dk_get kX12_leastRest_ok 4 rfl
theorem dX12_leastRest_6 : decode cX12_leastRest 6 = .ok (.iadd, 1) := dk_get kX12_leastRest_ok 5 rfl
theorem dX12_leastRest_7 : decode cX12_leastRest 7 = .ok (.iaload, 1) := dk_get kX12_leastRest_ok 6 rfl
theorem dX12_leastRest_8 : decode cX12_leastRest 8 = .ok (.aload_n 1, 1) := dk_get kX12_leastRest_ok 7 rfl
theorem dX12_leastRest_9 : decode cX12_leastRest 9 = .ok (.bipush 30, 2) := dk_get kX12_leastRest_ok 8 rfl
theorem dX12_leastRest_11 : decode cX12_leastRest 11 = .ok (.iload_n 2, 1) := dk_get kX12_leastRest_ok 9 rfl
theorem dX12_leastRest_12 : decode cX12_leastRest 12 = .ok (.imul, 1) := dk_get kX12_leastRest_ok 10 rfl
theorem dX12_leastRest_13 : decode cX12_leastRest 13 = .ok (.iload 4, 2) := dk_get kX12_leastRest_ok 11 rfl
theorem dX12_leastRest_15 : decode cX12_leastRest 15 = .ok (.iadd, 1) := dk_get kX12_leastRest_ok 12 rfl
theorem dX12_leastRest_16 : decode cX12_leastRest 16 = .ok (.iaload, 1) := dk_get kX12_leastRest_ok 13 rfl
theorem dX12_leastRest_17 : decode cX12_leastRest 17 = .ok (.if_icmp .ge 14, 3) := dk_get kX12_leastRest_ok 14 rfl
theorem dX12_leastRest_20 : decode cX12_leastRest 20 = .ok (.aload_n 1, 1) := dk_get kX12_leastRest_ok 15 rfl
theorem dX12_leastRest_21 : decode cX12_leastRest 21 = .ok (.bipush 30, 2) := dk_get kX12_leastRest_ok 16 rfl
theorem dX12_leastRest_23 : decode cX12_leastRest 23 = .ok (.iload_n 2, 1) := dk_get kX12_leastRest_ok 17 rfl
theorem dX12_leastRest_24 : decode cX12_leastRest 24 = .ok (.imul, 1) := dk_get kX12_leastRest_ok 18 rfl
theorem dX12_leastRest_25 : decode cX12_leastRest 25 = .ok (.iload_n 3, 1) := dk_get kX12_leastRest_ok 19 rfl
theorem dX12_leastRest_26 : decode cX12_leastRest 26 = .ok (.iadd, 1) := dk_get kX12_leastRest_ok 20 rfl
theorem dX12_leastRest_27 : decode cX12_leastRest 27 = .ok (.iaload, 1) := dk_get kX12_leastRest_ok 21 rfl
theorem dX12_leastRest_28 : decode cX12_leastRest 28 = .ok (.goto 12, 3) := dk_get kX12_leastRest_ok 22 rfl
theorem dX12_leastRest_31 : decode cX12_leastRest 31 = .ok (.aload_n 1, 1) := dk_get kX12_leastRest_ok 23 rfl
theorem dX12_leastRest_32 : decode cX12_leastRest 32 = .ok (.bipush 30, 2) := dk_get kX12_leastRest_ok 24 rfl
theorem dX12_leastRest_34 : decode cX12_leastRest 34 = .ok (.iload_n 2, 1) := dk_get kX12_leastRest_ok 25 rfl
theorem dX12_leastRest_35 : decode cX12_leastRest 35 = .ok (.imul, 1) := dk_get kX12_leastRest_ok 26 rfl
theorem dX12_leastRest_36 : decode cX12_leastRest 36 = .ok (.iload 4, 2) := dk_get kX12_leastRest_ok 27 rfl
theorem dX12_leastRest_38 : decode cX12_leastRest 38 = .ok (.iadd, 1) := dk_get kX12_leastRest_ok 28 rfl
theorem dX12_leastRest_39 : decode cX12_leastRest 39 = .ok (.iaload, 1) := dk_get kX12_leastRest_ok 29 rfl
theorem dX12_leastRest_40 : decode cX12_leastRest 40 = .ok (.istore 5, 2) := dk_get kX12_leastRest_ok 30 rfl
theorem dX12_leastRest_42 : decode cX12_leastRest 42 = .ok (.iload 5, 2) := dk_get kX12_leastRest_ok 31 rfl
theorem dX12_leastRest_44 : decode cX12_leastRest 44 = .ok (.aload_n 1, 1) := dk_get kX12_leastRest_ok 32 rfl
theorem dX12_leastRest_45 : decode cX12_leastRest 45 = .ok (.bipush 30, 2) := dk_get kX12_leastRest_ok 33 rfl
theorem dX12_leastRest_47 : decode cX12_leastRest 47 = .ok (.iload_n 3, 1) := dk_get kX12_leastRest_ok 34 rfl
theorem dX12_leastRest_48 : decode cX12_leastRest 48 = .ok (.imul, 1) := dk_get kX12_leastRest_ok 35 rfl
theorem dX12_leastRest_49 : decode cX12_leastRest 49 = .ok (.iload 4, 2) := dk_get kX12_leastRest_ok 36 rfl
theorem dX12_leastRest_51 : decode cX12_leastRest 51 = .ok (.iadd, 1) := dk_get kX12_leastRest_ok 37 rfl
theorem dX12_leastRest_52 : decode cX12_leastRest 52 = .ok (.iaload, 1) := dk_get kX12_leastRest_ok 38 rfl
theorem dX12_leastRest_53 : decode cX12_leastRest 53 = .ok (.if_icmp .ge 8, 3) := dk_get kX12_leastRest_ok 39 rfl
theorem dX12_leastRest_56 : decode cX12_leastRest 56 = .ok (.iload 5, 2) := dk_get kX12_leastRest_ok 40 rfl
theorem dX12_leastRest_58 : decode cX12_leastRest 58 = .ok (.goto 12, 3) := dk_get kX12_leastRest_ok 41 rfl
theorem dX12_leastRest_61 : decode cX12_leastRest 61 = .ok (.aload_n 1, 1) := dk_get kX12_leastRest_ok 42 rfl
theorem dX12_leastRest_62 : decode cX12_leastRest 62 = .ok (.bipush 30, 2) := dk_get kX12_leastRest_ok 43 rfl
theorem dX12_leastRest_64 : decode cX12_leastRest 64 = .ok (.iload_n 3, 1) := dk_get kX12_leastRest_ok 44 rfl
theorem dX12_leastRest_65 : decode cX12_leastRest 65 = .ok (.imul, 1) := dk_get kX12_leastRest_ok 45 rfl
theorem dX12_leastRest_66 : decode cX12_leastRest 66 = .ok (.iload 4, 2) := dk_get kX12_leastRest_ok 46 rfl
theorem dX12_leastRest_68 : decode cX12_leastRest 68 = .ok (.iadd, 1) := dk_get kX12_leastRest_ok 47 rfl
theorem dX12_leastRest_69 : decode cX12_leastRest 69 = .ok (.iaload, 1) := dk_get kX12_leastRest_ok 48 rfl
theorem dX12_leastRest_70 : decode cX12_leastRest 70 = .ok (.ireturn, 1) := dk_get kX12_leastRest_ok 49 rfl
def kX12_takesRest : List (Nat × Instr × Nat) := [(0, .aload_n 1, 1), (1, .bipush 30, 2), (3, .iload_n 2, 1), (4, .imul, 1), (5, .iload_n 3, 1), (6, .iadd, 1), (7, .dup2, 1), (8, .iaload, 1), (9, .iload 5, 2), (11, .isub, 1), (12, .iastore, 1), (13, .aload_n 1, 1), (14, .bipush 30, 2), (16, .iload_n 2, 1), (17, .imul, 1), (18, .iload 4, 2), (20, .iadd, 1), (21, .dup2, 1), (22, .iaload, 1), (23, .iload 5, 2), (25, .isub, 1), (26, .iastore, 1), (27, .aload_n 1, 1), (28, .bipush 30, 2), (30, .iload_n 3, 1), (31, .imul, 1), (32, .iload 4, 2), (34, .iadd, 1), (35, .dup2, 1), (36, .iaload, 1), (37, .iload 5, 2), (39, .isub, 1), (40, .iastore, 1), (41, .return_, 1)]
set_option maxRecDepth 100000 in
theorem kX12_takesRest_ok : kX12_takesRest.all (fun q => decide (decode cX12_takesRest q.1 = .ok q.2)) = true := by decide +kernel
theorem dX12_takesRest_0 : decode cX12_takesRest 0 = .ok (.aload_n 1, 1) := dk_get kX12_takesRest_ok 0 rfl
theorem dX12_takesRest_1 : decode cX12_takesRest 1 = .ok (.bipush 30, 2) := dk_get kX12_takesRest_ok 1 rfl
theorem dX12_takesRest_3 : decode cX12_takesRest 3 = .ok (.iload_n 2, 1) := dk_get kX12_takesRest_ok 2 rfl
theorem dX12_takesRest_4 : decode cX12_takesRest 4 = .ok (.imul, 1) := dk_get kX12_takesRest_ok 3 rfl
theorem dX12_takesRest_5 : decode cX12_takesRest 5 = .ok (.iload_n 3, 1) := dk_get kX12_takesRest_ok 4 rfl
theorem dX12_takesRest_6 : decode cX12_takesRest 6 = .ok (.iadd, 1) := dk_get kX12_takesRest_ok 5 rfl
theorem dX12_takesRest_7 : decode cX12_takesRest 7 = .ok (.dup2, 1) := dk_get kX12_takesRest_ok 6 rfl
theorem dX12_takesRest_8 : decode cX12_takesRest 8 = .ok (.iaload, 1) := dk_get kX12_takesRest_ok 7 rfl
theorem dX12_takesRest_9 : decode cX12_takesRest 9 = .ok (.iload 5, 2) := dk_get kX12_takesRest_ok 8 rfl
theorem dX12_takesRest_11 : decode cX12_takesRest 11 = .ok (.isub, 1) := dk_get kX12_takesRest_ok 9 rfl
theorem dX12_takesRest_12 : decode cX12_takesRest 12 = .ok (.iastore, 1) := dk_get kX12_takesRest_ok 10 rfl
theorem dX12_takesRest_13 : decode cX12_takesRest 13 = .ok (.aload_n 1, 1) := dk_get kX12_takesRest_ok 11 rfl
theorem dX12_takesRest_14 : decode cX12_takesRest 14 = .ok (.bipush 30, 2) := dk_get kX12_takesRest_ok 12 rfl
theorem dX12_takesRest_16 : decode cX12_takesRest 16 = .ok (.iload_n 2, 1) := dk_get kX12_takesRest_ok 13 rfl
theorem dX12_takesRest_17 : decode cX12_takesRest 17 = .ok (.imul, 1) := dk_get kX12_takesRest_ok 14 rfl
theorem dX12_takesRest_18 : decode cX12_takesRest 18 = .ok (.iload 4, 2) := dk_get kX12_takesRest_ok 15 rfl
theorem dX12_takesRest_20 : decode cX12_takesRest 20 = .ok (.iadd, 1) := dk_get kX12_takesRest_ok 16 rfl
theorem dX12_takesRest_21 : decode cX12_takesRest 21 = .ok (.dup2, 1) := dk_get kX12_takesRest_ok 17 rfl
theorem dX12_takesRest_22 : decode cX12_takesRest 22 = .ok (.iaload, 1) := dk_get kX12_takesRest_ok 18 rfl
theorem dX12_takesRest_23 : decode cX12_takesRest 23 = .ok (.iload 5, 2) := dk_get kX12_takesRest_ok 19 rfl
theorem dX12_takesRest_25 : decode cX12_takesRest 25 = .ok (.isub, 1) := dk_get kX12_takesRest_ok 20 rfl
theorem dX12_takesRest_26 : decode cX12_takesRest 26 = .ok (.iastore, 1) := dk_get kX12_takesRest_ok 21 rfl
theorem dX12_takesRest_27 : decode cX12_takesRest 27 = .ok (.aload_n 1, 1) := dk_get kX12_takesRest_ok 22 rfl
theorem dX12_takesRest_28 : decode cX12_takesRest 28 = .ok (.bipush 30, 2) := dk_get kX12_takesRest_ok 23 rfl
theorem dX12_takesRest_30 : decode cX12_takesRest 30 = .ok (.iload_n 3, 1) := dk_get kX12_takesRest_ok 24 rfl
theorem dX12_takesRest_31 : decode cX12_takesRest 31 = .ok (.imul, 1) := dk_get kX12_takesRest_ok 25 rfl
theorem dX12_takesRest_32 : decode cX12_takesRest 32 = .ok (.iload 4, 2) := dk_get kX12_takesRest_ok 26 rfl
theorem dX12_takesRest_34 : decode cX12_takesRest 34 = .ok (.iadd, 1) := dk_get kX12_takesRest_ok 27 rfl
theorem dX12_takesRest_35 : decode cX12_takesRest 35 = .ok (.dup2, 1) := dk_get kX12_takesRest_ok 28 rfl
theorem dX12_takesRest_36 : decode cX12_takesRest 36 = .ok (.iaload, 1) := dk_get kX12_takesRest_ok 29 rfl
theorem dX12_takesRest_37 : decode cX12_takesRest 37 = .ok (.iload 5, 2) := dk_get kX12_takesRest_ok 30 rfl
theorem dX12_takesRest_39 : decode cX12_takesRest 39 = .ok (.isub, 1) := dk_get kX12_takesRest_ok 31 rfl
theorem dX12_takesRest_40 : decode cX12_takesRest 40 = .ok (.iastore, 1) := dk_get kX12_takesRest_ok 32 rfl
theorem dX12_takesRest_41 : decode cX12_takesRest 41 = .ok (.return_, 1) := dk_get kX12_takesRest_ok 33 rfl
def kX12_packs : List (Nat × Instr × Nat) := [(0, .aload_n 0, 1), (1, .invokevirtual 385, 3), (4, .aload_n 0, 1), (5, .aload_n 0, 1), (6, .getfield 123, 3), (9, .invokevirtual 435, 3), (12, .aload_n 0, 1), (13, .iconst 0, 1), (14, .putfield 438, 3), (17, .aload_n 0, 1), (18, .iconst 0, 1), (19, .putfield 441, 3), (22, .lconst 0, 1), (23, .lstore_n 2, 1), (24, .iconst 0, 1), (25, .istore 4, 2), (27, .iload 4, 2), (29, .aload_n 0, 1), (30, .getfield 177, 3), (33, .if_icmp .ge 173, 3), (36, .iload 4, 2), (38, .iconst 1, 1), (39, .iadd, 1), (40, .istore 5, 2), (42, .iload 5, 2), (44, .aload_n 0, 1), (45, .getfield 177, 3), (48, .if_icmp .ge 152, 3), (51, .iload 5, 2), (53, .iconst 1, 1), (54, .iadd, 1), (55, .istore 6, 2), (57, .iload 6, 2), (59, .aload_n 0, 1), (60, .getfield 177, 3), (63, .if_icmp .ge 131, 3), (66, .aload_n 0, 1), (67, .iload 4, 2), (69, .iload 5, 2), (71, .iload 6, 2), (73, .invokevirtual 444, 3), (76, .ifCond .ne 6, 3), (79, .goto 109, 3), (82, .aload_n 0, 1), (83, .dup, 1), (84, .getfield 438, 3), (87, .iconst 1, 1), (88, .iadd, 1), (89, .putfield 438, 3), (92, .aload_n 0, 1), (93, .aload_n 0, 1), (94, .getfield 123, 3), (97, .iload 4, 2), (99, .iload 5, 2), (101, .iload 6, 2), (103, .invokevirtual 447, 3), (106, .istore 7, 2), (108, .iload 7, 2), (110, .ifCond .ne 6, 3), (113, .goto 75, 3), (116, .aload_n 0, 1), (117, .getfield 441, 3), (120, .iload_n 1, 1), (121, .if_icmp .ne 35, 3), (124, .aload_n 0, 1), (125, .getfield 129, 3), (128, .iconst 0, 1), (129, .iload 4, 2), (131, .iastore, 1), (132, .aload_n 0, 1), (133, .getfield 129, 3), (136, .iconst 1, 1), (137, .iload 5, 2), (139, .iastore, 1), (140, .aload_n 0, 1), (141, .getfield 129, 3), (144, .iconst 2, 1), (145, .iload 6, 2), (147, .iastore, 1), (148, .aload_n 0, 1), (149, .getfield 129, 3), (152, .iconst 3, 1), (153, .iload 7, 2), (155, .iastore, 1), (156, .aload_n 0, 1), (157, .dup, 1), (158, .getfield 441, 3), (161, .iconst 1, 1), (162, .iadd, 1), (163, .putfield 441, 3), (166, .lload_n 2, 1), (167, .iload 7, 2), (169, .i2l, 1), (170, .ladd, 1), (171, .lstore_n 2, 1), (172, .aload_n 0, 1), (173, .aload_n 0, 1), (174, .getfield 123, 3), (177, .iload 4, 2), (179, .iload 5, 2), (181, .iload 6, 2), (183, .iload 7, 2), (185, .invokevirtual 451, 3), (188, .iinc 6 1, 3), (191, .goto (-134), 3), (194, .iinc 5 1, 3), (197, .goto (-155), 3), (200, .iinc 4 1, 3), (203, .goto (-176), 3), (206, .lload_n 2, 1), (207, .lreturn, 1)]
set_option maxRecDepth 100000 in
theorem kX12_packs_ok : kX12_packs.all (fun q => decide (decode cX12_packs q.1 = .ok q.2)) = true := by decide +kernel
theorem dX12_packs_0 : decode cX12_packs 0 = .ok (.aload_n 0, 1) := dk_get kX12_packs_ok 0 rfl
theorem dX12_packs_1 : decode cX12_packs 1 = .ok (.invokevirtual 385, 3) := dk_get kX12_packs_ok 1 rfl
theorem dX12_packs_4 : decode cX12_packs 4 = .ok (.aload_n 0, 1) := dk_get kX12_packs_ok 2 rfl
theorem dX12_packs_5 : decode cX12_packs 5 = .ok (.aload_n 0, 1) := dk_get kX12_packs_ok 3 rfl
theorem dX12_packs_6 : decode cX12_packs 6 = .ok (.getfield 123, 3) := dk_get kX12_packs_ok 4 rfl
theorem dX12_packs_9 : decode cX12_packs 9 = .ok (.invokevirtual 435, 3) := dk_get kX12_packs_ok 5 rfl
theorem dX12_packs_12 : decode cX12_packs 12 = .ok (.aload_n 0, 1) := dk_get kX12_packs_ok 6 rfl
theorem dX12_packs_13 : decode cX12_packs 13 = .ok (.iconst 0, 1) := dk_get kX12_packs_ok 7 rfl
theorem dX12_packs_14 : decode cX12_packs 14 = .ok (.putfield 438, 3) := dk_get kX12_packs_ok 8 rfl
theorem dX12_packs_17 : decode cX12_packs 17 = .ok (.aload_n 0, 1) := dk_get kX12_packs_ok 9 rfl
theorem dX12_packs_18 : decode cX12_packs 18 = .ok (.iconst 0, 1) := dk_get kX12_packs_ok 10 rfl
theorem dX12_packs_19 : decode cX12_packs 19 = .ok (.putfield 441, 3) := dk_get kX12_packs_ok 11 rfl
theorem dX12_packs_22 : decode cX12_packs 22 = .ok (.lconst 0, 1) := dk_get kX12_packs_ok 12 rfl
theorem dX12_packs_23 : decode cX12_packs 23 = .ok (.lstore_n 2, 1) := dk_get kX12_packs_ok 13 rfl
theorem dX12_packs_24 : decode cX12_packs 24 = .ok (.iconst 0, 1) := dk_get kX12_packs_ok 14 rfl
theorem dX12_packs_25 : decode cX12_packs 25 = .ok (.istore 4, 2) := dk_get kX12_packs_ok 15 rfl
theorem dX12_packs_27 : decode cX12_packs 27 = .ok (.iload 4, 2) := dk_get kX12_packs_ok 16 rfl
theorem dX12_packs_29 : decode cX12_packs 29 = .ok (.aload_n 0, 1) := dk_get kX12_packs_ok 17 rfl
theorem dX12_packs_30 : decode cX12_packs 30 = .ok (.getfield 177, 3) := dk_get kX12_packs_ok 18 rfl
theorem dX12_packs_33 : decode cX12_packs 33 = .ok (.if_icmp .ge 173, 3) := dk_get kX12_packs_ok 19 rfl
theorem dX12_packs_36 : decode cX12_packs 36 = .ok (.iload 4, 2) := dk_get kX12_packs_ok 20 rfl
theorem dX12_packs_38 : decode cX12_packs 38 = .ok (.iconst 1, 1) := dk_get kX12_packs_ok 21 rfl
theorem dX12_packs_39 : decode cX12_packs 39 = .ok (.iadd, 1) := dk_get kX12_packs_ok 22 rfl
theorem dX12_packs_40 : decode cX12_packs 40 = .ok (.istore 5, 2) := dk_get kX12_packs_ok 23 rfl
theorem dX12_packs_42 : decode cX12_packs 42 = .ok (.iload 5, 2) := dk_get kX12_packs_ok 24 rfl
theorem dX12_packs_44 : decode cX12_packs 44 = .ok (.aload_n 0, 1) := dk_get kX12_packs_ok 25 rfl
theorem dX12_packs_45 : decode cX12_packs 45 = .ok (.getfield 177, 3) := dk_get kX12_packs_ok 26 rfl
theorem dX12_packs_48 : decode cX12_packs 48 = .ok (.if_icmp .ge 152, 3) := dk_get kX12_packs_ok 27 rfl
theorem dX12_packs_51 : decode cX12_packs 51 = .ok (.iload 5, 2) := dk_get kX12_packs_ok 28 rfl
theorem dX12_packs_53 : decode cX12_packs 53 = .ok (.iconst 1, 1) := dk_get kX12_packs_ok 29 rfl
theorem dX12_packs_54 : decode cX12_packs 54 = .ok (.iadd, 1) := dk_get kX12_packs_ok 30 rfl
theorem dX12_packs_55 : decode cX12_packs 55 = .ok (.istore 6, 2) := dk_get kX12_packs_ok 31 rfl
theorem dX12_packs_57 : decode cX12_packs 57 = .ok (.iload 6, 2) := dk_get kX12_packs_ok 32 rfl
theorem dX12_packs_59 : decode cX12_packs 59 = .ok (.aload_n 0, 1) := dk_get kX12_packs_ok 33 rfl
theorem dX12_packs_60 : decode cX12_packs 60 = .ok (.getfield 177, 3) := dk_get kX12_packs_ok 34 rfl
theorem dX12_packs_63 : decode cX12_packs 63 = .ok (.if_icmp .ge 131, 3) := dk_get kX12_packs_ok 35 rfl
theorem dX12_packs_66 : decode cX12_packs 66 = .ok (.aload_n 0, 1) := dk_get kX12_packs_ok 36 rfl
theorem dX12_packs_67 : decode cX12_packs 67 = .ok (.iload 4, 2) := dk_get kX12_packs_ok 37 rfl
theorem dX12_packs_69 : decode cX12_packs 69 = .ok (.iload 5, 2) := dk_get kX12_packs_ok 38 rfl
theorem dX12_packs_71 : decode cX12_packs 71 = .ok (.iload 6, 2) := dk_get kX12_packs_ok 39 rfl
theorem dX12_packs_73 : decode cX12_packs 73 = .ok (.invokevirtual 444, 3) := dk_get kX12_packs_ok 40 rfl
theorem dX12_packs_76 : decode cX12_packs 76 = .ok (.ifCond .ne 6, 3) := dk_get kX12_packs_ok 41 rfl
theorem dX12_packs_79 : decode cX12_packs 79 = .ok (.goto 109, 3) := dk_get kX12_packs_ok 42 rfl
theorem dX12_packs_82 : decode cX12_packs 82 = .ok (.aload_n 0, 1) := dk_get kX12_packs_ok 43 rfl
theorem dX12_packs_83 : decode cX12_packs 83 = .ok (.dup, 1) := dk_get kX12_packs_ok 44 rfl
theorem dX12_packs_84 : decode cX12_packs 84 = .ok (.getfield 438, 3) := dk_get kX12_packs_ok 45 rfl
theorem dX12_packs_87 : decode cX12_packs 87 = .ok (.iconst 1, 1) := dk_get kX12_packs_ok 46 rfl
theorem dX12_packs_88 : decode cX12_packs 88 = .ok (.iadd, 1) := dk_get kX12_packs_ok 47 rfl
theorem dX12_packs_89 : decode cX12_packs 89 = .ok (.putfield 438, 3) := dk_get kX12_packs_ok 48 rfl
theorem dX12_packs_92 : decode cX12_packs 92 = .ok (.aload_n 0, 1) := dk_get kX12_packs_ok 49 rfl
theorem dX12_packs_93 : decode cX12_packs 93 = .ok (.aload_n 0, 1) := dk_get kX12_packs_ok 50 rfl
theorem dX12_packs_94 : decode cX12_packs 94 = .ok (.getfield 123, 3) := dk_get kX12_packs_ok 51 rfl
theorem dX12_packs_97 : decode cX12_packs 97 = .ok (.iload 4, 2) := dk_get kX12_packs_ok 52 rfl
theorem dX12_packs_99 : decode cX12_packs 99 = .ok (.iload 5, 2) := dk_get kX12_packs_ok 53 rfl
theorem dX12_packs_101 : decode cX12_packs 101 = .ok (.iload 6, 2) := dk_get kX12_packs_ok 54 rfl
theorem dX12_packs_103 : decode cX12_packs 103 = .ok (.invokevirtual 447, 3) := dk_get kX12_packs_ok 55 rfl
theorem dX12_packs_106 : decode cX12_packs 106 = .ok (.istore 7, 2) := dk_get kX12_packs_ok 56 rfl
theorem dX12_packs_108 : decode cX12_packs 108 = .ok (.iload 7, 2) := dk_get kX12_packs_ok 57 rfl
theorem dX12_packs_110 : decode cX12_packs 110 = .ok (.ifCond .ne 6, 3) := dk_get kX12_packs_ok 58 rfl
theorem dX12_packs_113 : decode cX12_packs 113 = .ok (.goto 75, 3) := dk_get kX12_packs_ok 59 rfl
theorem dX12_packs_116 : decode cX12_packs 116 = .ok (.aload_n 0, 1) := dk_get kX12_packs_ok 60 rfl
theorem dX12_packs_117 : decode cX12_packs 117 = .ok (.getfield 441, 3) := dk_get kX12_packs_ok 61 rfl
theorem dX12_packs_120 : decode cX12_packs 120 = .ok (.iload_n 1, 1) := dk_get kX12_packs_ok 62 rfl
theorem dX12_packs_121 : decode cX12_packs 121 = .ok (.if_icmp .ne 35, 3) := dk_get kX12_packs_ok 63 rfl
theorem dX12_packs_124 : decode cX12_packs 124 = .ok (.aload_n 0, 1) := dk_get kX12_packs_ok 64 rfl
theorem dX12_packs_125 : decode cX12_packs 125 = .ok (.getfield 129, 3) := dk_get kX12_packs_ok 65 rfl
theorem dX12_packs_128 : decode cX12_packs 128 = .ok (.iconst 0, 1) := dk_get kX12_packs_ok 66 rfl
theorem dX12_packs_129 : decode cX12_packs 129 = .ok (.iload 4, 2) := dk_get kX12_packs_ok 67 rfl
theorem dX12_packs_131 : decode cX12_packs 131 = .ok (.iastore, 1) := dk_get kX12_packs_ok 68 rfl
theorem dX12_packs_132 : decode cX12_packs 132 = .ok (.aload_n 0, 1) := dk_get kX12_packs_ok 69 rfl
theorem dX12_packs_133 : decode cX12_packs 133 = .ok (.getfield 129, 3) := dk_get kX12_packs_ok 70 rfl
theorem dX12_packs_136 : decode cX12_packs 136 = .ok (.iconst 1, 1) := dk_get kX12_packs_ok 71 rfl
theorem dX12_packs_137 : decode cX12_packs 137 = .ok (.iload 5, 2) := dk_get kX12_packs_ok 72 rfl
theorem dX12_packs_139 : decode cX12_packs 139 = .ok (.iastore, 1) := dk_get kX12_packs_ok 73 rfl
theorem dX12_packs_140 : decode cX12_packs 140 = .ok (.aload_n 0, 1) := dk_get kX12_packs_ok 74 rfl
theorem dX12_packs_141 : decode cX12_packs 141 = .ok (.getfield 129, 3) := dk_get kX12_packs_ok 75 rfl
theorem dX12_packs_144 : decode cX12_packs 144 = .ok (.iconst 2, 1) := dk_get kX12_packs_ok 76 rfl
theorem dX12_packs_145 : decode cX12_packs 145 = .ok (.iload 6, 2) := dk_get kX12_packs_ok 77 rfl
theorem dX12_packs_147 : decode cX12_packs 147 = .ok (.iastore, 1) := dk_get kX12_packs_ok 78 rfl
theorem dX12_packs_148 : decode cX12_packs 148 = .ok (.aload_n 0, 1) := dk_get kX12_packs_ok 79 rfl
theorem dX12_packs_149 : decode cX12_packs 149 = .ok (.getfield 129, 3) := dk_get kX12_packs_ok 80 rfl
theorem dX12_packs_152 : decode cX12_packs 152 = .ok (.iconst 3, 1) := dk_get kX12_packs_ok 81 rfl
theorem dX12_packs_153 : decode cX12_packs 153 = .ok (.iload 7, 2) := dk_get kX12_packs_ok 82 rfl
theorem dX12_packs_155 : decode cX12_packs 155 = .ok (.iastore, 1) := dk_get kX12_packs_ok 83 rfl
theorem dX12_packs_156 : decode cX12_packs 156 = .ok (.aload_n 0, 1) := dk_get kX12_packs_ok 84 rfl
theorem dX12_packs_157 : decode cX12_packs 157 = .ok (.dup, 1) := dk_get kX12_packs_ok 85 rfl
theorem dX12_packs_158 : decode cX12_packs 158 = .ok (.getfield 441, 3) := dk_get kX12_packs_ok 86 rfl
theorem dX12_packs_161 : decode cX12_packs 161 = .ok (.iconst 1, 1) := dk_get kX12_packs_ok 87 rfl
theorem dX12_packs_162 : decode cX12_packs 162 = .ok (.iadd, 1) := dk_get kX12_packs_ok 88 rfl
theorem dX12_packs_163 : decode cX12_packs 163 = .ok (.putfield 441, 3) := dk_get kX12_packs_ok 89 rfl
theorem dX12_packs_166 : decode cX12_packs 166 = .ok (.lload_n 2, 1) := dk_get kX12_packs_ok 90 rfl
theorem dX12_packs_167 : decode cX12_packs 167 = .ok (.iload 7, 2) := dk_get kX12_packs_ok 91 rfl
theorem dX12_packs_169 : decode cX12_packs 169 = .ok (.i2l, 1) := dk_get kX12_packs_ok 92 rfl
theorem dX12_packs_170 : decode cX12_packs 170 = .ok (.ladd, 1) := dk_get kX12_packs_ok 93 rfl
theorem dX12_packs_171 : decode cX12_packs 171 = .ok (.lstore_n 2, 1) := dk_get kX12_packs_ok 94 rfl
theorem dX12_packs_172 : decode cX12_packs 172 = .ok (.aload_n 0, 1) := dk_get kX12_packs_ok 95 rfl
theorem dX12_packs_173 : decode cX12_packs 173 = .ok (.aload_n 0, 1) := dk_get kX12_packs_ok 96 rfl
theorem dX12_packs_174 : decode cX12_packs 174 = .ok (.getfield 123, 3) := dk_get kX12_packs_ok 97 rfl
theorem dX12_packs_177 : decode cX12_packs 177 = .ok (.iload 4, 2) := dk_get kX12_packs_ok 98 rfl
theorem dX12_packs_179 : decode cX12_packs 179 = .ok (.iload 5, 2) := dk_get kX12_packs_ok 99 rfl
theorem dX12_packs_181 : decode cX12_packs 181 = .ok (.iload 6, 2) := dk_get kX12_packs_ok 100 rfl
theorem dX12_packs_183 : decode cX12_packs 183 = .ok (.iload 7, 2) := dk_get kX12_packs_ok 101 rfl
theorem dX12_packs_185 : decode cX12_packs 185 = .ok (.invokevirtual 451, 3) := dk_get kX12_packs_ok 102 rfl
theorem dX12_packs_188 : decode cX12_packs 188 = .ok (.iinc 6 1, 3) := dk_get kX12_packs_ok 103 rfl
theorem dX12_packs_191 : decode cX12_packs 191 = .ok (.goto (-134), 3) := dk_get kX12_packs_ok 104 rfl
theorem dX12_packs_194 : decode cX12_packs 194 = .ok (.iinc 5 1, 3) := dk_get kX12_packs_ok 105 rfl
theorem dX12_packs_197 : decode cX12_packs 197 = .ok (.goto (-155), 3) := dk_get kX12_packs_ok 106 rfl
theorem dX12_packs_200 : decode cX12_packs 200 = .ok (.iinc 4 1, 3) := dk_get kX12_packs_ok 107 rfl
theorem dX12_packs_203 : decode cX12_packs 203 = .ok (.goto (-176), 3) := dk_get kX12_packs_ok 108 rfl
theorem dX12_packs_206 : decode cX12_packs 206 = .ok (.lload_n 2, 1) := dk_get kX12_packs_ok 109 rfl
theorem dX12_packs_207 : decode cX12_packs 207 = .ok (.lreturn, 1) := dk_get kX12_packs_ok 110 rfl
def kX12_bound : List (Nat × Instr × Nat) := [(0, .aload_n 0, 1), (1, .iconst 0, 1), (2, .putfield 1, 3), (5, .aload_n 0, 1), (6, .iconst (-1), 1), (7, .invokevirtual 455, 3), (10, .lreturn, 1)]
set_option maxRecDepth 100000 in
theorem kX12_bound_ok : kX12_bound.all (fun q => decide (decode cX12_bound q.1 = .ok q.2)) = true := by decide +kernel
theorem dX12_bound_0 : decode cX12_bound 0 = .ok (.aload_n 0, 1) := dk_get kX12_bound_ok 0 rfl
theorem dX12_bound_1 : decode cX12_bound 1 = .ok (.iconst 0, 1) := dk_get kX12_bound_ok 1 rfl
theorem dX12_bound_2 : decode cX12_bound 2 = .ok (.putfield 1, 3) := dk_get kX12_bound_ok 2 rfl
theorem dX12_bound_5 : decode cX12_bound 5 = .ok (.aload_n 0, 1) := dk_get kX12_bound_ok 3 rfl
theorem dX12_bound_6 : decode cX12_bound 6 = .ok (.iconst (-1), 1) := dk_get kX12_bound_ok 4 rfl
theorem dX12_bound_7 : decode cX12_bound 7 = .ok (.invokevirtual 455, 3) := dk_get kX12_bound_ok 5 rfl
theorem dX12_bound_10 : decode cX12_bound 10 = .ok (.lreturn, 1) := dk_get kX12_bound_ok 6 rfl
def kX12_ring : List (Nat × Instr × Nat) := [(0, .aload_n 0, 1), (1, .iconst 0, 1), (2, .putfield 1, 3), (5, .aload_n 0, 1), (6, .iload_n 2, 1), (7, .iconst 0, 1), (8, .iconst 3, 1), (9, .invokestatic 169, 3), (12, .iconst 1, 1), (13, .invokevirtual 173, 3), (16, .ifCond .ne 5, 3), (19, .iconst 0, 1), (20, .ireturn, 1), (21, .aload_n 0, 1), (22, .iload_n 1, 1), (23, .invokevirtual 455, 3), (26, .lstore_n 3, 1), (27, .iload_n 1, 1), (28, .ifCond .lt 20, 3), (31, .iload_n 1, 1), (32, .aload_n 0, 1), (33, .getfield 441, 3), (36, .if_icmp .ge 12, 3), (39, .aload_n 0, 1), (40, .getfield 129, 3), (43, .iload_n 2, 1), (44, .iaload, 1), (45, .goto 4, 3), (48, .iconst (-1), 1), (49, .ireturn, 1)]
set_option maxRecDepth 100000 in
theorem kX12_ring_ok : kX12_ring.all (fun q => decide (decode cX12_ring q.1 = .ok q.2)) = true := by decide +kernel
theorem dX12_ring_0 : decode cX12_ring 0 = .ok (.aload_n 0, 1) := dk_get kX12_ring_ok 0 rfl
theorem dX12_ring_1 : decode cX12_ring 1 = .ok (.iconst 0, 1) := dk_get kX12_ring_ok 1 rfl
theorem dX12_ring_2 : decode cX12_ring 2 = .ok (.putfield 1, 3) := dk_get kX12_ring_ok 2 rfl
theorem dX12_ring_5 : decode cX12_ring 5 = .ok (.aload_n 0, 1) := dk_get kX12_ring_ok 3 rfl
theorem dX12_ring_6 : decode cX12_ring 6 = .ok (.iload_n 2, 1) := dk_get kX12_ring_ok 4 rfl
theorem dX12_ring_7 : decode cX12_ring 7 = .ok (.iconst 0, 1) := dk_get kX12_ring_ok 5 rfl
theorem dX12_ring_8 : decode cX12_ring 8 = .ok (.iconst 3, 1) := dk_get kX12_ring_ok 6 rfl
theorem dX12_ring_9 : decode cX12_ring 9 = .ok (.invokestatic 169, 3) := dk_get kX12_ring_ok 7 rfl
theorem dX12_ring_12 : decode cX12_ring 12 = .ok (.iconst 1, 1) := dk_get kX12_ring_ok 8 rfl
theorem dX12_ring_13 : decode cX12_ring 13 = .ok (.invokevirtual 173, 3) := dk_get kX12_ring_ok 9 rfl
theorem dX12_ring_16 : decode cX12_ring 16 = .ok (.ifCond .ne 5, 3) := dk_get kX12_ring_ok 10 rfl
theorem dX12_ring_19 : decode cX12_ring 19 = .ok (.iconst 0, 1) := dk_get kX12_ring_ok 11 rfl
theorem dX12_ring_20 : decode cX12_ring 20 = .ok (.ireturn, 1) := dk_get kX12_ring_ok 12 rfl
theorem dX12_ring_21 : decode cX12_ring 21 = .ok (.aload_n 0, 1) := dk_get kX12_ring_ok 13 rfl
theorem dX12_ring_22 : decode cX12_ring 22 = .ok (.iload_n 1, 1) := dk_get kX12_ring_ok 14 rfl
theorem dX12_ring_23 : decode cX12_ring 23 = .ok (.invokevirtual 455, 3) := dk_get kX12_ring_ok 15 rfl
theorem dX12_ring_26 : decode cX12_ring 26 = .ok (.lstore_n 3, 1) := dk_get kX12_ring_ok 16 rfl
theorem dX12_ring_27 : decode cX12_ring 27 = .ok (.iload_n 1, 1) := dk_get kX12_ring_ok 17 rfl
theorem dX12_ring_28 : decode cX12_ring 28 = .ok (.ifCond .lt 20, 3) := dk_get kX12_ring_ok 18 rfl
theorem dX12_ring_31 : decode cX12_ring 31 = .ok (.iload_n 1, 1) := dk_get kX12_ring_ok 19 rfl
theorem dX12_ring_32 : decode cX12_ring 32 = .ok (.aload_n 0, 1) := dk_get kX12_ring_ok 20 rfl
theorem dX12_ring_33 : decode cX12_ring 33 = .ok (.getfield 441, 3) := dk_get kX12_ring_ok 21 rfl
theorem dX12_ring_36 : decode cX12_ring 36 = .ok (.if_icmp .ge 12, 3) := dk_get kX12_ring_ok 22 rfl
theorem dX12_ring_39 : decode cX12_ring 39 = .ok (.aload_n 0, 1) := dk_get kX12_ring_ok 23 rfl
theorem dX12_ring_40 : decode cX12_ring 40 = .ok (.getfield 129, 3) := dk_get kX12_ring_ok 24 rfl
theorem dX12_ring_43 : decode cX12_ring 43 = .ok (.iload_n 2, 1) := dk_get kX12_ring_ok 25 rfl
theorem dX12_ring_44 : decode cX12_ring 44 = .ok (.iaload, 1) := dk_get kX12_ring_ok 26 rfl
theorem dX12_ring_45 : decode cX12_ring 45 = .ok (.goto 4, 3) := dk_get kX12_ring_ok 27 rfl
theorem dX12_ring_48 : decode cX12_ring 48 = .ok (.iconst (-1), 1) := dk_get kX12_ring_ok 28 rfl
theorem dX12_ring_49 : decode cX12_ring 49 = .ok (.ireturn, 1) := dk_get kX12_ring_ok 29 rfl
def kX12_rings : List (Nat × Instr × Nat) := [(0, .aload_n 0, 1), (1, .iconst 0, 1), (2, .putfield 1, 3), (5, .aload_n 0, 1), (6, .iconst (-1), 1), (7, .invokevirtual 455, 3), (10, .lstore_n 1, 1), (11, .aload_n 0, 1), (12, .getfield 438, 3), (15, .ireturn, 1)]
set_option maxRecDepth 100000 in
theorem kX12_rings_ok : kX12_rings.all (fun q => decide (decode cX12_rings q.1 = .ok q.2)) = true := by decide +kernel
theorem dX12_rings_0 : decode cX12_rings 0 = .ok (.aload_n 0, 1) := dk_get kX12_rings_ok 0 rfl
theorem dX12_rings_1 : decode cX12_rings 1 = .ok (.iconst 0, 1) := dk_get kX12_rings_ok 1 rfl
theorem dX12_rings_2 : decode cX12_rings 2 = .ok (.putfield 1, 3) := dk_get kX12_rings_ok 2 rfl
theorem dX12_rings_5 : decode cX12_rings 5 = .ok (.aload_n 0, 1) := dk_get kX12_rings_ok 3 rfl
theorem dX12_rings_6 : decode cX12_rings 6 = .ok (.iconst (-1), 1) := dk_get kX12_rings_ok 4 rfl
theorem dX12_rings_7 : decode cX12_rings 7 = .ok (.invokevirtual 455, 3) := dk_get kX12_rings_ok 5 rfl
theorem dX12_rings_10 : decode cX12_rings 10 = .ok (.lstore_n 1, 1) := dk_get kX12_rings_ok 6 rfl
theorem dX12_rings_11 : decode cX12_rings 11 = .ok (.aload_n 0, 1) := dk_get kX12_rings_ok 7 rfl
theorem dX12_rings_12 : decode cX12_rings 12 = .ok (.getfield 438, 3) := dk_get kX12_rings_ok 8 rfl
theorem dX12_rings_15 : decode cX12_rings 15 = .ok (.ireturn, 1) := dk_get kX12_rings_ok 9 rfl
def kX12_untell : List (Nat × Instr × Nat) := [(0, .aload_n 0, 1), (1, .iconst 0, 1), (2, .putfield 459, 3), (5, .aload_n 0, 1), (6, .lconst 0, 1), (7, .putfield 462, 3), (10, .aload_n 0, 1), (11, .iconst 0, 1), (12, .putfield 465, 3), (15, .return_, 1)]
set_option maxRecDepth 100000 in
theorem kX12_untell_ok : kX12_untell.all (fun q => decide (decode cX12_untell q.1 = .ok q.2)) = true := by decide +kernel
theorem dX12_untell_0 : decode cX12_untell 0 = .ok (.aload_n 0, 1) := dk_get kX12_untell_ok 0 rfl
theorem dX12_untell_1 : decode cX12_untell 1 = .ok (.iconst 0, 1) := dk_get kX12_untell_ok 1 rfl
theorem dX12_untell_2 : decode cX12_untell 2 = .ok (.putfield 459, 3) := dk_get kX12_untell_ok 2 rfl
theorem dX12_untell_5 : decode cX12_untell 5 = .ok (.aload_n 0, 1) := dk_get kX12_untell_ok 3 rfl
theorem dX12_untell_6 : decode cX12_untell 6 = .ok (.lconst 0, 1) := dk_get kX12_untell_ok 4 rfl
theorem dX12_untell_7 : decode cX12_untell 7 = .ok (.putfield 462, 3) := dk_get kX12_untell_ok 5 rfl
theorem dX12_untell_10 : decode cX12_untell 10 = .ok (.aload_n 0, 1) := dk_get kX12_untell_ok 6 rfl
theorem dX12_untell_11 : decode cX12_untell 11 = .ok (.iconst 0, 1) := dk_get kX12_untell_ok 7 rfl
theorem dX12_untell_12 : decode cX12_untell 12 = .ok (.putfield 465, 3) := dk_get kX12_untell_ok 8 rfl
theorem dX12_untell_15 : decode cX12_untell 15 = .ok (.return_, 1) := dk_get kX12_untell_ok 9 rfl
def kX12_told_0 : List (Nat × Instr × Nat) := [(0, .aload_n 0, 1), (1, .iconst 0, 1), (2, .putfield 1, 3), (5, .aload_n 0, 1), (6, .iload_n 1, 1), (7, .invokevirtual 183, 3), (10, .ifCond .eq 59, 3), (13, .aload_n 0, 1), (14, .iload_n 2, 1), (15, .invokevirtual 183, 3), (18, .ifCond .eq 51, 3), (21, .aload_n 0, 1), (22, .iload_n 3, 1), (23, .invokevirtual 183, 3), (26, .ifCond .eq 43, 3), (29, .aload_n 0, 1), (30, .iload_n 1, 1), (31, .iload_n 2, 1), (32, .if_icmp .eq 29, 3), (35, .iload_n 1, 1), (36, .iload_n 3, 1), (37, .if_icmp .eq 24, 3), (40, .iload_n 2, 1), (41, .iload_n 3, 1), (42, .if_icmp .eq 19, 3), (45, .iload 4, 2), (47, .iconst 1, 1), (48, .ldc_w 434, 3), (51, .invokestatic 169, 3), (54, .ifCond .eq 7, 3), (57, .iconst 1, 1), (58, .goto 4, 3), (61, .iconst 0, 1), (62, .iconst 2, 1), (63, .invokevirtual 173, 3), (66, .ifCond .ne 5, 3), (69, .lconst 0, 1), (70, .lreturn, 1), (71, .iload_n 1, 1), (72, .iload_n 2, 1), (73, .if_icmp .ge 16, 3), (76, .iload_n 1, 1), (77, .iload_n 3, 1), (78, .if_icmp .ge 7, 3), (81, .iload_n 1, 1), (82, .goto 17, 3), (85, .iload_n 3, 1), (86, .goto 13, 3), (89, .iload_n 2, 1), (90, .iload_n 3, 1), (91, .if_icmp .ge 7, 3), (94, .iload_n 2, 1), (95, .goto 4, 3), (98, .iload_n 3, 1), (99, .istore 5, 2), (101, .iload_n 1, 1), (102, .iload_n 2, 1), (103, .if_icmp .le 16, 3), (106, .iload_n 1, 1), (107, .iload_n 3, 1), (108, .if_icmp .le 7, 3), (111, .iload_n 1, 1), (112, .goto 17, 3), (115, .iload_n 3, 1), (116, .goto 13, 3), (119, .iload_n 2, 1), (120, .iload_n 3, 1), (121, .if_icmp .le 7, 3), (124, .iload_n 2, 1), (125, .goto 4, 3), (128, .iload_n 3, 1), (129, .istore 6, 2), (131, .iload_n 1, 1), (132, .iload_n 2, 1), (133, .iadd, 1), (134, .iload_n 3, 1), (135, .iadd, 1), (136, .iload 5, 2), (138, .isub, 1), (139, .iload 6, 2), (141, .isub, 1), (142, .istore 7, 2), (144, .aload_n 0, 1), (145, .invokevirtual 385, 3), (148, .aload_n 0, 1), (149, .iload 5, 2), (151, .iload 7, 2), (153, .iload 6, 2), (155, .invokevirtual 444, 3), (158, .ifCond .ne 7, 3), (161, .ldc2_w 468, 3), (164, .lreturn, 1), (165, .aload_n 0, 1), (166, .getfield 465, 3), (169, .ifCond .ne 11, 3), (172, .aload_n 0, 1), (173, .aload_n 0, 1), (174, .getfield 126, 3), (177, .invokevirtual 435, 3), (180, .aload_n 0, 1), (181, .iconst 1, 1), (182, .putfield 465, 3), (185, .aload_n 0, 1), (186, .aload_n 0, 1), (187, .getfield 126, 3), (190, .iload 5, 2), (192, .iload 7, 2), (194, .iload 6, 2), (196, .invokevirtual 447, 3), (199, .iload 4, 2), (201, .if_icmp .ge 7, 3), (204, .ldc2_w 470, 3), (207, .lreturn, 1), (208, .aload_n 0, 1), (209, .getfield 459, 3), (212, .bipush 40, 2), (214, .if_icmp .ne 7, 3), (217, .ldc2_w 472, 3), (220, .lreturn, 1), (221, .aload_n 0, 1)]
set_option maxRecDepth 100000 in
theorem kX12_told_0_ok : kX12_told_0.all (fun q => decide (decode cX12_told q.1 = .ok q.2)) = true := by decide +kernel
theorem dX12_told_0 : decode cX12_told 0 = .ok (.aload_n 0, 1) := dk_get kX12_told_0_ok 0 rfl
theorem dX12_told_1 : decode cX12_told 1 = .ok (.iconst 0, 1) := dk_get kX12_told_0_ok 1 rfl
theorem dX12_told_2 : decode cX12_told 2 = .ok (.putfield 1, 3) := dk_get kX12_told_0_ok 2 rfl
theorem dX12_told_5 : decode cX12_told 5 = .ok (.aload_n 0, 1) := dk_get kX12_told_0_ok 3 rfl
theorem dX12_told_6 : decode cX12_told 6 = .ok (.iload_n 1, 1) := dk_get kX12_told_0_ok 4 rfl
theorem dX12_told_7 : decode cX12_told 7 = .ok (.invokevirtual 183, 3) := dk_get kX12_told_0_ok 5 rfl
theorem dX12_told_10 : decode cX12_told 10 = .ok (.ifCond .eq 59, 3) := dk_get kX12_told_0_ok 6 rfl
theorem dX12_told_13 : decode cX12_told 13 = .ok (.aload_n 0, 1) := dk_get kX12_told_0_ok 7 rfl
theorem dX12_told_14 : decode cX12_told 14 = .ok (.iload_n 2, 1) := dk_get kX12_told_0_ok 8 rfl
theorem dX12_told_15 : decode cX12_told 15 = .ok (.invokevirtual 183, 3) := dk_get kX12_told_0_ok 9 rfl
theorem dX12_told_18 : decode cX12_told 18 = .ok (.ifCond .eq 51, 3) := dk_get kX12_told_0_ok 10 rfl
theorem dX12_told_21 : decode cX12_told 21 = .ok (.aload_n 0, 1) := dk_get kX12_told_0_ok 11 rfl
theorem dX12_told_22 : decode cX12_told 22 = .ok (.iload_n 3, 1) := dk_get kX12_told_0_ok 12 rfl
theorem dX12_told_23 : decode cX12_told 23 = .ok (.invokevirtual 183, 3) := dk_get kX12_told_0_ok 13 rfl
theorem dX12_told_26 : decode cX12_told 26 = .ok (.ifCond .eq 43, 3) := dk_get kX12_told_0_ok 14 rfl
theorem dX12_told_29 : decode cX12_told 29 = .ok (.aload_n 0, 1) := dk_get kX12_told_0_ok 15 rfl
theorem dX12_told_30 : decode cX12_told 30 = .ok (.iload_n 1, 1) := dk_get kX12_told_0_ok 16 rfl
theorem dX12_told_31 : decode cX12_told 31 = .ok (.iload_n 2, 1) := dk_get kX12_told_0_ok 17 rfl
theorem dX12_told_32 : decode cX12_told 32 = .ok (.if_icmp .eq 29, 3) := dk_get kX12_told_0_ok 18 rfl
theorem dX12_told_35 : decode cX12_told 35 = .ok (.iload_n 1, 1) := dk_get kX12_told_0_ok 19 rfl
theorem dX12_told_36 : decode cX12_told 36 = .ok (.iload_n 3, 1) := dk_get kX12_told_0_ok 20 rfl
theorem dX12_told_37 : decode cX12_told 37 = .ok (.if_icmp .eq 24, 3) := dk_get kX12_told_0_ok 21 rfl
theorem dX12_told_40 : decode cX12_told 40 = .ok (.iload_n 2, 1) := dk_get kX12_told_0_ok 22 rfl
theorem dX12_told_41 : decode cX12_told 41 = .ok (.iload_n 3, 1) := dk_get kX12_told_0_ok 23 rfl
theorem dX12_told_42 : decode cX12_told 42 = .ok (.if_icmp .eq 19, 3) := dk_get kX12_told_0_ok 24 rfl
theorem dX12_told_45 : decode cX12_told 45 = .ok (.iload 4, 2) := dk_get kX12_told_0_ok 25 rfl
theorem dX12_told_47 : decode cX12_told 47 = .ok (.iconst 1, 1) := dk_get kX12_told_0_ok 26 rfl
theorem dX12_told_48 : decode cX12_told 48 = .ok (.ldc_w 434, 3) := dk_get kX12_told_0_ok 27 rfl
theorem dX12_told_51 : decode cX12_told 51 = .ok (.invokestatic 169, 3) := dk_get kX12_told_0_ok 28 rfl
theorem dX12_told_54 : decode cX12_told 54 = .ok (.ifCond .eq 7, 3) := dk_get kX12_told_0_ok 29 rfl
theorem dX12_told_57 : decode cX12_told 57 = .ok (.iconst 1, 1) := dk_get kX12_told_0_ok 30 rfl
theorem dX12_told_58 : decode cX12_told 58 = .ok (.goto 4, 3) := dk_get kX12_told_0_ok 31 rfl
theorem dX12_told_61 : decode cX12_told 61 = .ok (.iconst 0, 1) := dk_get kX12_told_0_ok 32 rfl
theorem dX12_told_62 : decode cX12_told 62 = .ok (.iconst 2, 1) := dk_get kX12_told_0_ok 33 rfl
theorem dX12_told_63 : decode cX12_told 63 = .ok (.invokevirtual 173, 3) := dk_get kX12_told_0_ok 34 rfl
theorem dX12_told_66 : decode cX12_told 66 = .ok (.ifCond .ne 5, 3) := dk_get kX12_told_0_ok 35 rfl
theorem dX12_told_69 : decode cX12_told 69 = .ok (.lconst 0, 1) := dk_get kX12_told_0_ok 36 rfl
theorem dX12_told_70 : decode cX12_told 70 = .ok (.lreturn, 1) := dk_get kX12_told_0_ok 37 rfl
theorem dX12_told_71 : decode cX12_told 71 = .ok (.iload_n 1, 1) := dk_get kX12_told_0_ok 38 rfl
theorem dX12_told_72 : decode cX12_told 72 = .ok (.iload_n 2, 1) := dk_get kX12_told_0_ok 39 rfl
theorem dX12_told_73 : decode cX12_told 73 = .ok (.if_icmp .ge 16, 3) := dk_get kX12_told_0_ok 40 rfl
theorem dX12_told_76 : decode cX12_told 76 = .ok (.iload_n 1, 1) := dk_get kX12_told_0_ok 41 rfl
theorem dX12_told_77 : decode cX12_told 77 = .ok (.iload_n 3, 1) := dk_get kX12_told_0_ok 42 rfl
theorem dX12_told_78 : decode cX12_told 78 = .ok (.if_icmp .ge 7, 3) := dk_get kX12_told_0_ok 43 rfl
theorem dX12_told_81 : decode cX12_told 81 = .ok (.iload_n 1, 1) := dk_get kX12_told_0_ok 44 rfl
theorem dX12_told_82 : decode cX12_told 82 = .ok (.goto 17, 3) := dk_get kX12_told_0_ok 45 rfl
theorem dX12_told_85 : decode cX12_told 85 = .ok (.iload_n 3, 1) := dk_get kX12_told_0_ok 46 rfl
theorem dX12_told_86 : decode cX12_told 86 = .ok (.goto 13, 3) := dk_get kX12_told_0_ok 47 rfl
theorem dX12_told_89 : decode cX12_told 89 = .ok (.iload_n 2, 1) := dk_get kX12_told_0_ok 48 rfl
theorem dX12_told_90 : decode cX12_told 90 = .ok (.iload_n 3, 1) := dk_get kX12_told_0_ok 49 rfl
theorem dX12_told_91 : decode cX12_told 91 = .ok (.if_icmp .ge 7, 3) := dk_get kX12_told_0_ok 50 rfl
theorem dX12_told_94 : decode cX12_told 94 = .ok (.iload_n 2, 1) := dk_get kX12_told_0_ok 51 rfl
theorem dX12_told_95 : decode cX12_told 95 = .ok (.goto 4, 3) := dk_get kX12_told_0_ok 52 rfl
theorem dX12_told_98 : decode cX12_told 98 = .ok (.iload_n 3, 1) := dk_get kX12_told_0_ok 53 rfl
theorem dX12_told_99 : decode cX12_told 99 = .ok (.istore 5, 2) := dk_get kX12_told_0_ok 54 rfl
theorem dX12_told_101 : decode cX12_told 101 = .ok (.iload_n 1, 1) := dk_get kX12_told_0_ok 55 rfl
theorem dX12_told_102 : decode cX12_told 102 = .ok (.iload_n 2, 1) := dk_get kX12_told_0_ok 56 rfl
theorem dX12_told_103 : decode cX12_told 103 = .ok (.if_icmp .le 16, 3) := dk_get kX12_told_0_ok 57 rfl
theorem dX12_told_106 : decode cX12_told 106 = .ok (.iload_n 1, 1) := dk_get kX12_told_0_ok 58 rfl
theorem dX12_told_107 : decode cX12_told 107 = .ok (.iload_n 3, 1) := dk_get kX12_told_0_ok 59 rfl
theorem dX12_told_108 : decode cX12_told 108 = .ok (.if_icmp .le 7, 3) := dk_get kX12_told_0_ok 60 rfl
theorem dX12_told_111 : decode cX12_told 111 = .ok (.iload_n 1, 1) := dk_get kX12_told_0_ok 61 rfl
theorem dX12_told_112 : decode cX12_told 112 = .ok (.goto 17, 3) := dk_get kX12_told_0_ok 62 rfl
theorem dX12_told_115 : decode cX12_told 115 = .ok (.iload_n 3, 1) := dk_get kX12_told_0_ok 63 rfl
theorem dX12_told_116 : decode cX12_told 116 = .ok (.goto 13, 3) := dk_get kX12_told_0_ok 64 rfl
theorem dX12_told_119 : decode cX12_told 119 = .ok (.iload_n 2, 1) := dk_get kX12_told_0_ok 65 rfl
theorem dX12_told_120 : decode cX12_told 120 = .ok (.iload_n 3, 1) := dk_get kX12_told_0_ok 66 rfl
theorem dX12_told_121 : decode cX12_told 121 = .ok (.if_icmp .le 7, 3) := dk_get kX12_told_0_ok 67 rfl
theorem dX12_told_124 : decode cX12_told 124 = .ok (.iload_n 2, 1) := dk_get kX12_told_0_ok 68 rfl
theorem dX12_told_125 : decode cX12_told 125 = .ok (.goto 4, 3) := dk_get kX12_told_0_ok 69 rfl
theorem dX12_told_128 : decode cX12_told 128 = .ok (.iload_n 3, 1) := dk_get kX12_told_0_ok 70 rfl
theorem dX12_told_129 : decode cX12_told 129 = .ok (.istore 6, 2) := dk_get kX12_told_0_ok 71 rfl
theorem dX12_told_131 : decode cX12_told 131 = .ok (.iload_n 1, 1) := dk_get kX12_told_0_ok 72 rfl
theorem dX12_told_132 : decode cX12_told 132 = .ok (.iload_n 2, 1) := dk_get kX12_told_0_ok 73 rfl
theorem dX12_told_133 : decode cX12_told 133 = .ok (.iadd, 1) := dk_get kX12_told_0_ok 74 rfl
theorem dX12_told_134 : decode cX12_told 134 = .ok (.iload_n 3, 1) := dk_get kX12_told_0_ok 75 rfl
theorem dX12_told_135 : decode cX12_told 135 = .ok (.iadd, 1) := dk_get kX12_told_0_ok 76 rfl
theorem dX12_told_136 : decode cX12_told 136 = .ok (.iload 5, 2) := dk_get kX12_told_0_ok 77 rfl
theorem dX12_told_138 : decode cX12_told 138 = .ok (.isub, 1) := dk_get kX12_told_0_ok 78 rfl
theorem dX12_told_139 : decode cX12_told 139 = .ok (.iload 6, 2) := dk_get kX12_told_0_ok 79 rfl
theorem dX12_told_141 : decode cX12_told 141 = .ok (.isub, 1) := dk_get kX12_told_0_ok 80 rfl
theorem dX12_told_142 : decode cX12_told 142 = .ok (.istore 7, 2) := dk_get kX12_told_0_ok 81 rfl
theorem dX12_told_144 : decode cX12_told 144 = .ok (.aload_n 0, 1) := dk_get kX12_told_0_ok 82 rfl
theorem dX12_told_145 : decode cX12_told 145 = .ok (.invokevirtual 385, 3) := dk_get kX12_told_0_ok 83 rfl
theorem dX12_told_148 : decode cX12_told 148 = .ok (.aload_n 0, 1) := dk_get kX12_told_0_ok 84 rfl
theorem dX12_told_149 : decode cX12_told 149 = .ok (.iload 5, 2) := dk_get kX12_told_0_ok 85 rfl
theorem dX12_told_151 : decode cX12_told 151 = .ok (.iload 7, 2) := dk_get kX12_told_0_ok 86 rfl
theorem dX12_told_153 : decode cX12_told 153 = .ok (.iload 6, 2) := dk_get kX12_told_0_ok 87 rfl
theorem dX12_told_155 : decode cX12_told 155 = .ok (.invokevirtual 444, 3) := dk_get kX12_told_0_ok 88 rfl
theorem dX12_told_158 : decode cX12_told 158 = .ok (.ifCond .ne 7, 3) := dk_get kX12_told_0_ok 89 rfl
theorem dX12_told_161 : decode cX12_told 161 = .ok (.ldc2_w 468, 3) := dk_get kX12_told_0_ok 90 rfl
theorem dX12_told_164 : decode cX12_told 164 = .ok (.lreturn, 1) := dk_get kX12_told_0_ok 91 rfl
theorem dX12_told_165 : decode cX12_told 165 = .ok (.aload_n 0, 1) := dk_get kX12_told_0_ok 92 rfl
theorem dX12_told_166 : decode cX12_told 166 = .ok (.getfield 465, 3) := dk_get kX12_told_0_ok 93 rfl
theorem dX12_told_169 : decode cX12_told 169 = .ok (.ifCond .ne 11, 3) := dk_get kX12_told_0_ok 94 rfl
theorem dX12_told_172 : decode cX12_told 172 = .ok (.aload_n 0, 1) := dk_get kX12_told_0_ok 95 rfl
theorem dX12_told_173 : decode cX12_told 173 = .ok (.aload_n 0, 1) := dk_get kX12_told_0_ok 96 rfl
theorem dX12_told_174 : decode cX12_told 174 = .ok (.getfield 126, 3) := dk_get kX12_told_0_ok 97 rfl
theorem dX12_told_177 : decode cX12_told 177 = .ok (.invokevirtual 435, 3) := dk_get kX12_told_0_ok 98 rfl
theorem dX12_told_180 : decode cX12_told 180 = .ok (.aload_n 0, 1) := dk_get kX12_told_0_ok 99 rfl
theorem dX12_told_181 : decode cX12_told 181 = .ok (.iconst 1, 1) := dk_get kX12_told_0_ok 100 rfl
theorem dX12_told_182 : decode cX12_told 182 = .ok (.putfield 465, 3) := dk_get kX12_told_0_ok 101 rfl
theorem dX12_told_185 : decode cX12_told 185 = .ok (.aload_n 0, 1) := dk_get kX12_told_0_ok 102 rfl
theorem dX12_told_186 : decode cX12_told 186 = .ok (.aload_n 0, 1) := dk_get kX12_told_0_ok 103 rfl
theorem dX12_told_187 : decode cX12_told 187 = .ok (.getfield 126, 3) := dk_get kX12_told_0_ok 104 rfl
theorem dX12_told_190 : decode cX12_told 190 = .ok (.iload 5, 2) := dk_get kX12_told_0_ok 105 rfl
theorem dX12_told_192 : decode cX12_told 192 = .ok (.iload 7, 2) := dk_get kX12_told_0_ok 106 rfl
theorem dX12_told_194 : decode cX12_told 194 = .ok (.iload 6, 2) := dk_get kX12_told_0_ok 107 rfl
theorem dX12_told_196 : decode cX12_told 196 = .ok (.invokevirtual 447, 3) := dk_get kX12_told_0_ok 108 rfl
theorem dX12_told_199 : decode cX12_told 199 = .ok (.iload 4, 2) := dk_get kX12_told_0_ok 109 rfl
theorem dX12_told_201 : decode cX12_told 201 = .ok (.if_icmp .ge 7, 3) := dk_get kX12_told_0_ok 110 rfl
theorem dX12_told_204 : decode cX12_told 204 = .ok (.ldc2_w 470, 3) := dk_get kX12_told_0_ok 111 rfl
theorem dX12_told_207 : decode cX12_told 207 = .ok (.lreturn, 1) := dk_get kX12_told_0_ok 112 rfl
theorem dX12_told_208 : decode cX12_told 208 = .ok (.aload_n 0, 1) := dk_get kX12_told_0_ok 113 rfl
theorem dX12_told_209 : decode cX12_told 209 = .ok (.getfield 459, 3) := dk_get kX12_told_0_ok 114 rfl
theorem dX12_told_212 : decode cX12_told 212 = .ok (.bipush 40, 2) := dk_get kX12_told_0_ok 115 rfl
theorem dX12_told_214 : decode cX12_told 214 = .ok (.if_icmp .ne 7, 3) := dk_get kX12_told_0_ok 116 rfl
theorem dX12_told_217 : decode cX12_told 217 = .ok (.ldc2_w 472, 3) := dk_get kX12_told_0_ok 117 rfl
theorem dX12_told_220 : decode cX12_told 220 = .ok (.lreturn, 1) := dk_get kX12_told_0_ok 118 rfl
theorem dX12_told_221 : decode cX12_told 221 = .ok (.aload_n 0, 1) := dk_get kX12_told_0_ok 119 rfl
def kX12_told_1 : List (Nat × Instr × Nat) := [(222, .dup, 1), (223, .getfield 459, 3), (226, .iconst 1, 1), (227, .iadd, 1), (228, .putfield 459, 3), (231, .aload_n 0, 1), (232, .aload_n 0, 1), (233, .getfield 126, 3), (236, .iload 5, 2), (238, .iload 7, 2), (240, .iload 6, 2), (242, .iload 4, 2), (244, .invokevirtual 451, 3), (247, .aload_n 0, 1), (248, .dup, 1), (249, .getfield 462, 3), (252, .iload 4, 2), (254, .i2l, 1), (255, .ladd, 1), (256, .putfield 462, 3), (259, .aload_n 0, 1), (260, .getfield 462, 3), (263, .lreturn, 1)]
set_option maxRecDepth 100000 in
theorem kX12_told_1_ok : kX12_told_1.all (fun q => decide (decode cX12_told q.1 = .ok q.2)) = true := by decide +kernel
theorem dX12_told_222 : decode cX12_told 222 = .ok (.dup, 1) := dk_get kX12_told_1_ok 0 rfl
theorem dX12_told_223 : decode cX12_told 223 = .ok (.getfield 459, 3) := dk_get kX12_told_1_ok 1 rfl
theorem dX12_told_226 : decode cX12_told 226 = .ok (.iconst 1, 1) := dk_get kX12_told_1_ok 2 rfl
theorem dX12_told_227 : decode cX12_told 227 = .ok (.iadd, 1) := dk_get kX12_told_1_ok 3 rfl
theorem dX12_told_228 : decode cX12_told 228 = .ok (.putfield 459, 3) := dk_get kX12_told_1_ok 4 rfl
theorem dX12_told_231 : decode cX12_told 231 = .ok (.aload_n 0, 1) := dk_get kX12_told_1_ok 5 rfl
theorem dX12_told_232 : decode cX12_told 232 = .ok (.aload_n 0, 1) := dk_get kX12_told_1_ok 6 rfl
theorem dX12_told_233 : decode cX12_told 233 = .ok (.getfield 126, 3) := dk_get kX12_told_1_ok 7 rfl
theorem dX12_told_236 : decode cX12_told 236 = .ok (.iload 5, 2) := dk_get kX12_told_1_ok 8 rfl
theorem dX12_told_238 : decode cX12_told 238 = .ok (.iload 7, 2) := dk_get kX12_told_1_ok 9 rfl
theorem dX12_told_240 : decode cX12_told 240 = .ok (.iload 6, 2) := dk_get kX12_told_1_ok 10 rfl
theorem dX12_told_242 : decode cX12_told 242 = .ok (.iload 4, 2) := dk_get kX12_told_1_ok 11 rfl
theorem dX12_told_244 : decode cX12_told 244 = .ok (.invokevirtual 451, 3) := dk_get kX12_told_1_ok 12 rfl
theorem dX12_told_247 : decode cX12_told 247 = .ok (.aload_n 0, 1) := dk_get kX12_told_1_ok 13 rfl
theorem dX12_told_248 : decode cX12_told 248 = .ok (.dup, 1) := dk_get kX12_told_1_ok 14 rfl
theorem dX12_told_249 : decode cX12_told 249 = .ok (.getfield 462, 3) := dk_get kX12_told_1_ok 15 rfl
theorem dX12_told_252 : decode cX12_told 252 = .ok (.iload 4, 2) := dk_get kX12_told_1_ok 16 rfl
theorem dX12_told_254 : decode cX12_told 254 = .ok (.i2l, 1) := dk_get kX12_told_1_ok 17 rfl
theorem dX12_told_255 : decode cX12_told 255 = .ok (.ladd, 1) := dk_get kX12_told_1_ok 18 rfl
theorem dX12_told_256 : decode cX12_told 256 = .ok (.putfield 462, 3) := dk_get kX12_told_1_ok 19 rfl
theorem dX12_told_259 : decode cX12_told 259 = .ok (.aload_n 0, 1) := dk_get kX12_told_1_ok 20 rfl
theorem dX12_told_260 : decode cX12_told 260 = .ok (.getfield 462, 3) := dk_get kX12_told_1_ok 21 rfl
theorem dX12_told_263 : decode cX12_told 263 = .ok (.lreturn, 1) := dk_get kX12_told_1_ok 22 rfl
def kX12_everyone : List (Nat × Instr × Nat) := [(0, .aload_n 0, 1), (1, .invokevirtual 385, 3), (4, .iconst 0, 1), (5, .istore_n 1, 1), (6, .iload_n 1, 1), (7, .aload_n 0, 1), (8, .getfield 177, 3), (11, .if_icmp .ge 16, 3), (14, .aload_n 0, 1), (15, .getfield 132, 3), (18, .iload_n 1, 1), (19, .iconst 1, 1), (20, .bastore, 1), (21, .iinc 1 1, 3), (24, .goto (-18), 3), (27, .return_, 1)]
set_option maxRecDepth 100000 in
theorem kX12_everyone_ok : kX12_everyone.all (fun q => decide (decode cX12_everyone q.1 = .ok q.2)) = true := by decide +kernel
theorem dX12_everyone_0 : decode cX12_everyone 0 = .ok (.aload_n 0, 1) := dk_get kX12_everyone_ok 0 rfl
theorem dX12_everyone_1 : decode cX12_everyone 1 = .ok (.invokevirtual 385, 3) := dk_get kX12_everyone_ok 1 rfl
theorem dX12_everyone_4 : decode cX12_everyone 4 = .ok (.iconst 0, 1) := dk_get kX12_everyone_ok 2 rfl
theorem dX12_everyone_5 : decode cX12_everyone 5 = .ok (.istore_n 1, 1) := dk_get kX12_everyone_ok 3 rfl
theorem dX12_everyone_6 : decode cX12_everyone 6 = .ok (.iload_n 1, 1) := dk_get kX12_everyone_ok 4 rfl
theorem dX12_everyone_7 : decode cX12_everyone 7 = .ok (.aload_n 0, 1) := dk_get kX12_everyone_ok 5 rfl
theorem dX12_everyone_8 : decode cX12_everyone 8 = .ok (.getfield 177, 3) := dk_get kX12_everyone_ok 6 rfl
theorem dX12_everyone_11 : decode cX12_everyone 11 = .ok (.if_icmp .ge 16, 3) := dk_get kX12_everyone_ok 7 rfl
theorem dX12_everyone_14 : decode cX12_everyone 14 = .ok (.aload_n 0, 1) := dk_get kX12_everyone_ok 8 rfl
theorem dX12_everyone_15 : decode cX12_everyone 15 = .ok (.getfield 132, 3) := dk_get kX12_everyone_ok 9 rfl
theorem dX12_everyone_18 : decode cX12_everyone 18 = .ok (.iload_n 1, 1) := dk_get kX12_everyone_ok 10 rfl
theorem dX12_everyone_19 : decode cX12_everyone 19 = .ok (.iconst 1, 1) := dk_get kX12_everyone_ok 11 rfl
theorem dX12_everyone_20 : decode cX12_everyone 20 = .ok (.bastore, 1) := dk_get kX12_everyone_ok 12 rfl
theorem dX12_everyone_21 : decode cX12_everyone 21 = .ok (.iinc 1 1, 3) := dk_get kX12_everyone_ok 13 rfl
theorem dX12_everyone_24 : decode cX12_everyone 24 = .ok (.goto (-18), 3) := dk_get kX12_everyone_ok 14 rfl
theorem dX12_everyone_27 : decode cX12_everyone 27 = .ok (.return_, 1) := dk_get kX12_everyone_ok 15 rfl
def kX12_hang : List (Nat × Instr × Nat) := [(0, .aload_n 0, 1), (1, .getfield 89, 3), (4, .bipush 30, 2), (6, .iload_n 1, 1), (7, .imul, 1), (8, .iload_n 2, 1), (9, .iadd, 1), (10, .iaload, 1), (11, .ifCond .gt 17, 3), (14, .aload_n 0, 1), (15, .getfield 99, 3), (18, .bipush 30, 2), (20, .iload_n 1, 1), (21, .imul, 1), (22, .iload_n 2, 1), (23, .iadd, 1), (24, .baload, 1), (25, .ifCond .eq 7, 3), (28, .iconst 1, 1), (29, .goto 4, 3), (32, .iconst 0, 1), (33, .ireturn, 1)]
set_option maxRecDepth 100000 in
theorem kX12_hang_ok : kX12_hang.all (fun q => decide (decode cX12_hang q.1 = .ok q.2)) = true := by decide +kernel
theorem dX12_hang_0 : decode cX12_hang 0 = .ok (.aload_n 0, 1) := dk_get kX12_hang_ok 0 rfl
theorem dX12_hang_1 : decode cX12_hang 1 = .ok (.getfield 89, 3) := dk_get kX12_hang_ok 1 rfl
theorem dX12_hang_4 : decode cX12_hang 4 = .ok (.bipush 30, 2) := dk_get kX12_hang_ok 2 rfl
theorem dX12_hang_6 : decode cX12_hang 6 = .ok (.iload_n 1, 1) := dk_get kX12_hang_ok 3 rfl
theorem dX12_hang_7 : decode cX12_hang 7 = .ok (.imul, 1) := dk_get kX12_hang_ok 4 rfl
theorem dX12_hang_8 : decode cX12_hang 8 = .ok (.iload_n 2, 1) := dk_get kX12_hang_ok 5 rfl
theorem dX12_hang_9 : decode cX12_hang 9 = .ok (.iadd, 1) := dk_get kX12_hang_ok 6 rfl
theorem dX12_hang_10 : decode cX12_hang 10 = .ok (.iaload, 1) := dk_get kX12_hang_ok 7 rfl
theorem dX12_hang_11 : decode cX12_hang 11 = .ok (.ifCond .gt 17, 3) := dk_get kX12_hang_ok 8 rfl
theorem dX12_hang_14 : decode cX12_hang 14 = .ok (.aload_n 0, 1) := dk_get kX12_hang_ok 9 rfl
theorem dX12_hang_15 : decode cX12_hang 15 = .ok (.getfield 99, 3) := dk_get kX12_hang_ok 10 rfl
theorem dX12_hang_18 : decode cX12_hang 18 = .ok (.bipush 30, 2) := dk_get kX12_hang_ok 11 rfl
theorem dX12_hang_20 : decode cX12_hang 20 = .ok (.iload_n 1, 1) := dk_get kX12_hang_ok 12 rfl
theorem dX12_hang_21 : decode cX12_hang 21 = .ok (.imul, 1) := dk_get kX12_hang_ok 13 rfl
theorem dX12_hang_22 : decode cX12_hang 22 = .ok (.iload_n 2, 1) := dk_get kX12_hang_ok 14 rfl
theorem dX12_hang_23 : decode cX12_hang 23 = .ok (.iadd, 1) := dk_get kX12_hang_ok 15 rfl
theorem dX12_hang_24 : decode cX12_hang 24 = .ok (.baload, 1) := dk_get kX12_hang_ok 16 rfl
theorem dX12_hang_25 : decode cX12_hang 25 = .ok (.ifCond .eq 7, 3) := dk_get kX12_hang_ok 17 rfl
theorem dX12_hang_28 : decode cX12_hang 28 = .ok (.iconst 1, 1) := dk_get kX12_hang_ok 18 rfl
theorem dX12_hang_29 : decode cX12_hang 29 = .ok (.goto 4, 3) := dk_get kX12_hang_ok 19 rfl
theorem dX12_hang_32 : decode cX12_hang 32 = .ok (.iconst 0, 1) := dk_get kX12_hang_ok 20 rfl
theorem dX12_hang_33 : decode cX12_hang 33 = .ok (.ireturn, 1) := dk_get kX12_hang_ok 21 rfl
def kX12_findPart : List (Nat × Instr × Nat) := [(0, .iconst 0, 1), (1, .istore_n 2, 1), (2, .iload_n 2, 1), (3, .aload_n 0, 1), (4, .getfield 177, 3), (7, .if_icmp .ge 25, 3), (10, .aload_n 0, 1), (11, .getfield 135, 3), (14, .iload_n 2, 1), (15, .iload_n 2, 1), (16, .iload_n 1, 1), (17, .if_icmp .ne 7, 3), (20, .iconst 1, 1), (21, .goto 4, 3), (24, .iconst 0, 1), (25, .bastore, 1), (26, .iinc 2 1, 3), (29, .goto (-27), 3), (32, .iconst 1, 1), (33, .istore_n 2, 1), (34, .iload_n 2, 1), (35, .ifCond .eq 100, 3), (38, .iconst 0, 1), (39, .istore_n 2, 1), (40, .iconst 0, 1), (41, .istore_n 3, 1), (42, .iload_n 3, 1), (43, .aload_n 0, 1), (44, .getfield 177, 3), (47, .if_icmp .ge 85, 3), (50, .iconst 0, 1), (51, .istore 4, 2), (53, .iload 4, 2), (55, .aload_n 0, 1), (56, .getfield 177, 3), (59, .if_icmp .ge 67, 3), (62, .aload_n 0, 1), (63, .getfield 135, 3), (66, .iload_n 3, 1), (67, .baload, 1), (68, .ifCond .eq 58, 3), (71, .iload_n 3, 1), (72, .iload 4, 2), (74, .if_icmp .eq 46, 3), (77, .aload_n 0, 1), (78, .getfield 135, 3), (81, .iload 4, 2), (83, .baload, 1), (84, .ifCond .ne 36, 3), (87, .aload_n 0, 1), (88, .getfield 132, 3), (91, .iload 4, 2), (93, .baload, 1), (94, .ifCond .eq 26, 3), (97, .aload_n 0, 1), (98, .iload_n 3, 1), (99, .iload 4, 2), (101, .invokevirtual 474, 3), (104, .ifCond .ne 6, 3), (107, .goto 13, 3), (110, .aload_n 0, 1), (111, .getfield 135, 3), (114, .iload 4, 2), (116, .iconst 1, 1), (117, .bastore, 1), (118, .iconst 1, 1), (119, .istore_n 2, 1), (120, .iinc 4 1, 3), (123, .goto (-70), 3), (126, .iinc 3 1, 3), (129, .goto (-87), 3), (132, .goto (-98), 3), (135, .aload_n 0, 1), (136, .iconst 0, 1), (137, .putfield 194, 3), (140, .iconst 0, 1), (141, .istore_n 3, 1), (142, .iload_n 3, 1), (143, .aload_n 0, 1), (144, .getfield 177, 3), (147, .if_icmp .ge 41, 3), (150, .aload_n 0, 1), (151, .getfield 135, 3), (154, .iload_n 3, 1), (155, .baload, 1), (156, .ifCond .ne 6, 3), (159, .goto 23, 3), (162, .aload_n 0, 1), (163, .getfield 138, 3), (166, .aload_n 0, 1), (167, .getfield 194, 3), (170, .iload_n 3, 1), (171, .iastore, 1), (172, .aload_n 0, 1), (173, .dup, 1), (174, .getfield 194, 3), (177, .iconst 1, 1), (178, .iadd, 1), (179, .putfield 194, 3), (182, .iinc 3 1, 3), (185, .goto (-43), 3), (188, .return_, 1)]
set_option maxRecDepth 100000 in
theorem kX12_findPart_ok : kX12_findPart.all (fun q => decide (decode cX12_findPart q.1 = .ok q.2)) = true := by decide +kernel
theorem dX12_findPart_0 : decode cX12_findPart 0 = .ok (.iconst 0, 1) := dk_get kX12_findPart_ok 0 rfl
theorem dX12_findPart_1 : decode cX12_findPart 1 = .ok (.istore_n 2, 1) := dk_get kX12_findPart_ok 1 rfl
theorem dX12_findPart_2 : decode cX12_findPart 2 = .ok (.iload_n 2, 1) := dk_get kX12_findPart_ok 2 rfl
theorem dX12_findPart_3 : decode cX12_findPart 3 = .ok (.aload_n 0, 1) := dk_get kX12_findPart_ok 3 rfl
theorem dX12_findPart_4 : decode cX12_findPart 4 = .ok (.getfield 177, 3) := dk_get kX12_findPart_ok 4 rfl
theorem dX12_findPart_7 : decode cX12_findPart 7 = .ok (.if_icmp .ge 25, 3) := dk_get kX12_findPart_ok 5 rfl
theorem dX12_findPart_10 : decode cX12_findPart 10 = .ok (.aload_n 0, 1) := dk_get kX12_findPart_ok 6 rfl
theorem dX12_findPart_11 : decode cX12_findPart 11 = .ok (.getfield 135, 3) := dk_get kX12_findPart_ok 7 rfl
theorem dX12_findPart_14 : decode cX12_findPart 14 = .ok (.iload_n 2, 1) := dk_get kX12_findPart_ok 8 rfl
theorem dX12_findPart_15 : decode cX12_findPart 15 = .ok (.iload_n 2, 1) := dk_get kX12_findPart_ok 9 rfl
theorem dX12_findPart_16 : decode cX12_findPart 16 = .ok (.iload_n 1, 1) := dk_get kX12_findPart_ok 10 rfl
theorem dX12_findPart_17 : decode cX12_findPart 17 = .ok (.if_icmp .ne 7, 3) := dk_get kX12_findPart_ok 11 rfl
theorem dX12_findPart_20 : decode cX12_findPart 20 = .ok (.iconst 1, 1) := dk_get kX12_findPart_ok 12 rfl
theorem dX12_findPart_21 : decode cX12_findPart 21 = .ok (.goto 4, 3) := dk_get kX12_findPart_ok 13 rfl
theorem dX12_findPart_24 : decode cX12_findPart 24 = .ok (.iconst 0, 1) := dk_get kX12_findPart_ok 14 rfl
theorem dX12_findPart_25 : decode cX12_findPart 25 = .ok (.bastore, 1) := dk_get kX12_findPart_ok 15 rfl
theorem dX12_findPart_26 : decode cX12_findPart 26 = .ok (.iinc 2 1, 3) := dk_get kX12_findPart_ok 16 rfl
theorem dX12_findPart_29 : decode cX12_findPart 29 = .ok (.goto (-27), 3) := dk_get kX12_findPart_ok 17 rfl
theorem dX12_findPart_32 : decode cX12_findPart 32 = .ok (.iconst 1, 1) := dk_get kX12_findPart_ok 18 rfl
theorem dX12_findPart_33 : decode cX12_findPart 33 = .ok (.istore_n 2, 1) := dk_get kX12_findPart_ok 19 rfl
theorem dX12_findPart_34 : decode cX12_findPart 34 = .ok (.iload_n 2, 1) := dk_get kX12_findPart_ok 20 rfl
theorem dX12_findPart_35 : decode cX12_findPart 35 = .ok (.ifCond .eq 100, 3) := dk_get kX12_findPart_ok 21 rfl
theorem dX12_findPart_38 : decode cX12_findPart 38 = .ok (.iconst 0, 1) := dk_get kX12_findPart_ok 22 rfl
theorem dX12_findPart_39 : decode cX12_findPart 39 = .ok (.istore_n 2, 1) := dk_get kX12_findPart_ok 23 rfl
theorem dX12_findPart_40 : decode cX12_findPart 40 = .ok (.iconst 0, 1) := dk_get kX12_findPart_ok 24 rfl
theorem dX12_findPart_41 : decode cX12_findPart 41 = .ok (.istore_n 3, 1) := dk_get kX12_findPart_ok 25 rfl
theorem dX12_findPart_42 : decode cX12_findPart 42 = .ok (.iload_n 3, 1) := dk_get kX12_findPart_ok 26 rfl
theorem dX12_findPart_43 : decode cX12_findPart 43 = .ok (.aload_n 0, 1) := dk_get kX12_findPart_ok 27 rfl
theorem dX12_findPart_44 : decode cX12_findPart 44 = .ok (.getfield 177, 3) := dk_get kX12_findPart_ok 28 rfl
theorem dX12_findPart_47 : decode cX12_findPart 47 = .ok (.if_icmp .ge 85, 3) := dk_get kX12_findPart_ok 29 rfl
theorem dX12_findPart_50 : decode cX12_findPart 50 = .ok (.iconst 0, 1) := dk_get kX12_findPart_ok 30 rfl
theorem dX12_findPart_51 : decode cX12_findPart 51 = .ok (.istore 4, 2) := dk_get kX12_findPart_ok 31 rfl
theorem dX12_findPart_53 : decode cX12_findPart 53 = .ok (.iload 4, 2) := dk_get kX12_findPart_ok 32 rfl
theorem dX12_findPart_55 : decode cX12_findPart 55 = .ok (.aload_n 0, 1) := dk_get kX12_findPart_ok 33 rfl
theorem dX12_findPart_56 : decode cX12_findPart 56 = .ok (.getfield 177, 3) := dk_get kX12_findPart_ok 34 rfl
theorem dX12_findPart_59 : decode cX12_findPart 59 = .ok (.if_icmp .ge 67, 3) := dk_get kX12_findPart_ok 35 rfl
theorem dX12_findPart_62 : decode cX12_findPart 62 = .ok (.aload_n 0, 1) := dk_get kX12_findPart_ok 36 rfl
theorem dX12_findPart_63 : decode cX12_findPart 63 = .ok (.getfield 135, 3) := dk_get kX12_findPart_ok 37 rfl
theorem dX12_findPart_66 : decode cX12_findPart 66 = .ok (.iload_n 3, 1) := dk_get kX12_findPart_ok 38 rfl
theorem dX12_findPart_67 : decode cX12_findPart 67 = .ok (.baload, 1) := dk_get kX12_findPart_ok 39 rfl
theorem dX12_findPart_68 : decode cX12_findPart 68 = .ok (.ifCond .eq 58, 3) := dk_get kX12_findPart_ok 40 rfl
theorem dX12_findPart_71 : decode cX12_findPart 71 = .ok (.iload_n 3, 1) := dk_get kX12_findPart_ok 41 rfl
theorem dX12_findPart_72 : decode cX12_findPart 72 = .ok (.iload 4, 2) := dk_get kX12_findPart_ok 42 rfl
theorem dX12_findPart_74 : decode cX12_findPart 74 = .ok (.if_icmp .eq 46, 3) := dk_get kX12_findPart_ok 43 rfl
theorem dX12_findPart_77 : decode cX12_findPart 77 = .ok (.aload_n 0, 1) := dk_get kX12_findPart_ok 44 rfl
theorem dX12_findPart_78 : decode cX12_findPart 78 = .ok (.getfield 135, 3) := dk_get kX12_findPart_ok 45 rfl
theorem dX12_findPart_81 : decode cX12_findPart 81 = .ok (.iload 4, 2) := dk_get kX12_findPart_ok 46 rfl
theorem dX12_findPart_83 : decode cX12_findPart 83 = .ok (.baload, 1) := dk_get kX12_findPart_ok 47 rfl
theorem dX12_findPart_84 : decode cX12_findPart 84 = .ok (.ifCond .ne 36, 3) := dk_get kX12_findPart_ok 48 rfl
theorem dX12_findPart_87 : decode cX12_findPart 87 = .ok (.aload_n 0, 1) := dk_get kX12_findPart_ok 49 rfl
theorem dX12_findPart_88 : decode cX12_findPart 88 = .ok (.getfield 132, 3) := dk_get kX12_findPart_ok 50 rfl
theorem dX12_findPart_91 : decode cX12_findPart 91 = .ok (.iload 4, 2) := dk_get kX12_findPart_ok 51 rfl
theorem dX12_findPart_93 : decode cX12_findPart 93 = .ok (.baload, 1) := dk_get kX12_findPart_ok 52 rfl
theorem dX12_findPart_94 : decode cX12_findPart 94 = .ok (.ifCond .eq 26, 3) := dk_get kX12_findPart_ok 53 rfl
theorem dX12_findPart_97 : decode cX12_findPart 97 = .ok (.aload_n 0, 1) := dk_get kX12_findPart_ok 54 rfl
theorem dX12_findPart_98 : decode cX12_findPart 98 = .ok (.iload_n 3, 1) := dk_get kX12_findPart_ok 55 rfl
theorem dX12_findPart_99 : decode cX12_findPart 99 = .ok (.iload 4, 2) := dk_get kX12_findPart_ok 56 rfl
theorem dX12_findPart_101 : decode cX12_findPart 101 = .ok (.invokevirtual 474, 3) := dk_get kX12_findPart_ok 57 rfl
theorem dX12_findPart_104 : decode cX12_findPart 104 = .ok (.ifCond .ne 6, 3) := dk_get kX12_findPart_ok 58 rfl
theorem dX12_findPart_107 : decode cX12_findPart 107 = .ok (.goto 13, 3) := dk_get kX12_findPart_ok 59 rfl
theorem dX12_findPart_110 : decode cX12_findPart 110 = .ok (.aload_n 0, 1) := dk_get kX12_findPart_ok 60 rfl
theorem dX12_findPart_111 : decode cX12_findPart 111 = .ok (.getfield 135, 3) := dk_get kX12_findPart_ok 61 rfl
theorem dX12_findPart_114 : decode cX12_findPart 114 = .ok (.iload 4, 2) := dk_get kX12_findPart_ok 62 rfl
theorem dX12_findPart_116 : decode cX12_findPart 116 = .ok (.iconst 1, 1) := dk_get kX12_findPart_ok 63 rfl
theorem dX12_findPart_117 : decode cX12_findPart 117 = .ok (.bastore, 1) := dk_get kX12_findPart_ok 64 rfl
theorem dX12_findPart_118 : decode cX12_findPart 118 = .ok (.iconst 1, 1) := dk_get kX12_findPart_ok 65 rfl
theorem dX12_findPart_119 : decode cX12_findPart 119 = .ok (.istore_n 2, 1) := dk_get kX12_findPart_ok 66 rfl
theorem dX12_findPart_120 : decode cX12_findPart 120 = .ok (.iinc 4 1, 3) := dk_get kX12_findPart_ok 67 rfl
theorem dX12_findPart_123 : decode cX12_findPart 123 = .ok (.goto (-70), 3) := dk_get kX12_findPart_ok 68 rfl
theorem dX12_findPart_126 : decode cX12_findPart 126 = .ok (.iinc 3 1, 3) := dk_get kX12_findPart_ok 69 rfl
theorem dX12_findPart_129 : decode cX12_findPart 129 = .ok (.goto (-87), 3) := dk_get kX12_findPart_ok 70 rfl
theorem dX12_findPart_132 : decode cX12_findPart 132 = .ok (.goto (-98), 3) := dk_get kX12_findPart_ok 71 rfl
theorem dX12_findPart_135 : decode cX12_findPart 135 = .ok (.aload_n 0, 1) := dk_get kX12_findPart_ok 72 rfl
theorem dX12_findPart_136 : decode cX12_findPart 136 = .ok (.iconst 0, 1) := dk_get kX12_findPart_ok 73 rfl
theorem dX12_findPart_137 : decode cX12_findPart 137 = .ok (.putfield 194, 3) := dk_get kX12_findPart_ok 74 rfl
theorem dX12_findPart_140 : decode cX12_findPart 140 = .ok (.iconst 0, 1) := dk_get kX12_findPart_ok 75 rfl
theorem dX12_findPart_141 : decode cX12_findPart 141 = .ok (.istore_n 3, 1) := dk_get kX12_findPart_ok 76 rfl
theorem dX12_findPart_142 : decode cX12_findPart 142 = .ok (.iload_n 3, 1) := dk_get kX12_findPart_ok 77 rfl
theorem dX12_findPart_143 : decode cX12_findPart 143 = .ok (.aload_n 0, 1) := dk_get kX12_findPart_ok 78 rfl
theorem dX12_findPart_144 : decode cX12_findPart 144 = .ok (.getfield 177, 3) := dk_get kX12_findPart_ok 79 rfl
theorem dX12_findPart_147 : decode cX12_findPart 147 = .ok (.if_icmp .ge 41, 3) := dk_get kX12_findPart_ok 80 rfl
theorem dX12_findPart_150 : decode cX12_findPart 150 = .ok (.aload_n 0, 1) := dk_get kX12_findPart_ok 81 rfl
theorem dX12_findPart_151 : decode cX12_findPart 151 = .ok (.getfield 135, 3) := dk_get kX12_findPart_ok 82 rfl
theorem dX12_findPart_154 : decode cX12_findPart 154 = .ok (.iload_n 3, 1) := dk_get kX12_findPart_ok 83 rfl
theorem dX12_findPart_155 : decode cX12_findPart 155 = .ok (.baload, 1) := dk_get kX12_findPart_ok 84 rfl
theorem dX12_findPart_156 : decode cX12_findPart 156 = .ok (.ifCond .ne 6, 3) := dk_get kX12_findPart_ok 85 rfl
theorem dX12_findPart_159 : decode cX12_findPart 159 = .ok (.goto 23, 3) := dk_get kX12_findPart_ok 86 rfl
theorem dX12_findPart_162 : decode cX12_findPart 162 = .ok (.aload_n 0, 1) := dk_get kX12_findPart_ok 87 rfl
theorem dX12_findPart_163 : decode cX12_findPart 163 = .ok (.getfield 138, 3) := dk_get kX12_findPart_ok 88 rfl
theorem dX12_findPart_166 : decode cX12_findPart 166 = .ok (.aload_n 0, 1) := dk_get kX12_findPart_ok 89 rfl
theorem dX12_findPart_167 : decode cX12_findPart 167 = .ok (.getfield 194, 3) := dk_get kX12_findPart_ok 90 rfl
theorem dX12_findPart_170 : decode cX12_findPart 170 = .ok (.iload_n 3, 1) := dk_get kX12_findPart_ok 91 rfl
theorem dX12_findPart_171 : decode cX12_findPart 171 = .ok (.iastore, 1) := dk_get kX12_findPart_ok 92 rfl
theorem dX12_findPart_172 : decode cX12_findPart 172 = .ok (.aload_n 0, 1) := dk_get kX12_findPart_ok 93 rfl
theorem dX12_findPart_173 : decode cX12_findPart 173 = .ok (.dup, 1) := dk_get kX12_findPart_ok 94 rfl
theorem dX12_findPart_174 : decode cX12_findPart 174 = .ok (.getfield 194, 3) := dk_get kX12_findPart_ok 95 rfl
theorem dX12_findPart_177 : decode cX12_findPart 177 = .ok (.iconst 1, 1) := dk_get kX12_findPart_ok 96 rfl
theorem dX12_findPart_178 : decode cX12_findPart 178 = .ok (.iadd, 1) := dk_get kX12_findPart_ok 97 rfl
theorem dX12_findPart_179 : decode cX12_findPart 179 = .ok (.putfield 194, 3) := dk_get kX12_findPart_ok 98 rfl
theorem dX12_findPart_182 : decode cX12_findPart 182 = .ok (.iinc 3 1, 3) := dk_get kX12_findPart_ok 99 rfl
theorem dX12_findPart_185 : decode cX12_findPart 185 = .ok (.goto (-43), 3) := dk_get kX12_findPart_ok 100 rfl
theorem dX12_findPart_188 : decode cX12_findPart 188 = .ok (.return_, 1) := dk_get kX12_findPart_ok 101 rfl
def kX12_mayCome : List (Nat × Instr × Nat) := [(0, .iload_n 2, 1), (1, .aload_n 0, 1), (2, .getfield 477, 3), (5, .if_icmp .ge 25, 3), (8, .aload_n 0, 1), (9, .getfield 365, 3), (12, .ifCond .le 18, 3), (15, .aload_n 0, 1), (16, .getfield 144, 3), (19, .iload_n 2, 1), (20, .iaload, 1), (21, .aload_n 0, 1), (22, .getfield 365, 3), (25, .if_icmp .lt 5, 3), (28, .iconst 0, 1), (29, .ireturn, 1), (30, .iconst 0, 1), (31, .istore_n 3, 1), (32, .iload_n 3, 1), (33, .iload_n 1, 1), (34, .if_icmp .ge 84, 3), (37, .aload_n 0, 1), (38, .getfield 141, 3), (41, .iload_n 3, 1), (42, .iaload, 1), (43, .iload_n 2, 1), (44, .if_icmp .ne 7, 3), (47, .iconst 1, 1), (48, .goto 4, 3), (51, .iconst 0, 1), (52, .istore 4, 2), (54, .iload 4, 2), (56, .ifCond .eq 30, 3), (59, .aload_n 0, 1), (60, .getfield 96, 3), (63, .bipush 30, 2), (65, .aload_n 0, 1), (66, .getfield 138, 3), (69, .iload_n 3, 1), (70, .iaload, 1), (71, .imul, 1), (72, .aload_n 0, 1), (73, .getfield 138, 3), (76, .iload_n 1, 1), (77, .iaload, 1), (78, .iadd, 1), (79, .baload, 1), (80, .ifCond .eq 32, 3), (83, .goto 27, 3), (86, .aload_n 0, 1), (87, .getfield 99, 3), (90, .bipush 30, 2), (92, .aload_n 0, 1), (93, .getfield 138, 3), (96, .iload_n 3, 1), (97, .iaload, 1), (98, .imul, 1), (99, .aload_n 0, 1), (100, .getfield 138, 3), (103, .iload_n 1, 1), (104, .iaload, 1), (105, .iadd, 1), (106, .baload, 1), (107, .ifCond .eq 5, 3), (110, .iconst 0, 1), (111, .ireturn, 1), (112, .iinc 3 1, 3), (115, .goto (-83), 3), (118, .iconst 1, 1), (119, .ireturn, 1)]
set_option maxRecDepth 100000 in
theorem kX12_mayCome_ok : kX12_mayCome.all (fun q => decide (decode cX12_mayCome q.1 = .ok q.2)) = true := by decide +kernel
theorem dX12_mayCome_0 : decode cX12_mayCome 0 = .ok (.iload_n 2, 1) := dk_get kX12_mayCome_ok 0 rfl
theorem dX12_mayCome_1 : decode cX12_mayCome 1 = .ok (.aload_n 0, 1) := dk_get kX12_mayCome_ok 1 rfl
theorem dX12_mayCome_2 : decode cX12_mayCome 2 = .ok (.getfield 477, 3) := dk_get kX12_mayCome_ok 2 rfl
theorem dX12_mayCome_5 : decode cX12_mayCome 5 = .ok (.if_icmp .ge 25, 3) := dk_get kX12_mayCome_ok 3 rfl
theorem dX12_mayCome_8 : decode cX12_mayCome 8 = .ok (.aload_n 0, 1) := dk_get kX12_mayCome_ok 4 rfl
theorem dX12_mayCome_9 : decode cX12_mayCome 9 = .ok (.getfield 365, 3) := dk_get kX12_mayCome_ok 5 rfl
theorem dX12_mayCome_12 : decode cX12_mayCome 12 = .ok (.ifCond .le 18, 3) := dk_get kX12_mayCome_ok 6 rfl
theorem dX12_mayCome_15 : decode cX12_mayCome 15 = .ok (.aload_n 0, 1) := dk_get kX12_mayCome_ok 7 rfl
theorem dX12_mayCome_16 : decode cX12_mayCome 16 = .ok (.getfield 144, 3) := dk_get kX12_mayCome_ok 8 rfl
theorem dX12_mayCome_19 : decode cX12_mayCome 19 = .ok (.iload_n 2, 1) := dk_get kX12_mayCome_ok 9 rfl
theorem dX12_mayCome_20 : decode cX12_mayCome 20 = .ok (.iaload, 1) := dk_get kX12_mayCome_ok 10 rfl
theorem dX12_mayCome_21 : decode cX12_mayCome 21 = .ok (.aload_n 0, 1) := dk_get kX12_mayCome_ok 11 rfl
theorem dX12_mayCome_22 : decode cX12_mayCome 22 = .ok (.getfield 365, 3) := dk_get kX12_mayCome_ok 12 rfl
theorem dX12_mayCome_25 : decode cX12_mayCome 25 = .ok (.if_icmp .lt 5, 3) := dk_get kX12_mayCome_ok 13 rfl
theorem dX12_mayCome_28 : decode cX12_mayCome 28 = .ok (.iconst 0, 1) := dk_get kX12_mayCome_ok 14 rfl
theorem dX12_mayCome_29 : decode cX12_mayCome 29 = .ok (.ireturn, 1) := dk_get kX12_mayCome_ok 15 rfl
theorem dX12_mayCome_30 : decode cX12_mayCome 30 = .ok (.iconst 0, 1) := dk_get kX12_mayCome_ok 16 rfl
theorem dX12_mayCome_31 : decode cX12_mayCome 31 = .ok (.istore_n 3, 1) := dk_get kX12_mayCome_ok 17 rfl
theorem dX12_mayCome_32 : decode cX12_mayCome 32 = .ok (.iload_n 3, 1) := dk_get kX12_mayCome_ok 18 rfl
theorem dX12_mayCome_33 : decode cX12_mayCome 33 = .ok (.iload_n 1, 1) := dk_get kX12_mayCome_ok 19 rfl
theorem dX12_mayCome_34 : decode cX12_mayCome 34 = .ok (.if_icmp .ge 84, 3) := dk_get kX12_mayCome_ok 20 rfl
theorem dX12_mayCome_37 : decode cX12_mayCome 37 = .ok (.aload_n 0, 1) := dk_get kX12_mayCome_ok 21 rfl
theorem dX12_mayCome_38 : decode cX12_mayCome 38 = .ok (.getfield 141, 3) := dk_get kX12_mayCome_ok 22 rfl
theorem dX12_mayCome_41 : decode cX12_mayCome 41 = .ok (.iload_n 3, 1) := dk_get kX12_mayCome_ok 23 rfl
theorem dX12_mayCome_42 : decode cX12_mayCome 42 = .ok (.iaload, 1) := dk_get kX12_mayCome_ok 24 rfl
theorem dX12_mayCome_43 : decode cX12_mayCome 43 = .ok (.iload_n 2, 1) := dk_get kX12_mayCome_ok 25 rfl
theorem dX12_mayCome_44 : decode cX12_mayCome 44 = .ok (.if_icmp .ne 7, 3) := dk_get kX12_mayCome_ok 26 rfl
theorem dX12_mayCome_47 : decode cX12_mayCome 47 = .ok (.iconst 1, 1) := dk_get kX12_mayCome_ok 27 rfl
theorem dX12_mayCome_48 : decode cX12_mayCome 48 = .ok (.goto 4, 3) := dk_get kX12_mayCome_ok 28 rfl
theorem dX12_mayCome_51 : decode cX12_mayCome 51 = .ok (.iconst 0, 1) := dk_get kX12_mayCome_ok 29 rfl
theorem dX12_mayCome_52 : decode cX12_mayCome 52 = .ok (.istore 4, 2) := dk_get kX12_mayCome_ok 30 rfl
theorem dX12_mayCome_54 : decode cX12_mayCome 54 = .ok (.iload 4, 2) := dk_get kX12_mayCome_ok 31 rfl
theorem dX12_mayCome_56 : decode cX12_mayCome 56 = .ok (.ifCond .eq 30, 3) := dk_get kX12_mayCome_ok 32 rfl
theorem dX12_mayCome_59 : decode cX12_mayCome 59 = .ok (.aload_n 0, 1) := dk_get kX12_mayCome_ok 33 rfl
theorem dX12_mayCome_60 : decode cX12_mayCome 60 = .ok (.getfield 96, 3) := dk_get kX12_mayCome_ok 34 rfl
theorem dX12_mayCome_63 : decode cX12_mayCome 63 = .ok (.bipush 30, 2) := dk_get kX12_mayCome_ok 35 rfl
theorem dX12_mayCome_65 : decode cX12_mayCome 65 = .ok (.aload_n 0, 1) := dk_get kX12_mayCome_ok 36 rfl
theorem dX12_mayCome_66 : decode cX12_mayCome 66 = .ok (.getfield 138, 3) := dk_get kX12_mayCome_ok 37 rfl
theorem dX12_mayCome_69 : decode cX12_mayCome 69 = .ok (.iload_n 3, 1) := dk_get kX12_mayCome_ok 38 rfl
theorem dX12_mayCome_70 : decode cX12_mayCome 70 = .ok (.iaload, 1) := dk_get kX12_mayCome_ok 39 rfl
theorem dX12_mayCome_71 : decode cX12_mayCome 71 = .ok (.imul, 1) := dk_get kX12_mayCome_ok 40 rfl
theorem dX12_mayCome_72 : decode cX12_mayCome 72 = .ok (.aload_n 0, 1) := dk_get kX12_mayCome_ok 41 rfl
theorem dX12_mayCome_73 : decode cX12_mayCome 73 = .ok (.getfield 138, 3) := dk_get kX12_mayCome_ok 42 rfl
theorem dX12_mayCome_76 : decode cX12_mayCome 76 = .ok (.iload_n 1, 1) := dk_get kX12_mayCome_ok 43 rfl
theorem dX12_mayCome_77 : decode cX12_mayCome 77 = .ok (.iaload, 1) := dk_get kX12_mayCome_ok 44 rfl
theorem dX12_mayCome_78 : decode cX12_mayCome 78 = .ok (.iadd, 1) := dk_get kX12_mayCome_ok 45 rfl
theorem dX12_mayCome_79 : decode cX12_mayCome 79 = .ok (.baload, 1) := dk_get kX12_mayCome_ok 46 rfl
theorem dX12_mayCome_80 : decode cX12_mayCome 80 = .ok (.ifCond .eq 32, 3) := dk_get kX12_mayCome_ok 47 rfl
theorem dX12_mayCome_83 : decode cX12_mayCome 83 = .ok (.goto 27, 3) := dk_get kX12_mayCome_ok 48 rfl
theorem dX12_mayCome_86 : decode cX12_mayCome 86 = .ok (.aload_n 0, 1) := dk_get kX12_mayCome_ok 49 rfl
theorem dX12_mayCome_87 : decode cX12_mayCome 87 = .ok (.getfield 99, 3) := dk_get kX12_mayCome_ok 50 rfl
theorem dX12_mayCome_90 : decode cX12_mayCome 90 = .ok (.bipush 30, 2) := dk_get kX12_mayCome_ok 51 rfl
theorem dX12_mayCome_92 : decode cX12_mayCome 92 = .ok (.aload_n 0, 1) := dk_get kX12_mayCome_ok 52 rfl
theorem dX12_mayCome_93 : decode cX12_mayCome 93 = .ok (.getfield 138, 3) := dk_get kX12_mayCome_ok 53 rfl
theorem dX12_mayCome_96 : decode cX12_mayCome 96 = .ok (.iload_n 3, 1) := dk_get kX12_mayCome_ok 54 rfl
theorem dX12_mayCome_97 : decode cX12_mayCome 97 = .ok (.iaload, 1) := dk_get kX12_mayCome_ok 55 rfl
theorem dX12_mayCome_98 : decode cX12_mayCome 98 = .ok (.imul, 1) := dk_get kX12_mayCome_ok 56 rfl
theorem dX12_mayCome_99 : decode cX12_mayCome 99 = .ok (.aload_n 0, 1) := dk_get kX12_mayCome_ok 57 rfl
theorem dX12_mayCome_100 : decode cX12_mayCome 100 = .ok (.getfield 138, 3) := dk_get kX12_mayCome_ok 58 rfl
theorem dX12_mayCome_103 : decode cX12_mayCome 103 = .ok (.iload_n 1, 1) := dk_get kX12_mayCome_ok 59 rfl
theorem dX12_mayCome_104 : decode cX12_mayCome 104 = .ok (.iaload, 1) := dk_get kX12_mayCome_ok 60 rfl
theorem dX12_mayCome_105 : decode cX12_mayCome 105 = .ok (.iadd, 1) := dk_get kX12_mayCome_ok 61 rfl
theorem dX12_mayCome_106 : decode cX12_mayCome 106 = .ok (.baload, 1) := dk_get kX12_mayCome_ok 62 rfl
theorem dX12_mayCome_107 : decode cX12_mayCome 107 = .ok (.ifCond .eq 5, 3) := dk_get kX12_mayCome_ok 63 rfl
theorem dX12_mayCome_110 : decode cX12_mayCome 110 = .ok (.iconst 0, 1) := dk_get kX12_mayCome_ok 64 rfl
theorem dX12_mayCome_111 : decode cX12_mayCome 111 = .ok (.ireturn, 1) := dk_get kX12_mayCome_ok 65 rfl
theorem dX12_mayCome_112 : decode cX12_mayCome 112 = .ok (.iinc 3 1, 3) := dk_get kX12_mayCome_ok 66 rfl
theorem dX12_mayCome_115 : decode cX12_mayCome 115 = .ok (.goto (-83), 3) := dk_get kX12_mayCome_ok 67 rfl
theorem dX12_mayCome_118 : decode cX12_mayCome 118 = .ok (.iconst 1, 1) := dk_get kX12_mayCome_ok 68 rfl
theorem dX12_mayCome_119 : decode cX12_mayCome 119 = .ok (.ireturn, 1) := dk_get kX12_mayCome_ok 69 rfl
def kX12_adds : List (Nat × Instr × Nat) := [(0, .lconst 0, 1), (1, .lstore_n 3, 1), (2, .iconst 0, 1), (3, .istore 5, 2), (5, .iload 5, 2), (7, .iload_n 1, 1), (8, .if_icmp .ge 75, 3), (11, .aload_n 0, 1), (12, .getfield 89, 3), (15, .bipush 30, 2), (17, .aload_n 0, 1), (18, .getfield 138, 3), (21, .iload 5, 2), (23, .iaload, 1), (24, .imul, 1), (25, .aload_n 0, 1), (26, .getfield 138, 3), (29, .iload_n 1, 1), (30, .iaload, 1), (31, .iadd, 1), (32, .iaload, 1), (33, .istore 6, 2), (35, .lload_n 3, 1), (36, .aload_n 0, 1), (37, .getfield 141, 3), (40, .iload 5, 2), (42, .iaload, 1), (43, .iload_n 2, 1), (44, .if_icmp .ne 19, 3), (47, .iload 6, 2), (49, .ifCond .ge 10, 3), (52, .iload 6, 2), (54, .ineg, 1), (55, .i2l, 1), (56, .goto 19, 3), (59, .lconst 0, 1), (60, .goto 15, 3), (63, .iload 6, 2), (65, .ifCond .le 9, 3), (68, .iload 6, 2), (70, .i2l, 1), (71, .goto 4, 3), (74, .lconst 0, 1), (75, .ladd, 1), (76, .lstore_n 3, 1), (77, .iinc 5 1, 3), (80, .goto (-75), 3), (83, .lload_n 3, 1), (84, .lreturn, 1)]
set_option maxRecDepth 100000 in
theorem kX12_adds_ok : kX12_adds.all (fun q => decide (decode cX12_adds q.1 = .ok q.2)) = true := by decide +kernel
theorem dX12_adds_0 : decode cX12_adds 0 = .ok (.lconst 0, 1) := dk_get kX12_adds_ok 0 rfl
theorem dX12_adds_1 : decode cX12_adds 1 = .ok (.lstore_n 3, 1) := dk_get kX12_adds_ok 1 rfl
theorem dX12_adds_2 : decode cX12_adds 2 = .ok (.iconst 0, 1) := dk_get kX12_adds_ok 2 rfl
theorem dX12_adds_3 : decode cX12_adds 3 = .ok (.istore 5, 2) := dk_get kX12_adds_ok 3 rfl
theorem dX12_adds_5 : decode cX12_adds 5 = .ok (.iload 5, 2) := dk_get kX12_adds_ok 4 rfl
theorem dX12_adds_7 : decode cX12_adds 7 = .ok (.iload_n 1, 1) := dk_get kX12_adds_ok 5 rfl
theorem dX12_adds_8 : decode cX12_adds 8 = .ok (.if_icmp .ge 75, 3) := dk_get kX12_adds_ok 6 rfl
theorem dX12_adds_11 : decode cX12_adds 11 = .ok (.aload_n 0, 1) := dk_get kX12_adds_ok 7 rfl
theorem dX12_adds_12 : decode cX12_adds 12 = .ok (.getfield 89, 3) := dk_get kX12_adds_ok 8 rfl
theorem dX12_adds_15 : decode cX12_adds 15 = .ok (.bipush 30, 2) := dk_get kX12_adds_ok 9 rfl
theorem dX12_adds_17 : decode cX12_adds 17 = .ok (.aload_n 0, 1) := dk_get kX12_adds_ok 10 rfl
theorem dX12_adds_18 : decode cX12_adds 18 = .ok (.getfield 138, 3) := dk_get kX12_adds_ok 11 rfl
theorem dX12_adds_21 : decode cX12_adds 21 = .ok (.iload 5, 2) := dk_get kX12_adds_ok 12 rfl
theorem dX12_adds_23 : decode cX12_adds 23 = .ok (.iaload, 1) := dk_get kX12_adds_ok 13 rfl
theorem dX12_adds_24 : decode cX12_adds 24 = .ok (.imul, 1) := dk_get kX12_adds_ok 14 rfl
theorem dX12_adds_25 : decode cX12_adds 25 = .ok (.aload_n 0, 1) := dk_get kX12_adds_ok 15 rfl
theorem dX12_adds_26 : decode cX12_adds 26 = .ok (.getfield 138, 3) := dk_get kX12_adds_ok 16 rfl
theorem dX12_adds_29 : decode cX12_adds 29 = .ok (.iload_n 1, 1) := dk_get kX12_adds_ok 17 rfl
theorem dX12_adds_30 : decode cX12_adds 30 = .ok (.iaload, 1) := dk_get kX12_adds_ok 18 rfl
theorem dX12_adds_31 : decode cX12_adds 31 = .ok (.iadd, 1) := dk_get kX12_adds_ok 19 rfl
theorem dX12_adds_32 : decode cX12_adds 32 = .ok (.iaload, 1) := dk_get kX12_adds_ok 20 rfl
theorem dX12_adds_33 : decode cX12_adds 33 = .ok (.istore 6, 2) := dk_get kX12_adds_ok 21 rfl
theorem dX12_adds_35 : decode cX12_adds 35 = .ok (.lload_n 3, 1) := dk_get kX12_adds_ok 22 rfl
theorem dX12_adds_36 : decode cX12_adds 36 = .ok (.aload_n 0, 1) := dk_get kX12_adds_ok 23 rfl
theorem dX12_adds_37 : decode cX12_adds 37 = .ok (.getfield 141, 3) := dk_get kX12_adds_ok 24 rfl
theorem dX12_adds_40 : decode cX12_adds 40 = .ok (.iload 5, 2) := dk_get kX12_adds_ok 25 rfl
theorem dX12_adds_42 : decode cX12_adds 42 = .ok (.iaload, 1) := dk_get kX12_adds_ok 26 rfl
theorem dX12_adds_43 : decode cX12_adds 43 = .ok (.iload_n 2, 1) := dk_get kX12_adds_ok 27 rfl
theorem dX12_adds_44 : decode cX12_adds 44 = .ok (.if_icmp .ne 19, 3) := dk_get kX12_adds_ok 28 rfl
theorem dX12_adds_47 : decode cX12_adds 47 = .ok (.iload 6, 2) := dk_get kX12_adds_ok 29 rfl
theorem dX12_adds_49 : decode cX12_adds 49 = .ok (.ifCond .ge 10, 3) := dk_get kX12_adds_ok 30 rfl
theorem dX12_adds_52 : decode cX12_adds 52 = .ok (.iload 6, 2) := dk_get kX12_adds_ok 31 rfl
theorem dX12_adds_54 : decode cX12_adds 54 = .ok (.ineg, 1) := dk_get kX12_adds_ok 32 rfl
theorem dX12_adds_55 : decode cX12_adds 55 = .ok (.i2l, 1) := dk_get kX12_adds_ok 33 rfl
theorem dX12_adds_56 : decode cX12_adds 56 = .ok (.goto 19, 3) := dk_get kX12_adds_ok 34 rfl
theorem dX12_adds_59 : decode cX12_adds 59 = .ok (.lconst 0, 1) := dk_get kX12_adds_ok 35 rfl
theorem dX12_adds_60 : decode cX12_adds 60 = .ok (.goto 15, 3) := dk_get kX12_adds_ok 36 rfl
theorem dX12_adds_63 : decode cX12_adds 63 = .ok (.iload 6, 2) := dk_get kX12_adds_ok 37 rfl
theorem dX12_adds_65 : decode cX12_adds 65 = .ok (.ifCond .le 9, 3) := dk_get kX12_adds_ok 38 rfl
theorem dX12_adds_68 : decode cX12_adds 68 = .ok (.iload 6, 2) := dk_get kX12_adds_ok 39 rfl
theorem dX12_adds_70 : decode cX12_adds 70 = .ok (.i2l, 1) := dk_get kX12_adds_ok 40 rfl
theorem dX12_adds_71 : decode cX12_adds 71 = .ok (.goto 4, 3) := dk_get kX12_adds_ok 41 rfl
theorem dX12_adds_74 : decode cX12_adds 74 = .ok (.lconst 0, 1) := dk_get kX12_adds_ok 42 rfl
theorem dX12_adds_75 : decode cX12_adds 75 = .ok (.ladd, 1) := dk_get kX12_adds_ok 43 rfl
theorem dX12_adds_76 : decode cX12_adds 76 = .ok (.lstore_n 3, 1) := dk_get kX12_adds_ok 44 rfl
theorem dX12_adds_77 : decode cX12_adds 77 = .ok (.iinc 5 1, 3) := dk_get kX12_adds_ok 45 rfl
theorem dX12_adds_80 : decode cX12_adds 80 = .ok (.goto (-75), 3) := dk_get kX12_adds_ok 46 rfl
theorem dX12_adds_83 : decode cX12_adds 83 = .ok (.lload_n 3, 1) := dk_get kX12_adds_ok 47 rfl
theorem dX12_adds_84 : decode cX12_adds 84 = .ok (.lreturn, 1) := dk_get kX12_adds_ok 48 rfl
def kX12_isTooDear : List (Nat × Instr × Nat) := [(0, .aload_n 0, 1), (1, .getfield 480, 3), (4, .lookupswitch 94 #[(0, 28), (1, 52)], 28), (32, .aload_n 0, 1), (33, .getfield 483, 3), (36, .lconst 0, 1), (37, .lcmp, 1), (38, .ifCond .lt 16, 3), (41, .lload_n 1, 1), (42, .aload_n 0, 1), (43, .getfield 483, 3), (46, .lcmp, 1), (47, .ifCond .le 7, 3), (50, .iconst 1, 1), (51, .goto 4, 3), (54, .iconst 0, 1), (55, .ireturn, 1), (56, .aload_n 0, 1), (57, .getfield 486, 3), (60, .lconst 0, 1), (61, .lcmp, 1), (62, .ifCond .lt 34, 3), (65, .aload_n 0, 1), (66, .getfield 489, 3), (69, .lconst 0, 1), (70, .lcmp, 1), (71, .ifCond .lt 25, 3), (74, .lload_n 1, 1), (75, .aload_n 0, 1), (76, .getfield 486, 3), (79, .lcmp, 1), (80, .ifCond .lt 16, 3), (83, .lload_n 1, 1), (84, .aload_n 0, 1), (85, .getfield 489, 3), (88, .lcmp, 1), (89, .ifCond .lt 7, 3), (92, .iconst 1, 1), (93, .goto 4, 3), (96, .iconst 0, 1), (97, .ireturn, 1), (98, .lload_n 1, 1), (99, .aload_n 0, 1), (100, .getfield 492, 3), (103, .lcmp, 1), (104, .ifCond .le 7, 3), (107, .iconst 1, 1), (108, .goto 4, 3), (111, .iconst 0, 1), (112, .ireturn, 1)]
set_option maxRecDepth 100000 in
theorem kX12_isTooDear_ok : kX12_isTooDear.all (fun q => decide (decode cX12_isTooDear q.1 = .ok q.2)) = true := by decide +kernel
theorem dX12_isTooDear_0 : decode cX12_isTooDear 0 = .ok (.aload_n 0, 1) := dk_get kX12_isTooDear_ok 0 rfl
theorem dX12_isTooDear_1 : decode cX12_isTooDear 1 = .ok (.getfield 480, 3) := dk_get kX12_isTooDear_ok 1 rfl
theorem dX12_isTooDear_4 : decode cX12_isTooDear 4 = .ok (.lookupswitch 94 #[(0, 28), (1, 52)], 28) := dk_get kX12_isTooDear_ok 2 rfl
theorem dX12_isTooDear_32 : decode cX12_isTooDear 32 = .ok (.aload_n 0, 1) := dk_get kX12_isTooDear_ok 3 rfl
theorem dX12_isTooDear_33 : decode cX12_isTooDear 33 = .ok (.getfield 483, 3) := dk_get kX12_isTooDear_ok 4 rfl
theorem dX12_isTooDear_36 : decode cX12_isTooDear 36 = .ok (.lconst 0, 1) := dk_get kX12_isTooDear_ok 5 rfl
theorem dX12_isTooDear_37 : decode cX12_isTooDear 37 = .ok (.lcmp, 1) := dk_get kX12_isTooDear_ok 6 rfl
theorem dX12_isTooDear_38 : decode cX12_isTooDear 38 = .ok (.ifCond .lt 16, 3) := dk_get kX12_isTooDear_ok 7 rfl
theorem dX12_isTooDear_41 : decode cX12_isTooDear 41 = .ok (.lload_n 1, 1) := dk_get kX12_isTooDear_ok 8 rfl
theorem dX12_isTooDear_42 : decode cX12_isTooDear 42 = .ok (.aload_n 0, 1) := dk_get kX12_isTooDear_ok 9 rfl
theorem dX12_isTooDear_43 : decode cX12_isTooDear 43 = .ok (.getfield 483, 3) := dk_get kX12_isTooDear_ok 10 rfl
theorem dX12_isTooDear_46 : decode cX12_isTooDear 46 = .ok (.lcmp, 1) := dk_get kX12_isTooDear_ok 11 rfl
theorem dX12_isTooDear_47 : decode cX12_isTooDear 47 = .ok (.ifCond .le 7, 3) := dk_get kX12_isTooDear_ok 12 rfl
theorem dX12_isTooDear_50 : decode cX12_isTooDear 50 = .ok (.iconst 1, 1) := dk_get kX12_isTooDear_ok 13 rfl
theorem dX12_isTooDear_51 : decode cX12_isTooDear 51 = .ok (.goto 4, 3) := dk_get kX12_isTooDear_ok 14 rfl
theorem dX12_isTooDear_54 : decode cX12_isTooDear 54 = .ok (.iconst 0, 1) := dk_get kX12_isTooDear_ok 15 rfl
theorem dX12_isTooDear_55 : decode cX12_isTooDear 55 = .ok (.ireturn, 1) := dk_get kX12_isTooDear_ok 16 rfl
theorem dX12_isTooDear_56 : decode cX12_isTooDear 56 = .ok (.aload_n 0, 1) := dk_get kX12_isTooDear_ok 17 rfl
theorem dX12_isTooDear_57 : decode cX12_isTooDear 57 = .ok (.getfield 486, 3) := dk_get kX12_isTooDear_ok 18 rfl
theorem dX12_isTooDear_60 : decode cX12_isTooDear 60 = .ok (.lconst 0, 1) := dk_get kX12_isTooDear_ok 19 rfl
theorem dX12_isTooDear_61 : decode cX12_isTooDear 61 = .ok (.lcmp, 1) := dk_get kX12_isTooDear_ok 20 rfl
theorem dX12_isTooDear_62 : decode cX12_isTooDear 62 = .ok (.ifCond .lt 34, 3) := dk_get kX12_isTooDear_ok 21 rfl
theorem dX12_isTooDear_65 : decode cX12_isTooDear 65 = .ok (.aload_n 0, 1) := dk_get kX12_isTooDear_ok 22 rfl
theorem dX12_isTooDear_66 : decode cX12_isTooDear 66 = .ok (.getfield 489, 3) := dk_get kX12_isTooDear_ok 23 rfl
theorem dX12_isTooDear_69 : decode cX12_isTooDear 69 = .ok (.lconst 0, 1) := dk_get kX12_isTooDear_ok 24 rfl
theorem dX12_isTooDear_70 : decode cX12_isTooDear 70 = .ok (.lcmp, 1) := dk_get kX12_isTooDear_ok 25 rfl
theorem dX12_isTooDear_71 : decode cX12_isTooDear 71 = .ok (.ifCond .lt 25, 3) := dk_get kX12_isTooDear_ok 26 rfl
theorem dX12_isTooDear_74 : decode cX12_isTooDear 74 = .ok (.lload_n 1, 1) := dk_get kX12_isTooDear_ok 27 rfl
theorem dX12_isTooDear_75 : decode cX12_isTooDear 75 = .ok (.aload_n 0, 1) := dk_get kX12_isTooDear_ok 28 rfl
theorem dX12_isTooDear_76 : decode cX12_isTooDear 76 = .ok (.getfield 486, 3) := dk_get kX12_isTooDear_ok 29 rfl
theorem dX12_isTooDear_79 : decode cX12_isTooDear 79 = .ok (.lcmp, 1) := dk_get kX12_isTooDear_ok 30 rfl
theorem dX12_isTooDear_80 : decode cX12_isTooDear 80 = .ok (.ifCond .lt 16, 3) := dk_get kX12_isTooDear_ok 31 rfl
theorem dX12_isTooDear_83 : decode cX12_isTooDear 83 = .ok (.lload_n 1, 1) := dk_get kX12_isTooDear_ok 32 rfl
theorem dX12_isTooDear_84 : decode cX12_isTooDear 84 = .ok (.aload_n 0, 1) := dk_get kX12_isTooDear_ok 33 rfl
theorem dX12_isTooDear_85 : decode cX12_isTooDear 85 = .ok (.getfield 489, 3) := dk_get kX12_isTooDear_ok 34 rfl
theorem dX12_isTooDear_88 : decode cX12_isTooDear 88 = .ok (.lcmp, 1) := dk_get kX12_isTooDear_ok 35 rfl
theorem dX12_isTooDear_89 : decode cX12_isTooDear 89 = .ok (.ifCond .lt 7, 3) := dk_get kX12_isTooDear_ok 36 rfl
theorem dX12_isTooDear_92 : decode cX12_isTooDear 92 = .ok (.iconst 1, 1) := dk_get kX12_isTooDear_ok 37 rfl
theorem dX12_isTooDear_93 : decode cX12_isTooDear 93 = .ok (.goto 4, 3) := dk_get kX12_isTooDear_ok 38 rfl
theorem dX12_isTooDear_96 : decode cX12_isTooDear 96 = .ok (.iconst 0, 1) := dk_get kX12_isTooDear_ok 39 rfl
theorem dX12_isTooDear_97 : decode cX12_isTooDear 97 = .ok (.ireturn, 1) := dk_get kX12_isTooDear_ok 40 rfl
theorem dX12_isTooDear_98 : decode cX12_isTooDear 98 = .ok (.lload_n 1, 1) := dk_get kX12_isTooDear_ok 41 rfl
theorem dX12_isTooDear_99 : decode cX12_isTooDear 99 = .ok (.aload_n 0, 1) := dk_get kX12_isTooDear_ok 42 rfl
theorem dX12_isTooDear_100 : decode cX12_isTooDear 100 = .ok (.getfield 492, 3) := dk_get kX12_isTooDear_ok 43 rfl
theorem dX12_isTooDear_103 : decode cX12_isTooDear 103 = .ok (.lcmp, 1) := dk_get kX12_isTooDear_ok 44 rfl
theorem dX12_isTooDear_104 : decode cX12_isTooDear 104 = .ok (.ifCond .le 7, 3) := dk_get kX12_isTooDear_ok 45 rfl
theorem dX12_isTooDear_107 : decode cX12_isTooDear 107 = .ok (.iconst 1, 1) := dk_get kX12_isTooDear_ok 46 rfl
theorem dX12_isTooDear_108 : decode cX12_isTooDear 108 = .ok (.goto 4, 3) := dk_get kX12_isTooDear_ok 47 rfl
theorem dX12_isTooDear_111 : decode cX12_isTooDear 111 = .ok (.iconst 0, 1) := dk_get kX12_isTooDear_ok 48 rfl
theorem dX12_isTooDear_112 : decode cX12_isTooDear 112 = .ok (.ireturn, 1) := dk_get kX12_isTooDear_ok 49 rfl
def kX12_walk : List (Nat × Instr × Nat) := [(0, .aload_n 0, 1), (1, .lload_n 2, 1), (2, .invokevirtual 495, 3), (5, .ifCond .eq 4, 3), (8, .return_, 1), (9, .iload_n 1, 1), (10, .aload_n 0, 1), (11, .getfield 194, 3), (14, .if_icmp .ne 9, 3), (17, .aload_n 0, 1), (18, .lload_n 2, 1), (19, .invokevirtual 499, 3), (22, .return_, 1), (23, .iconst 0, 1), (24, .istore 4, 2), (26, .iload 4, 2), (28, .aload_n 0, 1), (29, .getfield 477, 3), (32, .if_icmp .gt 140, 3), (35, .aload_n 0, 1), (36, .iload_n 1, 1), (37, .iload 4, 2), (39, .invokevirtual 503, 3), (42, .ifCond .ne 6, 3), (45, .goto 121, 3), (48, .aload_n 0, 1), (49, .iload_n 1, 1), (50, .iload 4, 2), (52, .invokevirtual 506, 3), (55, .lstore 5, 2), (57, .aload_n 0, 1), (58, .getfield 141, 3), (61, .iload_n 1, 1), (62, .iload 4, 2), (64, .iastore, 1), (65, .iload 4, 2), (67, .aload_n 0, 1), (68, .getfield 477, 3), (71, .if_icmp .ne 7, 3), (74, .iconst 1, 1), (75, .goto 4, 3), (78, .iconst 0, 1), (79, .istore 7, 2), (81, .aload_n 0, 1), (82, .getfield 144, 3), (85, .iload 4, 2), (87, .iload 7, 2), (89, .ifCond .eq 7, 3), (92, .iconst 1, 1), (93, .goto 12, 3), (96, .aload_n 0, 1), (97, .getfield 144, 3), (100, .iload 4, 2), (102, .iaload, 1), (103, .iconst 1, 1), (104, .iadd, 1), (105, .iastore, 1), (106, .aload_n 0, 1), (107, .dup, 1), (108, .getfield 477, 3), (111, .iload 7, 2), (113, .ifCond .eq 7, 3), (116, .iconst 1, 1), (117, .goto 4, 3), (120, .iconst 0, 1), (121, .iadd, 1), (122, .putfield 477, 3), (125, .aload_n 0, 1), (126, .iload_n 1, 1), (127, .iconst 1, 1), (128, .iadd, 1), (129, .lload_n 2, 1), (130, .lload 5, 2), (132, .ladd, 1), (133, .invokevirtual 510, 3), (136, .aload_n 0, 1), (137, .dup, 1), (138, .getfield 477, 3), (141, .iload 7, 2), (143, .ifCond .eq 7, 3), (146, .iconst 1, 1), (147, .goto 4, 3), (150, .iconst 0, 1), (151, .isub, 1), (152, .putfield 477, 3), (155, .aload_n 0, 1), (156, .getfield 144, 3), (159, .iload 4, 2), (161, .dup2, 1), (162, .iaload, 1), (163, .iconst 1, 1), (164, .isub, 1), (165, .iastore, 1), (166, .iinc 4 1, 3), (169, .goto (-143), 3), (172, .return_, 1)]
set_option maxRecDepth 100000 in
theorem kX12_walk_ok : kX12_walk.all (fun q => decide (decode cX12_walk q.1 = .ok q.2)) = true := by decide +kernel
theorem dX12_walk_0 : decode cX12_walk 0 = .ok (.aload_n 0, 1) := dk_get kX12_walk_ok 0 rfl
theorem dX12_walk_1 : decode cX12_walk 1 = .ok (.lload_n 2, 1) := dk_get kX12_walk_ok 1 rfl
theorem dX12_walk_2 : decode cX12_walk 2 = .ok (.invokevirtual 495, 3) := dk_get kX12_walk_ok 2 rfl
theorem dX12_walk_5 : decode cX12_walk 5 = .ok (.ifCond .eq 4, 3) := dk_get kX12_walk_ok 3 rfl
theorem dX12_walk_8 : decode cX12_walk 8 = .ok (.return_, 1) := dk_get kX12_walk_ok 4 rfl
theorem dX12_walk_9 : decode cX12_walk 9 = .ok (.iload_n 1, 1) := dk_get kX12_walk_ok 5 rfl
theorem dX12_walk_10 : decode cX12_walk 10 = .ok (.aload_n 0, 1) := dk_get kX12_walk_ok 6 rfl
theorem dX12_walk_11 : decode cX12_walk 11 = .ok (.getfield 194, 3) := dk_get kX12_walk_ok 7 rfl
theorem dX12_walk_14 : decode cX12_walk 14 = .ok (.if_icmp .ne 9, 3) := dk_get kX12_walk_ok 8 rfl
theorem dX12_walk_17 : decode cX12_walk 17 = .ok (.aload_n 0, 1) := dk_get kX12_walk_ok 9 rfl
theorem dX12_walk_18 : decode cX12_walk 18 = .ok (.lload_n 2, 1) := dk_get kX12_walk_ok 10 rfl
theorem dX12_walk_19 : decode cX12_walk 19 = .ok (.invokevirtual 499, 3) := dk_get kX12_walk_ok 11 rfl
theorem dX12_walk_22 : decode cX12_walk 22 = .ok (.return_, 1) := dk_get kX12_walk_ok 12 rfl
theorem dX12_walk_23 : decode cX12_walk 23 = .ok (.iconst 0, 1) := dk_get kX12_walk_ok 13 rfl
theorem dX12_walk_24 : decode cX12_walk 24 = .ok (.istore 4, 2) := dk_get kX12_walk_ok 14 rfl
theorem dX12_walk_26 : decode cX12_walk 26 = .ok (.iload 4, 2) := dk_get kX12_walk_ok 15 rfl
theorem dX12_walk_28 : decode cX12_walk 28 = .ok (.aload_n 0, 1) := dk_get kX12_walk_ok 16 rfl
theorem dX12_walk_29 : decode cX12_walk 29 = .ok (.getfield 477, 3) := dk_get kX12_walk_ok 17 rfl
theorem dX12_walk_32 : decode cX12_walk 32 = .ok (.if_icmp .gt 140, 3) := dk_get kX12_walk_ok 18 rfl
theorem dX12_walk_35 : decode cX12_walk 35 = .ok (.aload_n 0, 1) := dk_get kX12_walk_ok 19 rfl
theorem dX12_walk_36 : decode cX12_walk 36 = .ok (.iload_n 1, 1) := dk_get kX12_walk_ok 20 rfl
theorem dX12_walk_37 : decode cX12_walk 37 = .ok (.iload 4, 2) := dk_get kX12_walk_ok 21 rfl
theorem dX12_walk_39 : decode cX12_walk 39 = .ok (.invokevirtual 503, 3) := dk_get kX12_walk_ok 22 rfl
theorem dX12_walk_42 : decode cX12_walk 42 = .ok (.ifCond .ne 6, 3) := dk_get kX12_walk_ok 23 rfl
theorem dX12_walk_45 : decode cX12_walk 45 = .ok (.goto 121, 3) := dk_get kX12_walk_ok 24 rfl
theorem dX12_walk_48 : decode cX12_walk 48 = .ok (.aload_n 0, 1) := dk_get kX12_walk_ok 25 rfl
theorem dX12_walk_49 : decode cX12_walk 49 = .ok (.iload_n 1, 1) := dk_get kX12_walk_ok 26 rfl
theorem dX12_walk_50 : decode cX12_walk 50 = .ok (.iload 4, 2) := dk_get kX12_walk_ok 27 rfl
theorem dX12_walk_52 : decode cX12_walk 52 = .ok (.invokevirtual 506, 3) := dk_get kX12_walk_ok 28 rfl
theorem dX12_walk_55 : decode cX12_walk 55 = .ok (.lstore 5, 2) := dk_get kX12_walk_ok 29 rfl
theorem dX12_walk_57 : decode cX12_walk 57 = .ok (.aload_n 0, 1) := dk_get kX12_walk_ok 30 rfl
theorem dX12_walk_58 : decode cX12_walk 58 = .ok (.getfield 141, 3) := dk_get kX12_walk_ok 31 rfl
theorem dX12_walk_61 : decode cX12_walk 61 = .ok (.iload_n 1, 1) := dk_get kX12_walk_ok 32 rfl
theorem dX12_walk_62 : decode cX12_walk 62 = .ok (.iload 4, 2) := dk_get kX12_walk_ok 33 rfl
theorem dX12_walk_64 : decode cX12_walk 64 = .ok (.iastore, 1) := dk_get kX12_walk_ok 34 rfl
theorem dX12_walk_65 : decode cX12_walk 65 = .ok (.iload 4, 2) := dk_get kX12_walk_ok 35 rfl
theorem dX12_walk_67 : decode cX12_walk 67 = .ok (.aload_n 0, 1) := dk_get kX12_walk_ok 36 rfl
theorem dX12_walk_68 : decode cX12_walk 68 = .ok (.getfield 477, 3) := dk_get kX12_walk_ok 37 rfl
theorem dX12_walk_71 : decode cX12_walk 71 = .ok (.if_icmp .ne 7, 3) := dk_get kX12_walk_ok 38 rfl
theorem dX12_walk_74 : decode cX12_walk 74 = .ok (.iconst 1, 1) := dk_get kX12_walk_ok 39 rfl
theorem dX12_walk_75 : decode cX12_walk 75 = .ok (.goto 4, 3) := dk_get kX12_walk_ok 40 rfl
theorem dX12_walk_78 : decode cX12_walk 78 = .ok (.iconst 0, 1) := dk_get kX12_walk_ok 41 rfl
theorem dX12_walk_79 : decode cX12_walk 79 = .ok (.istore 7, 2) := dk_get kX12_walk_ok 42 rfl
theorem dX12_walk_81 : decode cX12_walk 81 = .ok (.aload_n 0, 1) := dk_get kX12_walk_ok 43 rfl
theorem dX12_walk_82 : decode cX12_walk 82 = .ok (.getfield 144, 3) := dk_get kX12_walk_ok 44 rfl
theorem dX12_walk_85 : decode cX12_walk 85 = .ok (.iload 4, 2) := dk_get kX12_walk_ok 45 rfl
theorem dX12_walk_87 : decode cX12_walk 87 = .ok (.iload 7, 2) := dk_get kX12_walk_ok 46 rfl
theorem dX12_walk_89 : decode cX12_walk 89 = .ok (.ifCond .eq 7, 3) := dk_get kX12_walk_ok 47 rfl
theorem dX12_walk_92 : decode cX12_walk 92 = .ok (.iconst 1, 1) := dk_get kX12_walk_ok 48 rfl
theorem dX12_walk_93 : decode cX12_walk 93 = .ok (.goto 12, 3) := dk_get kX12_walk_ok 49 rfl
theorem dX12_walk_96 : decode cX12_walk 96 = .ok (.aload_n 0, 1) := dk_get kX12_walk_ok 50 rfl
theorem dX12_walk_97 : decode cX12_walk 97 = .ok (.getfield 144, 3) := dk_get kX12_walk_ok 51 rfl
theorem dX12_walk_100 : decode cX12_walk 100 = .ok (.iload 4, 2) := dk_get kX12_walk_ok 52 rfl
theorem dX12_walk_102 : decode cX12_walk 102 = .ok (.iaload, 1) := dk_get kX12_walk_ok 53 rfl
theorem dX12_walk_103 : decode cX12_walk 103 = .ok (.iconst 1, 1) := dk_get kX12_walk_ok 54 rfl
theorem dX12_walk_104 : decode cX12_walk 104 = .ok (.iadd, 1) := dk_get kX12_walk_ok 55 rfl
theorem dX12_walk_105 : decode cX12_walk 105 = .ok (.iastore, 1) := dk_get kX12_walk_ok 56 rfl
theorem dX12_walk_106 : decode cX12_walk 106 = .ok (.aload_n 0, 1) := dk_get kX12_walk_ok 57 rfl
theorem dX12_walk_107 : decode cX12_walk 107 = .ok (.dup, 1) := dk_get kX12_walk_ok 58 rfl
theorem dX12_walk_108 : decode cX12_walk 108 = .ok (.getfield 477, 3) := dk_get kX12_walk_ok 59 rfl
theorem dX12_walk_111 : decode cX12_walk 111 = .ok (.iload 7, 2) := dk_get kX12_walk_ok 60 rfl
theorem dX12_walk_113 : decode cX12_walk 113 = .ok (.ifCond .eq 7, 3) := dk_get kX12_walk_ok 61 rfl
theorem dX12_walk_116 : decode cX12_walk 116 = .ok (.iconst 1, 1) := dk_get kX12_walk_ok 62 rfl
theorem dX12_walk_117 : decode cX12_walk 117 = .ok (.goto 4, 3) := dk_get kX12_walk_ok 63 rfl
theorem dX12_walk_120 : decode cX12_walk 120 = .ok (.iconst 0, 1) := dk_get kX12_walk_ok 64 rfl
theorem dX12_walk_121 : decode cX12_walk 121 = .ok (.iadd, 1) := dk_get kX12_walk_ok 65 rfl
theorem dX12_walk_122 : decode cX12_walk 122 = .ok (.putfield 477, 3) := dk_get kX12_walk_ok 66 rfl
theorem dX12_walk_125 : decode cX12_walk 125 = .ok (.aload_n 0, 1) := dk_get kX12_walk_ok 67 rfl
theorem dX12_walk_126 : decode cX12_walk 126 = .ok (.iload_n 1, 1) := dk_get kX12_walk_ok 68 rfl
theorem dX12_walk_127 : decode cX12_walk 127 = .ok (.iconst 1, 1) := dk_get kX12_walk_ok 69 rfl
theorem dX12_walk_128 : decode cX12_walk 128 = .ok (.iadd, 1) := dk_get kX12_walk_ok 70 rfl
theorem dX12_walk_129 : decode cX12_walk 129 = .ok (.lload_n 2, 1) := dk_get kX12_walk_ok 71 rfl
theorem dX12_walk_130 : decode cX12_walk 130 = .ok (.lload 5, 2) := dk_get kX12_walk_ok 72 rfl
theorem dX12_walk_132 : decode cX12_walk 132 = .ok (.ladd, 1) := dk_get kX12_walk_ok 73 rfl
theorem dX12_walk_133 : decode cX12_walk 133 = .ok (.invokevirtual 510, 3) := dk_get kX12_walk_ok 74 rfl
theorem dX12_walk_136 : decode cX12_walk 136 = .ok (.aload_n 0, 1) := dk_get kX12_walk_ok 75 rfl
theorem dX12_walk_137 : decode cX12_walk 137 = .ok (.dup, 1) := dk_get kX12_walk_ok 76 rfl
theorem dX12_walk_138 : decode cX12_walk 138 = .ok (.getfield 477, 3) := dk_get kX12_walk_ok 77 rfl
theorem dX12_walk_141 : decode cX12_walk 141 = .ok (.iload 7, 2) := dk_get kX12_walk_ok 78 rfl
theorem dX12_walk_143 : decode cX12_walk 143 = .ok (.ifCond .eq 7, 3) := dk_get kX12_walk_ok 79 rfl
theorem dX12_walk_146 : decode cX12_walk 146 = .ok (.iconst 1, 1) := dk_get kX12_walk_ok 80 rfl
theorem dX12_walk_147 : decode cX12_walk 147 = .ok (.goto 4, 3) := dk_get kX12_walk_ok 81 rfl
theorem dX12_walk_150 : decode cX12_walk 150 = .ok (.iconst 0, 1) := dk_get kX12_walk_ok 82 rfl
theorem dX12_walk_151 : decode cX12_walk 151 = .ok (.isub, 1) := dk_get kX12_walk_ok 83 rfl
theorem dX12_walk_152 : decode cX12_walk 152 = .ok (.putfield 477, 3) := dk_get kX12_walk_ok 84 rfl
theorem dX12_walk_155 : decode cX12_walk 155 = .ok (.aload_n 0, 1) := dk_get kX12_walk_ok 85 rfl
theorem dX12_walk_156 : decode cX12_walk 156 = .ok (.getfield 144, 3) := dk_get kX12_walk_ok 86 rfl
theorem dX12_walk_159 : decode cX12_walk 159 = .ok (.iload 4, 2) := dk_get kX12_walk_ok 87 rfl
theorem dX12_walk_161 : decode cX12_walk 161 = .ok (.dup2, 1) := dk_get kX12_walk_ok 88 rfl
theorem dX12_walk_162 : decode cX12_walk 162 = .ok (.iaload, 1) := dk_get kX12_walk_ok 89 rfl
theorem dX12_walk_163 : decode cX12_walk 163 = .ok (.iconst 1, 1) := dk_get kX12_walk_ok 90 rfl
theorem dX12_walk_164 : decode cX12_walk 164 = .ok (.isub, 1) := dk_get kX12_walk_ok 91 rfl
theorem dX12_walk_165 : decode cX12_walk 165 = .ok (.iastore, 1) := dk_get kX12_walk_ok 92 rfl
theorem dX12_walk_166 : decode cX12_walk 166 = .ok (.iinc 4 1, 3) := dk_get kX12_walk_ok 93 rfl
theorem dX12_walk_169 : decode cX12_walk 169 = .ok (.goto (-143), 3) := dk_get kX12_walk_ok 94 rfl
theorem dX12_walk_172 : decode cX12_walk 172 = .ok (.return_, 1) := dk_get kX12_walk_ok 95 rfl
def kX12_maskNow : List (Nat × Instr × Nat) := [(0, .lconst 0, 1), (1, .lstore_n 1, 1), (2, .iconst 0, 1), (3, .istore_n 3, 1), (4, .iload_n 3, 1), (5, .aload_n 0, 1), (6, .getfield 194, 3), (9, .if_icmp .ge 56, 3), (12, .iload_n 3, 1), (13, .iconst 1, 1), (14, .iadd, 1), (15, .istore 4, 2), (17, .iload 4, 2), (19, .aload_n 0, 1), (20, .getfield 194, 3), (23, .if_icmp .ge 36, 3), (26, .aload_n 0, 1), (27, .getfield 141, 3), (30, .iload_n 3, 1), (31, .iaload, 1), (32, .aload_n 0, 1), (33, .getfield 141, 3), (36, .iload 4, 2), (38, .iaload, 1), (39, .if_icmp .ne 14, 3), (42, .lload_n 1, 1), (43, .lconst 1, 1), (44, .iload_n 3, 1), (45, .iload 4, 2), (47, .invokestatic 514, 3), (50, .lshl, 1), (51, .lor, 1), (52, .lstore_n 1, 1), (53, .iinc 4 1, 3), (56, .goto (-39), 3), (59, .iinc 3 1, 3), (62, .goto (-58), 3), (65, .lload_n 1, 1), (66, .lreturn, 1)]
set_option maxRecDepth 100000 in
theorem kX12_maskNow_ok : kX12_maskNow.all (fun q => decide (decode cX12_maskNow q.1 = .ok q.2)) = true := by decide +kernel
theorem dX12_maskNow_0 : decode cX12_maskNow 0 = .ok (.lconst 0, 1) := dk_get kX12_maskNow_ok 0 rfl
theorem dX12_maskNow_1 : decode cX12_maskNow 1 = .ok (.lstore_n 1, 1) := dk_get kX12_maskNow_ok 1 rfl
theorem dX12_maskNow_2 : decode cX12_maskNow 2 = .ok (.iconst 0, 1) := dk_get kX12_maskNow_ok 2 rfl
theorem dX12_maskNow_3 : decode cX12_maskNow 3 = .ok (.istore_n 3, 1) := dk_get kX12_maskNow_ok 3 rfl
theorem dX12_maskNow_4 : decode cX12_maskNow 4 = .ok (.iload_n 3, 1) := dk_get kX12_maskNow_ok 4 rfl
theorem dX12_maskNow_5 : decode cX12_maskNow 5 = .ok (.aload_n 0, 1) := dk_get kX12_maskNow_ok 5 rfl
theorem dX12_maskNow_6 : decode cX12_maskNow 6 = .ok (.getfield 194, 3) := dk_get kX12_maskNow_ok 6 rfl
theorem dX12_maskNow_9 : decode cX12_maskNow 9 = .ok (.if_icmp .ge 56, 3) := dk_get kX12_maskNow_ok 7 rfl
theorem dX12_maskNow_12 : decode cX12_maskNow 12 = .ok (.iload_n 3, 1) := dk_get kX12_maskNow_ok 8 rfl
theorem dX12_maskNow_13 : decode cX12_maskNow 13 = .ok (.iconst 1, 1) := dk_get kX12_maskNow_ok 9 rfl
theorem dX12_maskNow_14 : decode cX12_maskNow 14 = .ok (.iadd, 1) := dk_get kX12_maskNow_ok 10 rfl
theorem dX12_maskNow_15 : decode cX12_maskNow 15 = .ok (.istore 4, 2) := dk_get kX12_maskNow_ok 11 rfl
theorem dX12_maskNow_17 : decode cX12_maskNow 17 = .ok (.iload 4, 2) := dk_get kX12_maskNow_ok 12 rfl
theorem dX12_maskNow_19 : decode cX12_maskNow 19 = .ok (.aload_n 0, 1) := dk_get kX12_maskNow_ok 13 rfl
theorem dX12_maskNow_20 : decode cX12_maskNow 20 = .ok (.getfield 194, 3) := dk_get kX12_maskNow_ok 14 rfl
theorem dX12_maskNow_23 : decode cX12_maskNow 23 = .ok (.if_icmp .ge 36, 3) := dk_get kX12_maskNow_ok 15 rfl
theorem dX12_maskNow_26 : decode cX12_maskNow 26 = .ok (.aload_n 0, 1) := dk_get kX12_maskNow_ok 16 rfl
theorem dX12_maskNow_27 : decode cX12_maskNow 27 = .ok (.getfield 141, 3) := dk_get kX12_maskNow_ok 17 rfl
theorem dX12_maskNow_30 : decode cX12_maskNow 30 = .ok (.iload_n 3, 1) := dk_get kX12_maskNow_ok 18 rfl
theorem dX12_maskNow_31 : decode cX12_maskNow 31 = .ok (.iaload, 1) := dk_get kX12_maskNow_ok 19 rfl
theorem dX12_maskNow_32 : decode cX12_maskNow 32 = .ok (.aload_n 0, 1) := dk_get kX12_maskNow_ok 20 rfl
theorem dX12_maskNow_33 : decode cX12_maskNow 33 = .ok (.getfield 141, 3) := dk_get kX12_maskNow_ok 21 rfl
theorem dX12_maskNow_36 : decode cX12_maskNow 36 = .ok (.iload 4, 2) := dk_get kX12_maskNow_ok 22 rfl
theorem dX12_maskNow_38 : decode cX12_maskNow 38 = .ok (.iaload, 1) := dk_get kX12_maskNow_ok 23 rfl
theorem dX12_maskNow_39 : decode cX12_maskNow 39 = .ok (.if_icmp .ne 14, 3) := dk_get kX12_maskNow_ok 24 rfl
theorem dX12_maskNow_42 : decode cX12_maskNow 42 = .ok (.lload_n 1, 1) := dk_get kX12_maskNow_ok 25 rfl
theorem dX12_maskNow_43 : decode cX12_maskNow 43 = .ok (.lconst 1, 1) := dk_get kX12_maskNow_ok 26 rfl
theorem dX12_maskNow_44 : decode cX12_maskNow 44 = .ok (.iload_n 3, 1) := dk_get kX12_maskNow_ok 27 rfl
theorem dX12_maskNow_45 : decode cX12_maskNow 45 = .ok (.iload 4, 2) := dk_get kX12_maskNow_ok 28 rfl
theorem dX12_maskNow_47 : decode cX12_maskNow 47 = .ok (.invokestatic 514, 3) := dk_get kX12_maskNow_ok 29 rfl
theorem dX12_maskNow_50 : decode cX12_maskNow 50 = .ok (.lshl, 1) := dk_get kX12_maskNow_ok 30 rfl
theorem dX12_maskNow_51 : decode cX12_maskNow 51 = .ok (.lor, 1) := dk_get kX12_maskNow_ok 31 rfl
theorem dX12_maskNow_52 : decode cX12_maskNow 52 = .ok (.lstore_n 1, 1) := dk_get kX12_maskNow_ok 32 rfl
theorem dX12_maskNow_53 : decode cX12_maskNow 53 = .ok (.iinc 4 1, 3) := dk_get kX12_maskNow_ok 33 rfl
theorem dX12_maskNow_56 : decode cX12_maskNow 56 = .ok (.goto (-39), 3) := dk_get kX12_maskNow_ok 34 rfl
theorem dX12_maskNow_59 : decode cX12_maskNow 59 = .ok (.iinc 3 1, 3) := dk_get kX12_maskNow_ok 35 rfl
theorem dX12_maskNow_62 : decode cX12_maskNow 62 = .ok (.goto (-58), 3) := dk_get kX12_maskNow_ok 36 rfl
theorem dX12_maskNow_65 : decode cX12_maskNow 65 = .ok (.lload_n 1, 1) := dk_get kX12_maskNow_ok 37 rfl
theorem dX12_maskNow_66 : decode cX12_maskNow 66 = .ok (.lreturn, 1) := dk_get kX12_maskNow_ok 38 rfl
def kX12_bitOf : List (Nat × Instr × Nat) := [(0, .iload_n 1, 1), (1, .iload_n 1, 1), (2, .iconst 1, 1), (3, .isub, 1), (4, .imul, 1), (5, .iconst 2, 1), (6, .idiv, 1), (7, .iload_n 0, 1), (8, .iadd, 1), (9, .ireturn, 1)]
set_option maxRecDepth 100000 in
theorem kX12_bitOf_ok : kX12_bitOf.all (fun q => decide (decode cX12_bitOf q.1 = .ok q.2)) = true := by decide +kernel
theorem dX12_bitOf_0 : decode cX12_bitOf 0 = .ok (.iload_n 1, 1) := dk_get kX12_bitOf_ok 0 rfl
theorem dX12_bitOf_1 : decode cX12_bitOf 1 = .ok (.iload_n 1, 1) := dk_get kX12_bitOf_ok 1 rfl
theorem dX12_bitOf_2 : decode cX12_bitOf 2 = .ok (.iconst 1, 1) := dk_get kX12_bitOf_ok 2 rfl
theorem dX12_bitOf_3 : decode cX12_bitOf 3 = .ok (.isub, 1) := dk_get kX12_bitOf_ok 3 rfl
theorem dX12_bitOf_4 : decode cX12_bitOf 4 = .ok (.imul, 1) := dk_get kX12_bitOf_ok 4 rfl
theorem dX12_bitOf_5 : decode cX12_bitOf 5 = .ok (.iconst 2, 1) := dk_get kX12_bitOf_ok 5 rfl
theorem dX12_bitOf_6 : decode cX12_bitOf 6 = .ok (.idiv, 1) := dk_get kX12_bitOf_ok 6 rfl
theorem dX12_bitOf_7 : decode cX12_bitOf 7 = .ok (.iload_n 0, 1) := dk_get kX12_bitOf_ok 7 rfl
theorem dX12_bitOf_8 : decode cX12_bitOf 8 = .ok (.iadd, 1) := dk_get kX12_bitOf_ok 8 rfl
theorem dX12_bitOf_9 : decode cX12_bitOf 9 = .ok (.ireturn, 1) := dk_get kX12_bitOf_ok 9 rfl
def kX12_leaf_0 : List (Nat × Instr × Nat) := [(0, .aload_n 0, 1), (1, .getfield 480, 3), (4, .ifCond .ne 144, 3), (7, .aload_n 0, 1), (8, .getfield 483, 3), (11, .lconst 0, 1), (12, .lcmp, 1), (13, .ifCond .lt 12, 3), (16, .lload_n 1, 1), (17, .aload_n 0, 1), (18, .getfield 483, 3), (21, .lcmp, 1), (22, .ifCond .ge 58, 3), (25, .aload_n 0, 1), (26, .lload_n 1, 1), (27, .putfield 483, 3), (30, .aload_n 0, 1), (31, .iconst 0, 1), (32, .putfield 517, 3), (35, .aload_n 0, 1), (36, .iconst 0, 1), (37, .putfield 520, 3), (40, .aload_n 0, 1), (41, .ldc2_w 468, 3), (44, .putfield 523, 3), (47, .aload_n 0, 1), (48, .lconst 0, 1), (49, .putfield 526, 3), (52, .iconst 0, 1), (53, .istore_n 3, 1), (54, .iload_n 3, 1), (55, .aload_n 0, 1), (56, .getfield 194, 3), (59, .if_icmp .ge 21, 3), (62, .aload_n 0, 1), (63, .getfield 147, 3), (66, .iload_n 3, 1), (67, .aload_n 0, 1), (68, .getfield 141, 3), (71, .iload_n 3, 1), (72, .iaload, 1), (73, .iastore, 1), (74, .iinc 3 1, 3), (77, .goto (-23), 3), (80, .aload_n 0, 1), (81, .invokevirtual 529, 3), (84, .lstore_n 3, 1), (85, .aload_n 0, 1), (86, .dup, 1), (87, .getfield 517, 3), (90, .iconst 1, 1), (91, .iadd, 1), (92, .putfield 517, 3), (95, .aload_n 0, 1), (96, .dup, 1), (97, .getfield 523, 3), (100, .lload_n 3, 1), (101, .land, 1), (102, .putfield 523, 3), (105, .aload_n 0, 1), (106, .dup, 1), (107, .getfield 526, 3), (110, .lload_n 3, 1), (111, .lor, 1), (112, .putfield 526, 3), (115, .aload_n 0, 1), (116, .getfield 520, 3), (119, .sipush 200, 3), (122, .if_icmp .ge 13, 3), (125, .aload_n 0, 1), (126, .getfield 153, 3), (129, .aload_n 0, 1), (130, .getfield 520, 3), (133, .lload_n 3, 1), (134, .lastore, 1), (135, .aload_n 0, 1), (136, .dup, 1), (137, .getfield 520, 3), (140, .iconst 1, 1), (141, .iadd, 1), (142, .putfield 520, 3), (145, .goto 255, 3), (148, .aload_n 0, 1), (149, .getfield 480, 3), (152, .iconst 1, 1), (153, .if_icmp .ne 87, 3), (156, .aload_n 0, 1), (157, .getfield 141, 3), (160, .aload_n 0, 1), (161, .getfield 532, 3), (164, .iaload, 1), (165, .aload_n 0, 1), (166, .getfield 141, 3), (169, .aload_n 0, 1), (170, .getfield 535, 3), (173, .iaload, 1), (174, .if_icmp .ne 7, 3), (177, .iconst 1, 1), (178, .goto 4, 3), (181, .iconst 0, 1), (182, .istore_n 3, 1), (183, .iload_n 3, 1), (184, .ifCond .eq 26, 3), (187, .aload_n 0, 1), (188, .getfield 489, 3), (191, .lconst 0, 1), (192, .lcmp, 1), (193, .ifCond .lt 12, 3), (196, .lload_n 1, 1), (197, .aload_n 0, 1), (198, .getfield 489, 3), (201, .lcmp, 1), (202, .ifCond .ge 8, 3), (205, .aload_n 0, 1), (206, .lload_n 1, 1), (207, .putfield 489, 3), (210, .iload_n 3, 1), (211, .ifCond .ne 26, 3), (214, .aload_n 0, 1), (215, .getfield 486, 3)]
set_option maxRecDepth 100000 in
theorem kX12_leaf_0_ok : kX12_leaf_0.all (fun q => decide (decode cX12_leaf q.1 = .ok q.2)) = true := by decide +kernel
theorem dX12_leaf_0 : decode cX12_leaf 0 = .ok (.aload_n 0, 1) := dk_get kX12_leaf_0_ok 0 rfl
theorem dX12_leaf_1 : decode cX12_leaf 1 = .ok (.getfield 480, 3) := dk_get kX12_leaf_0_ok 1 rfl
theorem dX12_leaf_4 : decode cX12_leaf 4 = .ok (.ifCond .ne 144, 3) := dk_get kX12_leaf_0_ok 2 rfl
theorem dX12_leaf_7 : decode cX12_leaf 7 = .ok (.aload_n 0, 1) := dk_get kX12_leaf_0_ok 3 rfl
theorem dX12_leaf_8 : decode cX12_leaf 8 = .ok (.getfield 483, 3) := dk_get kX12_leaf_0_ok 4 rfl
theorem dX12_leaf_11 : decode cX12_leaf 11 = .ok (.lconst 0, 1) := dk_get kX12_leaf_0_ok 5 rfl
theorem dX12_leaf_12 : decode cX12_leaf 12 = .ok (.lcmp, 1) := dk_get kX12_leaf_0_ok 6 rfl
theorem dX12_leaf_13 : decode cX12_leaf 13 = .ok (.ifCond .lt 12, 3) := dk_get kX12_leaf_0_ok 7 rfl
theorem dX12_leaf_16 : decode cX12_leaf 16 = .ok (.lload_n 1, 1) := dk_get kX12_leaf_0_ok 8 rfl
theorem dX12_leaf_17 : decode cX12_leaf 17 = .ok (.aload_n 0, 1) := dk_get kX12_leaf_0_ok 9 rfl
theorem dX12_leaf_18 : decode cX12_leaf 18 = .ok (.getfield 483, 3) := dk_get kX12_leaf_0_ok 10 rfl
theorem dX12_leaf_21 : decode cX12_leaf 21 = .ok (.lcmp, 1) := dk_get kX12_leaf_0_ok 11 rfl
theorem dX12_leaf_22 : decode cX12_leaf 22 = .ok (.ifCond .ge 58, 3) := dk_get kX12_leaf_0_ok 12 rfl
theorem dX12_leaf_25 : decode cX12_leaf 25 = .ok (.aload_n 0, 1) := dk_get kX12_leaf_0_ok 13 rfl
theorem dX12_leaf_26 : decode cX12_leaf 26 = .ok (.lload_n 1, 1) := dk_get kX12_leaf_0_ok 14 rfl
theorem dX12_leaf_27 : decode cX12_leaf 27 = .ok (.putfield 483, 3) := dk_get kX12_leaf_0_ok 15 rfl
theorem dX12_leaf_30 : decode cX12_leaf 30 = .ok (.aload_n 0, 1) := dk_get kX12_leaf_0_ok 16 rfl
theorem dX12_leaf_31 : decode cX12_leaf 31 = .ok (.iconst 0, 1) := dk_get kX12_leaf_0_ok 17 rfl
theorem dX12_leaf_32 : decode cX12_leaf 32 = .ok (.putfield 517, 3) := dk_get kX12_leaf_0_ok 18 rfl
theorem dX12_leaf_35 : decode cX12_leaf 35 = .ok (.aload_n 0, 1) := dk_get kX12_leaf_0_ok 19 rfl
theorem dX12_leaf_36 : decode cX12_leaf 36 = .ok (.iconst 0, 1) := dk_get kX12_leaf_0_ok 20 rfl
theorem dX12_leaf_37 : decode cX12_leaf 37 = .ok (.putfield 520, 3) := dk_get kX12_leaf_0_ok 21 rfl
theorem dX12_leaf_40 : decode cX12_leaf 40 = .ok (.aload_n 0, 1) := dk_get kX12_leaf_0_ok 22 rfl
theorem dX12_leaf_41 : decode cX12_leaf 41 = .ok (.ldc2_w 468, 3) := dk_get kX12_leaf_0_ok 23 rfl
theorem dX12_leaf_44 : decode cX12_leaf 44 = .ok (.putfield 523, 3) := dk_get kX12_leaf_0_ok 24 rfl
theorem dX12_leaf_47 : decode cX12_leaf 47 = .ok (.aload_n 0, 1) := dk_get kX12_leaf_0_ok 25 rfl
theorem dX12_leaf_48 : decode cX12_leaf 48 = .ok (.lconst 0, 1) := dk_get kX12_leaf_0_ok 26 rfl
theorem dX12_leaf_49 : decode cX12_leaf 49 = .ok (.putfield 526, 3) := dk_get kX12_leaf_0_ok 27 rfl
theorem dX12_leaf_52 : decode cX12_leaf 52 = .ok (.iconst 0, 1) := dk_get kX12_leaf_0_ok 28 rfl
theorem dX12_leaf_53 : decode cX12_leaf 53 = .ok (.istore_n 3, 1) := dk_get kX12_leaf_0_ok 29 rfl
theorem dX12_leaf_54 : decode cX12_leaf 54 = .ok (.iload_n 3, 1) := dk_get kX12_leaf_0_ok 30 rfl
theorem dX12_leaf_55 : decode cX12_leaf 55 = .ok (.aload_n 0, 1) := dk_get kX12_leaf_0_ok 31 rfl
theorem dX12_leaf_56 : decode cX12_leaf 56 = .ok (.getfield 194, 3) := dk_get kX12_leaf_0_ok 32 rfl
theorem dX12_leaf_59 : decode cX12_leaf 59 = .ok (.if_icmp .ge 21, 3) := dk_get kX12_leaf_0_ok 33 rfl
theorem dX12_leaf_62 : decode cX12_leaf 62 = .ok (.aload_n 0, 1) := dk_get kX12_leaf_0_ok 34 rfl
theorem dX12_leaf_63 : decode cX12_leaf 63 = .ok (.getfield 147, 3) := dk_get kX12_leaf_0_ok 35 rfl
theorem dX12_leaf_66 : decode cX12_leaf 66 = .ok (.iload_n 3, 1) := dk_get kX12_leaf_0_ok 36 rfl
theorem dX12_leaf_67 : decode cX12_leaf 67 = .ok (.aload_n 0, 1) := dk_get kX12_leaf_0_ok 37 rfl
theorem dX12_leaf_68 : decode cX12_leaf 68 = .ok (.getfield 141, 3) := dk_get kX12_leaf_0_ok 38 rfl
theorem dX12_leaf_71 : decode cX12_leaf 71 = .ok (.iload_n 3, 1) := dk_get kX12_leaf_0_ok 39 rfl
theorem dX12_leaf_72 : decode cX12_leaf 72 = .ok (.iaload, 1) := dk_get kX12_leaf_0_ok 40 rfl
theorem dX12_leaf_73 : decode cX12_leaf 73 = .ok (.iastore, 1) := dk_get kX12_leaf_0_ok 41 rfl
theorem dX12_leaf_74 : decode cX12_leaf 74 = .ok (.iinc 3 1, 3) := dk_get kX12_leaf_0_ok 42 rfl
theorem dX12_leaf_77 : decode cX12_leaf 77 = .ok (.goto (-23), 3) := dk_get kX12_leaf_0_ok 43 rfl
theorem dX12_leaf_80 : decode cX12_leaf 80 = .ok (.aload_n 0, 1) := dk_get kX12_leaf_0_ok 44 rfl
theorem dX12_leaf_81 : decode cX12_leaf 81 = .ok (.invokevirtual 529, 3) := dk_get kX12_leaf_0_ok 45 rfl
theorem dX12_leaf_84 : decode cX12_leaf 84 = .ok (.lstore_n 3, 1) := dk_get kX12_leaf_0_ok 46 rfl
theorem dX12_leaf_85 : decode cX12_leaf 85 = .ok (.aload_n 0, 1) := dk_get kX12_leaf_0_ok 47 rfl
theorem dX12_leaf_86 : decode cX12_leaf 86 = .ok (.dup, 1) := dk_get kX12_leaf_0_ok 48 rfl
theorem dX12_leaf_87 : decode cX12_leaf 87 = .ok (.getfield 517, 3) := dk_get kX12_leaf_0_ok 49 rfl
theorem dX12_leaf_90 : decode cX12_leaf 90 = .ok (.iconst 1, 1) := dk_get kX12_leaf_0_ok 50 rfl
theorem dX12_leaf_91 : decode cX12_leaf 91 = .ok (.iadd, 1) := dk_get kX12_leaf_0_ok 51 rfl
theorem dX12_leaf_92 : decode cX12_leaf 92 = .ok (.putfield 517, 3) := dk_get kX12_leaf_0_ok 52 rfl
theorem dX12_leaf_95 : decode cX12_leaf 95 = .ok (.aload_n 0, 1) := dk_get kX12_leaf_0_ok 53 rfl
theorem dX12_leaf_96 : decode cX12_leaf 96 = .ok (.dup, 1) := dk_get kX12_leaf_0_ok 54 rfl
theorem dX12_leaf_97 : decode cX12_leaf 97 = .ok (.getfield 523, 3) := dk_get kX12_leaf_0_ok 55 rfl
theorem dX12_leaf_100 : decode cX12_leaf 100 = .ok (.lload_n 3, 1) := dk_get kX12_leaf_0_ok 56 rfl
theorem dX12_leaf_101 : decode cX12_leaf 101 = .ok (.land, 1) := dk_get kX12_leaf_0_ok 57 rfl
theorem dX12_leaf_102 : decode cX12_leaf 102 = .ok (.putfield 523, 3) := dk_get kX12_leaf_0_ok 58 rfl
theorem dX12_leaf_105 : decode cX12_leaf 105 = .ok (.aload_n 0, 1) := dk_get kX12_leaf_0_ok 59 rfl
theorem dX12_leaf_106 : decode cX12_leaf 106 = .ok (.dup, 1) := dk_get kX12_leaf_0_ok 60 rfl
theorem dX12_leaf_107 : decode cX12_leaf 107 = .ok (.getfield 526, 3) := dk_get kX12_leaf_0_ok 61 rfl
theorem dX12_leaf_110 : decode cX12_leaf 110 = .ok (.lload_n 3, 1) := dk_get kX12_leaf_0_ok 62 rfl
theorem dX12_leaf_111 : decode cX12_leaf 111 = .ok (.lor, 1) := dk_get kX12_leaf_0_ok 63 rfl
theorem dX12_leaf_112 : decode cX12_leaf 112 = .ok (.putfield 526, 3) := dk_get kX12_leaf_0_ok 64 rfl
theorem dX12_leaf_115 : decode cX12_leaf 115 = .ok (.aload_n 0, 1) := dk_get kX12_leaf_0_ok 65 rfl
theorem dX12_leaf_116 : decode cX12_leaf 116 = .ok (.getfield 520, 3) := dk_get kX12_leaf_0_ok 66 rfl
theorem dX12_leaf_119 : decode cX12_leaf 119 = .ok (.sipush 200, 3) := dk_get kX12_leaf_0_ok 67 rfl
theorem dX12_leaf_122 : decode cX12_leaf 122 = .ok (.if_icmp .ge 13, 3) := dk_get kX12_leaf_0_ok 68 rfl
theorem dX12_leaf_125 : decode cX12_leaf 125 = .ok (.aload_n 0, 1) := dk_get kX12_leaf_0_ok 69 rfl
theorem dX12_leaf_126 : decode cX12_leaf 126 = .ok (.getfield 153, 3) := dk_get kX12_leaf_0_ok 70 rfl
theorem dX12_leaf_129 : decode cX12_leaf 129 = .ok (.aload_n 0, 1) := dk_get kX12_leaf_0_ok 71 rfl
theorem dX12_leaf_130 : decode cX12_leaf 130 = .ok (.getfield 520, 3) := dk_get kX12_leaf_0_ok 72 rfl
theorem dX12_leaf_133 : decode cX12_leaf 133 = .ok (.lload_n 3, 1) := dk_get kX12_leaf_0_ok 73 rfl
theorem dX12_leaf_134 : decode cX12_leaf 134 = .ok (.lastore, 1) := dk_get kX12_leaf_0_ok 74 rfl
theorem dX12_leaf_135 : decode cX12_leaf 135 = .ok (.aload_n 0, 1) := dk_get kX12_leaf_0_ok 75 rfl
theorem dX12_leaf_136 : decode cX12_leaf 136 = .ok (.dup, 1) := dk_get kX12_leaf_0_ok 76 rfl
theorem dX12_leaf_137 : decode cX12_leaf 137 = .ok (.getfield 520, 3) := dk_get kX12_leaf_0_ok 77 rfl
theorem dX12_leaf_140 : decode cX12_leaf 140 = .ok (.iconst 1, 1) := dk_get kX12_leaf_0_ok 78 rfl
theorem dX12_leaf_141 : decode cX12_leaf 141 = .ok (.iadd, 1) := dk_get kX12_leaf_0_ok 79 rfl
theorem dX12_leaf_142 : decode cX12_leaf 142 = .ok (.putfield 520, 3) := dk_get kX12_leaf_0_ok 80 rfl
theorem dX12_leaf_145 : decode cX12_leaf 145 = .ok (.goto 255, 3) := dk_get kX12_leaf_0_ok 81 rfl
theorem dX12_leaf_148 : decode cX12_leaf 148 = .ok (.aload_n 0, 1) := dk_get kX12_leaf_0_ok 82 rfl
theorem dX12_leaf_149 : decode cX12_leaf 149 = .ok (.getfield 480, 3) := dk_get kX12_leaf_0_ok 83 rfl
theorem dX12_leaf_152 : decode cX12_leaf 152 = .ok (.iconst 1, 1) := dk_get kX12_leaf_0_ok 84 rfl
theorem dX12_leaf_153 : decode cX12_leaf 153 = .ok (.if_icmp .ne 87, 3) := dk_get kX12_leaf_0_ok 85 rfl
theorem dX12_leaf_156 : decode cX12_leaf 156 = .ok (.aload_n 0, 1) := dk_get kX12_leaf_0_ok 86 rfl
theorem dX12_leaf_157 : decode cX12_leaf 157 = .ok (.getfield 141, 3) := dk_get kX12_leaf_0_ok 87 rfl
theorem dX12_leaf_160 : decode cX12_leaf 160 = .ok (.aload_n 0, 1) := dk_get kX12_leaf_0_ok 88 rfl
theorem dX12_leaf_161 : decode cX12_leaf 161 = .ok (.getfield 532, 3) := dk_get kX12_leaf_0_ok 89 rfl
theorem dX12_leaf_164 : decode cX12_leaf 164 = .ok (.iaload, 1) := dk_get kX12_leaf_0_ok 90 rfl
theorem dX12_leaf_165 : decode cX12_leaf 165 = .ok (.aload_n 0, 1) := dk_get kX12_leaf_0_ok 91 rfl
theorem dX12_leaf_166 : decode cX12_leaf 166 = .ok (.getfield 141, 3) := dk_get kX12_leaf_0_ok 92 rfl
theorem dX12_leaf_169 : decode cX12_leaf 169 = .ok (.aload_n 0, 1) := dk_get kX12_leaf_0_ok 93 rfl
theorem dX12_leaf_170 : decode cX12_leaf 170 = .ok (.getfield 535, 3) := dk_get kX12_leaf_0_ok 94 rfl
theorem dX12_leaf_173 : decode cX12_leaf 173 = .ok (.iaload, 1) := dk_get kX12_leaf_0_ok 95 rfl
theorem dX12_leaf_174 : decode cX12_leaf 174 = .ok (.if_icmp .ne 7, 3) := dk_get kX12_leaf_0_ok 96 rfl
theorem dX12_leaf_177 : decode cX12_leaf 177 = .ok (.iconst 1, 1) := dk_get kX12_leaf_0_ok 97 rfl
theorem dX12_leaf_178 : decode cX12_leaf 178 = .ok (.goto 4, 3) := dk_get kX12_leaf_0_ok 98 rfl
theorem dX12_leaf_181 : decode cX12_leaf 181 = .ok (.iconst 0, 1) := dk_get kX12_leaf_0_ok 99 rfl
theorem dX12_leaf_182 : decode cX12_leaf 182 = .ok (.istore_n 3, 1) := dk_get kX12_leaf_0_ok 100 rfl
theorem dX12_leaf_183 : decode cX12_leaf 183 = .ok (.iload_n 3, 1) := dk_get kX12_leaf_0_ok 101 rfl
theorem dX12_leaf_184 : decode cX12_leaf 184 = .ok (.ifCond .eq 26, 3) := dk_get kX12_leaf_0_ok 102 rfl
theorem dX12_leaf_187 : decode cX12_leaf 187 = .ok (.aload_n 0, 1) := dk_get kX12_leaf_0_ok 103 rfl
theorem dX12_leaf_188 : decode cX12_leaf 188 = .ok (.getfield 489, 3) := dk_get kX12_leaf_0_ok 104 rfl
theorem dX12_leaf_191 : decode cX12_leaf 191 = .ok (.lconst 0, 1) := dk_get kX12_leaf_0_ok 105 rfl
theorem dX12_leaf_192 : decode cX12_leaf 192 = .ok (.lcmp, 1) := dk_get kX12_leaf_0_ok 106 rfl
theorem dX12_leaf_193 : decode cX12_leaf 193 = .ok (.ifCond .lt 12, 3) := dk_get kX12_leaf_0_ok 107 rfl
theorem dX12_leaf_196 : decode cX12_leaf 196 = .ok (.lload_n 1, 1) := dk_get kX12_leaf_0_ok 108 rfl
theorem dX12_leaf_197 : decode cX12_leaf 197 = .ok (.aload_n 0, 1) := dk_get kX12_leaf_0_ok 109 rfl
theorem dX12_leaf_198 : decode cX12_leaf 198 = .ok (.getfield 489, 3) := dk_get kX12_leaf_0_ok 110 rfl
theorem dX12_leaf_201 : decode cX12_leaf 201 = .ok (.lcmp, 1) := dk_get kX12_leaf_0_ok 111 rfl
theorem dX12_leaf_202 : decode cX12_leaf 202 = .ok (.ifCond .ge 8, 3) := dk_get kX12_leaf_0_ok 112 rfl
theorem dX12_leaf_205 : decode cX12_leaf 205 = .ok (.aload_n 0, 1) := dk_get kX12_leaf_0_ok 113 rfl
theorem dX12_leaf_206 : decode cX12_leaf 206 = .ok (.lload_n 1, 1) := dk_get kX12_leaf_0_ok 114 rfl
theorem dX12_leaf_207 : decode cX12_leaf 207 = .ok (.putfield 489, 3) := dk_get kX12_leaf_0_ok 115 rfl
theorem dX12_leaf_210 : decode cX12_leaf 210 = .ok (.iload_n 3, 1) := dk_get kX12_leaf_0_ok 116 rfl
theorem dX12_leaf_211 : decode cX12_leaf 211 = .ok (.ifCond .ne 26, 3) := dk_get kX12_leaf_0_ok 117 rfl
theorem dX12_leaf_214 : decode cX12_leaf 214 = .ok (.aload_n 0, 1) := dk_get kX12_leaf_0_ok 118 rfl
theorem dX12_leaf_215 : decode cX12_leaf 215 = .ok (.getfield 486, 3) := dk_get kX12_leaf_0_ok 119 rfl
def kX12_leaf_1 : List (Nat × Instr × Nat) := [(218, .lconst 0, 1), (219, .lcmp, 1), (220, .ifCond .lt 12, 3), (223, .lload_n 1, 1), (224, .aload_n 0, 1), (225, .getfield 486, 3), (228, .lcmp, 1), (229, .ifCond .ge 8, 3), (232, .aload_n 0, 1), (233, .lload_n 1, 1), (234, .putfield 486, 3), (237, .goto 163, 3), (240, .iconst 0, 1), (241, .istore_n 3, 1), (242, .iconst 0, 1), (243, .istore 4, 2), (245, .iload 4, 2), (247, .aload_n 0, 1), (248, .getfield 194, 3), (251, .if_icmp .ge 95, 3), (254, .iload 4, 2), (256, .iconst 1, 1), (257, .iadd, 1), (258, .istore 5, 2), (260, .iload 5, 2), (262, .aload_n 0, 1), (263, .getfield 194, 3), (266, .if_icmp .ge 74, 3), (269, .iload_n 3, 1), (270, .aload_n 0, 1), (271, .getfield 141, 3), (274, .iload 4, 2), (276, .iaload, 1), (277, .aload_n 0, 1), (278, .getfield 141, 3), (281, .iload 5, 2), (283, .iaload, 1), (284, .if_icmp .ne 7, 3), (287, .iconst 1, 1), (288, .goto 4, 3), (291, .iconst 0, 1), (292, .aload_n 0, 1), (293, .getfield 29, 3), (296, .aload_n 0, 1), (297, .getfield 138, 3), (300, .iload 4, 2), (302, .iaload, 1), (303, .iaload, 1), (304, .aload_n 0, 1), (305, .getfield 29, 3), (308, .aload_n 0, 1), (309, .getfield 138, 3), (312, .iload 5, 2), (314, .iaload, 1), (315, .iaload, 1), (316, .if_icmp .ne 7, 3), (319, .iconst 1, 1), (320, .goto 4, 3), (323, .iconst 0, 1), (324, .if_icmp .eq 7, 3), (327, .iconst 1, 1), (328, .goto 4, 3), (331, .iconst 0, 1), (332, .iadd, 1), (333, .istore_n 3, 1), (334, .iinc 5 1, 3), (337, .goto (-77), 3), (340, .iinc 4 1, 3), (343, .goto (-98), 3), (346, .aload_n 0, 1), (347, .getfield 538, 3), (350, .iconst (-1), 1), (351, .if_icmp .eq 12, 3), (354, .iload_n 3, 1), (355, .aload_n 0, 1), (356, .getfield 538, 3), (359, .if_icmp .lt 4, 3), (362, .return_, 1), (363, .aload_n 0, 1), (364, .iload_n 3, 1), (365, .putfield 538, 3), (368, .iconst 0, 1), (369, .istore 4, 2), (371, .iload 4, 2), (373, .aload_n 0, 1), (374, .getfield 194, 3), (377, .if_icmp .ge 23, 3), (380, .aload_n 0, 1), (381, .getfield 150, 3), (384, .iload 4, 2), (386, .aload_n 0, 1), (387, .getfield 141, 3), (390, .iload 4, 2), (392, .iaload, 1), (393, .iastore, 1), (394, .iinc 4 1, 3), (397, .goto (-26), 3), (400, .return_, 1)]
set_option maxRecDepth 100000 in
theorem kX12_leaf_1_ok : kX12_leaf_1.all (fun q => decide (decode cX12_leaf q.1 = .ok q.2)) = true := by decide +kernel
theorem dX12_leaf_218 : decode cX12_leaf 218 = .ok (.lconst 0, 1) := dk_get kX12_leaf_1_ok 0 rfl
theorem dX12_leaf_219 : decode cX12_leaf 219 = .ok (.lcmp, 1) := dk_get kX12_leaf_1_ok 1 rfl
theorem dX12_leaf_220 : decode cX12_leaf 220 = .ok (.ifCond .lt 12, 3) := dk_get kX12_leaf_1_ok 2 rfl
theorem dX12_leaf_223 : decode cX12_leaf 223 = .ok (.lload_n 1, 1) := dk_get kX12_leaf_1_ok 3 rfl
theorem dX12_leaf_224 : decode cX12_leaf 224 = .ok (.aload_n 0, 1) := dk_get kX12_leaf_1_ok 4 rfl
theorem dX12_leaf_225 : decode cX12_leaf 225 = .ok (.getfield 486, 3) := dk_get kX12_leaf_1_ok 5 rfl
theorem dX12_leaf_228 : decode cX12_leaf 228 = .ok (.lcmp, 1) := dk_get kX12_leaf_1_ok 6 rfl
theorem dX12_leaf_229 : decode cX12_leaf 229 = .ok (.ifCond .ge 8, 3) := dk_get kX12_leaf_1_ok 7 rfl
theorem dX12_leaf_232 : decode cX12_leaf 232 = .ok (.aload_n 0, 1) := dk_get kX12_leaf_1_ok 8 rfl
theorem dX12_leaf_233 : decode cX12_leaf 233 = .ok (.lload_n 1, 1) := dk_get kX12_leaf_1_ok 9 rfl
theorem dX12_leaf_234 : decode cX12_leaf 234 = .ok (.putfield 486, 3) := dk_get kX12_leaf_1_ok 10 rfl
theorem dX12_leaf_237 : decode cX12_leaf 237 = .ok (.goto 163, 3) := dk_get kX12_leaf_1_ok 11 rfl
theorem dX12_leaf_240 : decode cX12_leaf 240 = .ok (.iconst 0, 1) := dk_get kX12_leaf_1_ok 12 rfl
theorem dX12_leaf_241 : decode cX12_leaf 241 = .ok (.istore_n 3, 1) := dk_get kX12_leaf_1_ok 13 rfl
theorem dX12_leaf_242 : decode cX12_leaf 242 = .ok (.iconst 0, 1) := dk_get kX12_leaf_1_ok 14 rfl
theorem dX12_leaf_243 : decode cX12_leaf 243 = .ok (.istore 4, 2) := dk_get kX12_leaf_1_ok 15 rfl
theorem dX12_leaf_245 : decode cX12_leaf 245 = .ok (.iload 4, 2) := dk_get kX12_leaf_1_ok 16 rfl
theorem dX12_leaf_247 : decode cX12_leaf 247 = .ok (.aload_n 0, 1) := dk_get kX12_leaf_1_ok 17 rfl
theorem dX12_leaf_248 : decode cX12_leaf 248 = .ok (.getfield 194, 3) := dk_get kX12_leaf_1_ok 18 rfl
theorem dX12_leaf_251 : decode cX12_leaf 251 = .ok (.if_icmp .ge 95, 3) := dk_get kX12_leaf_1_ok 19 rfl
theorem dX12_leaf_254 : decode cX12_leaf 254 = .ok (.iload 4, 2) := dk_get kX12_leaf_1_ok 20 rfl
theorem dX12_leaf_256 : decode cX12_leaf 256 = .ok (.iconst 1, 1) := dk_get kX12_leaf_1_ok 21 rfl
theorem dX12_leaf_257 : decode cX12_leaf 257 = .ok (.iadd, 1) := dk_get kX12_leaf_1_ok 22 rfl
theorem dX12_leaf_258 : decode cX12_leaf 258 = .ok (.istore 5, 2) := dk_get kX12_leaf_1_ok 23 rfl
theorem dX12_leaf_260 : decode cX12_leaf 260 = .ok (.iload 5, 2) := dk_get kX12_leaf_1_ok 24 rfl
theorem dX12_leaf_262 : decode cX12_leaf 262 = .ok (.aload_n 0, 1) := dk_get kX12_leaf_1_ok 25 rfl
theorem dX12_leaf_263 : decode cX12_leaf 263 = .ok (.getfield 194, 3) := dk_get kX12_leaf_1_ok 26 rfl
theorem dX12_leaf_266 : decode cX12_leaf 266 = .ok (.if_icmp .ge 74, 3) := dk_get kX12_leaf_1_ok 27 rfl
theorem dX12_leaf_269 : decode cX12_leaf 269 = .ok (.iload_n 3, 1) := dk_get kX12_leaf_1_ok 28 rfl
theorem dX12_leaf_270 : decode cX12_leaf 270 = .ok (.aload_n 0, 1) := dk_get kX12_leaf_1_ok 29 rfl
theorem dX12_leaf_271 : decode cX12_leaf 271 = .ok (.getfield 141, 3) := dk_get kX12_leaf_1_ok 30 rfl
theorem dX12_leaf_274 : decode cX12_leaf 274 = .ok (.iload 4, 2) := dk_get kX12_leaf_1_ok 31 rfl
theorem dX12_leaf_276 : decode cX12_leaf 276 = .ok (.iaload, 1) := dk_get kX12_leaf_1_ok 32 rfl
theorem dX12_leaf_277 : decode cX12_leaf 277 = .ok (.aload_n 0, 1) := dk_get kX12_leaf_1_ok 33 rfl
theorem dX12_leaf_278 : decode cX12_leaf 278 = .ok (.getfield 141, 3) := dk_get kX12_leaf_1_ok 34 rfl
theorem dX12_leaf_281 : decode cX12_leaf 281 = .ok (.iload 5, 2) := dk_get kX12_leaf_1_ok 35 rfl
theorem dX12_leaf_283 : decode cX12_leaf 283 = .ok (.iaload, 1) := dk_get kX12_leaf_1_ok 36 rfl
theorem dX12_leaf_284 : decode cX12_leaf 284 = .ok (.if_icmp .ne 7, 3) := dk_get kX12_leaf_1_ok 37 rfl
theorem dX12_leaf_287 : decode cX12_leaf 287 = .ok (.iconst 1, 1) := dk_get kX12_leaf_1_ok 38 rfl
theorem dX12_leaf_288 : decode cX12_leaf 288 = .ok (.goto 4, 3) := dk_get kX12_leaf_1_ok 39 rfl
theorem dX12_leaf_291 : decode cX12_leaf 291 = .ok (.iconst 0, 1) := dk_get kX12_leaf_1_ok 40 rfl
theorem dX12_leaf_292 : decode cX12_leaf 292 = .ok (.aload_n 0, 1) := dk_get kX12_leaf_1_ok 41 rfl
theorem dX12_leaf_293 : decode cX12_leaf 293 = .ok (.getfield 29, 3) := dk_get kX12_leaf_1_ok 42 rfl
theorem dX12_leaf_296 : decode cX12_leaf 296 = .ok (.aload_n 0, 1) := dk_get kX12_leaf_1_ok 43 rfl
theorem dX12_leaf_297 : decode cX12_leaf 297 = .ok (.getfield 138, 3) := dk_get kX12_leaf_1_ok 44 rfl
theorem dX12_leaf_300 : decode cX12_leaf 300 = .ok (.iload 4, 2) := dk_get kX12_leaf_1_ok 45 rfl
theorem dX12_leaf_302 : decode cX12_leaf 302 = .ok (.iaload, 1) := dk_get kX12_leaf_1_ok 46 rfl
theorem dX12_leaf_303 : decode cX12_leaf 303 = .ok (.iaload, 1) := dk_get kX12_leaf_1_ok 47 rfl
theorem dX12_leaf_304 : decode cX12_leaf 304 = .ok (.aload_n 0, 1) := dk_get kX12_leaf_1_ok 48 rfl
theorem dX12_leaf_305 : decode cX12_leaf 305 = .ok (.getfield 29, 3) := dk_get kX12_leaf_1_ok 49 rfl
theorem dX12_leaf_308 : decode cX12_leaf 308 = .ok (.aload_n 0, 1) := dk_get kX12_leaf_1_ok 50 rfl
theorem dX12_leaf_309 : decode cX12_leaf 309 = .ok (.getfield 138, 3) := dk_get kX12_leaf_1_ok 51 rfl
theorem dX12_leaf_312 : decode cX12_leaf 312 = .ok (.iload 5, 2) := dk_get kX12_leaf_1_ok 52 rfl
theorem dX12_leaf_314 : decode cX12_leaf 314 = .ok (.iaload, 1) := dk_get kX12_leaf_1_ok 53 rfl
theorem dX12_leaf_315 : decode cX12_leaf 315 = .ok (.iaload, 1) := dk_get kX12_leaf_1_ok 54 rfl
theorem dX12_leaf_316 : decode cX12_leaf 316 = .ok (.if_icmp .ne 7, 3) := dk_get kX12_leaf_1_ok 55 rfl
theorem dX12_leaf_319 : decode cX12_leaf 319 = .ok (.iconst 1, 1) := dk_get kX12_leaf_1_ok 56 rfl
theorem dX12_leaf_320 : decode cX12_leaf 320 = .ok (.goto 4, 3) := dk_get kX12_leaf_1_ok 57 rfl
theorem dX12_leaf_323 : decode cX12_leaf 323 = .ok (.iconst 0, 1) := dk_get kX12_leaf_1_ok 58 rfl
theorem dX12_leaf_324 : decode cX12_leaf 324 = .ok (.if_icmp .eq 7, 3) := dk_get kX12_leaf_1_ok 59 rfl
theorem dX12_leaf_327 : decode cX12_leaf 327 = .ok (.iconst 1, 1) := dk_get kX12_leaf_1_ok 60 rfl
theorem dX12_leaf_328 : decode cX12_leaf 328 = .ok (.goto 4, 3) := dk_get kX12_leaf_1_ok 61 rfl
theorem dX12_leaf_331 : decode cX12_leaf 331 = .ok (.iconst 0, 1) := dk_get kX12_leaf_1_ok 62 rfl
theorem dX12_leaf_332 : decode cX12_leaf 332 = .ok (.iadd, 1) := dk_get kX12_leaf_1_ok 63 rfl
theorem dX12_leaf_333 : decode cX12_leaf 333 = .ok (.istore_n 3, 1) := dk_get kX12_leaf_1_ok 64 rfl
theorem dX12_leaf_334 : decode cX12_leaf 334 = .ok (.iinc 5 1, 3) := dk_get kX12_leaf_1_ok 65 rfl
theorem dX12_leaf_337 : decode cX12_leaf 337 = .ok (.goto (-77), 3) := dk_get kX12_leaf_1_ok 66 rfl
theorem dX12_leaf_340 : decode cX12_leaf 340 = .ok (.iinc 4 1, 3) := dk_get kX12_leaf_1_ok 67 rfl
theorem dX12_leaf_343 : decode cX12_leaf 343 = .ok (.goto (-98), 3) := dk_get kX12_leaf_1_ok 68 rfl
theorem dX12_leaf_346 : decode cX12_leaf 346 = .ok (.aload_n 0, 1) := dk_get kX12_leaf_1_ok 69 rfl
theorem dX12_leaf_347 : decode cX12_leaf 347 = .ok (.getfield 538, 3) := dk_get kX12_leaf_1_ok 70 rfl
theorem dX12_leaf_350 : decode cX12_leaf 350 = .ok (.iconst (-1), 1) := dk_get kX12_leaf_1_ok 71 rfl
theorem dX12_leaf_351 : decode cX12_leaf 351 = .ok (.if_icmp .eq 12, 3) := dk_get kX12_leaf_1_ok 72 rfl
theorem dX12_leaf_354 : decode cX12_leaf 354 = .ok (.iload_n 3, 1) := dk_get kX12_leaf_1_ok 73 rfl
theorem dX12_leaf_355 : decode cX12_leaf 355 = .ok (.aload_n 0, 1) := dk_get kX12_leaf_1_ok 74 rfl
theorem dX12_leaf_356 : decode cX12_leaf 356 = .ok (.getfield 538, 3) := dk_get kX12_leaf_1_ok 75 rfl
theorem dX12_leaf_359 : decode cX12_leaf 359 = .ok (.if_icmp .lt 4, 3) := dk_get kX12_leaf_1_ok 76 rfl
theorem dX12_leaf_362 : decode cX12_leaf 362 = .ok (.return_, 1) := dk_get kX12_leaf_1_ok 77 rfl
theorem dX12_leaf_363 : decode cX12_leaf 363 = .ok (.aload_n 0, 1) := dk_get kX12_leaf_1_ok 78 rfl
theorem dX12_leaf_364 : decode cX12_leaf 364 = .ok (.iload_n 3, 1) := dk_get kX12_leaf_1_ok 79 rfl
theorem dX12_leaf_365 : decode cX12_leaf 365 = .ok (.putfield 538, 3) := dk_get kX12_leaf_1_ok 80 rfl
theorem dX12_leaf_368 : decode cX12_leaf 368 = .ok (.iconst 0, 1) := dk_get kX12_leaf_1_ok 81 rfl
theorem dX12_leaf_369 : decode cX12_leaf 369 = .ok (.istore 4, 2) := dk_get kX12_leaf_1_ok 82 rfl
theorem dX12_leaf_371 : decode cX12_leaf 371 = .ok (.iload 4, 2) := dk_get kX12_leaf_1_ok 83 rfl
theorem dX12_leaf_373 : decode cX12_leaf 373 = .ok (.aload_n 0, 1) := dk_get kX12_leaf_1_ok 84 rfl
theorem dX12_leaf_374 : decode cX12_leaf 374 = .ok (.getfield 194, 3) := dk_get kX12_leaf_1_ok 85 rfl
theorem dX12_leaf_377 : decode cX12_leaf 377 = .ok (.if_icmp .ge 23, 3) := dk_get kX12_leaf_1_ok 86 rfl
theorem dX12_leaf_380 : decode cX12_leaf 380 = .ok (.aload_n 0, 1) := dk_get kX12_leaf_1_ok 87 rfl
theorem dX12_leaf_381 : decode cX12_leaf 381 = .ok (.getfield 150, 3) := dk_get kX12_leaf_1_ok 88 rfl
theorem dX12_leaf_384 : decode cX12_leaf 384 = .ok (.iload 4, 2) := dk_get kX12_leaf_1_ok 89 rfl
theorem dX12_leaf_386 : decode cX12_leaf 386 = .ok (.aload_n 0, 1) := dk_get kX12_leaf_1_ok 90 rfl
theorem dX12_leaf_387 : decode cX12_leaf 387 = .ok (.getfield 141, 3) := dk_get kX12_leaf_1_ok 91 rfl
theorem dX12_leaf_390 : decode cX12_leaf 390 = .ok (.iload 4, 2) := dk_get kX12_leaf_1_ok 92 rfl
theorem dX12_leaf_392 : decode cX12_leaf 392 = .ok (.iaload, 1) := dk_get kX12_leaf_1_ok 93 rfl
theorem dX12_leaf_393 : decode cX12_leaf 393 = .ok (.iastore, 1) := dk_get kX12_leaf_1_ok 94 rfl
theorem dX12_leaf_394 : decode cX12_leaf 394 = .ok (.iinc 4 1, 3) := dk_get kX12_leaf_1_ok 95 rfl
theorem dX12_leaf_397 : decode cX12_leaf 397 = .ok (.goto (-26), 3) := dk_get kX12_leaf_1_ok 96 rfl
theorem dX12_leaf_400 : decode cX12_leaf 400 = .ok (.return_, 1) := dk_get kX12_leaf_1_ok 97 rfl
def kX12_walks : List (Nat × Instr × Nat) := [(0, .aload_n 0, 1), (1, .iload_n 1, 1), (2, .putfield 480, 3), (5, .aload_n 0, 1), (6, .iconst 0, 1), (7, .putfield 477, 3), (10, .aload_n 0, 1), (11, .iconst 0, 1), (12, .lconst 0, 1), (13, .invokevirtual 510, 3), (16, .return_, 1)]
set_option maxRecDepth 100000 in
theorem kX12_walks_ok : kX12_walks.all (fun q => decide (decode cX12_walks q.1 = .ok q.2)) = true := by decide +kernel
theorem dX12_walks_0 : decode cX12_walks 0 = .ok (.aload_n 0, 1) := dk_get kX12_walks_ok 0 rfl
theorem dX12_walks_1 : decode cX12_walks 1 = .ok (.iload_n 1, 1) := dk_get kX12_walks_ok 1 rfl
theorem dX12_walks_2 : decode cX12_walks 2 = .ok (.putfield 480, 3) := dk_get kX12_walks_ok 2 rfl
theorem dX12_walks_5 : decode cX12_walks 5 = .ok (.aload_n 0, 1) := dk_get kX12_walks_ok 3 rfl
theorem dX12_walks_6 : decode cX12_walks 6 = .ok (.iconst 0, 1) := dk_get kX12_walks_ok 4 rfl
theorem dX12_walks_7 : decode cX12_walks 7 = .ok (.putfield 477, 3) := dk_get kX12_walks_ok 5 rfl
theorem dX12_walks_10 : decode cX12_walks 10 = .ok (.aload_n 0, 1) := dk_get kX12_walks_ok 6 rfl
theorem dX12_walks_11 : decode cX12_walks 11 = .ok (.iconst 0, 1) := dk_get kX12_walks_ok 7 rfl
theorem dX12_walks_12 : decode cX12_walks 12 = .ok (.lconst 0, 1) := dk_get kX12_walks_ok 8 rfl
theorem dX12_walks_13 : decode cX12_walks 13 = .ok (.invokevirtual 510, 3) := dk_get kX12_walks_ok 9 rfl
theorem dX12_walks_16 : decode cX12_walks 16 = .ok (.return_, 1) := dk_get kX12_walks_ok 10 rfl
def kX12_bests : List (Nat × Instr × Nat) := [(0, .aload_n 0, 1), (1, .getfield 194, 3), (4, .bipush 10, 2), (6, .if_icmp .le 6, 3), (9, .bipush (-2), 2), (11, .ireturn, 1), (12, .aload_n 0, 1), (13, .ldc2_w 468, 3), (16, .putfield 483, 3), (19, .aload_n 0, 1), (20, .iconst 0, 1), (21, .putfield 517, 3), (24, .aload_n 0, 1), (25, .iconst 0, 1), (26, .invokevirtual 541, 3), (29, .aload_n 0, 1), (30, .getfield 517, 3), (33, .ifCond .ne 7, 3), (36, .iconst (-1), 1), (37, .goto 4, 3), (40, .iconst 0, 1), (41, .ireturn, 1)]
set_option maxRecDepth 100000 in
theorem kX12_bests_ok : kX12_bests.all (fun q => decide (decode cX12_bests q.1 = .ok q.2)) = true := by decide +kernel
theorem dX12_bests_0 : decode cX12_bests 0 = .ok (.aload_n 0, 1) := dk_get kX12_bests_ok 0 rfl
theorem dX12_bests_1 : decode cX12_bests 1 = .ok (.getfield 194, 3) := dk_get kX12_bests_ok 1 rfl
theorem dX12_bests_4 : decode cX12_bests 4 = .ok (.bipush 10, 2) := dk_get kX12_bests_ok 2 rfl
theorem dX12_bests_6 : decode cX12_bests 6 = .ok (.if_icmp .le 6, 3) := dk_get kX12_bests_ok 3 rfl
theorem dX12_bests_9 : decode cX12_bests 9 = .ok (.bipush (-2), 2) := dk_get kX12_bests_ok 4 rfl
theorem dX12_bests_11 : decode cX12_bests 11 = .ok (.ireturn, 1) := dk_get kX12_bests_ok 5 rfl
theorem dX12_bests_12 : decode cX12_bests 12 = .ok (.aload_n 0, 1) := dk_get kX12_bests_ok 6 rfl
theorem dX12_bests_13 : decode cX12_bests 13 = .ok (.ldc2_w 468, 3) := dk_get kX12_bests_ok 7 rfl
theorem dX12_bests_16 : decode cX12_bests 16 = .ok (.putfield 483, 3) := dk_get kX12_bests_ok 8 rfl
theorem dX12_bests_19 : decode cX12_bests 19 = .ok (.aload_n 0, 1) := dk_get kX12_bests_ok 9 rfl
theorem dX12_bests_20 : decode cX12_bests 20 = .ok (.iconst 0, 1) := dk_get kX12_bests_ok 10 rfl
theorem dX12_bests_21 : decode cX12_bests 21 = .ok (.putfield 517, 3) := dk_get kX12_bests_ok 11 rfl
theorem dX12_bests_24 : decode cX12_bests 24 = .ok (.aload_n 0, 1) := dk_get kX12_bests_ok 12 rfl
theorem dX12_bests_25 : decode cX12_bests 25 = .ok (.iconst 0, 1) := dk_get kX12_bests_ok 13 rfl
theorem dX12_bests_26 : decode cX12_bests 26 = .ok (.invokevirtual 541, 3) := dk_get kX12_bests_ok 14 rfl
theorem dX12_bests_29 : decode cX12_bests 29 = .ok (.aload_n 0, 1) := dk_get kX12_bests_ok 15 rfl
theorem dX12_bests_30 : decode cX12_bests 30 = .ok (.getfield 517, 3) := dk_get kX12_bests_ok 16 rfl
theorem dX12_bests_33 : decode cX12_bests 33 = .ok (.ifCond .ne 7, 3) := dk_get kX12_bests_ok 17 rfl
theorem dX12_bests_36 : decode cX12_bests 36 = .ok (.iconst (-1), 1) := dk_get kX12_bests_ok 18 rfl
theorem dX12_bests_37 : decode cX12_bests 37 = .ok (.goto 4, 3) := dk_get kX12_bests_ok 19 rfl
theorem dX12_bests_40 : decode cX12_bests 40 = .ok (.iconst 0, 1) := dk_get kX12_bests_ok 20 rfl
theorem dX12_bests_41 : decode cX12_bests 41 = .ok (.ireturn, 1) := dk_get kX12_bests_ok 21 rfl
def kX12_partOf : List (Nat × Instr × Nat) := [(0, .aload_n 0, 1), (1, .invokevirtual 187, 3), (4, .aload_n 0, 1), (5, .iload_n 1, 1), (6, .invokevirtual 190, 3), (9, .aload_n 0, 1), (10, .invokevirtual 544, 3), (13, .ireturn, 1)]
set_option maxRecDepth 100000 in
theorem kX12_partOf_ok : kX12_partOf.all (fun q => decide (decode cX12_partOf q.1 = .ok q.2)) = true := by decide +kernel
theorem dX12_partOf_0 : decode cX12_partOf 0 = .ok (.aload_n 0, 1) := dk_get kX12_partOf_ok 0 rfl
theorem dX12_partOf_1 : decode cX12_partOf 1 = .ok (.invokevirtual 187, 3) := dk_get kX12_partOf_ok 1 rfl
theorem dX12_partOf_4 : decode cX12_partOf 4 = .ok (.aload_n 0, 1) := dk_get kX12_partOf_ok 2 rfl
theorem dX12_partOf_5 : decode cX12_partOf 5 = .ok (.iload_n 1, 1) := dk_get kX12_partOf_ok 3 rfl
theorem dX12_partOf_6 : decode cX12_partOf 6 = .ok (.invokevirtual 190, 3) := dk_get kX12_partOf_ok 4 rfl
theorem dX12_partOf_9 : decode cX12_partOf 9 = .ok (.aload_n 0, 1) := dk_get kX12_partOf_ok 5 rfl
theorem dX12_partOf_10 : decode cX12_partOf 10 = .ok (.invokevirtual 544, 3) := dk_get kX12_partOf_ok 6 rfl
theorem dX12_partOf_13 : decode cX12_partOf 13 = .ok (.ireturn, 1) := dk_get kX12_partOf_ok 7 rfl
def kX12_heapNumber : List (Nat × Instr × Nat) := [(0, .iconst 0, 1), (1, .istore_n 3, 1), (2, .aload_n 1, 1), (3, .iload_n 3, 1), (4, .iaload, 1), (5, .aload_n 1, 1), (6, .iload_n 2, 1), (7, .iaload, 1), (8, .if_icmp .eq 9, 3), (11, .iinc 3 1, 3), (14, .goto (-12), 3), (17, .aload_n 0, 1), (18, .getfield 138, 3), (21, .iload_n 3, 1), (22, .iaload, 1), (23, .ireturn, 1)]
set_option maxRecDepth 100000 in
theorem kX12_heapNumber_ok : kX12_heapNumber.all (fun q => decide (decode cX12_heapNumber q.1 = .ok q.2)) = true := by decide +kernel
theorem dX12_heapNumber_0 : decode cX12_heapNumber 0 = .ok (.iconst 0, 1) := dk_get kX12_heapNumber_ok 0 rfl
theorem dX12_heapNumber_1 : decode cX12_heapNumber 1 = .ok (.istore_n 3, 1) := dk_get kX12_heapNumber_ok 1 rfl
theorem dX12_heapNumber_2 : decode cX12_heapNumber 2 = .ok (.aload_n 1, 1) := dk_get kX12_heapNumber_ok 2 rfl
theorem dX12_heapNumber_3 : decode cX12_heapNumber 3 = .ok (.iload_n 3, 1) := dk_get kX12_heapNumber_ok 3 rfl
theorem dX12_heapNumber_4 : decode cX12_heapNumber 4 = .ok (.iaload, 1) := dk_get kX12_heapNumber_ok 4 rfl
theorem dX12_heapNumber_5 : decode cX12_heapNumber 5 = .ok (.aload_n 1, 1) := dk_get kX12_heapNumber_ok 5 rfl
theorem dX12_heapNumber_6 : decode cX12_heapNumber 6 = .ok (.iload_n 2, 1) := dk_get kX12_heapNumber_ok 6 rfl
theorem dX12_heapNumber_7 : decode cX12_heapNumber 7 = .ok (.iaload, 1) := dk_get kX12_heapNumber_ok 7 rfl
theorem dX12_heapNumber_8 : decode cX12_heapNumber 8 = .ok (.if_icmp .eq 9, 3) := dk_get kX12_heapNumber_ok 8 rfl
theorem dX12_heapNumber_11 : decode cX12_heapNumber 11 = .ok (.iinc 3 1, 3) := dk_get kX12_heapNumber_ok 9 rfl
theorem dX12_heapNumber_14 : decode cX12_heapNumber 14 = .ok (.goto (-12), 3) := dk_get kX12_heapNumber_ok 10 rfl
theorem dX12_heapNumber_17 : decode cX12_heapNumber 17 = .ok (.aload_n 0, 1) := dk_get kX12_heapNumber_ok 11 rfl
theorem dX12_heapNumber_18 : decode cX12_heapNumber 18 = .ok (.getfield 138, 3) := dk_get kX12_heapNumber_ok 12 rfl
theorem dX12_heapNumber_21 : decode cX12_heapNumber 21 = .ok (.iload_n 3, 1) := dk_get kX12_heapNumber_ok 13 rfl
theorem dX12_heapNumber_22 : decode cX12_heapNumber 22 = .ok (.iaload, 1) := dk_get kX12_heapNumber_ok 14 rfl
theorem dX12_heapNumber_23 : decode cX12_heapNumber 23 = .ok (.ireturn, 1) := dk_get kX12_heapNumber_ok 15 rfl
def kX12_place : List (Nat × Instr × Nat) := [(0, .iconst 0, 1), (1, .istore_n 2, 1), (2, .aload_n 0, 1), (3, .getfield 138, 3), (6, .iload_n 2, 1), (7, .iaload, 1), (8, .iload_n 1, 1), (9, .if_icmp .eq 9, 3), (12, .iinc 2 1, 3), (15, .goto (-13), 3), (18, .iload_n 2, 1), (19, .ireturn, 1)]
set_option maxRecDepth 100000 in
theorem kX12_place_ok : kX12_place.all (fun q => decide (decode cX12_place q.1 = .ok q.2)) = true := by decide +kernel
theorem dX12_place_0 : decode cX12_place 0 = .ok (.iconst 0, 1) := dk_get kX12_place_ok 0 rfl
theorem dX12_place_1 : decode cX12_place 1 = .ok (.istore_n 2, 1) := dk_get kX12_place_ok 1 rfl
theorem dX12_place_2 : decode cX12_place 2 = .ok (.aload_n 0, 1) := dk_get kX12_place_ok 2 rfl
theorem dX12_place_3 : decode cX12_place 3 = .ok (.getfield 138, 3) := dk_get kX12_place_ok 3 rfl
theorem dX12_place_6 : decode cX12_place 6 = .ok (.iload_n 2, 1) := dk_get kX12_place_ok 4 rfl
theorem dX12_place_7 : decode cX12_place 7 = .ok (.iaload, 1) := dk_get kX12_place_ok 5 rfl
theorem dX12_place_8 : decode cX12_place 8 = .ok (.iload_n 1, 1) := dk_get kX12_place_ok 6 rfl
theorem dX12_place_9 : decode cX12_place 9 = .ok (.if_icmp .eq 9, 3) := dk_get kX12_place_ok 7 rfl
theorem dX12_place_12 : decode cX12_place 12 = .ok (.iinc 2 1, 3) := dk_get kX12_place_ok 8 rfl
theorem dX12_place_15 : decode cX12_place 15 = .ok (.goto (-13), 3) := dk_get kX12_place_ok 9 rfl
theorem dX12_place_18 : decode cX12_place 18 = .ok (.iload_n 2, 1) := dk_get kX12_place_ok 10 rfl
theorem dX12_place_19 : decode cX12_place 19 = .ok (.ireturn, 1) := dk_get kX12_place_ok 11 rfl
def kX12_best : List (Nat × Instr × Nat) := [(0, .aload_n 0, 1), (1, .iconst 0, 1), (2, .putfield 1, 3), (5, .aload_n 0, 1), (6, .iload_n 1, 1), (7, .invokevirtual 183, 3), (10, .ifCond .ne 5, 3), (13, .lconst 0, 1), (14, .lreturn, 1), (15, .aload_n 0, 1), (16, .iload_n 1, 1), (17, .invokevirtual 547, 3), (20, .istore_n 2, 1), (21, .iload_n 2, 1), (22, .ifCond .ge 8, 3), (25, .iload_n 2, 1), (26, .i2l, 1), (27, .goto 7, 3), (30, .aload_n 0, 1), (31, .getfield 483, 3), (34, .lreturn, 1)]
set_option maxRecDepth 100000 in
theorem kX12_best_ok : kX12_best.all (fun q => decide (decode cX12_best q.1 = .ok q.2)) = true := by decide +kernel
theorem dX12_best_0 : decode cX12_best 0 = .ok (.aload_n 0, 1) := dk_get kX12_best_ok 0 rfl
theorem dX12_best_1 : decode cX12_best 1 = .ok (.iconst 0, 1) := dk_get kX12_best_ok 1 rfl
theorem dX12_best_2 : decode cX12_best 2 = .ok (.putfield 1, 3) := dk_get kX12_best_ok 2 rfl
theorem dX12_best_5 : decode cX12_best 5 = .ok (.aload_n 0, 1) := dk_get kX12_best_ok 3 rfl
theorem dX12_best_6 : decode cX12_best 6 = .ok (.iload_n 1, 1) := dk_get kX12_best_ok 4 rfl
theorem dX12_best_7 : decode cX12_best 7 = .ok (.invokevirtual 183, 3) := dk_get kX12_best_ok 5 rfl
theorem dX12_best_10 : decode cX12_best 10 = .ok (.ifCond .ne 5, 3) := dk_get kX12_best_ok 6 rfl
theorem dX12_best_13 : decode cX12_best 13 = .ok (.lconst 0, 1) := dk_get kX12_best_ok 7 rfl
theorem dX12_best_14 : decode cX12_best 14 = .ok (.lreturn, 1) := dk_get kX12_best_ok 8 rfl
theorem dX12_best_15 : decode cX12_best 15 = .ok (.aload_n 0, 1) := dk_get kX12_best_ok 9 rfl
theorem dX12_best_16 : decode cX12_best 16 = .ok (.iload_n 1, 1) := dk_get kX12_best_ok 10 rfl
theorem dX12_best_17 : decode cX12_best 17 = .ok (.invokevirtual 547, 3) := dk_get kX12_best_ok 11 rfl
theorem dX12_best_20 : decode cX12_best 20 = .ok (.istore_n 2, 1) := dk_get kX12_best_ok 12 rfl
theorem dX12_best_21 : decode cX12_best 21 = .ok (.iload_n 2, 1) := dk_get kX12_best_ok 13 rfl
theorem dX12_best_22 : decode cX12_best 22 = .ok (.ifCond .ge 8, 3) := dk_get kX12_best_ok 14 rfl
theorem dX12_best_25 : decode cX12_best 25 = .ok (.iload_n 2, 1) := dk_get kX12_best_ok 15 rfl
theorem dX12_best_26 : decode cX12_best 26 = .ok (.i2l, 1) := dk_get kX12_best_ok 16 rfl
theorem dX12_best_27 : decode cX12_best 27 = .ok (.goto 7, 3) := dk_get kX12_best_ok 17 rfl
theorem dX12_best_30 : decode cX12_best 30 = .ok (.aload_n 0, 1) := dk_get kX12_best_ok 18 rfl
theorem dX12_best_31 : decode cX12_best 31 = .ok (.getfield 483, 3) := dk_get kX12_best_ok 19 rfl
theorem dX12_best_34 : decode cX12_best 34 = .ok (.lreturn, 1) := dk_get kX12_best_ok 20 rfl
def kX12_many : List (Nat × Instr × Nat) := [(0, .aload_n 0, 1), (1, .iconst 0, 1), (2, .putfield 1, 3), (5, .aload_n 0, 1), (6, .iload_n 1, 1), (7, .invokevirtual 183, 3), (10, .ifCond .ne 5, 3), (13, .iconst 0, 1), (14, .ireturn, 1), (15, .aload_n 0, 1), (16, .iload_n 1, 1), (17, .invokevirtual 547, 3), (20, .istore_n 2, 1), (21, .iload_n 2, 1), (22, .bipush (-2), 2), (24, .if_icmp .ne 8, 3), (27, .bipush (-2), 2), (29, .goto 7, 3), (32, .aload_n 0, 1), (33, .getfield 517, 3), (36, .ireturn, 1)]
set_option maxRecDepth 100000 in
theorem kX12_many_ok : kX12_many.all (fun q => decide (decode cX12_many q.1 = .ok q.2)) = true := by decide +kernel
theorem dX12_many_0 : decode cX12_many 0 = .ok (.aload_n 0, 1) := dk_get kX12_many_ok 0 rfl
theorem dX12_many_1 : decode cX12_many 1 = .ok (.iconst 0, 1) := dk_get kX12_many_ok 1 rfl
theorem dX12_many_2 : decode cX12_many 2 = .ok (.putfield 1, 3) := dk_get kX12_many_ok 2 rfl
theorem dX12_many_5 : decode cX12_many 5 = .ok (.aload_n 0, 1) := dk_get kX12_many_ok 3 rfl
theorem dX12_many_6 : decode cX12_many 6 = .ok (.iload_n 1, 1) := dk_get kX12_many_ok 4 rfl
theorem dX12_many_7 : decode cX12_many 7 = .ok (.invokevirtual 183, 3) := dk_get kX12_many_ok 5 rfl
theorem dX12_many_10 : decode cX12_many 10 = .ok (.ifCond .ne 5, 3) := dk_get kX12_many_ok 6 rfl
theorem dX12_many_13 : decode cX12_many 13 = .ok (.iconst 0, 1) := dk_get kX12_many_ok 7 rfl
theorem dX12_many_14 : decode cX12_many 14 = .ok (.ireturn, 1) := dk_get kX12_many_ok 8 rfl
theorem dX12_many_15 : decode cX12_many 15 = .ok (.aload_n 0, 1) := dk_get kX12_many_ok 9 rfl
theorem dX12_many_16 : decode cX12_many 16 = .ok (.iload_n 1, 1) := dk_get kX12_many_ok 10 rfl
theorem dX12_many_17 : decode cX12_many 17 = .ok (.invokevirtual 547, 3) := dk_get kX12_many_ok 11 rfl
theorem dX12_many_20 : decode cX12_many 20 = .ok (.istore_n 2, 1) := dk_get kX12_many_ok 12 rfl
theorem dX12_many_21 : decode cX12_many 21 = .ok (.iload_n 2, 1) := dk_get kX12_many_ok 13 rfl
theorem dX12_many_22 : decode cX12_many 22 = .ok (.bipush (-2), 2) := dk_get kX12_many_ok 14 rfl
theorem dX12_many_24 : decode cX12_many 24 = .ok (.if_icmp .ne 8, 3) := dk_get kX12_many_ok 15 rfl
theorem dX12_many_27 : decode cX12_many 27 = .ok (.bipush (-2), 2) := dk_get kX12_many_ok 16 rfl
theorem dX12_many_29 : decode cX12_many 29 = .ok (.goto 7, 3) := dk_get kX12_many_ok 17 rfl
theorem dX12_many_32 : decode cX12_many 32 = .ok (.aload_n 0, 1) := dk_get kX12_many_ok 18 rfl
theorem dX12_many_33 : decode cX12_many 33 = .ok (.getfield 517, 3) := dk_get kX12_many_ok 19 rfl
theorem dX12_many_36 : decode cX12_many 36 = .ok (.ireturn, 1) := dk_get kX12_many_ok 20 rfl
def kX12_first : List (Nat × Instr × Nat) := [(0, .aload_n 0, 1), (1, .iconst 0, 1), (2, .putfield 1, 3), (5, .aload_n 0, 1), (6, .iload_n 1, 1), (7, .invokevirtual 183, 3), (10, .ifCond .ne 5, 3), (13, .iconst 0, 1), (14, .ireturn, 1), (15, .aload_n 0, 1), (16, .iload_n 1, 1), (17, .invokevirtual 547, 3), (20, .istore_n 2, 1), (21, .iload_n 2, 1), (22, .ifCond .ge 7, 3), (25, .iload_n 2, 1), (26, .goto 16, 3), (29, .aload_n 0, 1), (30, .aload_n 0, 1), (31, .getfield 147, 3), (34, .aload_n 0, 1), (35, .iload_n 1, 1), (36, .invokevirtual 550, 3), (39, .invokevirtual 553, 3), (42, .ireturn, 1)]
set_option maxRecDepth 100000 in
theorem kX12_first_ok : kX12_first.all (fun q => decide (decode cX12_first q.1 = .ok q.2)) = true := by decide +kernel
theorem dX12_first_0 : decode cX12_first 0 = .ok (.aload_n 0, 1) := dk_get kX12_first_ok 0 rfl
theorem dX12_first_1 : decode cX12_first 1 = .ok (.iconst 0, 1) := dk_get kX12_first_ok 1 rfl
theorem dX12_first_2 : decode cX12_first 2 = .ok (.putfield 1, 3) := dk_get kX12_first_ok 2 rfl
theorem dX12_first_5 : decode cX12_first 5 = .ok (.aload_n 0, 1) := dk_get kX12_first_ok 3 rfl
theorem dX12_first_6 : decode cX12_first 6 = .ok (.iload_n 1, 1) := dk_get kX12_first_ok 4 rfl
theorem dX12_first_7 : decode cX12_first 7 = .ok (.invokevirtual 183, 3) := dk_get kX12_first_ok 5 rfl
theorem dX12_first_10 : decode cX12_first 10 = .ok (.ifCond .ne 5, 3) := dk_get kX12_first_ok 6 rfl
theorem dX12_first_13 : decode cX12_first 13 = .ok (.iconst 0, 1) := dk_get kX12_first_ok 7 rfl
theorem dX12_first_14 : decode cX12_first 14 = .ok (.ireturn, 1) := dk_get kX12_first_ok 8 rfl
theorem dX12_first_15 : decode cX12_first 15 = .ok (.aload_n 0, 1) := dk_get kX12_first_ok 9 rfl
theorem dX12_first_16 : decode cX12_first 16 = .ok (.iload_n 1, 1) := dk_get kX12_first_ok 10 rfl
theorem dX12_first_17 : decode cX12_first 17 = .ok (.invokevirtual 547, 3) := dk_get kX12_first_ok 11 rfl
theorem dX12_first_20 : decode cX12_first 20 = .ok (.istore_n 2, 1) := dk_get kX12_first_ok 12 rfl
theorem dX12_first_21 : decode cX12_first 21 = .ok (.iload_n 2, 1) := dk_get kX12_first_ok 13 rfl
theorem dX12_first_22 : decode cX12_first 22 = .ok (.ifCond .ge 7, 3) := dk_get kX12_first_ok 14 rfl
theorem dX12_first_25 : decode cX12_first 25 = .ok (.iload_n 2, 1) := dk_get kX12_first_ok 15 rfl
theorem dX12_first_26 : decode cX12_first 26 = .ok (.goto 16, 3) := dk_get kX12_first_ok 16 rfl
theorem dX12_first_29 : decode cX12_first 29 = .ok (.aload_n 0, 1) := dk_get kX12_first_ok 17 rfl
theorem dX12_first_30 : decode cX12_first 30 = .ok (.aload_n 0, 1) := dk_get kX12_first_ok 18 rfl
theorem dX12_first_31 : decode cX12_first 31 = .ok (.getfield 147, 3) := dk_get kX12_first_ok 19 rfl
theorem dX12_first_34 : decode cX12_first 34 = .ok (.aload_n 0, 1) := dk_get kX12_first_ok 20 rfl
theorem dX12_first_35 : decode cX12_first 35 = .ok (.iload_n 1, 1) := dk_get kX12_first_ok 21 rfl
theorem dX12_first_36 : decode cX12_first 36 = .ok (.invokevirtual 550, 3) := dk_get kX12_first_ok 22 rfl
theorem dX12_first_39 : decode cX12_first 39 = .ok (.invokevirtual 553, 3) := dk_get kX12_first_ok 23 rfl
theorem dX12_first_42 : decode cX12_first 42 = .ok (.ireturn, 1) := dk_get kX12_first_ok 24 rfl
def kX12_findAll : List (Nat × Instr × Nat) := [(0, .lconst 0, 1), (1, .lstore_n 2, 1), (2, .iconst 0, 1), (3, .istore 4, 2), (5, .iconst 0, 1), (6, .istore 5, 2), (8, .iload 5, 2), (10, .aload_n 0, 1), (11, .getfield 177, 3), (14, .if_icmp .ge 135, 3), (17, .aload_n 0, 1), (18, .getfield 132, 3), (21, .iload 5, 2), (23, .baload, 1), (24, .ifCond .ne 6, 3), (27, .goto 116, 3), (30, .aload_n 0, 1), (31, .iload 5, 2), (33, .invokevirtual 190, 3), (36, .aload_n 0, 1), (37, .getfield 138, 3), (40, .iconst 0, 1), (41, .iaload, 1), (42, .iload 5, 2), (44, .if_icmp .eq 6, 3), (47, .goto 96, 3), (50, .aload_n 0, 1), (51, .invokevirtual 544, 3), (54, .istore 6, 2), (56, .iload 6, 2), (58, .iconst (-1), 1), (59, .if_icmp .ne 7, 3), (62, .ldc2_w 468, 3), (65, .lreturn, 1), (66, .iload 4, 2), (68, .ifCond .ne 10, 3), (71, .iload 6, 2), (73, .bipush (-2), 2), (75, .if_icmp .ne 7, 3), (78, .iconst 1, 1), (79, .goto 4, 3), (82, .iconst 0, 1), (83, .istore 4, 2), (85, .lload_n 2, 1), (86, .iload 6, 2), (88, .ifCond .ne 10, 3), (91, .aload_n 0, 1), (92, .getfield 483, 3), (95, .goto 4, 3), (98, .lconst 0, 1), (99, .ladd, 1), (100, .lstore_n 2, 1), (101, .iconst 0, 1), (102, .istore 7, 2), (104, .iload 7, 2), (106, .aload_n 0, 1), (107, .getfield 194, 3), (110, .if_icmp .ge 33, 3), (113, .iload 6, 2), (115, .ifCond .ne 28, 3), (118, .aload_n 1, 1), (119, .aload_n 0, 1), (120, .getfield 138, 3), (123, .iload 7, 2), (125, .iaload, 1), (126, .aload_n 0, 1), (127, .aload_n 0, 1), (128, .getfield 147, 3), (131, .iload 7, 2), (133, .invokevirtual 553, 3), (136, .iastore, 1), (137, .iinc 7 1, 3), (140, .goto (-36), 3), (143, .iinc 5 1, 3), (146, .goto (-138), 3), (149, .iload 4, 2), (151, .ifCond .eq 9, 3), (154, .ldc2_w 470, 3), (157, .goto 4, 3), (160, .lload_n 2, 1), (161, .lreturn, 1)]
set_option maxRecDepth 100000 in
theorem kX12_findAll_ok : kX12_findAll.all (fun q => decide (decode cX12_findAll q.1 = .ok q.2)) = true := by decide +kernel
theorem dX12_findAll_0 : decode cX12_findAll 0 = .ok (.lconst 0, 1) := dk_get kX12_findAll_ok 0 rfl
theorem dX12_findAll_1 : decode cX12_findAll 1 = .ok (.lstore_n 2, 1) := dk_get kX12_findAll_ok 1 rfl
theorem dX12_findAll_2 : decode cX12_findAll 2 = .ok (.iconst 0, 1) := dk_get kX12_findAll_ok 2 rfl
theorem dX12_findAll_3 : decode cX12_findAll 3 = .ok (.istore 4, 2) := dk_get kX12_findAll_ok 3 rfl
theorem dX12_findAll_5 : decode cX12_findAll 5 = .ok (.iconst 0, 1) := dk_get kX12_findAll_ok 4 rfl
theorem dX12_findAll_6 : decode cX12_findAll 6 = .ok (.istore 5, 2) := dk_get kX12_findAll_ok 5 rfl
theorem dX12_findAll_8 : decode cX12_findAll 8 = .ok (.iload 5, 2) := dk_get kX12_findAll_ok 6 rfl
theorem dX12_findAll_10 : decode cX12_findAll 10 = .ok (.aload_n 0, 1) := dk_get kX12_findAll_ok 7 rfl
theorem dX12_findAll_11 : decode cX12_findAll 11 = .ok (.getfield 177, 3) := dk_get kX12_findAll_ok 8 rfl
theorem dX12_findAll_14 : decode cX12_findAll 14 = .ok (.if_icmp .ge 135, 3) := dk_get kX12_findAll_ok 9 rfl
theorem dX12_findAll_17 : decode cX12_findAll 17 = .ok (.aload_n 0, 1) := dk_get kX12_findAll_ok 10 rfl
theorem dX12_findAll_18 : decode cX12_findAll 18 = .ok (.getfield 132, 3) := dk_get kX12_findAll_ok 11 rfl
theorem dX12_findAll_21 : decode cX12_findAll 21 = .ok (.iload 5, 2) := dk_get kX12_findAll_ok 12 rfl
theorem dX12_findAll_23 : decode cX12_findAll 23 = .ok (.baload, 1) := dk_get kX12_findAll_ok 13 rfl
theorem dX12_findAll_24 : decode cX12_findAll 24 = .ok (.ifCond .ne 6, 3) := dk_get kX12_findAll_ok 14 rfl
theorem dX12_findAll_27 : decode cX12_findAll 27 = .ok (.goto 116, 3) := dk_get kX12_findAll_ok 15 rfl
theorem dX12_findAll_30 : decode cX12_findAll 30 = .ok (.aload_n 0, 1) := dk_get kX12_findAll_ok 16 rfl
theorem dX12_findAll_31 : decode cX12_findAll 31 = .ok (.iload 5, 2) := dk_get kX12_findAll_ok 17 rfl
theorem dX12_findAll_33 : decode cX12_findAll 33 = .ok (.invokevirtual 190, 3) := dk_get kX12_findAll_ok 18 rfl
theorem dX12_findAll_36 : decode cX12_findAll 36 = .ok (.aload_n 0, 1) := dk_get kX12_findAll_ok 19 rfl
theorem dX12_findAll_37 : decode cX12_findAll 37 = .ok (.getfield 138, 3) := dk_get kX12_findAll_ok 20 rfl
theorem dX12_findAll_40 : decode cX12_findAll 40 = .ok (.iconst 0, 1) := dk_get kX12_findAll_ok 21 rfl
theorem dX12_findAll_41 : decode cX12_findAll 41 = .ok (.iaload, 1) := dk_get kX12_findAll_ok 22 rfl
theorem dX12_findAll_42 : decode cX12_findAll 42 = .ok (.iload 5, 2) := dk_get kX12_findAll_ok 23 rfl
theorem dX12_findAll_44 : decode cX12_findAll 44 = .ok (.if_icmp .eq 6, 3) := dk_get kX12_findAll_ok 24 rfl
theorem dX12_findAll_47 : decode cX12_findAll 47 = .ok (.goto 96, 3) := dk_get kX12_findAll_ok 25 rfl
theorem dX12_findAll_50 : decode cX12_findAll 50 = .ok (.aload_n 0, 1) := dk_get kX12_findAll_ok 26 rfl
theorem dX12_findAll_51 : decode cX12_findAll 51 = .ok (.invokevirtual 544, 3) := dk_get kX12_findAll_ok 27 rfl
theorem dX12_findAll_54 : decode cX12_findAll 54 = .ok (.istore 6, 2) := dk_get kX12_findAll_ok 28 rfl
theorem dX12_findAll_56 : decode cX12_findAll 56 = .ok (.iload 6, 2) := dk_get kX12_findAll_ok 29 rfl
theorem dX12_findAll_58 : decode cX12_findAll 58 = .ok (.iconst (-1), 1) := dk_get kX12_findAll_ok 30 rfl
theorem dX12_findAll_59 : decode cX12_findAll 59 = .ok (.if_icmp .ne 7, 3) := dk_get kX12_findAll_ok 31 rfl
theorem dX12_findAll_62 : decode cX12_findAll 62 = .ok (.ldc2_w 468, 3) := dk_get kX12_findAll_ok 32 rfl
theorem dX12_findAll_65 : decode cX12_findAll 65 = .ok (.lreturn, 1) := dk_get kX12_findAll_ok 33 rfl
theorem dX12_findAll_66 : decode cX12_findAll 66 = .ok (.iload 4, 2) := dk_get kX12_findAll_ok 34 rfl
theorem dX12_findAll_68 : decode cX12_findAll 68 = .ok (.ifCond .ne 10, 3) := dk_get kX12_findAll_ok 35 rfl
theorem dX12_findAll_71 : decode cX12_findAll 71 = .ok (.iload 6, 2) := dk_get kX12_findAll_ok 36 rfl
theorem dX12_findAll_73 : decode cX12_findAll 73 = .ok (.bipush (-2), 2) := dk_get kX12_findAll_ok 37 rfl
theorem dX12_findAll_75 : decode cX12_findAll 75 = .ok (.if_icmp .ne 7, 3) := dk_get kX12_findAll_ok 38 rfl
theorem dX12_findAll_78 : decode cX12_findAll 78 = .ok (.iconst 1, 1) := dk_get kX12_findAll_ok 39 rfl
theorem dX12_findAll_79 : decode cX12_findAll 79 = .ok (.goto 4, 3) := dk_get kX12_findAll_ok 40 rfl
theorem dX12_findAll_82 : decode cX12_findAll 82 = .ok (.iconst 0, 1) := dk_get kX12_findAll_ok 41 rfl
theorem dX12_findAll_83 : decode cX12_findAll 83 = .ok (.istore 4, 2) := dk_get kX12_findAll_ok 42 rfl
theorem dX12_findAll_85 : decode cX12_findAll 85 = .ok (.lload_n 2, 1) := dk_get kX12_findAll_ok 43 rfl
theorem dX12_findAll_86 : decode cX12_findAll 86 = .ok (.iload 6, 2) := dk_get kX12_findAll_ok 44 rfl
theorem dX12_findAll_88 : decode cX12_findAll 88 = .ok (.ifCond .ne 10, 3) := dk_get kX12_findAll_ok 45 rfl
theorem dX12_findAll_91 : decode cX12_findAll 91 = .ok (.aload_n 0, 1) := dk_get kX12_findAll_ok 46 rfl
theorem dX12_findAll_92 : decode cX12_findAll 92 = .ok (.getfield 483, 3) := dk_get kX12_findAll_ok 47 rfl
theorem dX12_findAll_95 : decode cX12_findAll 95 = .ok (.goto 4, 3) := dk_get kX12_findAll_ok 48 rfl
theorem dX12_findAll_98 : decode cX12_findAll 98 = .ok (.lconst 0, 1) := dk_get kX12_findAll_ok 49 rfl
theorem dX12_findAll_99 : decode cX12_findAll 99 = .ok (.ladd, 1) := dk_get kX12_findAll_ok 50 rfl
theorem dX12_findAll_100 : decode cX12_findAll 100 = .ok (.lstore_n 2, 1) := dk_get kX12_findAll_ok 51 rfl
theorem dX12_findAll_101 : decode cX12_findAll 101 = .ok (.iconst 0, 1) := dk_get kX12_findAll_ok 52 rfl
theorem dX12_findAll_102 : decode cX12_findAll 102 = .ok (.istore 7, 2) := dk_get kX12_findAll_ok 53 rfl
theorem dX12_findAll_104 : decode cX12_findAll 104 = .ok (.iload 7, 2) := dk_get kX12_findAll_ok 54 rfl
theorem dX12_findAll_106 : decode cX12_findAll 106 = .ok (.aload_n 0, 1) := dk_get kX12_findAll_ok 55 rfl
theorem dX12_findAll_107 : decode cX12_findAll 107 = .ok (.getfield 194, 3) := dk_get kX12_findAll_ok 56 rfl
theorem dX12_findAll_110 : decode cX12_findAll 110 = .ok (.if_icmp .ge 33, 3) := dk_get kX12_findAll_ok 57 rfl
theorem dX12_findAll_113 : decode cX12_findAll 113 = .ok (.iload 6, 2) := dk_get kX12_findAll_ok 58 rfl
theorem dX12_findAll_115 : decode cX12_findAll 115 = .ok (.ifCond .ne 28, 3) := dk_get kX12_findAll_ok 59 rfl
theorem dX12_findAll_118 : decode cX12_findAll 118 = .ok (.aload_n 1, 1) := dk_get kX12_findAll_ok 60 rfl
theorem dX12_findAll_119 : decode cX12_findAll 119 = .ok (.aload_n 0, 1) := dk_get kX12_findAll_ok 61 rfl
theorem dX12_findAll_120 : decode cX12_findAll 120 = .ok (.getfield 138, 3) := dk_get kX12_findAll_ok 62 rfl
theorem dX12_findAll_123 : decode cX12_findAll 123 = .ok (.iload 7, 2) := dk_get kX12_findAll_ok 63 rfl
theorem dX12_findAll_125 : decode cX12_findAll 125 = .ok (.iaload, 1) := dk_get kX12_findAll_ok 64 rfl
theorem dX12_findAll_126 : decode cX12_findAll 126 = .ok (.aload_n 0, 1) := dk_get kX12_findAll_ok 65 rfl
theorem dX12_findAll_127 : decode cX12_findAll 127 = .ok (.aload_n 0, 1) := dk_get kX12_findAll_ok 66 rfl
theorem dX12_findAll_128 : decode cX12_findAll 128 = .ok (.getfield 147, 3) := dk_get kX12_findAll_ok 67 rfl
theorem dX12_findAll_131 : decode cX12_findAll 131 = .ok (.iload 7, 2) := dk_get kX12_findAll_ok 68 rfl
theorem dX12_findAll_133 : decode cX12_findAll 133 = .ok (.invokevirtual 553, 3) := dk_get kX12_findAll_ok 69 rfl
theorem dX12_findAll_136 : decode cX12_findAll 136 = .ok (.iastore, 1) := dk_get kX12_findAll_ok 70 rfl
theorem dX12_findAll_137 : decode cX12_findAll 137 = .ok (.iinc 7 1, 3) := dk_get kX12_findAll_ok 71 rfl
theorem dX12_findAll_140 : decode cX12_findAll 140 = .ok (.goto (-36), 3) := dk_get kX12_findAll_ok 72 rfl
theorem dX12_findAll_143 : decode cX12_findAll 143 = .ok (.iinc 5 1, 3) := dk_get kX12_findAll_ok 73 rfl
theorem dX12_findAll_146 : decode cX12_findAll 146 = .ok (.goto (-138), 3) := dk_get kX12_findAll_ok 74 rfl
theorem dX12_findAll_149 : decode cX12_findAll 149 = .ok (.iload 4, 2) := dk_get kX12_findAll_ok 75 rfl
theorem dX12_findAll_151 : decode cX12_findAll 151 = .ok (.ifCond .eq 9, 3) := dk_get kX12_findAll_ok 76 rfl
theorem dX12_findAll_154 : decode cX12_findAll 154 = .ok (.ldc2_w 470, 3) := dk_get kX12_findAll_ok 77 rfl
theorem dX12_findAll_157 : decode cX12_findAll 157 = .ok (.goto 4, 3) := dk_get kX12_findAll_ok 78 rfl
theorem dX12_findAll_160 : decode cX12_findAll 160 = .ok (.lload_n 2, 1) := dk_get kX12_findAll_ok 79 rfl
theorem dX12_findAll_161 : decode cX12_findAll 161 = .ok (.lreturn, 1) := dk_get kX12_findAll_ok 80 rfl
def kX12_all : List (Nat × Instr × Nat) := [(0, .aload_n 0, 1), (1, .iconst 0, 1), (2, .putfield 1, 3), (5, .aload_n 0, 1), (6, .invokevirtual 187, 3), (9, .aload_n 0, 1), (10, .aload_n 0, 1), (11, .getfield 157, 3), (14, .invokevirtual 557, 3), (17, .lreturn, 1)]
set_option maxRecDepth 100000 in
theorem kX12_all_ok : kX12_all.all (fun q => decide (decode cX12_all q.1 = .ok q.2)) = true := by decide +kernel
theorem dX12_all_0 : decode cX12_all 0 = .ok (.aload_n 0, 1) := dk_get kX12_all_ok 0 rfl
theorem dX12_all_1 : decode cX12_all 1 = .ok (.iconst 0, 1) := dk_get kX12_all_ok 1 rfl
theorem dX12_all_2 : decode cX12_all 2 = .ok (.putfield 1, 3) := dk_get kX12_all_ok 2 rfl
theorem dX12_all_5 : decode cX12_all 5 = .ok (.aload_n 0, 1) := dk_get kX12_all_ok 3 rfl
theorem dX12_all_6 : decode cX12_all 6 = .ok (.invokevirtual 187, 3) := dk_get kX12_all_ok 4 rfl
theorem dX12_all_9 : decode cX12_all 9 = .ok (.aload_n 0, 1) := dk_get kX12_all_ok 5 rfl
theorem dX12_all_10 : decode cX12_all 10 = .ok (.aload_n 0, 1) := dk_get kX12_all_ok 6 rfl
theorem dX12_all_11 : decode cX12_all 11 = .ok (.getfield 157, 3) := dk_get kX12_all_ok 7 rfl
theorem dX12_all_14 : decode cX12_all 14 = .ok (.invokevirtual 557, 3) := dk_get kX12_all_ok 8 rfl
theorem dX12_all_17 : decode cX12_all 17 = .ok (.lreturn, 1) := dk_get kX12_all_ok 9 rfl
def kX12_take : List (Nat × Instr × Nat) := [(0, .aload_n 0, 1), (1, .iconst 0, 1), (2, .putfield 1, 3), (5, .aload_n 0, 1), (6, .invokevirtual 187, 3), (9, .aload_n 0, 1), (10, .aload_n 0, 1), (11, .getfield 157, 3), (14, .invokevirtual 557, 3), (17, .lstore_n 1, 1), (18, .lload_n 1, 1), (19, .lconst 0, 1), (20, .lcmp, 1), (21, .ifCond .ge 6, 3), (24, .lload_n 1, 1), (25, .l2i, 1), (26, .ireturn, 1), (27, .iconst 0, 1), (28, .istore_n 3, 1), (29, .iload_n 3, 1), (30, .aload_n 0, 1), (31, .getfield 177, 3), (34, .if_icmp .ge 21, 3), (37, .aload_n 0, 1), (38, .getfield 29, 3), (41, .iload_n 3, 1), (42, .aload_n 0, 1), (43, .getfield 157, 3), (46, .iload_n 3, 1), (47, .iaload, 1), (48, .iastore, 1), (49, .iinc 3 1, 3), (52, .goto (-23), 3), (55, .iconst 1, 1), (56, .ireturn, 1)]
set_option maxRecDepth 100000 in
theorem kX12_take_ok : kX12_take.all (fun q => decide (decode cX12_take q.1 = .ok q.2)) = true := by decide +kernel
theorem dX12_take_0 : decode cX12_take 0 = .ok (.aload_n 0, 1) := dk_get kX12_take_ok 0 rfl
theorem dX12_take_1 : decode cX12_take 1 = .ok (.iconst 0, 1) := dk_get kX12_take_ok 1 rfl
theorem dX12_take_2 : decode cX12_take 2 = .ok (.putfield 1, 3) := dk_get kX12_take_ok 2 rfl
theorem dX12_take_5 : decode cX12_take 5 = .ok (.aload_n 0, 1) := dk_get kX12_take_ok 3 rfl
theorem dX12_take_6 : decode cX12_take 6 = .ok (.invokevirtual 187, 3) := dk_get kX12_take_ok 4 rfl
theorem dX12_take_9 : decode cX12_take 9 = .ok (.aload_n 0, 1) := dk_get kX12_take_ok 5 rfl
theorem dX12_take_10 : decode cX12_take 10 = .ok (.aload_n 0, 1) := dk_get kX12_take_ok 6 rfl
theorem dX12_take_11 : decode cX12_take 11 = .ok (.getfield 157, 3) := dk_get kX12_take_ok 7 rfl
theorem dX12_take_14 : decode cX12_take 14 = .ok (.invokevirtual 557, 3) := dk_get kX12_take_ok 8 rfl
theorem dX12_take_17 : decode cX12_take 17 = .ok (.lstore_n 1, 1) := dk_get kX12_take_ok 9 rfl
theorem dX12_take_18 : decode cX12_take 18 = .ok (.lload_n 1, 1) := dk_get kX12_take_ok 10 rfl
theorem dX12_take_19 : decode cX12_take 19 = .ok (.lconst 0, 1) := dk_get kX12_take_ok 11 rfl
theorem dX12_take_20 : decode cX12_take 20 = .ok (.lcmp, 1) := dk_get kX12_take_ok 12 rfl
theorem dX12_take_21 : decode cX12_take 21 = .ok (.ifCond .ge 6, 3) := dk_get kX12_take_ok 13 rfl
theorem dX12_take_24 : decode cX12_take 24 = .ok (.lload_n 1, 1) := dk_get kX12_take_ok 14 rfl
theorem dX12_take_25 : decode cX12_take 25 = .ok (.l2i, 1) := dk_get kX12_take_ok 15 rfl
theorem dX12_take_26 : decode cX12_take 26 = .ok (.ireturn, 1) := dk_get kX12_take_ok 16 rfl
theorem dX12_take_27 : decode cX12_take 27 = .ok (.iconst 0, 1) := dk_get kX12_take_ok 17 rfl
theorem dX12_take_28 : decode cX12_take 28 = .ok (.istore_n 3, 1) := dk_get kX12_take_ok 18 rfl
theorem dX12_take_29 : decode cX12_take 29 = .ok (.iload_n 3, 1) := dk_get kX12_take_ok 19 rfl
theorem dX12_take_30 : decode cX12_take 30 = .ok (.aload_n 0, 1) := dk_get kX12_take_ok 20 rfl
theorem dX12_take_31 : decode cX12_take 31 = .ok (.getfield 177, 3) := dk_get kX12_take_ok 21 rfl
theorem dX12_take_34 : decode cX12_take 34 = .ok (.if_icmp .ge 21, 3) := dk_get kX12_take_ok 22 rfl
theorem dX12_take_37 : decode cX12_take 37 = .ok (.aload_n 0, 1) := dk_get kX12_take_ok 23 rfl
theorem dX12_take_38 : decode cX12_take 38 = .ok (.getfield 29, 3) := dk_get kX12_take_ok 24 rfl
theorem dX12_take_41 : decode cX12_take 41 = .ok (.iload_n 3, 1) := dk_get kX12_take_ok 25 rfl
theorem dX12_take_42 : decode cX12_take 42 = .ok (.aload_n 0, 1) := dk_get kX12_take_ok 26 rfl
theorem dX12_take_43 : decode cX12_take 43 = .ok (.getfield 157, 3) := dk_get kX12_take_ok 27 rfl
theorem dX12_take_46 : decode cX12_take 46 = .ok (.iload_n 3, 1) := dk_get kX12_take_ok 28 rfl
theorem dX12_take_47 : decode cX12_take 47 = .ok (.iaload, 1) := dk_get kX12_take_ok 29 rfl
theorem dX12_take_48 : decode cX12_take 48 = .ok (.iastore, 1) := dk_get kX12_take_ok 30 rfl
theorem dX12_take_49 : decode cX12_take 49 = .ok (.iinc 3 1, 3) := dk_get kX12_take_ok 31 rfl
theorem dX12_take_52 : decode cX12_take 52 = .ok (.goto (-23), 3) := dk_get kX12_take_ok 32 rfl
theorem dX12_take_55 : decode cX12_take 55 = .ok (.iconst 1, 1) := dk_get kX12_take_ok 33 rfl
theorem dX12_take_56 : decode cX12_take 56 = .ok (.ireturn, 1) := dk_get kX12_take_ok 34 rfl
def kX12_areOfOne : List (Nat × Instr × Nat) := [(0, .aload_n 0, 1), (1, .iload_n 1, 1), (2, .invokevirtual 547, 3), (5, .istore_n 3, 1), (6, .iload_n 3, 1), (7, .ifCond .ne 16, 3), (10, .aload_n 0, 1), (11, .getfield 135, 3), (14, .iload_n 2, 1), (15, .baload, 1), (16, .ifCond .eq 7, 3), (19, .iconst 1, 1), (20, .goto 4, 3), (23, .iconst 0, 1), (24, .ireturn, 1)]
set_option maxRecDepth 100000 in
theorem kX12_areOfOne_ok : kX12_areOfOne.all (fun q => decide (decode cX12_areOfOne q.1 = .ok q.2)) = true := by decide +kernel
theorem dX12_areOfOne_0 : decode cX12_areOfOne 0 = .ok (.aload_n 0, 1) := dk_get kX12_areOfOne_ok 0 rfl
theorem dX12_areOfOne_1 : decode cX12_areOfOne 1 = .ok (.iload_n 1, 1) := dk_get kX12_areOfOne_ok 1 rfl
theorem dX12_areOfOne_2 : decode cX12_areOfOne 2 = .ok (.invokevirtual 547, 3) := dk_get kX12_areOfOne_ok 2 rfl
theorem dX12_areOfOne_5 : decode cX12_areOfOne 5 = .ok (.istore_n 3, 1) := dk_get kX12_areOfOne_ok 3 rfl
theorem dX12_areOfOne_6 : decode cX12_areOfOne 6 = .ok (.iload_n 3, 1) := dk_get kX12_areOfOne_ok 4 rfl
theorem dX12_areOfOne_7 : decode cX12_areOfOne 7 = .ok (.ifCond .ne 16, 3) := dk_get kX12_areOfOne_ok 5 rfl
theorem dX12_areOfOne_10 : decode cX12_areOfOne 10 = .ok (.aload_n 0, 1) := dk_get kX12_areOfOne_ok 6 rfl
theorem dX12_areOfOne_11 : decode cX12_areOfOne 11 = .ok (.getfield 135, 3) := dk_get kX12_areOfOne_ok 7 rfl
theorem dX12_areOfOne_14 : decode cX12_areOfOne 14 = .ok (.iload_n 2, 1) := dk_get kX12_areOfOne_ok 8 rfl
theorem dX12_areOfOne_15 : decode cX12_areOfOne 15 = .ok (.baload, 1) := dk_get kX12_areOfOne_ok 9 rfl
theorem dX12_areOfOne_16 : decode cX12_areOfOne 16 = .ok (.ifCond .eq 7, 3) := dk_get kX12_areOfOne_ok 10 rfl
theorem dX12_areOfOne_19 : decode cX12_areOfOne 19 = .ok (.iconst 1, 1) := dk_get kX12_areOfOne_ok 11 rfl
theorem dX12_areOfOne_20 : decode cX12_areOfOne 20 = .ok (.goto 4, 3) := dk_get kX12_areOfOne_ok 12 rfl
theorem dX12_areOfOne_23 : decode cX12_areOfOne 23 = .ok (.iconst 0, 1) := dk_get kX12_areOfOne_ok 13 rfl
theorem dX12_areOfOne_24 : decode cX12_areOfOne 24 = .ok (.ireturn, 1) := dk_get kX12_areOfOne_ok 14 rfl
def kX12_always : List (Nat × Instr × Nat) := [(0, .aload_n 0, 1), (1, .iconst 0, 1), (2, .putfield 1, 3), (5, .aload_n 0, 1), (6, .iload_n 1, 1), (7, .iload_n 2, 1), (8, .invokevirtual 362, 3), (11, .ifCond .ne 5, 3), (14, .iconst 0, 1), (15, .ireturn, 1), (16, .aload_n 0, 1), (17, .iload_n 1, 1), (18, .iload_n 2, 1), (19, .invokevirtual 560, 3), (22, .ifCond .ne 6, 3), (25, .bipush (-2), 2), (27, .ireturn, 1), (28, .aload_n 0, 1), (29, .iload_n 1, 1), (30, .iload_n 2, 1), (31, .if_icmp .ge 7, 3), (34, .iload_n 1, 1), (35, .goto 4, 3), (38, .iload_n 2, 1), (39, .invokevirtual 550, 3), (42, .istore_n 3, 1), (43, .aload_n 0, 1), (44, .iload_n 1, 1), (45, .iload_n 2, 1), (46, .if_icmp .ge 7, 3), (49, .iload_n 2, 1), (50, .goto 4, 3), (53, .iload_n 1, 1), (54, .invokevirtual 550, 3), (57, .istore 4, 2), (59, .aload_n 0, 1), (60, .getfield 523, 3), (63, .iload_n 3, 1), (64, .iload 4, 2), (66, .invokestatic 514, 3), (69, .lshr, 1), (70, .lconst 1, 1), (71, .land, 1), (72, .lconst 1, 1), (73, .lcmp, 1), (74, .ifCond .ne 7, 3), (77, .iconst 1, 1), (78, .goto 26, 3), (81, .aload_n 0, 1), (82, .getfield 526, 3), (85, .iload_n 3, 1), (86, .iload 4, 2), (88, .invokestatic 514, 3), (91, .lshr, 1), (92, .lconst 1, 1), (93, .land, 1), (94, .lconst 0, 1), (95, .lcmp, 1), (96, .ifCond .ne 7, 3), (99, .iconst (-1), 1), (100, .goto 4, 3), (103, .iconst 0, 1), (104, .ireturn, 1)]
set_option maxRecDepth 100000 in
theorem kX12_always_ok : kX12_always.all (fun q => decide (decode cX12_always q.1 = .ok q.2)) = true := by decide +kernel
theorem dX12_always_0 : decode cX12_always 0 = .ok (.aload_n 0, 1) := dk_get kX12_always_ok 0 rfl
theorem dX12_always_1 : decode cX12_always 1 = .ok (.iconst 0, 1) := dk_get kX12_always_ok 1 rfl
theorem dX12_always_2 : decode cX12_always 2 = .ok (.putfield 1, 3) := dk_get kX12_always_ok 2 rfl
theorem dX12_always_5 : decode cX12_always 5 = .ok (.aload_n 0, 1) := dk_get kX12_always_ok 3 rfl
theorem dX12_always_6 : decode cX12_always 6 = .ok (.iload_n 1, 1) := dk_get kX12_always_ok 4 rfl
theorem dX12_always_7 : decode cX12_always 7 = .ok (.iload_n 2, 1) := dk_get kX12_always_ok 5 rfl
theorem dX12_always_8 : decode cX12_always 8 = .ok (.invokevirtual 362, 3) := dk_get kX12_always_ok 6 rfl
theorem dX12_always_11 : decode cX12_always 11 = .ok (.ifCond .ne 5, 3) := dk_get kX12_always_ok 7 rfl
theorem dX12_always_14 : decode cX12_always 14 = .ok (.iconst 0, 1) := dk_get kX12_always_ok 8 rfl
theorem dX12_always_15 : decode cX12_always 15 = .ok (.ireturn, 1) := dk_get kX12_always_ok 9 rfl
theorem dX12_always_16 : decode cX12_always 16 = .ok (.aload_n 0, 1) := dk_get kX12_always_ok 10 rfl
theorem dX12_always_17 : decode cX12_always 17 = .ok (.iload_n 1, 1) := dk_get kX12_always_ok 11 rfl
theorem dX12_always_18 : decode cX12_always 18 = .ok (.iload_n 2, 1) := dk_get kX12_always_ok 12 rfl
theorem dX12_always_19 : decode cX12_always 19 = .ok (.invokevirtual 560, 3) := dk_get kX12_always_ok 13 rfl
theorem dX12_always_22 : decode cX12_always 22 = .ok (.ifCond .ne 6, 3) := dk_get kX12_always_ok 14 rfl
theorem dX12_always_25 : decode cX12_always 25 = .ok (.bipush (-2), 2) := dk_get kX12_always_ok 15 rfl
theorem dX12_always_27 : decode cX12_always 27 = .ok (.ireturn, 1) := dk_get kX12_always_ok 16 rfl
theorem dX12_always_28 : decode cX12_always 28 = .ok (.aload_n 0, 1) := dk_get kX12_always_ok 17 rfl
theorem dX12_always_29 : decode cX12_always 29 = .ok (.iload_n 1, 1) := dk_get kX12_always_ok 18 rfl
theorem dX12_always_30 : decode cX12_always 30 = .ok (.iload_n 2, 1) := dk_get kX12_always_ok 19 rfl
theorem dX12_always_31 : decode cX12_always 31 = .ok (.if_icmp .ge 7, 3) := dk_get kX12_always_ok 20 rfl
theorem dX12_always_34 : decode cX12_always 34 = .ok (.iload_n 1, 1) := dk_get kX12_always_ok 21 rfl
theorem dX12_always_35 : decode cX12_always 35 = .ok (.goto 4, 3) := dk_get kX12_always_ok 22 rfl
theorem dX12_always_38 : decode cX12_always 38 = .ok (.iload_n 2, 1) := dk_get kX12_always_ok 23 rfl
theorem dX12_always_39 : decode cX12_always 39 = .ok (.invokevirtual 550, 3) := dk_get kX12_always_ok 24 rfl
theorem dX12_always_42 : decode cX12_always 42 = .ok (.istore_n 3, 1) := dk_get kX12_always_ok 25 rfl
theorem dX12_always_43 : decode cX12_always 43 = .ok (.aload_n 0, 1) := dk_get kX12_always_ok 26 rfl
theorem dX12_always_44 : decode cX12_always 44 = .ok (.iload_n 1, 1) := dk_get kX12_always_ok 27 rfl
theorem dX12_always_45 : decode cX12_always 45 = .ok (.iload_n 2, 1) := dk_get kX12_always_ok 28 rfl
theorem dX12_always_46 : decode cX12_always 46 = .ok (.if_icmp .ge 7, 3) := dk_get kX12_always_ok 29 rfl
theorem dX12_always_49 : decode cX12_always 49 = .ok (.iload_n 2, 1) := dk_get kX12_always_ok 30 rfl
theorem dX12_always_50 : decode cX12_always 50 = .ok (.goto 4, 3) := dk_get kX12_always_ok 31 rfl
theorem dX12_always_53 : decode cX12_always 53 = .ok (.iload_n 1, 1) := dk_get kX12_always_ok 32 rfl
theorem dX12_always_54 : decode cX12_always 54 = .ok (.invokevirtual 550, 3) := dk_get kX12_always_ok 33 rfl
theorem dX12_always_57 : decode cX12_always 57 = .ok (.istore 4, 2) := dk_get kX12_always_ok 34 rfl
theorem dX12_always_59 : decode cX12_always 59 = .ok (.aload_n 0, 1) := dk_get kX12_always_ok 35 rfl
theorem dX12_always_60 : decode cX12_always 60 = .ok (.getfield 523, 3) := dk_get kX12_always_ok 36 rfl
theorem dX12_always_63 : decode cX12_always 63 = .ok (.iload_n 3, 1) := dk_get kX12_always_ok 37 rfl
theorem dX12_always_64 : decode cX12_always 64 = .ok (.iload 4, 2) := dk_get kX12_always_ok 38 rfl
theorem dX12_always_66 : decode cX12_always 66 = .ok (.invokestatic 514, 3) := dk_get kX12_always_ok 39 rfl
theorem dX12_always_69 : decode cX12_always 69 = .ok (.lshr, 1) := dk_get kX12_always_ok 40 rfl
theorem dX12_always_70 : decode cX12_always 70 = .ok (.lconst 1, 1) := dk_get kX12_always_ok 41 rfl
theorem dX12_always_71 : decode cX12_always 71 = .ok (.land, 1) := dk_get kX12_always_ok 42 rfl
theorem dX12_always_72 : decode cX12_always 72 = .ok (.lconst 1, 1) := dk_get kX12_always_ok 43 rfl
theorem dX12_always_73 : decode cX12_always 73 = .ok (.lcmp, 1) := dk_get kX12_always_ok 44 rfl
theorem dX12_always_74 : decode cX12_always 74 = .ok (.ifCond .ne 7, 3) := dk_get kX12_always_ok 45 rfl
theorem dX12_always_77 : decode cX12_always 77 = .ok (.iconst 1, 1) := dk_get kX12_always_ok 46 rfl
theorem dX12_always_78 : decode cX12_always 78 = .ok (.goto 26, 3) := dk_get kX12_always_ok 47 rfl
theorem dX12_always_81 : decode cX12_always 81 = .ok (.aload_n 0, 1) := dk_get kX12_always_ok 48 rfl
theorem dX12_always_82 : decode cX12_always 82 = .ok (.getfield 526, 3) := dk_get kX12_always_ok 49 rfl
theorem dX12_always_85 : decode cX12_always 85 = .ok (.iload_n 3, 1) := dk_get kX12_always_ok 50 rfl
theorem dX12_always_86 : decode cX12_always 86 = .ok (.iload 4, 2) := dk_get kX12_always_ok 51 rfl
theorem dX12_always_88 : decode cX12_always 88 = .ok (.invokestatic 514, 3) := dk_get kX12_always_ok 52 rfl
theorem dX12_always_91 : decode cX12_always 91 = .ok (.lshr, 1) := dk_get kX12_always_ok 53 rfl
theorem dX12_always_92 : decode cX12_always 92 = .ok (.lconst 1, 1) := dk_get kX12_always_ok 54 rfl
theorem dX12_always_93 : decode cX12_always 93 = .ok (.land, 1) := dk_get kX12_always_ok 55 rfl
theorem dX12_always_94 : decode cX12_always 94 = .ok (.lconst 0, 1) := dk_get kX12_always_ok 56 rfl
theorem dX12_always_95 : decode cX12_always 95 = .ok (.lcmp, 1) := dk_get kX12_always_ok 57 rfl
theorem dX12_always_96 : decode cX12_always 96 = .ok (.ifCond .ne 7, 3) := dk_get kX12_always_ok 58 rfl
theorem dX12_always_99 : decode cX12_always 99 = .ok (.iconst (-1), 1) := dk_get kX12_always_ok 59 rfl
theorem dX12_always_100 : decode cX12_always 100 = .ok (.goto 4, 3) := dk_get kX12_always_ok 60 rfl
theorem dX12_always_103 : decode cX12_always 103 = .ok (.iconst 0, 1) := dk_get kX12_always_ok 61 rfl
theorem dX12_always_104 : decode cX12_always 104 = .ok (.ireturn, 1) := dk_get kX12_always_ok 62 rfl
def kX12_edgeOf : List (Nat × Instr × Nat) := [(0, .aload_n 0, 1), (1, .iload_n 1, 1), (2, .iload_n 2, 1), (3, .invokevirtual 560, 3), (6, .ifCond .ne 7, 3), (9, .ldc2_w 423, 3), (12, .lreturn, 1), (13, .aload_n 0, 1), (14, .aload_n 0, 1), (15, .iload_n 1, 1), (16, .invokevirtual 550, 3), (19, .putfield 532, 3), (22, .aload_n 0, 1), (23, .aload_n 0, 1), (24, .iload_n 2, 1), (25, .invokevirtual 550, 3), (28, .putfield 535, 3), (31, .aload_n 0, 1), (32, .ldc2_w 468, 3), (35, .putfield 486, 3), (38, .aload_n 0, 1), (39, .ldc2_w 468, 3), (42, .putfield 489, 3), (45, .aload_n 0, 1), (46, .iconst 1, 1), (47, .invokevirtual 541, 3), (50, .aload_n 0, 1), (51, .getfield 486, 3), (54, .lconst 0, 1), (55, .lcmp, 1), (56, .ifCond .lt 12, 3), (59, .aload_n 0, 1), (60, .getfield 489, 3), (63, .lconst 0, 1), (64, .lcmp, 1), (65, .ifCond .ge 9, 3), (68, .ldc2_w 423, 3), (71, .goto 12, 3), (74, .aload_n 0, 1), (75, .getfield 486, 3), (78, .aload_n 0, 1), (79, .getfield 489, 3), (82, .lsub, 1), (83, .lreturn, 1)]
set_option maxRecDepth 100000 in
theorem kX12_edgeOf_ok : kX12_edgeOf.all (fun q => decide (decode cX12_edgeOf q.1 = .ok q.2)) = true := by decide +kernel
theorem dX12_edgeOf_0 : decode cX12_edgeOf 0 = .ok (.aload_n 0, 1) := dk_get kX12_edgeOf_ok 0 rfl
theorem dX12_edgeOf_1 : decode cX12_edgeOf 1 = .ok (.iload_n 1, 1) := dk_get kX12_edgeOf_ok 1 rfl
theorem dX12_edgeOf_2 : decode cX12_edgeOf 2 = .ok (.iload_n 2, 1) := dk_get kX12_edgeOf_ok 2 rfl
theorem dX12_edgeOf_3 : decode cX12_edgeOf 3 = .ok (.invokevirtual 560, 3) := dk_get kX12_edgeOf_ok 3 rfl
theorem dX12_edgeOf_6 : decode cX12_edgeOf 6 = .ok (.ifCond .ne 7, 3) := dk_get kX12_edgeOf_ok 4 rfl
theorem dX12_edgeOf_9 : decode cX12_edgeOf 9 = .ok (.ldc2_w 423, 3) := dk_get kX12_edgeOf_ok 5 rfl
theorem dX12_edgeOf_12 : decode cX12_edgeOf 12 = .ok (.lreturn, 1) := dk_get kX12_edgeOf_ok 6 rfl
theorem dX12_edgeOf_13 : decode cX12_edgeOf 13 = .ok (.aload_n 0, 1) := dk_get kX12_edgeOf_ok 7 rfl
theorem dX12_edgeOf_14 : decode cX12_edgeOf 14 = .ok (.aload_n 0, 1) := dk_get kX12_edgeOf_ok 8 rfl
theorem dX12_edgeOf_15 : decode cX12_edgeOf 15 = .ok (.iload_n 1, 1) := dk_get kX12_edgeOf_ok 9 rfl
theorem dX12_edgeOf_16 : decode cX12_edgeOf 16 = .ok (.invokevirtual 550, 3) := dk_get kX12_edgeOf_ok 10 rfl
theorem dX12_edgeOf_19 : decode cX12_edgeOf 19 = .ok (.putfield 532, 3) := dk_get kX12_edgeOf_ok 11 rfl
theorem dX12_edgeOf_22 : decode cX12_edgeOf 22 = .ok (.aload_n 0, 1) := dk_get kX12_edgeOf_ok 12 rfl
theorem dX12_edgeOf_23 : decode cX12_edgeOf 23 = .ok (.aload_n 0, 1) := dk_get kX12_edgeOf_ok 13 rfl
theorem dX12_edgeOf_24 : decode cX12_edgeOf 24 = .ok (.iload_n 2, 1) := dk_get kX12_edgeOf_ok 14 rfl
theorem dX12_edgeOf_25 : decode cX12_edgeOf 25 = .ok (.invokevirtual 550, 3) := dk_get kX12_edgeOf_ok 15 rfl
theorem dX12_edgeOf_28 : decode cX12_edgeOf 28 = .ok (.putfield 535, 3) := dk_get kX12_edgeOf_ok 16 rfl
theorem dX12_edgeOf_31 : decode cX12_edgeOf 31 = .ok (.aload_n 0, 1) := dk_get kX12_edgeOf_ok 17 rfl
theorem dX12_edgeOf_32 : decode cX12_edgeOf 32 = .ok (.ldc2_w 468, 3) := dk_get kX12_edgeOf_ok 18 rfl
theorem dX12_edgeOf_35 : decode cX12_edgeOf 35 = .ok (.putfield 486, 3) := dk_get kX12_edgeOf_ok 19 rfl
theorem dX12_edgeOf_38 : decode cX12_edgeOf 38 = .ok (.aload_n 0, 1) := dk_get kX12_edgeOf_ok 20 rfl
theorem dX12_edgeOf_39 : decode cX12_edgeOf 39 = .ok (.ldc2_w 468, 3) := dk_get kX12_edgeOf_ok 21 rfl
theorem dX12_edgeOf_42 : decode cX12_edgeOf 42 = .ok (.putfield 489, 3) := dk_get kX12_edgeOf_ok 22 rfl
theorem dX12_edgeOf_45 : decode cX12_edgeOf 45 = .ok (.aload_n 0, 1) := dk_get kX12_edgeOf_ok 23 rfl
theorem dX12_edgeOf_46 : decode cX12_edgeOf 46 = .ok (.iconst 1, 1) := dk_get kX12_edgeOf_ok 24 rfl
theorem dX12_edgeOf_47 : decode cX12_edgeOf 47 = .ok (.invokevirtual 541, 3) := dk_get kX12_edgeOf_ok 25 rfl
theorem dX12_edgeOf_50 : decode cX12_edgeOf 50 = .ok (.aload_n 0, 1) := dk_get kX12_edgeOf_ok 26 rfl
theorem dX12_edgeOf_51 : decode cX12_edgeOf 51 = .ok (.getfield 486, 3) := dk_get kX12_edgeOf_ok 27 rfl
theorem dX12_edgeOf_54 : decode cX12_edgeOf 54 = .ok (.lconst 0, 1) := dk_get kX12_edgeOf_ok 28 rfl
theorem dX12_edgeOf_55 : decode cX12_edgeOf 55 = .ok (.lcmp, 1) := dk_get kX12_edgeOf_ok 29 rfl
theorem dX12_edgeOf_56 : decode cX12_edgeOf 56 = .ok (.ifCond .lt 12, 3) := dk_get kX12_edgeOf_ok 30 rfl
theorem dX12_edgeOf_59 : decode cX12_edgeOf 59 = .ok (.aload_n 0, 1) := dk_get kX12_edgeOf_ok 31 rfl
theorem dX12_edgeOf_60 : decode cX12_edgeOf 60 = .ok (.getfield 489, 3) := dk_get kX12_edgeOf_ok 32 rfl
theorem dX12_edgeOf_63 : decode cX12_edgeOf 63 = .ok (.lconst 0, 1) := dk_get kX12_edgeOf_ok 33 rfl
theorem dX12_edgeOf_64 : decode cX12_edgeOf 64 = .ok (.lcmp, 1) := dk_get kX12_edgeOf_ok 34 rfl
theorem dX12_edgeOf_65 : decode cX12_edgeOf 65 = .ok (.ifCond .ge 9, 3) := dk_get kX12_edgeOf_ok 35 rfl
theorem dX12_edgeOf_68 : decode cX12_edgeOf 68 = .ok (.ldc2_w 423, 3) := dk_get kX12_edgeOf_ok 36 rfl
theorem dX12_edgeOf_71 : decode cX12_edgeOf 71 = .ok (.goto 12, 3) := dk_get kX12_edgeOf_ok 37 rfl
theorem dX12_edgeOf_74 : decode cX12_edgeOf 74 = .ok (.aload_n 0, 1) := dk_get kX12_edgeOf_ok 38 rfl
theorem dX12_edgeOf_75 : decode cX12_edgeOf 75 = .ok (.getfield 486, 3) := dk_get kX12_edgeOf_ok 39 rfl
theorem dX12_edgeOf_78 : decode cX12_edgeOf 78 = .ok (.aload_n 0, 1) := dk_get kX12_edgeOf_ok 40 rfl
theorem dX12_edgeOf_79 : decode cX12_edgeOf 79 = .ok (.getfield 489, 3) := dk_get kX12_edgeOf_ok 41 rfl
theorem dX12_edgeOf_82 : decode cX12_edgeOf 82 = .ok (.lsub, 1) := dk_get kX12_edgeOf_ok 42 rfl
theorem dX12_edgeOf_83 : decode cX12_edgeOf 83 = .ok (.lreturn, 1) := dk_get kX12_edgeOf_ok 43 rfl
def kX12_edge : List (Nat × Instr × Nat) := [(0, .aload_n 0, 1), (1, .iconst 0, 1), (2, .putfield 1, 3), (5, .aload_n 0, 1), (6, .iload_n 1, 1), (7, .iload_n 2, 1), (8, .invokevirtual 362, 3), (11, .ifCond .ne 5, 3), (14, .lconst 0, 1), (15, .lreturn, 1), (16, .aload_n 0, 1), (17, .iload_n 1, 1), (18, .iload_n 2, 1), (19, .invokevirtual 563, 3), (22, .lreturn, 1)]
set_option maxRecDepth 100000 in
theorem kX12_edge_ok : kX12_edge.all (fun q => decide (decode cX12_edge q.1 = .ok q.2)) = true := by decide +kernel
theorem dX12_edge_0 : decode cX12_edge 0 = .ok (.aload_n 0, 1) := dk_get kX12_edge_ok 0 rfl
theorem dX12_edge_1 : decode cX12_edge 1 = .ok (.iconst 0, 1) := dk_get kX12_edge_ok 1 rfl
theorem dX12_edge_2 : decode cX12_edge 2 = .ok (.putfield 1, 3) := dk_get kX12_edge_ok 2 rfl
theorem dX12_edge_5 : decode cX12_edge 5 = .ok (.aload_n 0, 1) := dk_get kX12_edge_ok 3 rfl
theorem dX12_edge_6 : decode cX12_edge 6 = .ok (.iload_n 1, 1) := dk_get kX12_edge_ok 4 rfl
theorem dX12_edge_7 : decode cX12_edge 7 = .ok (.iload_n 2, 1) := dk_get kX12_edge_ok 5 rfl
theorem dX12_edge_8 : decode cX12_edge 8 = .ok (.invokevirtual 362, 3) := dk_get kX12_edge_ok 6 rfl
theorem dX12_edge_11 : decode cX12_edge 11 = .ok (.ifCond .ne 5, 3) := dk_get kX12_edge_ok 7 rfl
theorem dX12_edge_14 : decode cX12_edge 14 = .ok (.lconst 0, 1) := dk_get kX12_edge_ok 8 rfl
theorem dX12_edge_15 : decode cX12_edge 15 = .ok (.lreturn, 1) := dk_get kX12_edge_ok 9 rfl
theorem dX12_edge_16 : decode cX12_edge 16 = .ok (.aload_n 0, 1) := dk_get kX12_edge_ok 10 rfl
theorem dX12_edge_17 : decode cX12_edge 17 = .ok (.iload_n 1, 1) := dk_get kX12_edge_ok 11 rfl
theorem dX12_edge_18 : decode cX12_edge 18 = .ok (.iload_n 2, 1) := dk_get kX12_edge_ok 12 rfl
theorem dX12_edge_19 : decode cX12_edge 19 = .ok (.invokevirtual 563, 3) := dk_get kX12_edge_ok 13 rfl
theorem dX12_edge_22 : decode cX12_edge 22 = .ok (.lreturn, 1) := dk_get kX12_edge_ok 14 rfl
def kX12_holds : List (Nat × Instr × Nat) := [(0, .aload_n 0, 1), (1, .iconst 0, 1), (2, .putfield 1, 3), (5, .aload_n 0, 1), (6, .iload_n 1, 1), (7, .iload_n 2, 1), (8, .invokevirtual 362, 3), (11, .ifCond .eq 18, 3), (14, .aload_n 0, 1), (15, .iload_n 3, 1), (16, .iconst 0, 1), (17, .bipush 100, 2), (19, .invokestatic 169, 3), (22, .iconst 2, 1), (23, .invokevirtual 173, 3), (26, .ifCond .ne 5, 3), (29, .iconst 0, 1), (30, .ireturn, 1), (31, .aload_n 0, 1), (32, .iload_n 1, 1), (33, .iload_n 2, 1), (34, .invokevirtual 563, 3), (37, .lstore 4, 2), (39, .lload 4, 2), (41, .ldc2_w 423, 3), (44, .lcmp, 1), (45, .ifCond .ne 6, 3), (48, .bipush (-2), 2), (50, .ireturn, 1), (51, .lconst 0, 1), (52, .lstore 6, 2), (54, .iconst 0, 1), (55, .istore 8, 2), (57, .iload 8, 2), (59, .aload_n 0, 1), (60, .getfield 194, 3), (63, .if_icmp .ge 62, 3), (66, .iload 8, 2), (68, .iconst 1, 1), (69, .iadd, 1), (70, .istore 9, 2), (72, .iload 9, 2), (74, .aload_n 0, 1), (75, .getfield 194, 3), (78, .if_icmp .ge 41, 3), (81, .lload 6, 2), (83, .aload_n 0, 1), (84, .getfield 89, 3), (87, .bipush 30, 2), (89, .aload_n 0, 1), (90, .getfield 138, 3), (93, .iload 8, 2), (95, .iaload, 1), (96, .imul, 1), (97, .aload_n 0, 1), (98, .getfield 138, 3), (101, .iload 9, 2), (103, .iaload, 1), (104, .iadd, 1), (105, .iaload, 1), (106, .invokestatic 323, 3), (109, .i2l, 1), (110, .ladd, 1), (111, .lstore 6, 2), (113, .iinc 9 1, 3), (116, .goto (-44), 3), (119, .iinc 8 1, 3), (122, .goto (-65), 3), (125, .ldc2_w 566, 3), (128, .lload 4, 2), (130, .lmul, 1), (131, .ldc2_w 568, 3), (134, .iload_n 3, 1), (135, .i2l, 1), (136, .lmul, 1), (137, .lload 6, 2), (139, .lmul, 1), (140, .lcmp, 1), (141, .ifCond .le 7, 3), (144, .iconst 1, 1), (145, .goto 27, 3), (148, .ldc2_w 566, 3), (151, .lload 4, 2), (153, .lmul, 1), (154, .ldc2_w 470, 3), (157, .iload_n 3, 1), (158, .i2l, 1), (159, .lmul, 1), (160, .lload 6, 2), (162, .lmul, 1), (163, .lcmp, 1), (164, .ifCond .ge 7, 3), (167, .iconst (-1), 1), (168, .goto 4, 3), (171, .iconst 0, 1), (172, .ireturn, 1)]
set_option maxRecDepth 100000 in
theorem kX12_holds_ok : kX12_holds.all (fun q => decide (decode cX12_holds q.1 = .ok q.2)) = true := by decide +kernel
theorem dX12_holds_0 : decode cX12_holds 0 = .ok (.aload_n 0, 1) := dk_get kX12_holds_ok 0 rfl
theorem dX12_holds_1 : decode cX12_holds 1 = .ok (.iconst 0, 1) := dk_get kX12_holds_ok 1 rfl
theorem dX12_holds_2 : decode cX12_holds 2 = .ok (.putfield 1, 3) := dk_get kX12_holds_ok 2 rfl
theorem dX12_holds_5 : decode cX12_holds 5 = .ok (.aload_n 0, 1) := dk_get kX12_holds_ok 3 rfl
theorem dX12_holds_6 : decode cX12_holds 6 = .ok (.iload_n 1, 1) := dk_get kX12_holds_ok 4 rfl
theorem dX12_holds_7 : decode cX12_holds 7 = .ok (.iload_n 2, 1) := dk_get kX12_holds_ok 5 rfl
theorem dX12_holds_8 : decode cX12_holds 8 = .ok (.invokevirtual 362, 3) := dk_get kX12_holds_ok 6 rfl
theorem dX12_holds_11 : decode cX12_holds 11 = .ok (.ifCond .eq 18, 3) := dk_get kX12_holds_ok 7 rfl
theorem dX12_holds_14 : decode cX12_holds 14 = .ok (.aload_n 0, 1) := dk_get kX12_holds_ok 8 rfl
theorem dX12_holds_15 : decode cX12_holds 15 = .ok (.iload_n 3, 1) := dk_get kX12_holds_ok 9 rfl
theorem dX12_holds_16 : decode cX12_holds 16 = .ok (.iconst 0, 1) := dk_get kX12_holds_ok 10 rfl
theorem dX12_holds_17 : decode cX12_holds 17 = .ok (.bipush 100, 2) := dk_get kX12_holds_ok 11 rfl
theorem dX12_holds_19 : decode cX12_holds 19 = .ok (.invokestatic 169, 3) := dk_get kX12_holds_ok 12 rfl
theorem dX12_holds_22 : decode cX12_holds 22 = .ok (.iconst 2, 1) := dk_get kX12_holds_ok 13 rfl
theorem dX12_holds_23 : decode cX12_holds 23 = .ok (.invokevirtual 173, 3) := dk_get kX12_holds_ok 14 rfl
theorem dX12_holds_26 : decode cX12_holds 26 = .ok (.ifCond .ne 5, 3) := dk_get kX12_holds_ok 15 rfl
theorem dX12_holds_29 : decode cX12_holds 29 = .ok (.iconst 0, 1) := dk_get kX12_holds_ok 16 rfl
theorem dX12_holds_30 : decode cX12_holds 30 = .ok (.ireturn, 1) := dk_get kX12_holds_ok 17 rfl
theorem dX12_holds_31 : decode cX12_holds 31 = .ok (.aload_n 0, 1) := dk_get kX12_holds_ok 18 rfl
theorem dX12_holds_32 : decode cX12_holds 32 = .ok (.iload_n 1, 1) := dk_get kX12_holds_ok 19 rfl
theorem dX12_holds_33 : decode cX12_holds 33 = .ok (.iload_n 2, 1) := dk_get kX12_holds_ok 20 rfl
theorem dX12_holds_34 : decode cX12_holds 34 = .ok (.invokevirtual 563, 3) := dk_get kX12_holds_ok 21 rfl
theorem dX12_holds_37 : decode cX12_holds 37 = .ok (.lstore 4, 2) := dk_get kX12_holds_ok 22 rfl
theorem dX12_holds_39 : decode cX12_holds 39 = .ok (.lload 4, 2) := dk_get kX12_holds_ok 23 rfl
theorem dX12_holds_41 : decode cX12_holds 41 = .ok (.ldc2_w 423, 3) := dk_get kX12_holds_ok 24 rfl
theorem dX12_holds_44 : decode cX12_holds 44 = .ok (.lcmp, 1) := dk_get kX12_holds_ok 25 rfl
theorem dX12_holds_45 : decode cX12_holds 45 = .ok (.ifCond .ne 6, 3) := dk_get kX12_holds_ok 26 rfl
theorem dX12_holds_48 : decode cX12_holds 48 = .ok (.bipush (-2), 2) := dk_get kX12_holds_ok 27 rfl
theorem dX12_holds_50 : decode cX12_holds 50 = .ok (.ireturn, 1) := dk_get kX12_holds_ok 28 rfl
theorem dX12_holds_51 : decode cX12_holds 51 = .ok (.lconst 0, 1) := dk_get kX12_holds_ok 29 rfl
theorem dX12_holds_52 : decode cX12_holds 52 = .ok (.lstore 6, 2) := dk_get kX12_holds_ok 30 rfl
theorem dX12_holds_54 : decode cX12_holds 54 = .ok (.iconst 0, 1) := dk_get kX12_holds_ok 31 rfl
theorem dX12_holds_55 : decode cX12_holds 55 = .ok (.istore 8, 2) := dk_get kX12_holds_ok 32 rfl
theorem dX12_holds_57 : decode cX12_holds 57 = .ok (.iload 8, 2) := dk_get kX12_holds_ok 33 rfl
theorem dX12_holds_59 : decode cX12_holds 59 = .ok (.aload_n 0, 1) := dk_get kX12_holds_ok 34 rfl
theorem dX12_holds_60 : decode cX12_holds 60 = .ok (.getfield 194, 3) := dk_get kX12_holds_ok 35 rfl
theorem dX12_holds_63 : decode cX12_holds 63 = .ok (.if_icmp .ge 62, 3) := dk_get kX12_holds_ok 36 rfl
theorem dX12_holds_66 : decode cX12_holds 66 = .ok (.iload 8, 2) := dk_get kX12_holds_ok 37 rfl
theorem dX12_holds_68 : decode cX12_holds 68 = .ok (.iconst 1, 1) := dk_get kX12_holds_ok 38 rfl
theorem dX12_holds_69 : decode cX12_holds 69 = .ok (.iadd, 1) := dk_get kX12_holds_ok 39 rfl
theorem dX12_holds_70 : decode cX12_holds 70 = .ok (.istore 9, 2) := dk_get kX12_holds_ok 40 rfl
theorem dX12_holds_72 : decode cX12_holds 72 = .ok (.iload 9, 2) := dk_get kX12_holds_ok 41 rfl
theorem dX12_holds_74 : decode cX12_holds 74 = .ok (.aload_n 0, 1) := dk_get kX12_holds_ok 42 rfl
theorem dX12_holds_75 : decode cX12_holds 75 = .ok (.getfield 194, 3) := dk_get kX12_holds_ok 43 rfl
theorem dX12_holds_78 : decode cX12_holds 78 = .ok (.if_icmp .ge 41, 3) := dk_get kX12_holds_ok 44 rfl
theorem dX12_holds_81 : decode cX12_holds 81 = .ok (.lload 6, 2) := dk_get kX12_holds_ok 45 rfl
theorem dX12_holds_83 : decode cX12_holds 83 = .ok (.aload_n 0, 1) := dk_get kX12_holds_ok 46 rfl
theorem dX12_holds_84 : decode cX12_holds 84 = .ok (.getfield 89, 3) := dk_get kX12_holds_ok 47 rfl
theorem dX12_holds_87 : decode cX12_holds 87 = .ok (.bipush 30, 2) := dk_get kX12_holds_ok 48 rfl
theorem dX12_holds_89 : decode cX12_holds 89 = .ok (.aload_n 0, 1) := dk_get kX12_holds_ok 49 rfl
theorem dX12_holds_90 : decode cX12_holds 90 = .ok (.getfield 138, 3) := dk_get kX12_holds_ok 50 rfl
theorem dX12_holds_93 : decode cX12_holds 93 = .ok (.iload 8, 2) := dk_get kX12_holds_ok 51 rfl
theorem dX12_holds_95 : decode cX12_holds 95 = .ok (.iaload, 1) := dk_get kX12_holds_ok 52 rfl
theorem dX12_holds_96 : decode cX12_holds 96 = .ok (.imul, 1) := dk_get kX12_holds_ok 53 rfl
theorem dX12_holds_97 : decode cX12_holds 97 = .ok (.aload_n 0, 1) := dk_get kX12_holds_ok 54 rfl
theorem dX12_holds_98 : decode cX12_holds 98 = .ok (.getfield 138, 3) := dk_get kX12_holds_ok 55 rfl
theorem dX12_holds_101 : decode cX12_holds 101 = .ok (.iload 9, 2) := dk_get kX12_holds_ok 56 rfl
theorem dX12_holds_103 : decode cX12_holds 103 = .ok (.iaload, 1) := dk_get kX12_holds_ok 57 rfl
theorem dX12_holds_104 : decode cX12_holds 104 = .ok (.iadd, 1) := dk_get kX12_holds_ok 58 rfl
theorem dX12_holds_105 : decode cX12_holds 105 = .ok (.iaload, 1) := dk_get kX12_holds_ok 59 rfl
theorem dX12_holds_106 : decode cX12_holds 106 = .ok (.invokestatic 323, 3) := dk_get kX12_holds_ok 60 rfl
theorem dX12_holds_109 : decode cX12_holds 109 = .ok (.i2l, 1) := dk_get kX12_holds_ok 61 rfl
theorem dX12_holds_110 : decode cX12_holds 110 = .ok (.ladd, 1) := dk_get kX12_holds_ok 62 rfl
theorem dX12_holds_111 : decode cX12_holds 111 = .ok (.lstore 6, 2) := dk_get kX12_holds_ok 63 rfl
theorem dX12_holds_113 : decode cX12_holds 113 = .ok (.iinc 9 1, 3) := dk_get kX12_holds_ok 64 rfl
theorem dX12_holds_116 : decode cX12_holds 116 = .ok (.goto (-44), 3) := dk_get kX12_holds_ok 65 rfl
theorem dX12_holds_119 : decode cX12_holds 119 = .ok (.iinc 8 1, 3) := dk_get kX12_holds_ok 66 rfl
theorem dX12_holds_122 : decode cX12_holds 122 = .ok (.goto (-65), 3) := dk_get kX12_holds_ok 67 rfl
theorem dX12_holds_125 : decode cX12_holds 125 = .ok (.ldc2_w 566, 3) := dk_get kX12_holds_ok 68 rfl
theorem dX12_holds_128 : decode cX12_holds 128 = .ok (.lload 4, 2) := dk_get kX12_holds_ok 69 rfl
theorem dX12_holds_130 : decode cX12_holds 130 = .ok (.lmul, 1) := dk_get kX12_holds_ok 70 rfl
theorem dX12_holds_131 : decode cX12_holds 131 = .ok (.ldc2_w 568, 3) := dk_get kX12_holds_ok 71 rfl
theorem dX12_holds_134 : decode cX12_holds 134 = .ok (.iload_n 3, 1) := dk_get kX12_holds_ok 72 rfl
theorem dX12_holds_135 : decode cX12_holds 135 = .ok (.i2l, 1) := dk_get kX12_holds_ok 73 rfl
theorem dX12_holds_136 : decode cX12_holds 136 = .ok (.lmul, 1) := dk_get kX12_holds_ok 74 rfl
theorem dX12_holds_137 : decode cX12_holds 137 = .ok (.lload 6, 2) := dk_get kX12_holds_ok 75 rfl
theorem dX12_holds_139 : decode cX12_holds 139 = .ok (.lmul, 1) := dk_get kX12_holds_ok 76 rfl
theorem dX12_holds_140 : decode cX12_holds 140 = .ok (.lcmp, 1) := dk_get kX12_holds_ok 77 rfl
theorem dX12_holds_141 : decode cX12_holds 141 = .ok (.ifCond .le 7, 3) := dk_get kX12_holds_ok 78 rfl
theorem dX12_holds_144 : decode cX12_holds 144 = .ok (.iconst 1, 1) := dk_get kX12_holds_ok 79 rfl
theorem dX12_holds_145 : decode cX12_holds 145 = .ok (.goto 27, 3) := dk_get kX12_holds_ok 80 rfl
theorem dX12_holds_148 : decode cX12_holds 148 = .ok (.ldc2_w 566, 3) := dk_get kX12_holds_ok 81 rfl
theorem dX12_holds_151 : decode cX12_holds 151 = .ok (.lload 4, 2) := dk_get kX12_holds_ok 82 rfl
theorem dX12_holds_153 : decode cX12_holds 153 = .ok (.lmul, 1) := dk_get kX12_holds_ok 83 rfl
theorem dX12_holds_154 : decode cX12_holds 154 = .ok (.ldc2_w 470, 3) := dk_get kX12_holds_ok 84 rfl
theorem dX12_holds_157 : decode cX12_holds 157 = .ok (.iload_n 3, 1) := dk_get kX12_holds_ok 85 rfl
theorem dX12_holds_158 : decode cX12_holds 158 = .ok (.i2l, 1) := dk_get kX12_holds_ok 86 rfl
theorem dX12_holds_159 : decode cX12_holds 159 = .ok (.lmul, 1) := dk_get kX12_holds_ok 87 rfl
theorem dX12_holds_160 : decode cX12_holds 160 = .ok (.lload 6, 2) := dk_get kX12_holds_ok 88 rfl
theorem dX12_holds_162 : decode cX12_holds 162 = .ok (.lmul, 1) := dk_get kX12_holds_ok 89 rfl
theorem dX12_holds_163 : decode cX12_holds 163 = .ok (.lcmp, 1) := dk_get kX12_holds_ok 90 rfl
theorem dX12_holds_164 : decode cX12_holds 164 = .ok (.ifCond .ge 7, 3) := dk_get kX12_holds_ok 91 rfl
theorem dX12_holds_167 : decode cX12_holds 167 = .ok (.iconst (-1), 1) := dk_get kX12_holds_ok 92 rfl
theorem dX12_holds_168 : decode cX12_holds 168 = .ok (.goto 4, 3) := dk_get kX12_holds_ok 93 rfl
theorem dX12_holds_171 : decode cX12_holds 171 = .ok (.iconst 0, 1) := dk_get kX12_holds_ok 94 rfl
theorem dX12_holds_172 : decode cX12_holds 172 = .ok (.ireturn, 1) := dk_get kX12_holds_ok 95 rfl
def kX12_bits : List (Nat × Instr × Nat) := [(0, .iconst 0, 1), (1, .istore_n 2, 1), (2, .lload_n 0, 1), (3, .lstore_n 3, 1), (4, .lload_n 3, 1), (5, .lconst 0, 1), (6, .lcmp, 1), (7, .ifCond .eq 15, 3), (10, .iinc 2 1, 3), (13, .lload_n 3, 1), (14, .lload_n 3, 1), (15, .lconst 1, 1), (16, .lsub, 1), (17, .land, 1), (18, .lstore_n 3, 1), (19, .goto (-15), 3), (22, .iload_n 2, 1), (23, .ireturn, 1)]
set_option maxRecDepth 100000 in
theorem kX12_bits_ok : kX12_bits.all (fun q => decide (decode cX12_bits q.1 = .ok q.2)) = true := by decide +kernel
theorem dX12_bits_0 : decode cX12_bits 0 = .ok (.iconst 0, 1) := dk_get kX12_bits_ok 0 rfl
theorem dX12_bits_1 : decode cX12_bits 1 = .ok (.istore_n 2, 1) := dk_get kX12_bits_ok 1 rfl
theorem dX12_bits_2 : decode cX12_bits 2 = .ok (.lload_n 0, 1) := dk_get kX12_bits_ok 2 rfl
theorem dX12_bits_3 : decode cX12_bits 3 = .ok (.lstore_n 3, 1) := dk_get kX12_bits_ok 3 rfl
theorem dX12_bits_4 : decode cX12_bits 4 = .ok (.lload_n 3, 1) := dk_get kX12_bits_ok 4 rfl
theorem dX12_bits_5 : decode cX12_bits 5 = .ok (.lconst 0, 1) := dk_get kX12_bits_ok 5 rfl
theorem dX12_bits_6 : decode cX12_bits 6 = .ok (.lcmp, 1) := dk_get kX12_bits_ok 6 rfl
theorem dX12_bits_7 : decode cX12_bits 7 = .ok (.ifCond .eq 15, 3) := dk_get kX12_bits_ok 7 rfl
theorem dX12_bits_10 : decode cX12_bits 10 = .ok (.iinc 2 1, 3) := dk_get kX12_bits_ok 8 rfl
theorem dX12_bits_13 : decode cX12_bits 13 = .ok (.lload_n 3, 1) := dk_get kX12_bits_ok 9 rfl
theorem dX12_bits_14 : decode cX12_bits 14 = .ok (.lload_n 3, 1) := dk_get kX12_bits_ok 10 rfl
theorem dX12_bits_15 : decode cX12_bits 15 = .ok (.lconst 1, 1) := dk_get kX12_bits_ok 11 rfl
theorem dX12_bits_16 : decode cX12_bits 16 = .ok (.lsub, 1) := dk_get kX12_bits_ok 12 rfl
theorem dX12_bits_17 : decode cX12_bits 17 = .ok (.land, 1) := dk_get kX12_bits_ok 13 rfl
theorem dX12_bits_18 : decode cX12_bits 18 = .ok (.lstore_n 3, 1) := dk_get kX12_bits_ok 14 rfl
theorem dX12_bits_19 : decode cX12_bits 19 = .ok (.goto (-15), 3) := dk_get kX12_bits_ok 15 rfl
theorem dX12_bits_22 : decode cX12_bits 22 = .ok (.iload_n 2, 1) := dk_get kX12_bits_ok 16 rfl
theorem dX12_bits_23 : decode cX12_bits 23 = .ok (.ireturn, 1) := dk_get kX12_bits_ok 17 rfl
def kX12_freeIn : List (Nat × Instr × Nat) := [(0, .ldc2_w 468, 3), (3, .lstore 4, 2), (5, .lconst 0, 1), (6, .lstore 6, 2), (8, .iconst 0, 1), (9, .istore 8, 2), (11, .iload 8, 2), (13, .aload_n 0, 1), (14, .getfield 520, 3), (17, .if_icmp .ge 52, 3), (20, .aload_n 0, 1), (21, .getfield 153, 3), (24, .iload 8, 2), (26, .laload, 1), (27, .iload_n 1, 1), (28, .lshr, 1), (29, .lconst 1, 1), (30, .land, 1), (31, .lload_n 2, 1), (32, .lcmp, 1), (33, .ifCond .eq 6, 3), (36, .goto 27, 3), (39, .lload 4, 2), (41, .aload_n 0, 1), (42, .getfield 153, 3), (45, .iload 8, 2), (47, .laload, 1), (48, .land, 1), (49, .lstore 4, 2), (51, .lload 6, 2), (53, .aload_n 0, 1), (54, .getfield 153, 3), (57, .iload 8, 2), (59, .laload, 1), (60, .lor, 1), (61, .lstore 6, 2), (63, .iinc 8 1, 3), (66, .goto (-55), 3), (69, .lload 6, 2), (71, .lload 4, 2), (73, .ldc2_w 468, 3), (76, .lxor, 1), (77, .land, 1), (78, .invokestatic 570, 3), (81, .ireturn, 1)]
set_option maxRecDepth 100000 in
theorem kX12_freeIn_ok : kX12_freeIn.all (fun q => decide (decode cX12_freeIn q.1 = .ok q.2)) = true := by decide +kernel
theorem dX12_freeIn_0 : decode cX12_freeIn 0 = .ok (.ldc2_w 468, 3) := dk_get kX12_freeIn_ok 0 rfl
theorem dX12_freeIn_3 : decode cX12_freeIn 3 = .ok (.lstore 4, 2) := dk_get kX12_freeIn_ok 1 rfl
theorem dX12_freeIn_5 : decode cX12_freeIn 5 = .ok (.lconst 0, 1) := dk_get kX12_freeIn_ok 2 rfl
theorem dX12_freeIn_6 : decode cX12_freeIn 6 = .ok (.lstore 6, 2) := dk_get kX12_freeIn_ok 3 rfl
theorem dX12_freeIn_8 : decode cX12_freeIn 8 = .ok (.iconst 0, 1) := dk_get kX12_freeIn_ok 4 rfl
theorem dX12_freeIn_9 : decode cX12_freeIn 9 = .ok (.istore 8, 2) := dk_get kX12_freeIn_ok 5 rfl
theorem dX12_freeIn_11 : decode cX12_freeIn 11 = .ok (.iload 8, 2) := dk_get kX12_freeIn_ok 6 rfl
theorem dX12_freeIn_13 : decode cX12_freeIn 13 = .ok (.aload_n 0, 1) := dk_get kX12_freeIn_ok 7 rfl
theorem dX12_freeIn_14 : decode cX12_freeIn 14 = .ok (.getfield 520, 3) := dk_get kX12_freeIn_ok 8 rfl
theorem dX12_freeIn_17 : decode cX12_freeIn 17 = .ok (.if_icmp .ge 52, 3) := dk_get kX12_freeIn_ok 9 rfl
theorem dX12_freeIn_20 : decode cX12_freeIn 20 = .ok (.aload_n 0, 1) := dk_get kX12_freeIn_ok 10 rfl
theorem dX12_freeIn_21 : decode cX12_freeIn 21 = .ok (.getfield 153, 3) := dk_get kX12_freeIn_ok 11 rfl
theorem dX12_freeIn_24 : decode cX12_freeIn 24 = .ok (.iload 8, 2) := dk_get kX12_freeIn_ok 12 rfl
theorem dX12_freeIn_26 : decode cX12_freeIn 26 = .ok (.laload, 1) := dk_get kX12_freeIn_ok 13 rfl
theorem dX12_freeIn_27 : decode cX12_freeIn 27 = .ok (.iload_n 1, 1) := dk_get kX12_freeIn_ok 14 rfl
theorem dX12_freeIn_28 : decode cX12_freeIn 28 = .ok (.lshr, 1) := dk_get kX12_freeIn_ok 15 rfl
theorem dX12_freeIn_29 : decode cX12_freeIn 29 = .ok (.lconst 1, 1) := dk_get kX12_freeIn_ok 16 rfl
theorem dX12_freeIn_30 : decode cX12_freeIn 30 = .ok (.land, 1) := dk_get kX12_freeIn_ok 17 rfl
theorem dX12_freeIn_31 : decode cX12_freeIn 31 = .ok (.lload_n 2, 1) := dk_get kX12_freeIn_ok 18 rfl
theorem dX12_freeIn_32 : decode cX12_freeIn 32 = .ok (.lcmp, 1) := dk_get kX12_freeIn_ok 19 rfl
theorem dX12_freeIn_33 : decode cX12_freeIn 33 = .ok (.ifCond .eq 6, 3) := dk_get kX12_freeIn_ok 20 rfl
theorem dX12_freeIn_36 : decode cX12_freeIn 36 = .ok (.goto 27, 3) := dk_get kX12_freeIn_ok 21 rfl
theorem dX12_freeIn_39 : decode cX12_freeIn 39 = .ok (.lload 4, 2) := dk_get kX12_freeIn_ok 22 rfl
theorem dX12_freeIn_41 : decode cX12_freeIn 41 = .ok (.aload_n 0, 1) := dk_get kX12_freeIn_ok 23 rfl
theorem dX12_freeIn_42 : decode cX12_freeIn 42 = .ok (.getfield 153, 3) := dk_get kX12_freeIn_ok 24 rfl
theorem dX12_freeIn_45 : decode cX12_freeIn 45 = .ok (.iload 8, 2) := dk_get kX12_freeIn_ok 25 rfl
theorem dX12_freeIn_47 : decode cX12_freeIn 47 = .ok (.laload, 1) := dk_get kX12_freeIn_ok 26 rfl
theorem dX12_freeIn_48 : decode cX12_freeIn 48 = .ok (.land, 1) := dk_get kX12_freeIn_ok 27 rfl
theorem dX12_freeIn_49 : decode cX12_freeIn 49 = .ok (.lstore 4, 2) := dk_get kX12_freeIn_ok 28 rfl
theorem dX12_freeIn_51 : decode cX12_freeIn 51 = .ok (.lload 6, 2) := dk_get kX12_freeIn_ok 29 rfl
theorem dX12_freeIn_53 : decode cX12_freeIn 53 = .ok (.aload_n 0, 1) := dk_get kX12_freeIn_ok 30 rfl
theorem dX12_freeIn_54 : decode cX12_freeIn 54 = .ok (.getfield 153, 3) := dk_get kX12_freeIn_ok 31 rfl
theorem dX12_freeIn_57 : decode cX12_freeIn 57 = .ok (.iload 8, 2) := dk_get kX12_freeIn_ok 32 rfl
theorem dX12_freeIn_59 : decode cX12_freeIn 59 = .ok (.laload, 1) := dk_get kX12_freeIn_ok 33 rfl
theorem dX12_freeIn_60 : decode cX12_freeIn 60 = .ok (.lor, 1) := dk_get kX12_freeIn_ok 34 rfl
theorem dX12_freeIn_61 : decode cX12_freeIn 61 = .ok (.lstore 6, 2) := dk_get kX12_freeIn_ok 35 rfl
theorem dX12_freeIn_63 : decode cX12_freeIn 63 = .ok (.iinc 8 1, 3) := dk_get kX12_freeIn_ok 36 rfl
theorem dX12_freeIn_66 : decode cX12_freeIn 66 = .ok (.goto (-55), 3) := dk_get kX12_freeIn_ok 37 rfl
theorem dX12_freeIn_69 : decode cX12_freeIn 69 = .ok (.lload 6, 2) := dk_get kX12_freeIn_ok 38 rfl
theorem dX12_freeIn_71 : decode cX12_freeIn 71 = .ok (.lload 4, 2) := dk_get kX12_freeIn_ok 39 rfl
theorem dX12_freeIn_73 : decode cX12_freeIn 73 = .ok (.ldc2_w 468, 3) := dk_get kX12_freeIn_ok 40 rfl
theorem dX12_freeIn_76 : decode cX12_freeIn 76 = .ok (.lxor, 1) := dk_get kX12_freeIn_ok 41 rfl
theorem dX12_freeIn_77 : decode cX12_freeIn 77 = .ok (.land, 1) := dk_get kX12_freeIn_ok 42 rfl
theorem dX12_freeIn_78 : decode cX12_freeIn 78 = .ok (.invokestatic 570, 3) := dk_get kX12_freeIn_ok 43 rfl
theorem dX12_freeIn_81 : decode cX12_freeIn 81 = .ok (.ireturn, 1) := dk_get kX12_freeIn_ok 44 rfl
def kX12_asked_ : List (Nat × Instr × Nat) := [(0, .aload_n 0, 1), (1, .iconst 0, 1), (2, .putfield 1, 3), (5, .aload_n 0, 1), (6, .iload_n 1, 1), (7, .invokevirtual 183, 3), (10, .ifCond .ne 5, 3), (13, .iconst 0, 1), (14, .ireturn, 1), (15, .aload_n 0, 1), (16, .iload_n 1, 1), (17, .invokevirtual 547, 3), (20, .istore_n 2, 1), (21, .iload_n 2, 1), (22, .ifCond .ge 5, 3), (25, .iload_n 2, 1), (26, .ireturn, 1), (27, .aload_n 0, 1), (28, .getfield 517, 3), (31, .sipush 200, 3), (34, .if_icmp .le 6, 3), (37, .bipush (-2), 2), (39, .ireturn, 1), (40, .iconst (-1), 1), (41, .istore_n 3, 1), (42, .iconst 0, 1), (43, .istore 4, 2), (45, .iconst 0, 1), (46, .istore 5, 2), (48, .iload 5, 2), (50, .aload_n 0, 1), (51, .getfield 194, 3), (54, .if_icmp .ge 142, 3), (57, .iload 5, 2), (59, .iconst 1, 1), (60, .iadd, 1), (61, .istore 6, 2), (63, .iload 6, 2), (65, .aload_n 0, 1), (66, .getfield 194, 3), (69, .if_icmp .ge 121, 3), (72, .iload 5, 2), (74, .iload 6, 2), (76, .invokestatic 514, 3), (79, .istore 7, 2), (81, .aload_n 0, 1), (82, .getfield 526, 3), (85, .iload 7, 2), (87, .lshr, 1), (88, .lconst 1, 1), (89, .land, 1), (90, .lconst 0, 1), (91, .lcmp, 1), (92, .ifCond .eq 92, 3), (95, .aload_n 0, 1), (96, .getfield 523, 3), (99, .iload 7, 2), (101, .lshr, 1), (102, .lconst 1, 1), (103, .land, 1), (104, .lconst 1, 1), (105, .lcmp, 1), (106, .ifCond .ne 6, 3), (109, .goto 75, 3), (112, .aload_n 0, 1), (113, .iload 7, 2), (115, .lconst 1, 1), (116, .invokevirtual 573, 3), (119, .istore 8, 2), (121, .aload_n 0, 1), (122, .iload 7, 2), (124, .lconst 0, 1), (125, .invokevirtual 573, 3), (128, .istore 9, 2), (130, .iload 8, 2), (132, .iload 9, 2), (134, .if_icmp .le 8, 3), (137, .iload 8, 2), (139, .goto 5, 3), (142, .iload 9, 2), (144, .istore 10, 2), (146, .iload_n 3, 1), (147, .iconst (-1), 1), (148, .if_icmp .eq 13, 3), (151, .iload 10, 2), (153, .iload 4, 2), (155, .if_icmp .lt 6, 3), (158, .goto 26, 3), (161, .bipush 32, 2), (163, .aload_n 0, 1), (164, .getfield 138, 3), (167, .iload 5, 2), (169, .iaload, 1), (170, .imul, 1), (171, .aload_n 0, 1), (172, .getfield 138, 3), (175, .iload 6, 2), (177, .iaload, 1), (178, .iadd, 1), (179, .istore_n 3, 1), (180, .iload 10, 2), (182, .istore 4, 2), (184, .iinc 6 1, 3), (187, .goto (-124), 3), (190, .iinc 5 1, 3), (193, .goto (-145), 3), (196, .iload_n 3, 1), (197, .ireturn, 1)]
set_option maxRecDepth 100000 in
theorem kX12_asked__ok : kX12_asked_.all (fun q => decide (decode cX12_asked_ q.1 = .ok q.2)) = true := by decide +kernel
theorem dX12_asked__0 : decode cX12_asked_ 0 = .ok (.aload_n 0, 1) := dk_get kX12_asked__ok 0 rfl
theorem dX12_asked__1 : decode cX12_asked_ 1 = .ok (.iconst 0, 1) := dk_get kX12_asked__ok 1 rfl
theorem dX12_asked__2 : decode cX12_asked_ 2 = .ok (.putfield 1, 3) := dk_get kX12_asked__ok 2 rfl
theorem dX12_asked__5 : decode cX12_asked_ 5 = .ok (.aload_n 0, 1) := dk_get kX12_asked__ok 3 rfl
theorem dX12_asked__6 : decode cX12_asked_ 6 = .ok (.iload_n 1, 1) := dk_get kX12_asked__ok 4 rfl
theorem dX12_asked__7 : decode cX12_asked_ 7 = .ok (.invokevirtual 183, 3) := dk_get kX12_asked__ok 5 rfl
theorem dX12_asked__10 : decode cX12_asked_ 10 = .ok (.ifCond .ne 5, 3) := dk_get kX12_asked__ok 6 rfl
theorem dX12_asked__13 : decode cX12_asked_ 13 = .ok (.iconst 0, 1) := dk_get kX12_asked__ok 7 rfl
theorem dX12_asked__14 : decode cX12_asked_ 14 = .ok (.ireturn, 1) := dk_get kX12_asked__ok 8 rfl
theorem dX12_asked__15 : decode cX12_asked_ 15 = .ok (.aload_n 0, 1) := dk_get kX12_asked__ok 9 rfl
theorem dX12_asked__16 : decode cX12_asked_ 16 = .ok (.iload_n 1, 1) := dk_get kX12_asked__ok 10 rfl
theorem dX12_asked__17 : decode cX12_asked_ 17 = .ok (.invokevirtual 547, 3) := dk_get kX12_asked__ok 11 rfl
theorem dX12_asked__20 : decode cX12_asked_ 20 = .ok (.istore_n 2, 1) := dk_get kX12_asked__ok 12 rfl
theorem dX12_asked__21 : decode cX12_asked_ 21 = .ok (.iload_n 2, 1) := dk_get kX12_asked__ok 13 rfl
theorem dX12_asked__22 : decode cX12_asked_ 22 = .ok (.ifCond .ge 5, 3) := dk_get kX12_asked__ok 14 rfl
theorem dX12_asked__25 : decode cX12_asked_ 25 = .ok (.iload_n 2, 1) := dk_get kX12_asked__ok 15 rfl
theorem dX12_asked__26 : decode cX12_asked_ 26 = .ok (.ireturn, 1) := dk_get kX12_asked__ok 16 rfl
theorem dX12_asked__27 : decode cX12_asked_ 27 = .ok (.aload_n 0, 1) := dk_get kX12_asked__ok 17 rfl
theorem dX12_asked__28 : decode cX12_asked_ 28 = .ok (.getfield 517, 3) := dk_get kX12_asked__ok 18 rfl
theorem dX12_asked__31 : decode cX12_asked_ 31 = .ok (.sipush 200, 3) := dk_get kX12_asked__ok 19 rfl
theorem dX12_asked__34 : decode cX12_asked_ 34 = .ok (.if_icmp .le 6, 3) := dk_get kX12_asked__ok 20 rfl
theorem dX12_asked__37 : decode cX12_asked_ 37 = .ok (.bipush (-2), 2) := dk_get kX12_asked__ok 21 rfl
theorem dX12_asked__39 : decode cX12_asked_ 39 = .ok (.ireturn, 1) := dk_get kX12_asked__ok 22 rfl
theorem dX12_asked__40 : decode cX12_asked_ 40 = .ok (.iconst (-1), 1) := dk_get kX12_asked__ok 23 rfl
theorem dX12_asked__41 : decode cX12_asked_ 41 = .ok (.istore_n 3, 1) := dk_get kX12_asked__ok 24 rfl
theorem dX12_asked__42 : decode cX12_asked_ 42 = .ok (.iconst 0, 1) := dk_get kX12_asked__ok 25 rfl
theorem dX12_asked__43 : decode cX12_asked_ 43 = .ok (.istore 4, 2) := dk_get kX12_asked__ok 26 rfl
theorem dX12_asked__45 : decode cX12_asked_ 45 = .ok (.iconst 0, 1) := dk_get kX12_asked__ok 27 rfl
theorem dX12_asked__46 : decode cX12_asked_ 46 = .ok (.istore 5, 2) := dk_get kX12_asked__ok 28 rfl
theorem dX12_asked__48 : decode cX12_asked_ 48 = .ok (.iload 5, 2) := dk_get kX12_asked__ok 29 rfl
theorem dX12_asked__50 : decode cX12_asked_ 50 = .ok (.aload_n 0, 1) := dk_get kX12_asked__ok 30 rfl
theorem dX12_asked__51 : decode cX12_asked_ 51 = .ok (.getfield 194, 3) := dk_get kX12_asked__ok 31 rfl
theorem dX12_asked__54 : decode cX12_asked_ 54 = .ok (.if_icmp .ge 142, 3) := dk_get kX12_asked__ok 32 rfl
theorem dX12_asked__57 : decode cX12_asked_ 57 = .ok (.iload 5, 2) := dk_get kX12_asked__ok 33 rfl
theorem dX12_asked__59 : decode cX12_asked_ 59 = .ok (.iconst 1, 1) := dk_get kX12_asked__ok 34 rfl
theorem dX12_asked__60 : decode cX12_asked_ 60 = .ok (.iadd, 1) := dk_get kX12_asked__ok 35 rfl
theorem dX12_asked__61 : decode cX12_asked_ 61 = .ok (.istore 6, 2) := dk_get kX12_asked__ok 36 rfl
theorem dX12_asked__63 : decode cX12_asked_ 63 = .ok (.iload 6, 2) := dk_get kX12_asked__ok 37 rfl
theorem dX12_asked__65 : decode cX12_asked_ 65 = .ok (.aload_n 0, 1) := dk_get kX12_asked__ok 38 rfl
theorem dX12_asked__66 : decode cX12_asked_ 66 = .ok (.getfield 194, 3) := dk_get kX12_asked__ok 39 rfl
theorem dX12_asked__69 : decode cX12_asked_ 69 = .ok (.if_icmp .ge 121, 3) := dk_get kX12_asked__ok 40 rfl
theorem dX12_asked__72 : decode cX12_asked_ 72 = .ok (.iload 5, 2) := dk_get kX12_asked__ok 41 rfl
theorem dX12_asked__74 : decode cX12_asked_ 74 = .ok (.iload 6, 2) := dk_get kX12_asked__ok 42 rfl
theorem dX12_asked__76 : decode cX12_asked_ 76 = .ok (.invokestatic 514, 3) := dk_get kX12_asked__ok 43 rfl
theorem dX12_asked__79 : decode cX12_asked_ 79 = .ok (.istore 7, 2) := dk_get kX12_asked__ok 44 rfl
theorem dX12_asked__81 : decode cX12_asked_ 81 = .ok (.aload_n 0, 1) := dk_get kX12_asked__ok 45 rfl
theorem dX12_asked__82 : decode cX12_asked_ 82 = .ok (.getfield 526, 3) := dk_get kX12_asked__ok 46 rfl
theorem dX12_asked__85 : decode cX12_asked_ 85 = .ok (.iload 7, 2) := dk_get kX12_asked__ok 47 rfl
theorem dX12_asked__87 : decode cX12_asked_ 87 = .ok (.lshr, 1) := dk_get kX12_asked__ok 48 rfl
theorem dX12_asked__88 : decode cX12_asked_ 88 = .ok (.lconst 1, 1) := dk_get kX12_asked__ok 49 rfl
theorem dX12_asked__89 : decode cX12_asked_ 89 = .ok (.land, 1) := dk_get kX12_asked__ok 50 rfl
theorem dX12_asked__90 : decode cX12_asked_ 90 = .ok (.lconst 0, 1) := dk_get kX12_asked__ok 51 rfl
theorem dX12_asked__91 : decode cX12_asked_ 91 = .ok (.lcmp, 1) := dk_get kX12_asked__ok 52 rfl
theorem dX12_asked__92 : decode cX12_asked_ 92 = .ok (.ifCond .eq 92, 3) := dk_get kX12_asked__ok 53 rfl
theorem dX12_asked__95 : decode cX12_asked_ 95 = .ok (.aload_n 0, 1) := dk_get kX12_asked__ok 54 rfl
theorem dX12_asked__96 : decode cX12_asked_ 96 = .ok (.getfield 523, 3) := dk_get kX12_asked__ok 55 rfl
theorem dX12_asked__99 : decode cX12_asked_ 99 = .ok (.iload 7, 2) := dk_get kX12_asked__ok 56 rfl
theorem dX12_asked__101 : decode cX12_asked_ 101 = .ok (.lshr, 1) := dk_get kX12_asked__ok 57 rfl
theorem dX12_asked__102 : decode cX12_asked_ 102 = .ok (.lconst 1, 1) := dk_get kX12_asked__ok 58 rfl
theorem dX12_asked__103 : decode cX12_asked_ 103 = .ok (.land, 1) := dk_get kX12_asked__ok 59 rfl
theorem dX12_asked__104 : decode cX12_asked_ 104 = .ok (.lconst 1, 1) := dk_get kX12_asked__ok 60 rfl
theorem dX12_asked__105 : decode cX12_asked_ 105 = .ok (.lcmp, 1) := dk_get kX12_asked__ok 61 rfl
theorem dX12_asked__106 : decode cX12_asked_ 106 = .ok (.ifCond .ne 6, 3) := dk_get kX12_asked__ok 62 rfl
theorem dX12_asked__109 : decode cX12_asked_ 109 = .ok (.goto 75, 3) := dk_get kX12_asked__ok 63 rfl
theorem dX12_asked__112 : decode cX12_asked_ 112 = .ok (.aload_n 0, 1) := dk_get kX12_asked__ok 64 rfl
theorem dX12_asked__113 : decode cX12_asked_ 113 = .ok (.iload 7, 2) := dk_get kX12_asked__ok 65 rfl
theorem dX12_asked__115 : decode cX12_asked_ 115 = .ok (.lconst 1, 1) := dk_get kX12_asked__ok 66 rfl
theorem dX12_asked__116 : decode cX12_asked_ 116 = .ok (.invokevirtual 573, 3) := dk_get kX12_asked__ok 67 rfl
theorem dX12_asked__119 : decode cX12_asked_ 119 = .ok (.istore 8, 2) := dk_get kX12_asked__ok 68 rfl
theorem dX12_asked__121 : decode cX12_asked_ 121 = .ok (.aload_n 0, 1) := dk_get kX12_asked__ok 69 rfl
theorem dX12_asked__122 : decode cX12_asked_ 122 = .ok (.iload 7, 2) := dk_get kX12_asked__ok 70 rfl
theorem dX12_asked__124 : decode cX12_asked_ 124 = .ok (.lconst 0, 1) := dk_get kX12_asked__ok 71 rfl
theorem dX12_asked__125 : decode cX12_asked_ 125 = .ok (.invokevirtual 573, 3) := dk_get kX12_asked__ok 72 rfl
theorem dX12_asked__128 : decode cX12_asked_ 128 = .ok (.istore 9, 2) := dk_get kX12_asked__ok 73 rfl
theorem dX12_asked__130 : decode cX12_asked_ 130 = .ok (.iload 8, 2) := dk_get kX12_asked__ok 74 rfl
theorem dX12_asked__132 : decode cX12_asked_ 132 = .ok (.iload 9, 2) := dk_get kX12_asked__ok 75 rfl
theorem dX12_asked__134 : decode cX12_asked_ 134 = .ok (.if_icmp .le 8, 3) := dk_get kX12_asked__ok 76 rfl
theorem dX12_asked__137 : decode cX12_asked_ 137 = .ok (.iload 8, 2) := dk_get kX12_asked__ok 77 rfl
theorem dX12_asked__139 : decode cX12_asked_ 139 = .ok (.goto 5, 3) := dk_get kX12_asked__ok 78 rfl
theorem dX12_asked__142 : decode cX12_asked_ 142 = .ok (.iload 9, 2) := dk_get kX12_asked__ok 79 rfl
theorem dX12_asked__144 : decode cX12_asked_ 144 = .ok (.istore 10, 2) := dk_get kX12_asked__ok 80 rfl
theorem dX12_asked__146 : decode cX12_asked_ 146 = .ok (.iload_n 3, 1) := dk_get kX12_asked__ok 81 rfl
theorem dX12_asked__147 : decode cX12_asked_ 147 = .ok (.iconst (-1), 1) := dk_get kX12_asked__ok 82 rfl
theorem dX12_asked__148 : decode cX12_asked_ 148 = .ok (.if_icmp .eq 13, 3) := dk_get kX12_asked__ok 83 rfl
theorem dX12_asked__151 : decode cX12_asked_ 151 = .ok (.iload 10, 2) := dk_get kX12_asked__ok 84 rfl
theorem dX12_asked__153 : decode cX12_asked_ 153 = .ok (.iload 4, 2) := dk_get kX12_asked__ok 85 rfl
theorem dX12_asked__155 : decode cX12_asked_ 155 = .ok (.if_icmp .lt 6, 3) := dk_get kX12_asked__ok 86 rfl
theorem dX12_asked__158 : decode cX12_asked_ 158 = .ok (.goto 26, 3) := dk_get kX12_asked__ok 87 rfl
theorem dX12_asked__161 : decode cX12_asked_ 161 = .ok (.bipush 32, 2) := dk_get kX12_asked__ok 88 rfl
theorem dX12_asked__163 : decode cX12_asked_ 163 = .ok (.aload_n 0, 1) := dk_get kX12_asked__ok 89 rfl
theorem dX12_asked__164 : decode cX12_asked_ 164 = .ok (.getfield 138, 3) := dk_get kX12_asked__ok 90 rfl
theorem dX12_asked__167 : decode cX12_asked_ 167 = .ok (.iload 5, 2) := dk_get kX12_asked__ok 91 rfl
theorem dX12_asked__169 : decode cX12_asked_ 169 = .ok (.iaload, 1) := dk_get kX12_asked__ok 92 rfl
theorem dX12_asked__170 : decode cX12_asked_ 170 = .ok (.imul, 1) := dk_get kX12_asked__ok 93 rfl
theorem dX12_asked__171 : decode cX12_asked_ 171 = .ok (.aload_n 0, 1) := dk_get kX12_asked__ok 94 rfl
theorem dX12_asked__172 : decode cX12_asked_ 172 = .ok (.getfield 138, 3) := dk_get kX12_asked__ok 95 rfl
theorem dX12_asked__175 : decode cX12_asked_ 175 = .ok (.iload 6, 2) := dk_get kX12_asked__ok 96 rfl
theorem dX12_asked__177 : decode cX12_asked_ 177 = .ok (.iaload, 1) := dk_get kX12_asked__ok 97 rfl
theorem dX12_asked__178 : decode cX12_asked_ 178 = .ok (.iadd, 1) := dk_get kX12_asked__ok 98 rfl
theorem dX12_asked__179 : decode cX12_asked_ 179 = .ok (.istore_n 3, 1) := dk_get kX12_asked__ok 99 rfl
theorem dX12_asked__180 : decode cX12_asked_ 180 = .ok (.iload 10, 2) := dk_get kX12_asked__ok 100 rfl
theorem dX12_asked__182 : decode cX12_asked_ 182 = .ok (.istore 4, 2) := dk_get kX12_asked__ok 101 rfl
theorem dX12_asked__184 : decode cX12_asked_ 184 = .ok (.iinc 6 1, 3) := dk_get kX12_asked__ok 102 rfl
theorem dX12_asked__187 : decode cX12_asked_ 187 = .ok (.goto (-124), 3) := dk_get kX12_asked__ok 103 rfl
theorem dX12_asked__190 : decode cX12_asked_ 190 = .ok (.iinc 5 1, 3) := dk_get kX12_asked__ok 104 rfl
theorem dX12_asked__193 : decode cX12_asked_ 193 = .ok (.goto (-145), 3) := dk_get kX12_asked__ok 105 rfl
theorem dX12_asked__196 : decode cX12_asked_ 196 = .ok (.iload_n 3, 1) := dk_get kX12_asked__ok 106 rfl
theorem dX12_asked__197 : decode cX12_asked_ 197 = .ok (.ireturn, 1) := dk_get kX12_asked__ok 107 rfl
def kX12_findNear : List (Nat × Instr × Nat) := [(0, .aload_n 0, 1), (1, .iload_n 1, 1), (2, .invokevirtual 547, 3), (5, .istore_n 3, 1), (6, .iload_n 3, 1), (7, .ifCond .ge 5, 3), (10, .iload_n 3, 1), (11, .ireturn, 1), (12, .aload_n 0, 1), (13, .aload_n 0, 1), (14, .getfield 483, 3), (17, .iload_n 2, 1), (18, .i2l, 1), (19, .ladd, 1), (20, .putfield 492, 3), (23, .aload_n 0, 1), (24, .iconst (-1), 1), (25, .putfield 538, 3), (28, .aload_n 0, 1), (29, .iconst 2, 1), (30, .invokevirtual 541, 3), (33, .iconst 0, 1), (34, .ireturn, 1)]
set_option maxRecDepth 100000 in
theorem kX12_findNear_ok : kX12_findNear.all (fun q => decide (decode cX12_findNear q.1 = .ok q.2)) = true := by decide +kernel
theorem dX12_findNear_0 : decode cX12_findNear 0 = .ok (.aload_n 0, 1) := dk_get kX12_findNear_ok 0 rfl
theorem dX12_findNear_1 : decode cX12_findNear 1 = .ok (.iload_n 1, 1) := dk_get kX12_findNear_ok 1 rfl
theorem dX12_findNear_2 : decode cX12_findNear 2 = .ok (.invokevirtual 547, 3) := dk_get kX12_findNear_ok 2 rfl
theorem dX12_findNear_5 : decode cX12_findNear 5 = .ok (.istore_n 3, 1) := dk_get kX12_findNear_ok 3 rfl
theorem dX12_findNear_6 : decode cX12_findNear 6 = .ok (.iload_n 3, 1) := dk_get kX12_findNear_ok 4 rfl
theorem dX12_findNear_7 : decode cX12_findNear 7 = .ok (.ifCond .ge 5, 3) := dk_get kX12_findNear_ok 5 rfl
theorem dX12_findNear_10 : decode cX12_findNear 10 = .ok (.iload_n 3, 1) := dk_get kX12_findNear_ok 6 rfl
theorem dX12_findNear_11 : decode cX12_findNear 11 = .ok (.ireturn, 1) := dk_get kX12_findNear_ok 7 rfl
theorem dX12_findNear_12 : decode cX12_findNear 12 = .ok (.aload_n 0, 1) := dk_get kX12_findNear_ok 8 rfl
theorem dX12_findNear_13 : decode cX12_findNear 13 = .ok (.aload_n 0, 1) := dk_get kX12_findNear_ok 9 rfl
theorem dX12_findNear_14 : decode cX12_findNear 14 = .ok (.getfield 483, 3) := dk_get kX12_findNear_ok 10 rfl
theorem dX12_findNear_17 : decode cX12_findNear 17 = .ok (.iload_n 2, 1) := dk_get kX12_findNear_ok 11 rfl
theorem dX12_findNear_18 : decode cX12_findNear 18 = .ok (.i2l, 1) := dk_get kX12_findNear_ok 12 rfl
theorem dX12_findNear_19 : decode cX12_findNear 19 = .ok (.ladd, 1) := dk_get kX12_findNear_ok 13 rfl
theorem dX12_findNear_20 : decode cX12_findNear 20 = .ok (.putfield 492, 3) := dk_get kX12_findNear_ok 14 rfl
theorem dX12_findNear_23 : decode cX12_findNear 23 = .ok (.aload_n 0, 1) := dk_get kX12_findNear_ok 15 rfl
theorem dX12_findNear_24 : decode cX12_findNear 24 = .ok (.iconst (-1), 1) := dk_get kX12_findNear_ok 16 rfl
theorem dX12_findNear_25 : decode cX12_findNear 25 = .ok (.putfield 538, 3) := dk_get kX12_findNear_ok 17 rfl
theorem dX12_findNear_28 : decode cX12_findNear 28 = .ok (.aload_n 0, 1) := dk_get kX12_findNear_ok 18 rfl
theorem dX12_findNear_29 : decode cX12_findNear 29 = .ok (.iconst 2, 1) := dk_get kX12_findNear_ok 19 rfl
theorem dX12_findNear_30 : decode cX12_findNear 30 = .ok (.invokevirtual 541, 3) := dk_get kX12_findNear_ok 20 rfl
theorem dX12_findNear_33 : decode cX12_findNear 33 = .ok (.iconst 0, 1) := dk_get kX12_findNear_ok 21 rfl
theorem dX12_findNear_34 : decode cX12_findNear 34 = .ok (.ireturn, 1) := dk_get kX12_findNear_ok 22 rfl
def kX12_near : List (Nat × Instr × Nat) := [(0, .aload_n 0, 1), (1, .iconst 0, 1), (2, .putfield 1, 3), (5, .aload_n 0, 1), (6, .iload_n 1, 1), (7, .invokevirtual 183, 3), (10, .ifCond .eq 19, 3), (13, .aload_n 0, 1), (14, .iload_n 2, 1), (15, .iconst 0, 1), (16, .ldc_w 577, 3), (19, .invokestatic 169, 3), (22, .iconst 2, 1), (23, .invokevirtual 173, 3), (26, .ifCond .ne 5, 3), (29, .iconst 0, 1), (30, .ireturn, 1), (31, .aload_n 0, 1), (32, .iload_n 1, 1), (33, .iload_n 2, 1), (34, .invokevirtual 578, 3), (37, .istore_n 3, 1), (38, .iload_n 3, 1), (39, .ifCond .ge 7, 3), (42, .iload_n 3, 1), (43, .goto 7, 3), (46, .aload_n 0, 1), (47, .getfield 538, 3), (50, .ireturn, 1)]
set_option maxRecDepth 100000 in
theorem kX12_near_ok : kX12_near.all (fun q => decide (decode cX12_near q.1 = .ok q.2)) = true := by decide +kernel
theorem dX12_near_0 : decode cX12_near 0 = .ok (.aload_n 0, 1) := dk_get kX12_near_ok 0 rfl
theorem dX12_near_1 : decode cX12_near 1 = .ok (.iconst 0, 1) := dk_get kX12_near_ok 1 rfl
theorem dX12_near_2 : decode cX12_near 2 = .ok (.putfield 1, 3) := dk_get kX12_near_ok 2 rfl
theorem dX12_near_5 : decode cX12_near 5 = .ok (.aload_n 0, 1) := dk_get kX12_near_ok 3 rfl
theorem dX12_near_6 : decode cX12_near 6 = .ok (.iload_n 1, 1) := dk_get kX12_near_ok 4 rfl
theorem dX12_near_7 : decode cX12_near 7 = .ok (.invokevirtual 183, 3) := dk_get kX12_near_ok 5 rfl
theorem dX12_near_10 : decode cX12_near 10 = .ok (.ifCond .eq 19, 3) := dk_get kX12_near_ok 6 rfl
theorem dX12_near_13 : decode cX12_near 13 = .ok (.aload_n 0, 1) := dk_get kX12_near_ok 7 rfl
theorem dX12_near_14 : decode cX12_near 14 = .ok (.iload_n 2, 1) := dk_get kX12_near_ok 8 rfl
theorem dX12_near_15 : decode cX12_near 15 = .ok (.iconst 0, 1) := dk_get kX12_near_ok 9 rfl
theorem dX12_near_16 : decode cX12_near 16 = .ok (.ldc_w 577, 3) := dk_get kX12_near_ok 10 rfl
theorem dX12_near_19 : decode cX12_near 19 = .ok (.invokestatic 169, 3) := dk_get kX12_near_ok 11 rfl
theorem dX12_near_22 : decode cX12_near 22 = .ok (.iconst 2, 1) := dk_get kX12_near_ok 12 rfl
theorem dX12_near_23 : decode cX12_near 23 = .ok (.invokevirtual 173, 3) := dk_get kX12_near_ok 13 rfl
theorem dX12_near_26 : decode cX12_near 26 = .ok (.ifCond .ne 5, 3) := dk_get kX12_near_ok 14 rfl
theorem dX12_near_29 : decode cX12_near 29 = .ok (.iconst 0, 1) := dk_get kX12_near_ok 15 rfl
theorem dX12_near_30 : decode cX12_near 30 = .ok (.ireturn, 1) := dk_get kX12_near_ok 16 rfl
theorem dX12_near_31 : decode cX12_near 31 = .ok (.aload_n 0, 1) := dk_get kX12_near_ok 17 rfl
theorem dX12_near_32 : decode cX12_near 32 = .ok (.iload_n 1, 1) := dk_get kX12_near_ok 18 rfl
theorem dX12_near_33 : decode cX12_near 33 = .ok (.iload_n 2, 1) := dk_get kX12_near_ok 19 rfl
theorem dX12_near_34 : decode cX12_near 34 = .ok (.invokevirtual 578, 3) := dk_get kX12_near_ok 20 rfl
theorem dX12_near_37 : decode cX12_near 37 = .ok (.istore_n 3, 1) := dk_get kX12_near_ok 21 rfl
theorem dX12_near_38 : decode cX12_near 38 = .ok (.iload_n 3, 1) := dk_get kX12_near_ok 22 rfl
theorem dX12_near_39 : decode cX12_near 39 = .ok (.ifCond .ge 7, 3) := dk_get kX12_near_ok 23 rfl
theorem dX12_near_42 : decode cX12_near 42 = .ok (.iload_n 3, 1) := dk_get kX12_near_ok 24 rfl
theorem dX12_near_43 : decode cX12_near 43 = .ok (.goto 7, 3) := dk_get kX12_near_ok 25 rfl
theorem dX12_near_46 : decode cX12_near 46 = .ok (.aload_n 0, 1) := dk_get kX12_near_ok 26 rfl
theorem dX12_near_47 : decode cX12_near 47 = .ok (.getfield 538, 3) := dk_get kX12_near_ok 27 rfl
theorem dX12_near_50 : decode cX12_near 50 = .ok (.ireturn, 1) := dk_get kX12_near_ok 28 rfl
def kX12_nearest : List (Nat × Instr × Nat) := [(0, .aload_n 0, 1), (1, .iconst 0, 1), (2, .putfield 1, 3), (5, .aload_n 0, 1), (6, .iload_n 1, 1), (7, .invokevirtual 183, 3), (10, .ifCond .eq 19, 3), (13, .aload_n 0, 1), (14, .iload_n 2, 1), (15, .iconst 0, 1), (16, .ldc_w 577, 3), (19, .invokestatic 169, 3), (22, .iconst 2, 1), (23, .invokevirtual 173, 3), (26, .ifCond .ne 5, 3), (29, .iconst 0, 1), (30, .ireturn, 1), (31, .aload_n 0, 1), (32, .iload_n 1, 1), (33, .iload_n 2, 1), (34, .invokevirtual 578, 3), (37, .istore_n 3, 1), (38, .iload_n 3, 1), (39, .ifCond .ge 7, 3), (42, .iload_n 3, 1), (43, .goto 16, 3), (46, .aload_n 0, 1), (47, .aload_n 0, 1), (48, .getfield 150, 3), (51, .aload_n 0, 1), (52, .iload_n 1, 1), (53, .invokevirtual 550, 3), (56, .invokevirtual 553, 3), (59, .ireturn, 1)]
set_option maxRecDepth 100000 in
theorem kX12_nearest_ok : kX12_nearest.all (fun q => decide (decode cX12_nearest q.1 = .ok q.2)) = true := by decide +kernel
theorem dX12_nearest_0 : decode cX12_nearest 0 = .ok (.aload_n 0, 1) := dk_get kX12_nearest_ok 0 rfl
theorem dX12_nearest_1 : decode cX12_nearest 1 = .ok (.iconst 0, 1) := dk_get kX12_nearest_ok 1 rfl
theorem dX12_nearest_2 : decode cX12_nearest 2 = .ok (.putfield 1, 3) := dk_get kX12_nearest_ok 2 rfl
theorem dX12_nearest_5 : decode cX12_nearest 5 = .ok (.aload_n 0, 1) := dk_get kX12_nearest_ok 3 rfl
theorem dX12_nearest_6 : decode cX12_nearest 6 = .ok (.iload_n 1, 1) := dk_get kX12_nearest_ok 4 rfl
theorem dX12_nearest_7 : decode cX12_nearest 7 = .ok (.invokevirtual 183, 3) := dk_get kX12_nearest_ok 5 rfl
theorem dX12_nearest_10 : decode cX12_nearest 10 = .ok (.ifCond .eq 19, 3) := dk_get kX12_nearest_ok 6 rfl
theorem dX12_nearest_13 : decode cX12_nearest 13 = .ok (.aload_n 0, 1) := dk_get kX12_nearest_ok 7 rfl
theorem dX12_nearest_14 : decode cX12_nearest 14 = .ok (.iload_n 2, 1) := dk_get kX12_nearest_ok 8 rfl
theorem dX12_nearest_15 : decode cX12_nearest 15 = .ok (.iconst 0, 1) := dk_get kX12_nearest_ok 9 rfl
theorem dX12_nearest_16 : decode cX12_nearest 16 = .ok (.ldc_w 577, 3) := dk_get kX12_nearest_ok 10 rfl
theorem dX12_nearest_19 : decode cX12_nearest 19 = .ok (.invokestatic 169, 3) := dk_get kX12_nearest_ok 11 rfl
theorem dX12_nearest_22 : decode cX12_nearest 22 = .ok (.iconst 2, 1) := dk_get kX12_nearest_ok 12 rfl
theorem dX12_nearest_23 : decode cX12_nearest 23 = .ok (.invokevirtual 173, 3) := dk_get kX12_nearest_ok 13 rfl
theorem dX12_nearest_26 : decode cX12_nearest 26 = .ok (.ifCond .ne 5, 3) := dk_get kX12_nearest_ok 14 rfl
theorem dX12_nearest_29 : decode cX12_nearest 29 = .ok (.iconst 0, 1) := dk_get kX12_nearest_ok 15 rfl
theorem dX12_nearest_30 : decode cX12_nearest 30 = .ok (.ireturn, 1) := dk_get kX12_nearest_ok 16 rfl
theorem dX12_nearest_31 : decode cX12_nearest 31 = .ok (.aload_n 0, 1) := dk_get kX12_nearest_ok 17 rfl
theorem dX12_nearest_32 : decode cX12_nearest 32 = .ok (.iload_n 1, 1) := dk_get kX12_nearest_ok 18 rfl
theorem dX12_nearest_33 : decode cX12_nearest 33 = .ok (.iload_n 2, 1) := dk_get kX12_nearest_ok 19 rfl
theorem dX12_nearest_34 : decode cX12_nearest 34 = .ok (.invokevirtual 578, 3) := dk_get kX12_nearest_ok 20 rfl
theorem dX12_nearest_37 : decode cX12_nearest 37 = .ok (.istore_n 3, 1) := dk_get kX12_nearest_ok 21 rfl
theorem dX12_nearest_38 : decode cX12_nearest 38 = .ok (.iload_n 3, 1) := dk_get kX12_nearest_ok 22 rfl
theorem dX12_nearest_39 : decode cX12_nearest 39 = .ok (.ifCond .ge 7, 3) := dk_get kX12_nearest_ok 23 rfl
theorem dX12_nearest_42 : decode cX12_nearest 42 = .ok (.iload_n 3, 1) := dk_get kX12_nearest_ok 24 rfl
theorem dX12_nearest_43 : decode cX12_nearest 43 = .ok (.goto 16, 3) := dk_get kX12_nearest_ok 25 rfl
theorem dX12_nearest_46 : decode cX12_nearest 46 = .ok (.aload_n 0, 1) := dk_get kX12_nearest_ok 26 rfl
theorem dX12_nearest_47 : decode cX12_nearest 47 = .ok (.aload_n 0, 1) := dk_get kX12_nearest_ok 27 rfl
theorem dX12_nearest_48 : decode cX12_nearest 48 = .ok (.getfield 150, 3) := dk_get kX12_nearest_ok 28 rfl
theorem dX12_nearest_51 : decode cX12_nearest 51 = .ok (.aload_n 0, 1) := dk_get kX12_nearest_ok 29 rfl
theorem dX12_nearest_52 : decode cX12_nearest 52 = .ok (.iload_n 1, 1) := dk_get kX12_nearest_ok 30 rfl
theorem dX12_nearest_53 : decode cX12_nearest 53 = .ok (.invokevirtual 550, 3) := dk_get kX12_nearest_ok 31 rfl
theorem dX12_nearest_56 : decode cX12_nearest 56 = .ok (.invokevirtual 553, 3) := dk_get kX12_nearest_ok 32 rfl
theorem dX12_nearest_59 : decode cX12_nearest 59 = .ok (.ireturn, 1) := dk_get kX12_nearest_ok 33 rfl
def kX12_findWithout : List (Nat × Instr × Nat) := [(0, .aload_n 0, 1), (1, .invokevirtual 385, 3), (4, .iconst 0, 1), (5, .istore_n 3, 1), (6, .iload_n 3, 1), (7, .aload_n 0, 1), (8, .getfield 177, 3), (11, .if_icmp .ge 30, 3), (14, .aload_n 0, 1), (15, .getfield 132, 3), (18, .iload_n 3, 1), (19, .aload_n 0, 1), (20, .getfield 13, 3), (23, .iload_n 3, 1), (24, .iaload, 1), (25, .iload_n 1, 1), (26, .if_icmp .eq 7, 3), (29, .iconst 1, 1), (30, .goto 4, 3), (33, .iconst 0, 1), (34, .bastore, 1), (35, .iinc 3 1, 3), (38, .goto (-32), 3), (41, .aload_n 0, 1), (42, .aload_n 2, 1), (43, .invokevirtual 557, 3), (46, .lreturn, 1)]
set_option maxRecDepth 100000 in
theorem kX12_findWithout_ok : kX12_findWithout.all (fun q => decide (decode cX12_findWithout q.1 = .ok q.2)) = true := by decide +kernel
theorem dX12_findWithout_0 : decode cX12_findWithout 0 = .ok (.aload_n 0, 1) := dk_get kX12_findWithout_ok 0 rfl
theorem dX12_findWithout_1 : decode cX12_findWithout 1 = .ok (.invokevirtual 385, 3) := dk_get kX12_findWithout_ok 1 rfl
theorem dX12_findWithout_4 : decode cX12_findWithout 4 = .ok (.iconst 0, 1) := dk_get kX12_findWithout_ok 2 rfl
theorem dX12_findWithout_5 : decode cX12_findWithout 5 = .ok (.istore_n 3, 1) := dk_get kX12_findWithout_ok 3 rfl
theorem dX12_findWithout_6 : decode cX12_findWithout 6 = .ok (.iload_n 3, 1) := dk_get kX12_findWithout_ok 4 rfl
theorem dX12_findWithout_7 : decode cX12_findWithout 7 = .ok (.aload_n 0, 1) := dk_get kX12_findWithout_ok 5 rfl
theorem dX12_findWithout_8 : decode cX12_findWithout 8 = .ok (.getfield 177, 3) := dk_get kX12_findWithout_ok 6 rfl
theorem dX12_findWithout_11 : decode cX12_findWithout 11 = .ok (.if_icmp .ge 30, 3) := dk_get kX12_findWithout_ok 7 rfl
theorem dX12_findWithout_14 : decode cX12_findWithout 14 = .ok (.aload_n 0, 1) := dk_get kX12_findWithout_ok 8 rfl
theorem dX12_findWithout_15 : decode cX12_findWithout 15 = .ok (.getfield 132, 3) := dk_get kX12_findWithout_ok 9 rfl
theorem dX12_findWithout_18 : decode cX12_findWithout 18 = .ok (.iload_n 3, 1) := dk_get kX12_findWithout_ok 10 rfl
theorem dX12_findWithout_19 : decode cX12_findWithout 19 = .ok (.aload_n 0, 1) := dk_get kX12_findWithout_ok 11 rfl
theorem dX12_findWithout_20 : decode cX12_findWithout 20 = .ok (.getfield 13, 3) := dk_get kX12_findWithout_ok 12 rfl
theorem dX12_findWithout_23 : decode cX12_findWithout 23 = .ok (.iload_n 3, 1) := dk_get kX12_findWithout_ok 13 rfl
theorem dX12_findWithout_24 : decode cX12_findWithout 24 = .ok (.iaload, 1) := dk_get kX12_findWithout_ok 14 rfl
theorem dX12_findWithout_25 : decode cX12_findWithout 25 = .ok (.iload_n 1, 1) := dk_get kX12_findWithout_ok 15 rfl
theorem dX12_findWithout_26 : decode cX12_findWithout 26 = .ok (.if_icmp .eq 7, 3) := dk_get kX12_findWithout_ok 16 rfl
theorem dX12_findWithout_29 : decode cX12_findWithout 29 = .ok (.iconst 1, 1) := dk_get kX12_findWithout_ok 17 rfl
theorem dX12_findWithout_30 : decode cX12_findWithout 30 = .ok (.goto 4, 3) := dk_get kX12_findWithout_ok 18 rfl
theorem dX12_findWithout_33 : decode cX12_findWithout 33 = .ok (.iconst 0, 1) := dk_get kX12_findWithout_ok 19 rfl
theorem dX12_findWithout_34 : decode cX12_findWithout 34 = .ok (.bastore, 1) := dk_get kX12_findWithout_ok 20 rfl
theorem dX12_findWithout_35 : decode cX12_findWithout 35 = .ok (.iinc 3 1, 3) := dk_get kX12_findWithout_ok 21 rfl
theorem dX12_findWithout_38 : decode cX12_findWithout 38 = .ok (.goto (-32), 3) := dk_get kX12_findWithout_ok 22 rfl
theorem dX12_findWithout_41 : decode cX12_findWithout 41 = .ok (.aload_n 0, 1) := dk_get kX12_findWithout_ok 23 rfl
theorem dX12_findWithout_42 : decode cX12_findWithout 42 = .ok (.aload_n 2, 1) := dk_get kX12_findWithout_ok 24 rfl
theorem dX12_findWithout_43 : decode cX12_findWithout 43 = .ok (.invokevirtual 557, 3) := dk_get kX12_findWithout_ok 25 rfl
theorem dX12_findWithout_46 : decode cX12_findWithout 46 = .ok (.lreturn, 1) := dk_get kX12_findWithout_ok 26 rfl
def kX12_without : List (Nat × Instr × Nat) := [(0, .aload_n 0, 1), (1, .iconst 0, 1), (2, .putfield 1, 3), (5, .aload_n 0, 1), (6, .iload_n 1, 1), (7, .iconst 0, 1), (8, .bipush 7, 2), (10, .invokestatic 169, 3), (13, .iconst 1, 1), (14, .invokevirtual 173, 3), (17, .ifCond .ne 5, 3), (20, .lconst 0, 1), (21, .lreturn, 1), (22, .aload_n 0, 1), (23, .iload_n 1, 1), (24, .aload_n 0, 1), (25, .getfield 160, 3), (28, .invokevirtual 581, 3), (31, .lreturn, 1)]
set_option maxRecDepth 100000 in
theorem kX12_without_ok : kX12_without.all (fun q => decide (decode cX12_without q.1 = .ok q.2)) = true := by decide +kernel
theorem dX12_without_0 : decode cX12_without 0 = .ok (.aload_n 0, 1) := dk_get kX12_without_ok 0 rfl
theorem dX12_without_1 : decode cX12_without 1 = .ok (.iconst 0, 1) := dk_get kX12_without_ok 1 rfl
theorem dX12_without_2 : decode cX12_without 2 = .ok (.putfield 1, 3) := dk_get kX12_without_ok 2 rfl
theorem dX12_without_5 : decode cX12_without 5 = .ok (.aload_n 0, 1) := dk_get kX12_without_ok 3 rfl
theorem dX12_without_6 : decode cX12_without 6 = .ok (.iload_n 1, 1) := dk_get kX12_without_ok 4 rfl
theorem dX12_without_7 : decode cX12_without 7 = .ok (.iconst 0, 1) := dk_get kX12_without_ok 5 rfl
theorem dX12_without_8 : decode cX12_without 8 = .ok (.bipush 7, 2) := dk_get kX12_without_ok 6 rfl
theorem dX12_without_10 : decode cX12_without 10 = .ok (.invokestatic 169, 3) := dk_get kX12_without_ok 7 rfl
theorem dX12_without_13 : decode cX12_without 13 = .ok (.iconst 1, 1) := dk_get kX12_without_ok 8 rfl
theorem dX12_without_14 : decode cX12_without 14 = .ok (.invokevirtual 173, 3) := dk_get kX12_without_ok 9 rfl
theorem dX12_without_17 : decode cX12_without 17 = .ok (.ifCond .ne 5, 3) := dk_get kX12_without_ok 10 rfl
theorem dX12_without_20 : decode cX12_without 20 = .ok (.lconst 0, 1) := dk_get kX12_without_ok 11 rfl
theorem dX12_without_21 : decode cX12_without 21 = .ok (.lreturn, 1) := dk_get kX12_without_ok 12 rfl
theorem dX12_without_22 : decode cX12_without 22 = .ok (.aload_n 0, 1) := dk_get kX12_without_ok 13 rfl
theorem dX12_without_23 : decode cX12_without 23 = .ok (.iload_n 1, 1) := dk_get kX12_without_ok 14 rfl
theorem dX12_without_24 : decode cX12_without 24 = .ok (.aload_n 0, 1) := dk_get kX12_without_ok 15 rfl
theorem dX12_without_25 : decode cX12_without 25 = .ok (.getfield 160, 3) := dk_get kX12_without_ok 16 rfl
theorem dX12_without_28 : decode cX12_without 28 = .ok (.invokevirtual 581, 3) := dk_get kX12_without_ok 17 rfl
theorem dX12_without_31 : decode cX12_without 31 = .ok (.lreturn, 1) := dk_get kX12_without_ok 18 rfl
def kX12_stands : List (Nat × Instr × Nat) := [(0, .aload_n 0, 1), (1, .iconst 0, 1), (2, .putfield 1, 3), (5, .aload_n 0, 1), (6, .iload_n 1, 1), (7, .iconst 0, 1), (8, .bipush 7, 2), (10, .invokestatic 169, 3), (13, .iconst 1, 1), (14, .invokevirtual 173, 3), (17, .ifCond .ne 5, 3), (20, .iconst 0, 1), (21, .ireturn, 1), (22, .aload_n 0, 1), (23, .invokevirtual 187, 3), (26, .aload_n 0, 1), (27, .aload_n 0, 1), (28, .getfield 157, 3), (31, .invokevirtual 557, 3), (34, .lstore_n 2, 1), (35, .lload_n 2, 1), (36, .lconst 0, 1), (37, .lcmp, 1), (38, .ifCond .ge 6, 3), (41, .lload_n 2, 1), (42, .l2i, 1), (43, .ireturn, 1), (44, .aload_n 0, 1), (45, .iload_n 1, 1), (46, .aload_n 0, 1), (47, .getfield 160, 3), (50, .invokevirtual 581, 3), (53, .lstore_n 2, 1), (54, .lload_n 2, 1), (55, .lconst 0, 1), (56, .lcmp, 1), (57, .ifCond .ge 6, 3), (60, .lload_n 2, 1), (61, .l2i, 1), (62, .ireturn, 1), (63, .iconst 0, 1), (64, .istore 4, 2), (66, .iconst 0, 1), (67, .istore 5, 2), (69, .iload 5, 2), (71, .aload_n 0, 1), (72, .getfield 177, 3), (75, .if_icmp .ge 45, 3), (78, .aload_n 0, 1), (79, .getfield 13, 3), (82, .iload 5, 2), (84, .iaload, 1), (85, .iload_n 1, 1), (86, .if_icmp .eq 28, 3), (89, .aload_n 0, 1), (90, .getfield 160, 3), (93, .iload 5, 2), (95, .iaload, 1), (96, .iload 5, 2), (98, .if_icmp .ne 16, 3), (101, .aload_n 0, 1), (102, .iload 5, 2), (104, .iload_n 1, 1), (105, .invokevirtual 585, 3), (108, .ifCond .eq 6, 3), (111, .iinc 4 1, 3), (114, .iinc 5 1, 3), (117, .goto (-48), 3), (120, .iload 4, 2), (122, .ireturn, 1)]
set_option maxRecDepth 100000 in
theorem kX12_stands_ok : kX12_stands.all (fun q => decide (decode cX12_stands q.1 = .ok q.2)) = true := by decide +kernel
theorem dX12_stands_0 : decode cX12_stands 0 = .ok (.aload_n 0, 1) := dk_get kX12_stands_ok 0 rfl
theorem dX12_stands_1 : decode cX12_stands 1 = .ok (.iconst 0, 1) := dk_get kX12_stands_ok 1 rfl
theorem dX12_stands_2 : decode cX12_stands 2 = .ok (.putfield 1, 3) := dk_get kX12_stands_ok 2 rfl
theorem dX12_stands_5 : decode cX12_stands 5 = .ok (.aload_n 0, 1) := dk_get kX12_stands_ok 3 rfl
theorem dX12_stands_6 : decode cX12_stands 6 = .ok (.iload_n 1, 1) := dk_get kX12_stands_ok 4 rfl
theorem dX12_stands_7 : decode cX12_stands 7 = .ok (.iconst 0, 1) := dk_get kX12_stands_ok 5 rfl
theorem dX12_stands_8 : decode cX12_stands 8 = .ok (.bipush 7, 2) := dk_get kX12_stands_ok 6 rfl
theorem dX12_stands_10 : decode cX12_stands 10 = .ok (.invokestatic 169, 3) := dk_get kX12_stands_ok 7 rfl
theorem dX12_stands_13 : decode cX12_stands 13 = .ok (.iconst 1, 1) := dk_get kX12_stands_ok 8 rfl
theorem dX12_stands_14 : decode cX12_stands 14 = .ok (.invokevirtual 173, 3) := dk_get kX12_stands_ok 9 rfl
theorem dX12_stands_17 : decode cX12_stands 17 = .ok (.ifCond .ne 5, 3) := dk_get kX12_stands_ok 10 rfl
theorem dX12_stands_20 : decode cX12_stands 20 = .ok (.iconst 0, 1) := dk_get kX12_stands_ok 11 rfl
theorem dX12_stands_21 : decode cX12_stands 21 = .ok (.ireturn, 1) := dk_get kX12_stands_ok 12 rfl
theorem dX12_stands_22 : decode cX12_stands 22 = .ok (.aload_n 0, 1) := dk_get kX12_stands_ok 13 rfl
theorem dX12_stands_23 : decode cX12_stands 23 = .ok (.invokevirtual 187, 3) := dk_get kX12_stands_ok 14 rfl
theorem dX12_stands_26 : decode cX12_stands 26 = .ok (.aload_n 0, 1) := dk_get kX12_stands_ok 15 rfl
theorem dX12_stands_27 : decode cX12_stands 27 = .ok (.aload_n 0, 1) := dk_get kX12_stands_ok 16 rfl
theorem dX12_stands_28 : decode cX12_stands 28 = .ok (.getfield 157, 3) := dk_get kX12_stands_ok 17 rfl
theorem dX12_stands_31 : decode cX12_stands 31 = .ok (.invokevirtual 557, 3) := dk_get kX12_stands_ok 18 rfl
theorem dX12_stands_34 : decode cX12_stands 34 = .ok (.lstore_n 2, 1) := dk_get kX12_stands_ok 19 rfl
theorem dX12_stands_35 : decode cX12_stands 35 = .ok (.lload_n 2, 1) := dk_get kX12_stands_ok 20 rfl
theorem dX12_stands_36 : decode cX12_stands 36 = .ok (.lconst 0, 1) := dk_get kX12_stands_ok 21 rfl
theorem dX12_stands_37 : decode cX12_stands 37 = .ok (.lcmp, 1) := dk_get kX12_stands_ok 22 rfl
theorem dX12_stands_38 : decode cX12_stands 38 = .ok (.ifCond .ge 6, 3) := dk_get kX12_stands_ok 23 rfl
theorem dX12_stands_41 : decode cX12_stands 41 = .ok (.lload_n 2, 1) := dk_get kX12_stands_ok 24 rfl
theorem dX12_stands_42 : decode cX12_stands 42 = .ok (.l2i, 1) := dk_get kX12_stands_ok 25 rfl
theorem dX12_stands_43 : decode cX12_stands 43 = .ok (.ireturn, 1) := dk_get kX12_stands_ok 26 rfl
theorem dX12_stands_44 : decode cX12_stands 44 = .ok (.aload_n 0, 1) := dk_get kX12_stands_ok 27 rfl
theorem dX12_stands_45 : decode cX12_stands 45 = .ok (.iload_n 1, 1) := dk_get kX12_stands_ok 28 rfl
theorem dX12_stands_46 : decode cX12_stands 46 = .ok (.aload_n 0, 1) := dk_get kX12_stands_ok 29 rfl
theorem dX12_stands_47 : decode cX12_stands 47 = .ok (.getfield 160, 3) := dk_get kX12_stands_ok 30 rfl
theorem dX12_stands_50 : decode cX12_stands 50 = .ok (.invokevirtual 581, 3) := dk_get kX12_stands_ok 31 rfl
theorem dX12_stands_53 : decode cX12_stands 53 = .ok (.lstore_n 2, 1) := dk_get kX12_stands_ok 32 rfl
theorem dX12_stands_54 : decode cX12_stands 54 = .ok (.lload_n 2, 1) := dk_get kX12_stands_ok 33 rfl
theorem dX12_stands_55 : decode cX12_stands 55 = .ok (.lconst 0, 1) := dk_get kX12_stands_ok 34 rfl
theorem dX12_stands_56 : decode cX12_stands 56 = .ok (.lcmp, 1) := dk_get kX12_stands_ok 35 rfl
theorem dX12_stands_57 : decode cX12_stands 57 = .ok (.ifCond .ge 6, 3) := dk_get kX12_stands_ok 36 rfl
theorem dX12_stands_60 : decode cX12_stands 60 = .ok (.lload_n 2, 1) := dk_get kX12_stands_ok 37 rfl
theorem dX12_stands_61 : decode cX12_stands 61 = .ok (.l2i, 1) := dk_get kX12_stands_ok 38 rfl
theorem dX12_stands_62 : decode cX12_stands 62 = .ok (.ireturn, 1) := dk_get kX12_stands_ok 39 rfl
theorem dX12_stands_63 : decode cX12_stands 63 = .ok (.iconst 0, 1) := dk_get kX12_stands_ok 40 rfl
theorem dX12_stands_64 : decode cX12_stands 64 = .ok (.istore 4, 2) := dk_get kX12_stands_ok 41 rfl
theorem dX12_stands_66 : decode cX12_stands 66 = .ok (.iconst 0, 1) := dk_get kX12_stands_ok 42 rfl
theorem dX12_stands_67 : decode cX12_stands 67 = .ok (.istore 5, 2) := dk_get kX12_stands_ok 43 rfl
theorem dX12_stands_69 : decode cX12_stands 69 = .ok (.iload 5, 2) := dk_get kX12_stands_ok 44 rfl
theorem dX12_stands_71 : decode cX12_stands 71 = .ok (.aload_n 0, 1) := dk_get kX12_stands_ok 45 rfl
theorem dX12_stands_72 : decode cX12_stands 72 = .ok (.getfield 177, 3) := dk_get kX12_stands_ok 46 rfl
theorem dX12_stands_75 : decode cX12_stands 75 = .ok (.if_icmp .ge 45, 3) := dk_get kX12_stands_ok 47 rfl
theorem dX12_stands_78 : decode cX12_stands 78 = .ok (.aload_n 0, 1) := dk_get kX12_stands_ok 48 rfl
theorem dX12_stands_79 : decode cX12_stands 79 = .ok (.getfield 13, 3) := dk_get kX12_stands_ok 49 rfl
theorem dX12_stands_82 : decode cX12_stands 82 = .ok (.iload 5, 2) := dk_get kX12_stands_ok 50 rfl
theorem dX12_stands_84 : decode cX12_stands 84 = .ok (.iaload, 1) := dk_get kX12_stands_ok 51 rfl
theorem dX12_stands_85 : decode cX12_stands 85 = .ok (.iload_n 1, 1) := dk_get kX12_stands_ok 52 rfl
theorem dX12_stands_86 : decode cX12_stands 86 = .ok (.if_icmp .eq 28, 3) := dk_get kX12_stands_ok 53 rfl
theorem dX12_stands_89 : decode cX12_stands 89 = .ok (.aload_n 0, 1) := dk_get kX12_stands_ok 54 rfl
theorem dX12_stands_90 : decode cX12_stands 90 = .ok (.getfield 160, 3) := dk_get kX12_stands_ok 55 rfl
theorem dX12_stands_93 : decode cX12_stands 93 = .ok (.iload 5, 2) := dk_get kX12_stands_ok 56 rfl
theorem dX12_stands_95 : decode cX12_stands 95 = .ok (.iaload, 1) := dk_get kX12_stands_ok 57 rfl
theorem dX12_stands_96 : decode cX12_stands 96 = .ok (.iload 5, 2) := dk_get kX12_stands_ok 58 rfl
theorem dX12_stands_98 : decode cX12_stands 98 = .ok (.if_icmp .ne 16, 3) := dk_get kX12_stands_ok 59 rfl
theorem dX12_stands_101 : decode cX12_stands 101 = .ok (.aload_n 0, 1) := dk_get kX12_stands_ok 60 rfl
theorem dX12_stands_102 : decode cX12_stands 102 = .ok (.iload 5, 2) := dk_get kX12_stands_ok 61 rfl
theorem dX12_stands_104 : decode cX12_stands 104 = .ok (.iload_n 1, 1) := dk_get kX12_stands_ok 62 rfl
theorem dX12_stands_105 : decode cX12_stands 105 = .ok (.invokevirtual 585, 3) := dk_get kX12_stands_ok 63 rfl
theorem dX12_stands_108 : decode cX12_stands 108 = .ok (.ifCond .eq 6, 3) := dk_get kX12_stands_ok 64 rfl
theorem dX12_stands_111 : decode cX12_stands 111 = .ok (.iinc 4 1, 3) := dk_get kX12_stands_ok 65 rfl
theorem dX12_stands_114 : decode cX12_stands 114 = .ok (.iinc 5 1, 3) := dk_get kX12_stands_ok 66 rfl
theorem dX12_stands_117 : decode cX12_stands 117 = .ok (.goto (-48), 3) := dk_get kX12_stands_ok 67 rfl
theorem dX12_stands_120 : decode cX12_stands 120 = .ok (.iload 4, 2) := dk_get kX12_stands_ok 68 rfl
theorem dX12_stands_122 : decode cX12_stands 122 = .ok (.ireturn, 1) := dk_get kX12_stands_ok 69 rfl
def kX12_isHeap : List (Nat × Instr × Nat) := [(0, .iconst 0, 1), (1, .istore_n 3, 1), (2, .iload_n 3, 1), (3, .aload_n 0, 1), (4, .getfield 177, 3), (7, .if_icmp .ge 59, 3), (10, .aload_n 0, 1), (11, .getfield 13, 3), (14, .iload_n 3, 1), (15, .iaload, 1), (16, .iload_n 2, 1), (17, .if_icmp .eq 43, 3), (20, .aload_n 0, 1), (21, .getfield 160, 3), (24, .iload_n 3, 1), (25, .iaload, 1), (26, .iload_n 1, 1), (27, .if_icmp .ne 7, 3), (30, .iconst 1, 1), (31, .goto 4, 3), (34, .iconst 0, 1), (35, .aload_n 0, 1), (36, .getfield 157, 3), (39, .iload_n 3, 1), (40, .iaload, 1), (41, .aload_n 0, 1), (42, .getfield 157, 3), (45, .iload_n 1, 1), (46, .iaload, 1), (47, .if_icmp .ne 7, 3), (50, .iconst 1, 1), (51, .goto 4, 3), (54, .iconst 0, 1), (55, .if_icmp .eq 5, 3), (58, .iconst 0, 1), (59, .ireturn, 1), (60, .iinc 3 1, 3), (63, .goto (-61), 3), (66, .iconst 1, 1), (67, .ireturn, 1)]
set_option maxRecDepth 100000 in
theorem kX12_isHeap_ok : kX12_isHeap.all (fun q => decide (decode cX12_isHeap q.1 = .ok q.2)) = true := by decide +kernel
theorem dX12_isHeap_0 : decode cX12_isHeap 0 = .ok (.iconst 0, 1) := dk_get kX12_isHeap_ok 0 rfl
theorem dX12_isHeap_1 : decode cX12_isHeap 1 = .ok (.istore_n 3, 1) := dk_get kX12_isHeap_ok 1 rfl
theorem dX12_isHeap_2 : decode cX12_isHeap 2 = .ok (.iload_n 3, 1) := dk_get kX12_isHeap_ok 2 rfl
theorem dX12_isHeap_3 : decode cX12_isHeap 3 = .ok (.aload_n 0, 1) := dk_get kX12_isHeap_ok 3 rfl
theorem dX12_isHeap_4 : decode cX12_isHeap 4 = .ok (.getfield 177, 3) := dk_get kX12_isHeap_ok 4 rfl
theorem dX12_isHeap_7 : decode cX12_isHeap 7 = .ok (.if_icmp .ge 59, 3) := dk_get kX12_isHeap_ok 5 rfl
theorem dX12_isHeap_10 : decode cX12_isHeap 10 = .ok (.aload_n 0, 1) := dk_get kX12_isHeap_ok 6 rfl
theorem dX12_isHeap_11 : decode cX12_isHeap 11 = .ok (.getfield 13, 3) := dk_get kX12_isHeap_ok 7 rfl
theorem dX12_isHeap_14 : decode cX12_isHeap 14 = .ok (.iload_n 3, 1) := dk_get kX12_isHeap_ok 8 rfl
theorem dX12_isHeap_15 : decode cX12_isHeap 15 = .ok (.iaload, 1) := dk_get kX12_isHeap_ok 9 rfl
theorem dX12_isHeap_16 : decode cX12_isHeap 16 = .ok (.iload_n 2, 1) := dk_get kX12_isHeap_ok 10 rfl
theorem dX12_isHeap_17 : decode cX12_isHeap 17 = .ok (.if_icmp .eq 43, 3) := dk_get kX12_isHeap_ok 11 rfl
theorem dX12_isHeap_20 : decode cX12_isHeap 20 = .ok (.aload_n 0, 1) := dk_get kX12_isHeap_ok 12 rfl
theorem dX12_isHeap_21 : decode cX12_isHeap 21 = .ok (.getfield 160, 3) := dk_get kX12_isHeap_ok 13 rfl
theorem dX12_isHeap_24 : decode cX12_isHeap 24 = .ok (.iload_n 3, 1) := dk_get kX12_isHeap_ok 14 rfl
theorem dX12_isHeap_25 : decode cX12_isHeap 25 = .ok (.iaload, 1) := dk_get kX12_isHeap_ok 15 rfl
theorem dX12_isHeap_26 : decode cX12_isHeap 26 = .ok (.iload_n 1, 1) := dk_get kX12_isHeap_ok 16 rfl
theorem dX12_isHeap_27 : decode cX12_isHeap 27 = .ok (.if_icmp .ne 7, 3) := dk_get kX12_isHeap_ok 17 rfl
theorem dX12_isHeap_30 : decode cX12_isHeap 30 = .ok (.iconst 1, 1) := dk_get kX12_isHeap_ok 18 rfl
theorem dX12_isHeap_31 : decode cX12_isHeap 31 = .ok (.goto 4, 3) := dk_get kX12_isHeap_ok 19 rfl
theorem dX12_isHeap_34 : decode cX12_isHeap 34 = .ok (.iconst 0, 1) := dk_get kX12_isHeap_ok 20 rfl
theorem dX12_isHeap_35 : decode cX12_isHeap 35 = .ok (.aload_n 0, 1) := dk_get kX12_isHeap_ok 21 rfl
theorem dX12_isHeap_36 : decode cX12_isHeap 36 = .ok (.getfield 157, 3) := dk_get kX12_isHeap_ok 22 rfl
theorem dX12_isHeap_39 : decode cX12_isHeap 39 = .ok (.iload_n 3, 1) := dk_get kX12_isHeap_ok 23 rfl
theorem dX12_isHeap_40 : decode cX12_isHeap 40 = .ok (.iaload, 1) := dk_get kX12_isHeap_ok 24 rfl
theorem dX12_isHeap_41 : decode cX12_isHeap 41 = .ok (.aload_n 0, 1) := dk_get kX12_isHeap_ok 25 rfl
theorem dX12_isHeap_42 : decode cX12_isHeap 42 = .ok (.getfield 157, 3) := dk_get kX12_isHeap_ok 26 rfl
theorem dX12_isHeap_45 : decode cX12_isHeap 45 = .ok (.iload_n 1, 1) := dk_get kX12_isHeap_ok 27 rfl
theorem dX12_isHeap_46 : decode cX12_isHeap 46 = .ok (.iaload, 1) := dk_get kX12_isHeap_ok 28 rfl
theorem dX12_isHeap_47 : decode cX12_isHeap 47 = .ok (.if_icmp .ne 7, 3) := dk_get kX12_isHeap_ok 29 rfl
theorem dX12_isHeap_50 : decode cX12_isHeap 50 = .ok (.iconst 1, 1) := dk_get kX12_isHeap_ok 30 rfl
theorem dX12_isHeap_51 : decode cX12_isHeap 51 = .ok (.goto 4, 3) := dk_get kX12_isHeap_ok 31 rfl
theorem dX12_isHeap_54 : decode cX12_isHeap 54 = .ok (.iconst 0, 1) := dk_get kX12_isHeap_ok 32 rfl
theorem dX12_isHeap_55 : decode cX12_isHeap 55 = .ok (.if_icmp .eq 5, 3) := dk_get kX12_isHeap_ok 33 rfl
theorem dX12_isHeap_58 : decode cX12_isHeap 58 = .ok (.iconst 0, 1) := dk_get kX12_isHeap_ok 34 rfl
theorem dX12_isHeap_59 : decode cX12_isHeap 59 = .ok (.ireturn, 1) := dk_get kX12_isHeap_ok 35 rfl
theorem dX12_isHeap_60 : decode cX12_isHeap 60 = .ok (.iinc 3 1, 3) := dk_get kX12_isHeap_ok 36 rfl
theorem dX12_isHeap_63 : decode cX12_isHeap 63 = .ok (.goto (-61), 3) := dk_get kX12_isHeap_ok 37 rfl
theorem dX12_isHeap_66 : decode cX12_isHeap 66 = .ok (.iconst 1, 1) := dk_get kX12_isHeap_ok 38 rfl
theorem dX12_isHeap_67 : decode cX12_isHeap 67 = .ok (.ireturn, 1) := dk_get kX12_isHeap_ok 39 rfl
def kX12_mark : List (Nat × Instr × Nat) := [(0, .aload_n 0, 1), (1, .iconst 0, 1), (2, .putfield 1, 3), (5, .aload_n 0, 1), (6, .getfield 588, 3), (9, .bipush 6, 2), (11, .if_icmp .ne 5, 3), (14, .iconst (-1), 1), (15, .ireturn, 1), (16, .aload_n 0, 1), (17, .getfield 163, 3), (20, .aload_n 0, 1), (21, .getfield 588, 3), (24, .aload_n 0, 1), (25, .getfield 177, 3), (28, .iastore, 1), (29, .iconst 0, 1), (30, .istore_n 1, 1), (31, .iload_n 1, 1), (32, .aload_n 0, 1), (33, .getfield 177, 3), (36, .if_icmp .ge 29, 3), (39, .aload_n 0, 1), (40, .getfield 166, 3), (43, .bipush 30, 2), (45, .aload_n 0, 1), (46, .getfield 588, 3), (49, .imul, 1), (50, .iload_n 1, 1), (51, .iadd, 1), (52, .aload_n 0, 1), (53, .getfield 29, 3), (56, .iload_n 1, 1), (57, .iaload, 1), (58, .iastore, 1), (59, .iinc 1 1, 3), (62, .goto (-31), 3), (65, .aload_n 0, 1), (66, .dup, 1), (67, .getfield 588, 3), (70, .iconst 1, 1), (71, .iadd, 1), (72, .putfield 588, 3), (75, .aload_n 0, 1), (76, .getfield 588, 3), (79, .ireturn, 1)]
set_option maxRecDepth 100000 in
theorem kX12_mark_ok : kX12_mark.all (fun q => decide (decode cX12_mark q.1 = .ok q.2)) = true := by decide +kernel
theorem dX12_mark_0 : decode cX12_mark 0 = .ok (.aload_n 0, 1) := dk_get kX12_mark_ok 0 rfl
theorem dX12_mark_1 : decode cX12_mark 1 = .ok (.iconst 0, 1) := dk_get kX12_mark_ok 1 rfl
theorem dX12_mark_2 : decode cX12_mark 2 = .ok (.putfield 1, 3) := dk_get kX12_mark_ok 2 rfl
theorem dX12_mark_5 : decode cX12_mark 5 = .ok (.aload_n 0, 1) := dk_get kX12_mark_ok 3 rfl
theorem dX12_mark_6 : decode cX12_mark 6 = .ok (.getfield 588, 3) := dk_get kX12_mark_ok 4 rfl
theorem dX12_mark_9 : decode cX12_mark 9 = .ok (.bipush 6, 2) := dk_get kX12_mark_ok 5 rfl
theorem dX12_mark_11 : decode cX12_mark 11 = .ok (.if_icmp .ne 5, 3) := dk_get kX12_mark_ok 6 rfl
theorem dX12_mark_14 : decode cX12_mark 14 = .ok (.iconst (-1), 1) := dk_get kX12_mark_ok 7 rfl
theorem dX12_mark_15 : decode cX12_mark 15 = .ok (.ireturn, 1) := dk_get kX12_mark_ok 8 rfl
theorem dX12_mark_16 : decode cX12_mark 16 = .ok (.aload_n 0, 1) := dk_get kX12_mark_ok 9 rfl
theorem dX12_mark_17 : decode cX12_mark 17 = .ok (.getfield 163, 3) := dk_get kX12_mark_ok 10 rfl
theorem dX12_mark_20 : decode cX12_mark 20 = .ok (.aload_n 0, 1) := dk_get kX12_mark_ok 11 rfl
theorem dX12_mark_21 : decode cX12_mark 21 = .ok (.getfield 588, 3) := dk_get kX12_mark_ok 12 rfl
theorem dX12_mark_24 : decode cX12_mark 24 = .ok (.aload_n 0, 1) := dk_get kX12_mark_ok 13 rfl
theorem dX12_mark_25 : decode cX12_mark 25 = .ok (.getfield 177, 3) := dk_get kX12_mark_ok 14 rfl
theorem dX12_mark_28 : decode cX12_mark 28 = .ok (.iastore, 1) := dk_get kX12_mark_ok 15 rfl
theorem dX12_mark_29 : decode cX12_mark 29 = .ok (.iconst 0, 1) := dk_get kX12_mark_ok 16 rfl
theorem dX12_mark_30 : decode cX12_mark 30 = .ok (.istore_n 1, 1) := dk_get kX12_mark_ok 17 rfl
theorem dX12_mark_31 : decode cX12_mark 31 = .ok (.iload_n 1, 1) := dk_get kX12_mark_ok 18 rfl
theorem dX12_mark_32 : decode cX12_mark 32 = .ok (.aload_n 0, 1) := dk_get kX12_mark_ok 19 rfl
theorem dX12_mark_33 : decode cX12_mark 33 = .ok (.getfield 177, 3) := dk_get kX12_mark_ok 20 rfl
theorem dX12_mark_36 : decode cX12_mark 36 = .ok (.if_icmp .ge 29, 3) := dk_get kX12_mark_ok 21 rfl
theorem dX12_mark_39 : decode cX12_mark 39 = .ok (.aload_n 0, 1) := dk_get kX12_mark_ok 22 rfl
theorem dX12_mark_40 : decode cX12_mark 40 = .ok (.getfield 166, 3) := dk_get kX12_mark_ok 23 rfl
theorem dX12_mark_43 : decode cX12_mark 43 = .ok (.bipush 30, 2) := dk_get kX12_mark_ok 24 rfl
theorem dX12_mark_45 : decode cX12_mark 45 = .ok (.aload_n 0, 1) := dk_get kX12_mark_ok 25 rfl
theorem dX12_mark_46 : decode cX12_mark 46 = .ok (.getfield 588, 3) := dk_get kX12_mark_ok 26 rfl
theorem dX12_mark_49 : decode cX12_mark 49 = .ok (.imul, 1) := dk_get kX12_mark_ok 27 rfl
theorem dX12_mark_50 : decode cX12_mark 50 = .ok (.iload_n 1, 1) := dk_get kX12_mark_ok 28 rfl
theorem dX12_mark_51 : decode cX12_mark 51 = .ok (.iadd, 1) := dk_get kX12_mark_ok 29 rfl
theorem dX12_mark_52 : decode cX12_mark 52 = .ok (.aload_n 0, 1) := dk_get kX12_mark_ok 30 rfl
theorem dX12_mark_53 : decode cX12_mark 53 = .ok (.getfield 29, 3) := dk_get kX12_mark_ok 31 rfl
theorem dX12_mark_56 : decode cX12_mark 56 = .ok (.iload_n 1, 1) := dk_get kX12_mark_ok 32 rfl
theorem dX12_mark_57 : decode cX12_mark 57 = .ok (.iaload, 1) := dk_get kX12_mark_ok 33 rfl
theorem dX12_mark_58 : decode cX12_mark 58 = .ok (.iastore, 1) := dk_get kX12_mark_ok 34 rfl
theorem dX12_mark_59 : decode cX12_mark 59 = .ok (.iinc 1 1, 3) := dk_get kX12_mark_ok 35 rfl
theorem dX12_mark_62 : decode cX12_mark 62 = .ok (.goto (-31), 3) := dk_get kX12_mark_ok 36 rfl
theorem dX12_mark_65 : decode cX12_mark 65 = .ok (.aload_n 0, 1) := dk_get kX12_mark_ok 37 rfl
theorem dX12_mark_66 : decode cX12_mark 66 = .ok (.dup, 1) := dk_get kX12_mark_ok 38 rfl
theorem dX12_mark_67 : decode cX12_mark 67 = .ok (.getfield 588, 3) := dk_get kX12_mark_ok 39 rfl
theorem dX12_mark_70 : decode cX12_mark 70 = .ok (.iconst 1, 1) := dk_get kX12_mark_ok 40 rfl
theorem dX12_mark_71 : decode cX12_mark 71 = .ok (.iadd, 1) := dk_get kX12_mark_ok 41 rfl
theorem dX12_mark_72 : decode cX12_mark 72 = .ok (.putfield 588, 3) := dk_get kX12_mark_ok 42 rfl
theorem dX12_mark_75 : decode cX12_mark 75 = .ok (.aload_n 0, 1) := dk_get kX12_mark_ok 43 rfl
theorem dX12_mark_76 : decode cX12_mark 76 = .ok (.getfield 588, 3) := dk_get kX12_mark_ok 44 rfl
theorem dX12_mark_79 : decode cX12_mark 79 = .ok (.ireturn, 1) := dk_get kX12_mark_ok 45 rfl
def kX12_back : List (Nat × Instr × Nat) := [(0, .aload_n 0, 1), (1, .iconst 0, 1), (2, .putfield 1, 3), (5, .aload_n 0, 1), (6, .getfield 588, 3), (9, .ifCond .ne 5, 3), (12, .iconst (-1), 1), (13, .ireturn, 1), (14, .aload_n 0, 1), (15, .dup, 1), (16, .getfield 588, 3), (19, .iconst 1, 1), (20, .isub, 1), (21, .putfield 588, 3), (24, .iconst 0, 1), (25, .istore_n 1, 1), (26, .iload_n 1, 1), (27, .aload_n 0, 1), (28, .getfield 177, 3), (31, .if_icmp .ge 46, 3), (34, .aload_n 0, 1), (35, .getfield 29, 3), (38, .iload_n 1, 1), (39, .iload_n 1, 1), (40, .aload_n 0, 1), (41, .getfield 163, 3), (44, .aload_n 0, 1), (45, .getfield 588, 3), (48, .iaload, 1), (49, .if_icmp .ge 20, 3), (52, .aload_n 0, 1), (53, .getfield 166, 3), (56, .bipush 30, 2), (58, .aload_n 0, 1), (59, .getfield 588, 3), (62, .imul, 1), (63, .iload_n 1, 1), (64, .iadd, 1), (65, .iaload, 1), (66, .goto 4, 3), (69, .iload_n 1, 1), (70, .iastore, 1), (71, .iinc 1 1, 3), (74, .goto (-48), 3), (77, .aload_n 0, 1), (78, .getfield 588, 3), (81, .ireturn, 1)]
set_option maxRecDepth 100000 in
theorem kX12_back_ok : kX12_back.all (fun q => decide (decode cX12_back q.1 = .ok q.2)) = true := by decide +kernel
theorem dX12_back_0 : decode cX12_back 0 = .ok (.aload_n 0, 1) := dk_get kX12_back_ok 0 rfl
theorem dX12_back_1 : decode cX12_back 1 = .ok (.iconst 0, 1) := dk_get kX12_back_ok 1 rfl
theorem dX12_back_2 : decode cX12_back 2 = .ok (.putfield 1, 3) := dk_get kX12_back_ok 2 rfl
theorem dX12_back_5 : decode cX12_back 5 = .ok (.aload_n 0, 1) := dk_get kX12_back_ok 3 rfl
theorem dX12_back_6 : decode cX12_back 6 = .ok (.getfield 588, 3) := dk_get kX12_back_ok 4 rfl
theorem dX12_back_9 : decode cX12_back 9 = .ok (.ifCond .ne 5, 3) := dk_get kX12_back_ok 5 rfl
theorem dX12_back_12 : decode cX12_back 12 = .ok (.iconst (-1), 1) := dk_get kX12_back_ok 6 rfl
theorem dX12_back_13 : decode cX12_back 13 = .ok (.ireturn, 1) := dk_get kX12_back_ok 7 rfl
theorem dX12_back_14 : decode cX12_back 14 = .ok (.aload_n 0, 1) := dk_get kX12_back_ok 8 rfl
theorem dX12_back_15 : decode cX12_back 15 = .ok (.dup, 1) := dk_get kX12_back_ok 9 rfl
theorem dX12_back_16 : decode cX12_back 16 = .ok (.getfield 588, 3) := dk_get kX12_back_ok 10 rfl
theorem dX12_back_19 : decode cX12_back 19 = .ok (.iconst 1, 1) := dk_get kX12_back_ok 11 rfl
theorem dX12_back_20 : decode cX12_back 20 = .ok (.isub, 1) := dk_get kX12_back_ok 12 rfl
theorem dX12_back_21 : decode cX12_back 21 = .ok (.putfield 588, 3) := dk_get kX12_back_ok 13 rfl
theorem dX12_back_24 : decode cX12_back 24 = .ok (.iconst 0, 1) := dk_get kX12_back_ok 14 rfl
theorem dX12_back_25 : decode cX12_back 25 = .ok (.istore_n 1, 1) := dk_get kX12_back_ok 15 rfl
theorem dX12_back_26 : decode cX12_back 26 = .ok (.iload_n 1, 1) := dk_get kX12_back_ok 16 rfl
theorem dX12_back_27 : decode cX12_back 27 = .ok (.aload_n 0, 1) := dk_get kX12_back_ok 17 rfl
theorem dX12_back_28 : decode cX12_back 28 = .ok (.getfield 177, 3) := dk_get kX12_back_ok 18 rfl
theorem dX12_back_31 : decode cX12_back 31 = .ok (.if_icmp .ge 46, 3) := dk_get kX12_back_ok 19 rfl
theorem dX12_back_34 : decode cX12_back 34 = .ok (.aload_n 0, 1) := dk_get kX12_back_ok 20 rfl
theorem dX12_back_35 : decode cX12_back 35 = .ok (.getfield 29, 3) := dk_get kX12_back_ok 21 rfl
theorem dX12_back_38 : decode cX12_back 38 = .ok (.iload_n 1, 1) := dk_get kX12_back_ok 22 rfl
theorem dX12_back_39 : decode cX12_back 39 = .ok (.iload_n 1, 1) := dk_get kX12_back_ok 23 rfl
theorem dX12_back_40 : decode cX12_back 40 = .ok (.aload_n 0, 1) := dk_get kX12_back_ok 24 rfl
theorem dX12_back_41 : decode cX12_back 41 = .ok (.getfield 163, 3) := dk_get kX12_back_ok 25 rfl
theorem dX12_back_44 : decode cX12_back 44 = .ok (.aload_n 0, 1) := dk_get kX12_back_ok 26 rfl
theorem dX12_back_45 : decode cX12_back 45 = .ok (.getfield 588, 3) := dk_get kX12_back_ok 27 rfl
theorem dX12_back_48 : decode cX12_back 48 = .ok (.iaload, 1) := dk_get kX12_back_ok 28 rfl
theorem dX12_back_49 : decode cX12_back 49 = .ok (.if_icmp .ge 20, 3) := dk_get kX12_back_ok 29 rfl
theorem dX12_back_52 : decode cX12_back 52 = .ok (.aload_n 0, 1) := dk_get kX12_back_ok 30 rfl
theorem dX12_back_53 : decode cX12_back 53 = .ok (.getfield 166, 3) := dk_get kX12_back_ok 31 rfl
theorem dX12_back_56 : decode cX12_back 56 = .ok (.bipush 30, 2) := dk_get kX12_back_ok 32 rfl
theorem dX12_back_58 : decode cX12_back 58 = .ok (.aload_n 0, 1) := dk_get kX12_back_ok 33 rfl
theorem dX12_back_59 : decode cX12_back 59 = .ok (.getfield 588, 3) := dk_get kX12_back_ok 34 rfl
theorem dX12_back_62 : decode cX12_back 62 = .ok (.imul, 1) := dk_get kX12_back_ok 35 rfl
theorem dX12_back_63 : decode cX12_back 63 = .ok (.iload_n 1, 1) := dk_get kX12_back_ok 36 rfl
theorem dX12_back_64 : decode cX12_back 64 = .ok (.iadd, 1) := dk_get kX12_back_ok 37 rfl
theorem dX12_back_65 : decode cX12_back 65 = .ok (.iaload, 1) := dk_get kX12_back_ok 38 rfl
theorem dX12_back_66 : decode cX12_back 66 = .ok (.goto 4, 3) := dk_get kX12_back_ok 39 rfl
theorem dX12_back_69 : decode cX12_back 69 = .ok (.iload_n 1, 1) := dk_get kX12_back_ok 40 rfl
theorem dX12_back_70 : decode cX12_back 70 = .ok (.iastore, 1) := dk_get kX12_back_ok 41 rfl
theorem dX12_back_71 : decode cX12_back 71 = .ok (.iinc 1 1, 3) := dk_get kX12_back_ok 42 rfl
theorem dX12_back_74 : decode cX12_back 74 = .ok (.goto (-48), 3) := dk_get kX12_back_ok 43 rfl
theorem dX12_back_77 : decode cX12_back 77 = .ok (.aload_n 0, 1) := dk_get kX12_back_ok 44 rfl
theorem dX12_back_78 : decode cX12_back 78 = .ok (.getfield 588, 3) := dk_get kX12_back_ok 45 rfl
theorem dX12_back_81 : decode cX12_back 81 = .ok (.ireturn, 1) := dk_get kX12_back_ok 46 rfl
def kX12_count : List (Nat × Instr × Nat) := [(0, .aload_n 0, 1), (1, .iconst 0, 1), (2, .putfield 1, 3), (5, .iconst 0, 1), (6, .istore_n 2, 1), (7, .iload_n 1, 1), (8, .tableswitch 239 0 9 #[56, 61, 66, 71, 76, 112, 157, 162, 167, 172], 56), (64, .aload_n 0, 1), (65, .getfield 177, 3), (68, .ireturn, 1), (69, .aload_n 0, 1), (70, .getfield 320, 3), (73, .ireturn, 1), (74, .aload_n 0, 1), (75, .getfield 338, 3), (78, .ireturn, 1), (79, .aload_n 0, 1), (80, .getfield 368, 3), (83, .ireturn, 1), (84, .iconst 0, 1), (85, .istore_n 3, 1), (86, .iload_n 3, 1), (87, .aload_n 0, 1), (88, .getfield 177, 3), (91, .if_icmp .ge 27, 3), (94, .iload_n 2, 1), (95, .aload_n 0, 1), (96, .getfield 29, 3), (99, .iload_n 3, 1), (100, .iaload, 1), (101, .iload_n 3, 1), (102, .if_icmp .ne 7, 3), (105, .iconst 1, 1), (106, .goto 4, 3), (109, .iconst 0, 1), (110, .iadd, 1), (111, .istore_n 2, 1), (112, .iinc 3 1, 3), (115, .goto (-29), 3), (118, .iload_n 2, 1), (119, .ireturn, 1), (120, .aload_n 0, 1), (121, .invokevirtual 187, 3), (124, .iconst 0, 1), (125, .istore_n 3, 1), (126, .iload_n 3, 1), (127, .aload_n 0, 1), (128, .getfield 177, 3), (131, .if_icmp .ge 32, 3), (134, .aload_n 0, 1), (135, .iload_n 3, 1), (136, .invokevirtual 190, 3), (139, .iload_n 2, 1), (140, .aload_n 0, 1), (141, .getfield 138, 3), (144, .iconst 0, 1), (145, .iaload, 1), (146, .iload_n 3, 1), (147, .if_icmp .ne 7, 3), (150, .iconst 1, 1), (151, .goto 4, 3), (154, .iconst 0, 1), (155, .iadd, 1), (156, .istore_n 2, 1), (157, .iinc 3 1, 3), (160, .goto (-34), 3), (163, .iload_n 2, 1), (164, .ireturn, 1), (165, .aload_n 0, 1), (166, .getfield 459, 3), (169, .ireturn, 1), (170, .aload_n 0, 1), (171, .getfield 588, 3), (174, .ireturn, 1), (175, .aload_n 0, 1), (176, .getfield 197, 3), (179, .ireturn, 1), (180, .iconst 0, 1), (181, .istore_n 3, 1), (182, .iload_n 3, 1), (183, .aload_n 0, 1), (184, .getfield 177, 3), (187, .if_icmp .ge 58, 3), (190, .iload_n 3, 1), (191, .iconst 1, 1), (192, .iadd, 1), (193, .istore 4, 2), (195, .iload 4, 2), (197, .aload_n 0, 1), (198, .getfield 177, 3), (201, .if_icmp .ge 38, 3), (204, .iload_n 2, 1), (205, .aload_n 0, 1), (206, .iload_n 3, 1), (207, .iload 4, 2), (209, .invokevirtual 344, 3), (212, .iconst (-1), 1), (213, .if_icmp .ne 17, 3), (216, .aload_n 0, 1), (217, .iload_n 3, 1), (218, .iload 4, 2), (220, .invokevirtual 348, 3), (223, .ifCond .eq 7, 3), (226, .iconst 1, 1), (227, .goto 4, 3), (230, .iconst 0, 1), (231, .iadd, 1), (232, .istore_n 2, 1), (233, .iinc 4 1, 3), (236, .goto (-41), 3), (239, .iinc 3 1, 3), (242, .goto (-60), 3), (245, .iload_n 2, 1), (246, .ireturn, 1), (247, .iconst (-1), 1), (248, .ireturn, 1)]
set_option maxRecDepth 100000 in
theorem kX12_count_ok : kX12_count.all (fun q => decide (decode cX12_count q.1 = .ok q.2)) = true := by decide +kernel
theorem dX12_count_0 : decode cX12_count 0 = .ok (.aload_n 0, 1) := dk_get kX12_count_ok 0 rfl
theorem dX12_count_1 : decode cX12_count 1 = .ok (.iconst 0, 1) := dk_get kX12_count_ok 1 rfl
theorem dX12_count_2 : decode cX12_count 2 = .ok (.putfield 1, 3) := dk_get kX12_count_ok 2 rfl
theorem dX12_count_5 : decode cX12_count 5 = .ok (.iconst 0, 1) := dk_get kX12_count_ok 3 rfl
theorem dX12_count_6 : decode cX12_count 6 = .ok (.istore_n 2, 1) := dk_get kX12_count_ok 4 rfl
theorem dX12_count_7 : decode cX12_count 7 = .ok (.iload_n 1, 1) := dk_get kX12_count_ok 5 rfl
theorem dX12_count_8 : decode cX12_count 8 = .ok (.tableswitch 239 0 9 #[56, 61, 66, 71, 76, 112, 157, 162, 167, 172], 56) := dk_get kX12_count_ok 6 rfl
theorem dX12_count_64 : decode cX12_count 64 = .ok (.aload_n 0, 1) := dk_get kX12_count_ok 7 rfl
theorem dX12_count_65 : decode cX12_count 65 = .ok (.getfield 177, 3) := dk_get kX12_count_ok 8 rfl
theorem dX12_count_68 : decode cX12_count 68 = .ok (.ireturn, 1) := dk_get kX12_count_ok 9 rfl
theorem dX12_count_69 : decode cX12_count 69 = .ok (.aload_n 0, 1) := dk_get kX12_count_ok 10 rfl
theorem dX12_count_70 : decode cX12_count 70 = .ok (.getfield 320, 3) := dk_get kX12_count_ok 11 rfl
theorem dX12_count_73 : decode cX12_count 73 = .ok (.ireturn, 1) := dk_get kX12_count_ok 12 rfl
theorem dX12_count_74 : decode cX12_count 74 = .ok (.aload_n 0, 1) := dk_get kX12_count_ok 13 rfl
theorem dX12_count_75 : decode cX12_count 75 = .ok (.getfield 338, 3) := dk_get kX12_count_ok 14 rfl
theorem dX12_count_78 : decode cX12_count 78 = .ok (.ireturn, 1) := dk_get kX12_count_ok 15 rfl
theorem dX12_count_79 : decode cX12_count 79 = .ok (.aload_n 0, 1) := dk_get kX12_count_ok 16 rfl
theorem dX12_count_80 : decode cX12_count 80 = .ok (.getfield 368, 3) := dk_get kX12_count_ok 17 rfl
theorem dX12_count_83 : decode cX12_count 83 = .ok (.ireturn, 1) := dk_get kX12_count_ok 18 rfl
theorem dX12_count_84 : decode cX12_count 84 = .ok (.iconst 0, 1) := dk_get kX12_count_ok 19 rfl
theorem dX12_count_85 : decode cX12_count 85 = .ok (.istore_n 3, 1) := dk_get kX12_count_ok 20 rfl
theorem dX12_count_86 : decode cX12_count 86 = .ok (.iload_n 3, 1) := dk_get kX12_count_ok 21 rfl
theorem dX12_count_87 : decode cX12_count 87 = .ok (.aload_n 0, 1) := dk_get kX12_count_ok 22 rfl
theorem dX12_count_88 : decode cX12_count 88 = .ok (.getfield 177, 3) := dk_get kX12_count_ok 23 rfl
theorem dX12_count_91 : decode cX12_count 91 = .ok (.if_icmp .ge 27, 3) := dk_get kX12_count_ok 24 rfl
theorem dX12_count_94 : decode cX12_count 94 = .ok (.iload_n 2, 1) := dk_get kX12_count_ok 25 rfl
theorem dX12_count_95 : decode cX12_count 95 = .ok (.aload_n 0, 1) := dk_get kX12_count_ok 26 rfl
theorem dX12_count_96 : decode cX12_count 96 = .ok (.getfield 29, 3) := dk_get kX12_count_ok 27 rfl
theorem dX12_count_99 : decode cX12_count 99 = .ok (.iload_n 3, 1) := dk_get kX12_count_ok 28 rfl
theorem dX12_count_100 : decode cX12_count 100 = .ok (.iaload, 1) := dk_get kX12_count_ok 29 rfl
theorem dX12_count_101 : decode cX12_count 101 = .ok (.iload_n 3, 1) := dk_get kX12_count_ok 30 rfl
theorem dX12_count_102 : decode cX12_count 102 = .ok (.if_icmp .ne 7, 3) := dk_get kX12_count_ok 31 rfl
theorem dX12_count_105 : decode cX12_count 105 = .ok (.iconst 1, 1) := dk_get kX12_count_ok 32 rfl
theorem dX12_count_106 : decode cX12_count 106 = .ok (.goto 4, 3) := dk_get kX12_count_ok 33 rfl
theorem dX12_count_109 : decode cX12_count 109 = .ok (.iconst 0, 1) := dk_get kX12_count_ok 34 rfl
theorem dX12_count_110 : decode cX12_count 110 = .ok (.iadd, 1) := dk_get kX12_count_ok 35 rfl
theorem dX12_count_111 : decode cX12_count 111 = .ok (.istore_n 2, 1) := dk_get kX12_count_ok 36 rfl
theorem dX12_count_112 : decode cX12_count 112 = .ok (.iinc 3 1, 3) := dk_get kX12_count_ok 37 rfl
theorem dX12_count_115 : decode cX12_count 115 = .ok (.goto (-29), 3) := dk_get kX12_count_ok 38 rfl
theorem dX12_count_118 : decode cX12_count 118 = .ok (.iload_n 2, 1) := dk_get kX12_count_ok 39 rfl
theorem dX12_count_119 : decode cX12_count 119 = .ok (.ireturn, 1) := dk_get kX12_count_ok 40 rfl
theorem dX12_count_120 : decode cX12_count 120 = .ok (.aload_n 0, 1) := dk_get kX12_count_ok 41 rfl
theorem dX12_count_121 : decode cX12_count 121 = .ok (.invokevirtual 187, 3) := dk_get kX12_count_ok 42 rfl
theorem dX12_count_124 : decode cX12_count 124 = .ok (.iconst 0, 1) := dk_get kX12_count_ok 43 rfl
theorem dX12_count_125 : decode cX12_count 125 = .ok (.istore_n 3, 1) := dk_get kX12_count_ok 44 rfl
theorem dX12_count_126 : decode cX12_count 126 = .ok (.iload_n 3, 1) := dk_get kX12_count_ok 45 rfl
theorem dX12_count_127 : decode cX12_count 127 = .ok (.aload_n 0, 1) := dk_get kX12_count_ok 46 rfl
theorem dX12_count_128 : decode cX12_count 128 = .ok (.getfield 177, 3) := dk_get kX12_count_ok 47 rfl
theorem dX12_count_131 : decode cX12_count 131 = .ok (.if_icmp .ge 32, 3) := dk_get kX12_count_ok 48 rfl
theorem dX12_count_134 : decode cX12_count 134 = .ok (.aload_n 0, 1) := dk_get kX12_count_ok 49 rfl
theorem dX12_count_135 : decode cX12_count 135 = .ok (.iload_n 3, 1) := dk_get kX12_count_ok 50 rfl
theorem dX12_count_136 : decode cX12_count 136 = .ok (.invokevirtual 190, 3) := dk_get kX12_count_ok 51 rfl
theorem dX12_count_139 : decode cX12_count 139 = .ok (.iload_n 2, 1) := dk_get kX12_count_ok 52 rfl
theorem dX12_count_140 : decode cX12_count 140 = .ok (.aload_n 0, 1) := dk_get kX12_count_ok 53 rfl
theorem dX12_count_141 : decode cX12_count 141 = .ok (.getfield 138, 3) := dk_get kX12_count_ok 54 rfl
theorem dX12_count_144 : decode cX12_count 144 = .ok (.iconst 0, 1) := dk_get kX12_count_ok 55 rfl
theorem dX12_count_145 : decode cX12_count 145 = .ok (.iaload, 1) := dk_get kX12_count_ok 56 rfl
theorem dX12_count_146 : decode cX12_count 146 = .ok (.iload_n 3, 1) := dk_get kX12_count_ok 57 rfl
theorem dX12_count_147 : decode cX12_count 147 = .ok (.if_icmp .ne 7, 3) := dk_get kX12_count_ok 58 rfl
theorem dX12_count_150 : decode cX12_count 150 = .ok (.iconst 1, 1) := dk_get kX12_count_ok 59 rfl
theorem dX12_count_151 : decode cX12_count 151 = .ok (.goto 4, 3) := dk_get kX12_count_ok 60 rfl
theorem dX12_count_154 : decode cX12_count 154 = .ok (.iconst 0, 1) := dk_get kX12_count_ok 61 rfl
theorem dX12_count_155 : decode cX12_count 155 = .ok (.iadd, 1) := dk_get kX12_count_ok 62 rfl
theorem dX12_count_156 : decode cX12_count 156 = .ok (.istore_n 2, 1) := dk_get kX12_count_ok 63 rfl
theorem dX12_count_157 : decode cX12_count 157 = .ok (.iinc 3 1, 3) := dk_get kX12_count_ok 64 rfl
theorem dX12_count_160 : decode cX12_count 160 = .ok (.goto (-34), 3) := dk_get kX12_count_ok 65 rfl
theorem dX12_count_163 : decode cX12_count 163 = .ok (.iload_n 2, 1) := dk_get kX12_count_ok 66 rfl
theorem dX12_count_164 : decode cX12_count 164 = .ok (.ireturn, 1) := dk_get kX12_count_ok 67 rfl
theorem dX12_count_165 : decode cX12_count 165 = .ok (.aload_n 0, 1) := dk_get kX12_count_ok 68 rfl
theorem dX12_count_166 : decode cX12_count 166 = .ok (.getfield 459, 3) := dk_get kX12_count_ok 69 rfl
theorem dX12_count_169 : decode cX12_count 169 = .ok (.ireturn, 1) := dk_get kX12_count_ok 70 rfl
theorem dX12_count_170 : decode cX12_count 170 = .ok (.aload_n 0, 1) := dk_get kX12_count_ok 71 rfl
theorem dX12_count_171 : decode cX12_count 171 = .ok (.getfield 588, 3) := dk_get kX12_count_ok 72 rfl
theorem dX12_count_174 : decode cX12_count 174 = .ok (.ireturn, 1) := dk_get kX12_count_ok 73 rfl
theorem dX12_count_175 : decode cX12_count 175 = .ok (.aload_n 0, 1) := dk_get kX12_count_ok 74 rfl
theorem dX12_count_176 : decode cX12_count 176 = .ok (.getfield 197, 3) := dk_get kX12_count_ok 75 rfl
theorem dX12_count_179 : decode cX12_count 179 = .ok (.ireturn, 1) := dk_get kX12_count_ok 76 rfl
theorem dX12_count_180 : decode cX12_count 180 = .ok (.iconst 0, 1) := dk_get kX12_count_ok 77 rfl
theorem dX12_count_181 : decode cX12_count 181 = .ok (.istore_n 3, 1) := dk_get kX12_count_ok 78 rfl
theorem dX12_count_182 : decode cX12_count 182 = .ok (.iload_n 3, 1) := dk_get kX12_count_ok 79 rfl
theorem dX12_count_183 : decode cX12_count 183 = .ok (.aload_n 0, 1) := dk_get kX12_count_ok 80 rfl
theorem dX12_count_184 : decode cX12_count 184 = .ok (.getfield 177, 3) := dk_get kX12_count_ok 81 rfl
theorem dX12_count_187 : decode cX12_count 187 = .ok (.if_icmp .ge 58, 3) := dk_get kX12_count_ok 82 rfl
theorem dX12_count_190 : decode cX12_count 190 = .ok (.iload_n 3, 1) := dk_get kX12_count_ok 83 rfl
theorem dX12_count_191 : decode cX12_count 191 = .ok (.iconst 1, 1) := dk_get kX12_count_ok 84 rfl
theorem dX12_count_192 : decode cX12_count 192 = .ok (.iadd, 1) := dk_get kX12_count_ok 85 rfl
theorem dX12_count_193 : decode cX12_count 193 = .ok (.istore 4, 2) := dk_get kX12_count_ok 86 rfl
theorem dX12_count_195 : decode cX12_count 195 = .ok (.iload 4, 2) := dk_get kX12_count_ok 87 rfl
theorem dX12_count_197 : decode cX12_count 197 = .ok (.aload_n 0, 1) := dk_get kX12_count_ok 88 rfl
theorem dX12_count_198 : decode cX12_count 198 = .ok (.getfield 177, 3) := dk_get kX12_count_ok 89 rfl
theorem dX12_count_201 : decode cX12_count 201 = .ok (.if_icmp .ge 38, 3) := dk_get kX12_count_ok 90 rfl
theorem dX12_count_204 : decode cX12_count 204 = .ok (.iload_n 2, 1) := dk_get kX12_count_ok 91 rfl
theorem dX12_count_205 : decode cX12_count 205 = .ok (.aload_n 0, 1) := dk_get kX12_count_ok 92 rfl
theorem dX12_count_206 : decode cX12_count 206 = .ok (.iload_n 3, 1) := dk_get kX12_count_ok 93 rfl
theorem dX12_count_207 : decode cX12_count 207 = .ok (.iload 4, 2) := dk_get kX12_count_ok 94 rfl
theorem dX12_count_209 : decode cX12_count 209 = .ok (.invokevirtual 344, 3) := dk_get kX12_count_ok 95 rfl
theorem dX12_count_212 : decode cX12_count 212 = .ok (.iconst (-1), 1) := dk_get kX12_count_ok 96 rfl
theorem dX12_count_213 : decode cX12_count 213 = .ok (.if_icmp .ne 17, 3) := dk_get kX12_count_ok 97 rfl
theorem dX12_count_216 : decode cX12_count 216 = .ok (.aload_n 0, 1) := dk_get kX12_count_ok 98 rfl
theorem dX12_count_217 : decode cX12_count 217 = .ok (.iload_n 3, 1) := dk_get kX12_count_ok 99 rfl
theorem dX12_count_218 : decode cX12_count 218 = .ok (.iload 4, 2) := dk_get kX12_count_ok 100 rfl
theorem dX12_count_220 : decode cX12_count 220 = .ok (.invokevirtual 348, 3) := dk_get kX12_count_ok 101 rfl
theorem dX12_count_223 : decode cX12_count 223 = .ok (.ifCond .eq 7, 3) := dk_get kX12_count_ok 102 rfl
theorem dX12_count_226 : decode cX12_count 226 = .ok (.iconst 1, 1) := dk_get kX12_count_ok 103 rfl
theorem dX12_count_227 : decode cX12_count 227 = .ok (.goto 4, 3) := dk_get kX12_count_ok 104 rfl
theorem dX12_count_230 : decode cX12_count 230 = .ok (.iconst 0, 1) := dk_get kX12_count_ok 105 rfl
theorem dX12_count_231 : decode cX12_count 231 = .ok (.iadd, 1) := dk_get kX12_count_ok 106 rfl
theorem dX12_count_232 : decode cX12_count 232 = .ok (.istore_n 2, 1) := dk_get kX12_count_ok 107 rfl
theorem dX12_count_233 : decode cX12_count 233 = .ok (.iinc 4 1, 3) := dk_get kX12_count_ok 108 rfl
theorem dX12_count_236 : decode cX12_count 236 = .ok (.goto (-41), 3) := dk_get kX12_count_ok 109 rfl
theorem dX12_count_239 : decode cX12_count 239 = .ok (.iinc 3 1, 3) := dk_get kX12_count_ok 110 rfl
theorem dX12_count_242 : decode cX12_count 242 = .ok (.goto (-60), 3) := dk_get kX12_count_ok 111 rfl
theorem dX12_count_245 : decode cX12_count 245 = .ok (.iload_n 2, 1) := dk_get kX12_count_ok 112 rfl
theorem dX12_count_246 : decode cX12_count 246 = .ok (.ireturn, 1) := dk_get kX12_count_ok 113 rfl
theorem dX12_count_247 : decode cX12_count 247 = .ok (.iconst (-1), 1) := dk_get kX12_count_ok 114 rfl
theorem dX12_count_248 : decode cX12_count 248 = .ok (.ireturn, 1) := dk_get kX12_count_ok 115 rfl
