/-! decode rows, by program (wip/whole/names.py) -/
def dl_Mo_flip_0 : List (Nat × Instr × Nat) := [(0, .iload_n 1, 1), (1, .ifCond .lt 20, 3), (4, .iload_n 1, 1), (5, .sipush 255, 3), (8, .if_icmp .gt 13, 3), (11, .iload_n 2, 1), (12, .ifCond .lt 9, 3), (15, .iload_n 2, 1), (16, .bipush 71, 2), (18, .if_icmp .le 5, 3), (21, .iconst 0, 1), (22, .ireturn, 1), (23, .aload_n 0, 1), (24, .iload_n 1, 1), (25, .iload_n 2, 1), (26, .invokevirtual 103, 3), (29, .iconst 1, 1), (30, .ireturn, 1)]
theorem dd_Mo_flip_0 : dl_Mo_flip_0.all (fun e => decide (decode prog_8_method_9_code e.1 = .ok e.2)) = true := by decide +kernel
theorem d_Mo_flip_0 : decode prog_8_method_9_code 0 = .ok (.iload_n 1, 1) := kz_dr dd_Mo_flip_0 0 rfl
theorem d_Mo_flip_1 : decode prog_8_method_9_code 1 = .ok (.ifCond .lt 20, 3) := kz_dr dd_Mo_flip_0 1 rfl
theorem d_Mo_flip_4 : decode prog_8_method_9_code 4 = .ok (.iload_n 1, 1) := kz_dr dd_Mo_flip_0 2 rfl
theorem d_Mo_flip_5 : decode prog_8_method_9_code 5 = .ok (.sipush 255, 3) := kz_dr dd_Mo_flip_0 3 rfl
theorem d_Mo_flip_8 : decode prog_8_method_9_code 8 = .ok (.if_icmp .gt 13, 3) := kz_dr dd_Mo_flip_0 4 rfl
theorem d_Mo_flip_11 : decode prog_8_method_9_code 11 = .ok (.iload_n 2, 1) := kz_dr dd_Mo_flip_0 5 rfl
theorem d_Mo_flip_12 : decode prog_8_method_9_code 12 = .ok (.ifCond .lt 9, 3) := kz_dr dd_Mo_flip_0 6 rfl
theorem d_Mo_flip_15 : decode prog_8_method_9_code 15 = .ok (.iload_n 2, 1) := kz_dr dd_Mo_flip_0 7 rfl
theorem d_Mo_flip_16 : decode prog_8_method_9_code 16 = .ok (.bipush 71, 2) := kz_dr dd_Mo_flip_0 8 rfl
theorem d_Mo_flip_18 : decode prog_8_method_9_code 18 = .ok (.if_icmp .le 5, 3) := kz_dr dd_Mo_flip_0 9 rfl
theorem d_Mo_flip_21 : decode prog_8_method_9_code 21 = .ok (.iconst 0, 1) := kz_dr dd_Mo_flip_0 10 rfl
theorem d_Mo_flip_22 : decode prog_8_method_9_code 22 = .ok (.ireturn, 1) := kz_dr dd_Mo_flip_0 11 rfl
theorem d_Mo_flip_23 : decode prog_8_method_9_code 23 = .ok (.aload_n 0, 1) := kz_dr dd_Mo_flip_0 12 rfl
theorem d_Mo_flip_24 : decode prog_8_method_9_code 24 = .ok (.iload_n 1, 1) := kz_dr dd_Mo_flip_0 13 rfl
theorem d_Mo_flip_25 : decode prog_8_method_9_code 25 = .ok (.iload_n 2, 1) := kz_dr dd_Mo_flip_0 14 rfl
theorem d_Mo_flip_26 : decode prog_8_method_9_code 26 = .ok (.invokevirtual 103, 3) := kz_dr dd_Mo_flip_0 15 rfl
theorem d_Mo_flip_29 : decode prog_8_method_9_code 29 = .ok (.iconst 1, 1) := kz_dr dd_Mo_flip_0 16 rfl
theorem d_Mo_flip_30 : decode prog_8_method_9_code 30 = .ok (.ireturn, 1) := kz_dr dd_Mo_flip_0 17 rfl
def dl_Mo_turn_0 : List (Nat × Instr × Nat) := [(0, .iload_n 2, 1), (1, .bipush 64, 2), (3, .if_icmp .ge 18, 3), (6, .aload_n 0, 1), (7, .getfield 13, 3), (10, .iload_n 1, 1), (11, .dup2, 1), (12, .laload, 1), (13, .lconst 1, 1), (14, .iload_n 2, 1), (15, .lshl, 1), (16, .lxor, 1), (17, .lastore, 1), (18, .goto 18, 3), (21, .aload_n 0, 1), (22, .getfield 17, 3), (25, .iload_n 1, 1), (26, .dup2, 1), (27, .iaload, 1), (28, .iconst 1, 1), (29, .iload_n 2, 1), (30, .bipush 64, 2), (32, .isub, 1), (33, .ishl, 1), (34, .ixor, 1), (35, .iastore, 1), (36, .return_, 1)]
theorem dd_Mo_turn_0 : dl_Mo_turn_0.all (fun e => decide (decode prog_8_method_5_code e.1 = .ok e.2)) = true := by decide +kernel
theorem d_Mo_turn_0 : decode prog_8_method_5_code 0 = .ok (.iload_n 2, 1) := kz_dr dd_Mo_turn_0 0 rfl
theorem d_Mo_turn_1 : decode prog_8_method_5_code 1 = .ok (.bipush 64, 2) := kz_dr dd_Mo_turn_0 1 rfl
theorem d_Mo_turn_3 : decode prog_8_method_5_code 3 = .ok (.if_icmp .ge 18, 3) := kz_dr dd_Mo_turn_0 2 rfl
theorem d_Mo_turn_6 : decode prog_8_method_5_code 6 = .ok (.aload_n 0, 1) := kz_dr dd_Mo_turn_0 3 rfl
theorem d_Mo_turn_7 : decode prog_8_method_5_code 7 = .ok (.getfield 13, 3) := kz_dr dd_Mo_turn_0 4 rfl
theorem d_Mo_turn_10 : decode prog_8_method_5_code 10 = .ok (.iload_n 1, 1) := kz_dr dd_Mo_turn_0 5 rfl
theorem d_Mo_turn_11 : decode prog_8_method_5_code 11 = .ok (.dup2, 1) := kz_dr dd_Mo_turn_0 6 rfl
theorem d_Mo_turn_12 : decode prog_8_method_5_code 12 = .ok (.laload, 1) := kz_dr dd_Mo_turn_0 7 rfl
theorem d_Mo_turn_13 : decode prog_8_method_5_code 13 = .ok (.lconst 1, 1) := kz_dr dd_Mo_turn_0 8 rfl
theorem d_Mo_turn_14 : decode prog_8_method_5_code 14 = .ok (.iload_n 2, 1) := kz_dr dd_Mo_turn_0 9 rfl
theorem d_Mo_turn_15 : decode prog_8_method_5_code 15 = .ok (.lshl, 1) := kz_dr dd_Mo_turn_0 10 rfl
theorem d_Mo_turn_16 : decode prog_8_method_5_code 16 = .ok (.lxor, 1) := kz_dr dd_Mo_turn_0 11 rfl
theorem d_Mo_turn_17 : decode prog_8_method_5_code 17 = .ok (.lastore, 1) := kz_dr dd_Mo_turn_0 12 rfl
theorem d_Mo_turn_18 : decode prog_8_method_5_code 18 = .ok (.goto 18, 3) := kz_dr dd_Mo_turn_0 13 rfl
theorem d_Mo_turn_21 : decode prog_8_method_5_code 21 = .ok (.aload_n 0, 1) := kz_dr dd_Mo_turn_0 14 rfl
theorem d_Mo_turn_22 : decode prog_8_method_5_code 22 = .ok (.getfield 17, 3) := kz_dr dd_Mo_turn_0 15 rfl
theorem d_Mo_turn_25 : decode prog_8_method_5_code 25 = .ok (.iload_n 1, 1) := kz_dr dd_Mo_turn_0 16 rfl
theorem d_Mo_turn_26 : decode prog_8_method_5_code 26 = .ok (.dup2, 1) := kz_dr dd_Mo_turn_0 17 rfl
theorem d_Mo_turn_27 : decode prog_8_method_5_code 27 = .ok (.iaload, 1) := kz_dr dd_Mo_turn_0 18 rfl
theorem d_Mo_turn_28 : decode prog_8_method_5_code 28 = .ok (.iconst 1, 1) := kz_dr dd_Mo_turn_0 19 rfl
theorem d_Mo_turn_29 : decode prog_8_method_5_code 29 = .ok (.iload_n 2, 1) := kz_dr dd_Mo_turn_0 20 rfl
theorem d_Mo_turn_30 : decode prog_8_method_5_code 30 = .ok (.bipush 64, 2) := kz_dr dd_Mo_turn_0 21 rfl
theorem d_Mo_turn_32 : decode prog_8_method_5_code 32 = .ok (.isub, 1) := kz_dr dd_Mo_turn_0 22 rfl
theorem d_Mo_turn_33 : decode prog_8_method_5_code 33 = .ok (.ishl, 1) := kz_dr dd_Mo_turn_0 23 rfl
theorem d_Mo_turn_34 : decode prog_8_method_5_code 34 = .ok (.ixor, 1) := kz_dr dd_Mo_turn_0 24 rfl
theorem d_Mo_turn_35 : decode prog_8_method_5_code 35 = .ok (.iastore, 1) := kz_dr dd_Mo_turn_0 25 rfl
theorem d_Mo_turn_36 : decode prog_8_method_5_code 36 = .ok (.return_, 1) := kz_dr dd_Mo_turn_0 26 rfl
def dl_Mo_bit_0 : List (Nat × Instr × Nat) := [(0, .iload_n 1, 1), (1, .ifCond .lt 20, 3), (4, .iload_n 1, 1), (5, .sipush 255, 3), (8, .if_icmp .gt 13, 3), (11, .iload_n 2, 1), (12, .ifCond .lt 9, 3), (15, .iload_n 2, 1), (16, .bipush 71, 2), (18, .if_icmp .le 7, 3), (21, .iconst (-1), 1), (22, .goto 9, 3), (25, .aload_n 0, 1), (26, .iload_n 1, 1), (27, .iload_n 2, 1), (28, .invokevirtual 107, 3), (31, .ireturn, 1)]
theorem dd_Mo_bit_0 : dl_Mo_bit_0.all (fun e => decide (decode prog_8_method_10_code e.1 = .ok e.2)) = true := by decide +kernel
theorem d_Mo_bit_0 : decode prog_8_method_10_code 0 = .ok (.iload_n 1, 1) := kz_dr dd_Mo_bit_0 0 rfl
theorem d_Mo_bit_1 : decode prog_8_method_10_code 1 = .ok (.ifCond .lt 20, 3) := kz_dr dd_Mo_bit_0 1 rfl
theorem d_Mo_bit_4 : decode prog_8_method_10_code 4 = .ok (.iload_n 1, 1) := kz_dr dd_Mo_bit_0 2 rfl
theorem d_Mo_bit_5 : decode prog_8_method_10_code 5 = .ok (.sipush 255, 3) := kz_dr dd_Mo_bit_0 3 rfl
theorem d_Mo_bit_8 : decode prog_8_method_10_code 8 = .ok (.if_icmp .gt 13, 3) := kz_dr dd_Mo_bit_0 4 rfl
theorem d_Mo_bit_11 : decode prog_8_method_10_code 11 = .ok (.iload_n 2, 1) := kz_dr dd_Mo_bit_0 5 rfl
theorem d_Mo_bit_12 : decode prog_8_method_10_code 12 = .ok (.ifCond .lt 9, 3) := kz_dr dd_Mo_bit_0 6 rfl
theorem d_Mo_bit_15 : decode prog_8_method_10_code 15 = .ok (.iload_n 2, 1) := kz_dr dd_Mo_bit_0 7 rfl
theorem d_Mo_bit_16 : decode prog_8_method_10_code 16 = .ok (.bipush 71, 2) := kz_dr dd_Mo_bit_0 8 rfl
theorem d_Mo_bit_18 : decode prog_8_method_10_code 18 = .ok (.if_icmp .le 7, 3) := kz_dr dd_Mo_bit_0 9 rfl
theorem d_Mo_bit_21 : decode prog_8_method_10_code 21 = .ok (.iconst (-1), 1) := kz_dr dd_Mo_bit_0 10 rfl
theorem d_Mo_bit_22 : decode prog_8_method_10_code 22 = .ok (.goto 9, 3) := kz_dr dd_Mo_bit_0 11 rfl
theorem d_Mo_bit_25 : decode prog_8_method_10_code 25 = .ok (.aload_n 0, 1) := kz_dr dd_Mo_bit_0 12 rfl
theorem d_Mo_bit_26 : decode prog_8_method_10_code 26 = .ok (.iload_n 1, 1) := kz_dr dd_Mo_bit_0 13 rfl
theorem d_Mo_bit_27 : decode prog_8_method_10_code 27 = .ok (.iload_n 2, 1) := kz_dr dd_Mo_bit_0 14 rfl
theorem d_Mo_bit_28 : decode prog_8_method_10_code 28 = .ok (.invokevirtual 107, 3) := kz_dr dd_Mo_bit_0 15 rfl
theorem d_Mo_bit_31 : decode prog_8_method_10_code 31 = .ok (.ireturn, 1) := kz_dr dd_Mo_bit_0 16 rfl
def dl_Mo_bitAt_0 : List (Nat × Instr × Nat) := [(0, .iload_n 2, 1), (1, .bipush 64, 2), (3, .if_icmp .ge 17, 3), (6, .aload_n 0, 1), (7, .getfield 13, 3), (10, .iload_n 1, 1), (11, .laload, 1), (12, .iload_n 2, 1), (13, .lshr, 1), (14, .lconst 1, 1), (15, .land, 1), (16, .l2i, 1), (17, .goto 16, 3), (20, .aload_n 0, 1), (21, .getfield 17, 3), (24, .iload_n 1, 1), (25, .iaload, 1), (26, .iload_n 2, 1), (27, .bipush 64, 2), (29, .isub, 1), (30, .ishr, 1), (31, .iconst 1, 1), (32, .iand, 1), (33, .ireturn, 1)]
theorem dd_Mo_bitAt_0 : dl_Mo_bitAt_0.all (fun e => decide (decode prog_8_method_4_code e.1 = .ok e.2)) = true := by decide +kernel
theorem d_Mo_bitAt_0 : decode prog_8_method_4_code 0 = .ok (.iload_n 2, 1) := kz_dr dd_Mo_bitAt_0 0 rfl
theorem d_Mo_bitAt_1 : decode prog_8_method_4_code 1 = .ok (.bipush 64, 2) := kz_dr dd_Mo_bitAt_0 1 rfl
theorem d_Mo_bitAt_3 : decode prog_8_method_4_code 3 = .ok (.if_icmp .ge 17, 3) := kz_dr dd_Mo_bitAt_0 2 rfl
theorem d_Mo_bitAt_6 : decode prog_8_method_4_code 6 = .ok (.aload_n 0, 1) := kz_dr dd_Mo_bitAt_0 3 rfl
theorem d_Mo_bitAt_7 : decode prog_8_method_4_code 7 = .ok (.getfield 13, 3) := kz_dr dd_Mo_bitAt_0 4 rfl
theorem d_Mo_bitAt_10 : decode prog_8_method_4_code 10 = .ok (.iload_n 1, 1) := kz_dr dd_Mo_bitAt_0 5 rfl
theorem d_Mo_bitAt_11 : decode prog_8_method_4_code 11 = .ok (.laload, 1) := kz_dr dd_Mo_bitAt_0 6 rfl
theorem d_Mo_bitAt_12 : decode prog_8_method_4_code 12 = .ok (.iload_n 2, 1) := kz_dr dd_Mo_bitAt_0 7 rfl
theorem d_Mo_bitAt_13 : decode prog_8_method_4_code 13 = .ok (.lshr, 1) := kz_dr dd_Mo_bitAt_0 8 rfl
theorem d_Mo_bitAt_14 : decode prog_8_method_4_code 14 = .ok (.lconst 1, 1) := kz_dr dd_Mo_bitAt_0 9 rfl
theorem d_Mo_bitAt_15 : decode prog_8_method_4_code 15 = .ok (.land, 1) := kz_dr dd_Mo_bitAt_0 10 rfl
theorem d_Mo_bitAt_16 : decode prog_8_method_4_code 16 = .ok (.l2i, 1) := kz_dr dd_Mo_bitAt_0 11 rfl
theorem d_Mo_bitAt_17 : decode prog_8_method_4_code 17 = .ok (.goto 16, 3) := kz_dr dd_Mo_bitAt_0 12 rfl
theorem d_Mo_bitAt_20 : decode prog_8_method_4_code 20 = .ok (.aload_n 0, 1) := kz_dr dd_Mo_bitAt_0 13 rfl
theorem d_Mo_bitAt_21 : decode prog_8_method_4_code 21 = .ok (.getfield 17, 3) := kz_dr dd_Mo_bitAt_0 14 rfl
theorem d_Mo_bitAt_24 : decode prog_8_method_4_code 24 = .ok (.iload_n 1, 1) := kz_dr dd_Mo_bitAt_0 15 rfl
theorem d_Mo_bitAt_25 : decode prog_8_method_4_code 25 = .ok (.iaload, 1) := kz_dr dd_Mo_bitAt_0 16 rfl
theorem d_Mo_bitAt_26 : decode prog_8_method_4_code 26 = .ok (.iload_n 2, 1) := kz_dr dd_Mo_bitAt_0 17 rfl
theorem d_Mo_bitAt_27 : decode prog_8_method_4_code 27 = .ok (.bipush 64, 2) := kz_dr dd_Mo_bitAt_0 18 rfl
theorem d_Mo_bitAt_29 : decode prog_8_method_4_code 29 = .ok (.isub, 1) := kz_dr dd_Mo_bitAt_0 19 rfl
theorem d_Mo_bitAt_30 : decode prog_8_method_4_code 30 = .ok (.ishr, 1) := kz_dr dd_Mo_bitAt_0 20 rfl
theorem d_Mo_bitAt_31 : decode prog_8_method_4_code 31 = .ok (.iconst 1, 1) := kz_dr dd_Mo_bitAt_0 21 rfl
theorem d_Mo_bitAt_32 : decode prog_8_method_4_code 32 = .ok (.iand, 1) := kz_dr dd_Mo_bitAt_0 22 rfl
theorem d_Mo_bitAt_33 : decode prog_8_method_4_code 33 = .ok (.ireturn, 1) := kz_dr dd_Mo_bitAt_0 23 rfl
def dl_Mo_read_0 : List (Nat × Instr × Nat) := [(0, .iload_n 1, 1), (1, .ifCond .lt 10, 3), (4, .iload_n 1, 1), (5, .sipush 255, 3), (8, .if_icmp .le 5, 3), (11, .iconst (-1), 1), (12, .ireturn, 1), (13, .aload_n 0, 1), (14, .iload_n 1, 1), (15, .invokevirtual 143, 3), (18, .istore_n 2, 1), (19, .iload_n 2, 1), (20, .ifCond .ge 17, 3), (23, .aload_n 0, 1), (24, .getfield 140, 3), (27, .aload_n 0, 1), (28, .getfield 86, 3), (31, .if_icmp .ne 6, 3), (34, .bipush (-2), 2), (36, .ireturn, 1), (37, .aload_n 0, 1), (38, .getfield 131, 3), (41, .sipush 400, 3), (44, .if_icmp .ne 6, 3), (47, .bipush (-3), 2), (49, .ireturn, 1), (50, .aload_n 0, 1), (51, .iconst 0, 1), (52, .iload_n 1, 1), (53, .iload_n 2, 1), (54, .ifCond .ge 7, 3), (57, .lconst 0, 1), (58, .goto 9, 3), (61, .aload_n 0, 1), (62, .getfield 53, 3), (65, .iload_n 2, 1), (66, .laload, 1), (67, .invokevirtual 146, 3), (70, .istore_n 3, 1), (71, .iload_n 2, 1), (72, .ifCond .ge 11, 3), (75, .aload_n 0, 1), (76, .iload_n 3, 1), (77, .invokevirtual 150, 3), (80, .goto 10, 3), (83, .aload_n 0, 1), (84, .getfield 50, 3), (87, .iload_n 3, 1), (88, .iconst 2, 1), (89, .iastore, 1), (90, .iload_n 3, 1), (91, .ireturn, 1)]
theorem dd_Mo_read_0 : dl_Mo_read_0.all (fun e => decide (decode prog_8_method_15_code e.1 = .ok e.2)) = true := by decide +kernel
theorem d_Mo_read_0 : decode prog_8_method_15_code 0 = .ok (.iload_n 1, 1) := kz_dr dd_Mo_read_0 0 rfl
theorem d_Mo_read_1 : decode prog_8_method_15_code 1 = .ok (.ifCond .lt 10, 3) := kz_dr dd_Mo_read_0 1 rfl
theorem d_Mo_read_4 : decode prog_8_method_15_code 4 = .ok (.iload_n 1, 1) := kz_dr dd_Mo_read_0 2 rfl
theorem d_Mo_read_5 : decode prog_8_method_15_code 5 = .ok (.sipush 255, 3) := kz_dr dd_Mo_read_0 3 rfl
theorem d_Mo_read_8 : decode prog_8_method_15_code 8 = .ok (.if_icmp .le 5, 3) := kz_dr dd_Mo_read_0 4 rfl
theorem d_Mo_read_11 : decode prog_8_method_15_code 11 = .ok (.iconst (-1), 1) := kz_dr dd_Mo_read_0 5 rfl
theorem d_Mo_read_12 : decode prog_8_method_15_code 12 = .ok (.ireturn, 1) := kz_dr dd_Mo_read_0 6 rfl
theorem d_Mo_read_13 : decode prog_8_method_15_code 13 = .ok (.aload_n 0, 1) := kz_dr dd_Mo_read_0 7 rfl
theorem d_Mo_read_14 : decode prog_8_method_15_code 14 = .ok (.iload_n 1, 1) := kz_dr dd_Mo_read_0 8 rfl
theorem d_Mo_read_15 : decode prog_8_method_15_code 15 = .ok (.invokevirtual 143, 3) := kz_dr dd_Mo_read_0 9 rfl
theorem d_Mo_read_18 : decode prog_8_method_15_code 18 = .ok (.istore_n 2, 1) := kz_dr dd_Mo_read_0 10 rfl
theorem d_Mo_read_19 : decode prog_8_method_15_code 19 = .ok (.iload_n 2, 1) := kz_dr dd_Mo_read_0 11 rfl
theorem d_Mo_read_20 : decode prog_8_method_15_code 20 = .ok (.ifCond .ge 17, 3) := kz_dr dd_Mo_read_0 12 rfl
theorem d_Mo_read_23 : decode prog_8_method_15_code 23 = .ok (.aload_n 0, 1) := kz_dr dd_Mo_read_0 13 rfl
theorem d_Mo_read_24 : decode prog_8_method_15_code 24 = .ok (.getfield 140, 3) := kz_dr dd_Mo_read_0 14 rfl
theorem d_Mo_read_27 : decode prog_8_method_15_code 27 = .ok (.aload_n 0, 1) := kz_dr dd_Mo_read_0 15 rfl
theorem d_Mo_read_28 : decode prog_8_method_15_code 28 = .ok (.getfield 86, 3) := kz_dr dd_Mo_read_0 16 rfl
theorem d_Mo_read_31 : decode prog_8_method_15_code 31 = .ok (.if_icmp .ne 6, 3) := kz_dr dd_Mo_read_0 17 rfl
theorem d_Mo_read_34 : decode prog_8_method_15_code 34 = .ok (.bipush (-2), 2) := kz_dr dd_Mo_read_0 18 rfl
theorem d_Mo_read_36 : decode prog_8_method_15_code 36 = .ok (.ireturn, 1) := kz_dr dd_Mo_read_0 19 rfl
theorem d_Mo_read_37 : decode prog_8_method_15_code 37 = .ok (.aload_n 0, 1) := kz_dr dd_Mo_read_0 20 rfl
theorem d_Mo_read_38 : decode prog_8_method_15_code 38 = .ok (.getfield 131, 3) := kz_dr dd_Mo_read_0 21 rfl
theorem d_Mo_read_41 : decode prog_8_method_15_code 41 = .ok (.sipush 400, 3) := kz_dr dd_Mo_read_0 22 rfl
theorem d_Mo_read_44 : decode prog_8_method_15_code 44 = .ok (.if_icmp .ne 6, 3) := kz_dr dd_Mo_read_0 23 rfl
theorem d_Mo_read_47 : decode prog_8_method_15_code 47 = .ok (.bipush (-3), 2) := kz_dr dd_Mo_read_0 24 rfl
theorem d_Mo_read_49 : decode prog_8_method_15_code 49 = .ok (.ireturn, 1) := kz_dr dd_Mo_read_0 25 rfl
theorem d_Mo_read_50 : decode prog_8_method_15_code 50 = .ok (.aload_n 0, 1) := kz_dr dd_Mo_read_0 26 rfl
theorem d_Mo_read_51 : decode prog_8_method_15_code 51 = .ok (.iconst 0, 1) := kz_dr dd_Mo_read_0 27 rfl
theorem d_Mo_read_52 : decode prog_8_method_15_code 52 = .ok (.iload_n 1, 1) := kz_dr dd_Mo_read_0 28 rfl
theorem d_Mo_read_53 : decode prog_8_method_15_code 53 = .ok (.iload_n 2, 1) := kz_dr dd_Mo_read_0 29 rfl
theorem d_Mo_read_54 : decode prog_8_method_15_code 54 = .ok (.ifCond .ge 7, 3) := kz_dr dd_Mo_read_0 30 rfl
theorem d_Mo_read_57 : decode prog_8_method_15_code 57 = .ok (.lconst 0, 1) := kz_dr dd_Mo_read_0 31 rfl
theorem d_Mo_read_58 : decode prog_8_method_15_code 58 = .ok (.goto 9, 3) := kz_dr dd_Mo_read_0 32 rfl
theorem d_Mo_read_61 : decode prog_8_method_15_code 61 = .ok (.aload_n 0, 1) := kz_dr dd_Mo_read_0 33 rfl
theorem d_Mo_read_62 : decode prog_8_method_15_code 62 = .ok (.getfield 53, 3) := kz_dr dd_Mo_read_0 34 rfl
theorem d_Mo_read_65 : decode prog_8_method_15_code 65 = .ok (.iload_n 2, 1) := kz_dr dd_Mo_read_0 35 rfl
theorem d_Mo_read_66 : decode prog_8_method_15_code 66 = .ok (.laload, 1) := kz_dr dd_Mo_read_0 36 rfl
theorem d_Mo_read_67 : decode prog_8_method_15_code 67 = .ok (.invokevirtual 146, 3) := kz_dr dd_Mo_read_0 37 rfl
theorem d_Mo_read_70 : decode prog_8_method_15_code 70 = .ok (.istore_n 3, 1) := kz_dr dd_Mo_read_0 38 rfl
theorem d_Mo_read_71 : decode prog_8_method_15_code 71 = .ok (.iload_n 2, 1) := kz_dr dd_Mo_read_0 39 rfl
theorem d_Mo_read_72 : decode prog_8_method_15_code 72 = .ok (.ifCond .ge 11, 3) := kz_dr dd_Mo_read_0 40 rfl
theorem d_Mo_read_75 : decode prog_8_method_15_code 75 = .ok (.aload_n 0, 1) := kz_dr dd_Mo_read_0 41 rfl
theorem d_Mo_read_76 : decode prog_8_method_15_code 76 = .ok (.iload_n 3, 1) := kz_dr dd_Mo_read_0 42 rfl
theorem d_Mo_read_77 : decode prog_8_method_15_code 77 = .ok (.invokevirtual 150, 3) := kz_dr dd_Mo_read_0 43 rfl
theorem d_Mo_read_80 : decode prog_8_method_15_code 80 = .ok (.goto 10, 3) := kz_dr dd_Mo_read_0 44 rfl
theorem d_Mo_read_83 : decode prog_8_method_15_code 83 = .ok (.aload_n 0, 1) := kz_dr dd_Mo_read_0 45 rfl
theorem d_Mo_read_84 : decode prog_8_method_15_code 84 = .ok (.getfield 50, 3) := kz_dr dd_Mo_read_0 46 rfl
theorem d_Mo_read_87 : decode prog_8_method_15_code 87 = .ok (.iload_n 3, 1) := kz_dr dd_Mo_read_0 47 rfl
theorem d_Mo_read_88 : decode prog_8_method_15_code 88 = .ok (.iconst 2, 1) := kz_dr dd_Mo_read_0 48 rfl
theorem d_Mo_read_89 : decode prog_8_method_15_code 89 = .ok (.iastore, 1) := kz_dr dd_Mo_read_0 49 rfl
theorem d_Mo_read_90 : decode prog_8_method_15_code 90 = .ok (.iload_n 3, 1) := kz_dr dd_Mo_read_0 50 rfl
theorem d_Mo_read_91 : decode prog_8_method_15_code 91 = .ok (.ireturn, 1) := kz_dr dd_Mo_read_0 51 rfl
def dl_Mo_writing_0 : List (Nat × Instr × Nat) := [(0, .iconst (-1), 1), (1, .istore_n 2, 1), (2, .iconst 0, 1), (3, .istore_n 3, 1), (4, .iload_n 3, 1), (5, .aload_n 0, 1), (6, .getfield 134, 3), (9, .if_icmp .ge 49, 3), (12, .aload_n 0, 1), (13, .getfield 40, 3), (16, .aload_n 0, 1), (17, .getfield 62, 3), (20, .iload_n 3, 1), (21, .iaload, 1), (22, .baload, 1), (23, .ifCond .eq 27, 3), (26, .aload_n 0, 1), (27, .getfield 44, 3), (30, .aload_n 0, 1), (31, .getfield 62, 3), (34, .iload_n 3, 1), (35, .iaload, 1), (36, .iaload, 1), (37, .iload_n 1, 1), (38, .if_icmp .ne 12, 3), (41, .aload_n 0, 1), (42, .getfield 62, 3), (45, .iload_n 3, 1), (46, .iaload, 1), (47, .goto 4, 3), (50, .iload_n 2, 1), (51, .istore_n 2, 1), (52, .iinc 3 1, 3), (55, .goto (-51), 3), (58, .iload_n 2, 1), (59, .ireturn, 1)]
theorem dd_Mo_writing_0 : dl_Mo_writing_0.all (fun e => decide (decode prog_8_method_14_code e.1 = .ok e.2)) = true := by decide +kernel
theorem d_Mo_writing_0 : decode prog_8_method_14_code 0 = .ok (.iconst (-1), 1) := kz_dr dd_Mo_writing_0 0 rfl
theorem d_Mo_writing_1 : decode prog_8_method_14_code 1 = .ok (.istore_n 2, 1) := kz_dr dd_Mo_writing_0 1 rfl
theorem d_Mo_writing_2 : decode prog_8_method_14_code 2 = .ok (.iconst 0, 1) := kz_dr dd_Mo_writing_0 2 rfl
theorem d_Mo_writing_3 : decode prog_8_method_14_code 3 = .ok (.istore_n 3, 1) := kz_dr dd_Mo_writing_0 3 rfl
theorem d_Mo_writing_4 : decode prog_8_method_14_code 4 = .ok (.iload_n 3, 1) := kz_dr dd_Mo_writing_0 4 rfl
theorem d_Mo_writing_5 : decode prog_8_method_14_code 5 = .ok (.aload_n 0, 1) := kz_dr dd_Mo_writing_0 5 rfl
theorem d_Mo_writing_6 : decode prog_8_method_14_code 6 = .ok (.getfield 134, 3) := kz_dr dd_Mo_writing_0 6 rfl
theorem d_Mo_writing_9 : decode prog_8_method_14_code 9 = .ok (.if_icmp .ge 49, 3) := kz_dr dd_Mo_writing_0 7 rfl
theorem d_Mo_writing_12 : decode prog_8_method_14_code 12 = .ok (.aload_n 0, 1) := kz_dr dd_Mo_writing_0 8 rfl
theorem d_Mo_writing_13 : decode prog_8_method_14_code 13 = .ok (.getfield 40, 3) := kz_dr dd_Mo_writing_0 9 rfl
theorem d_Mo_writing_16 : decode prog_8_method_14_code 16 = .ok (.aload_n 0, 1) := kz_dr dd_Mo_writing_0 10 rfl
theorem d_Mo_writing_17 : decode prog_8_method_14_code 17 = .ok (.getfield 62, 3) := kz_dr dd_Mo_writing_0 11 rfl
theorem d_Mo_writing_20 : decode prog_8_method_14_code 20 = .ok (.iload_n 3, 1) := kz_dr dd_Mo_writing_0 12 rfl
theorem d_Mo_writing_21 : decode prog_8_method_14_code 21 = .ok (.iaload, 1) := kz_dr dd_Mo_writing_0 13 rfl
theorem d_Mo_writing_22 : decode prog_8_method_14_code 22 = .ok (.baload, 1) := kz_dr dd_Mo_writing_0 14 rfl
theorem d_Mo_writing_23 : decode prog_8_method_14_code 23 = .ok (.ifCond .eq 27, 3) := kz_dr dd_Mo_writing_0 15 rfl
theorem d_Mo_writing_26 : decode prog_8_method_14_code 26 = .ok (.aload_n 0, 1) := kz_dr dd_Mo_writing_0 16 rfl
theorem d_Mo_writing_27 : decode prog_8_method_14_code 27 = .ok (.getfield 44, 3) := kz_dr dd_Mo_writing_0 17 rfl
theorem d_Mo_writing_30 : decode prog_8_method_14_code 30 = .ok (.aload_n 0, 1) := kz_dr dd_Mo_writing_0 18 rfl
theorem d_Mo_writing_31 : decode prog_8_method_14_code 31 = .ok (.getfield 62, 3) := kz_dr dd_Mo_writing_0 19 rfl
theorem d_Mo_writing_34 : decode prog_8_method_14_code 34 = .ok (.iload_n 3, 1) := kz_dr dd_Mo_writing_0 20 rfl
theorem d_Mo_writing_35 : decode prog_8_method_14_code 35 = .ok (.iaload, 1) := kz_dr dd_Mo_writing_0 21 rfl
theorem d_Mo_writing_36 : decode prog_8_method_14_code 36 = .ok (.iaload, 1) := kz_dr dd_Mo_writing_0 22 rfl
theorem d_Mo_writing_37 : decode prog_8_method_14_code 37 = .ok (.iload_n 1, 1) := kz_dr dd_Mo_writing_0 23 rfl
theorem d_Mo_writing_38 : decode prog_8_method_14_code 38 = .ok (.if_icmp .ne 12, 3) := kz_dr dd_Mo_writing_0 24 rfl
theorem d_Mo_writing_41 : decode prog_8_method_14_code 41 = .ok (.aload_n 0, 1) := kz_dr dd_Mo_writing_0 25 rfl
theorem d_Mo_writing_42 : decode prog_8_method_14_code 42 = .ok (.getfield 62, 3) := kz_dr dd_Mo_writing_0 26 rfl
theorem d_Mo_writing_45 : decode prog_8_method_14_code 45 = .ok (.iload_n 3, 1) := kz_dr dd_Mo_writing_0 27 rfl
theorem d_Mo_writing_46 : decode prog_8_method_14_code 46 = .ok (.iaload, 1) := kz_dr dd_Mo_writing_0 28 rfl
theorem d_Mo_writing_47 : decode prog_8_method_14_code 47 = .ok (.goto 4, 3) := kz_dr dd_Mo_writing_0 29 rfl
theorem d_Mo_writing_50 : decode prog_8_method_14_code 50 = .ok (.iload_n 2, 1) := kz_dr dd_Mo_writing_0 30 rfl
theorem d_Mo_writing_51 : decode prog_8_method_14_code 51 = .ok (.istore_n 2, 1) := kz_dr dd_Mo_writing_0 31 rfl
theorem d_Mo_writing_52 : decode prog_8_method_14_code 52 = .ok (.iinc 3 1, 3) := kz_dr dd_Mo_writing_0 32 rfl
theorem d_Mo_writing_55 : decode prog_8_method_14_code 55 = .ok (.goto (-51), 3) := kz_dr dd_Mo_writing_0 33 rfl
theorem d_Mo_writing_58 : decode prog_8_method_14_code 58 = .ok (.iload_n 2, 1) := kz_dr dd_Mo_writing_0 34 rfl
theorem d_Mo_writing_59 : decode prog_8_method_14_code 59 = .ok (.ireturn, 1) := kz_dr dd_Mo_writing_0 35 rfl
def dl_Mo_ticket_0 : List (Nat × Instr × Nat) := [(0, .aload_n 0, 1), (1, .getfield 40, 3), (4, .aload_n 0, 1), (5, .getfield 131, 3), (8, .iload_n 1, 1), (9, .bastore, 1), (10, .aload_n 0, 1), (11, .getfield 44, 3), (14, .aload_n 0, 1), (15, .getfield 131, 3), (18, .iload_n 2, 1), (19, .iastore, 1), (20, .aload_n 0, 1), (21, .getfield 53, 3), (24, .aload_n 0, 1), (25, .getfield 131, 3), (28, .lload_n 3, 1), (29, .lastore, 1), (30, .aload_n 0, 1), (31, .getfield 47, 3), (34, .aload_n 0, 1), (35, .getfield 131, 3), (38, .aload_n 0, 1), (39, .getfield 96, 3), (42, .iastore, 1), (43, .aload_n 0, 1), (44, .getfield 50, 3), (47, .aload_n 0, 1), (48, .getfield 131, 3), (51, .iconst 0, 1), (52, .iastore, 1), (53, .aload_n 0, 1), (54, .dup, 1), (55, .getfield 131, 3), (58, .iconst 1, 1), (59, .iadd, 1), (60, .putfield 131, 3), (63, .aload_n 0, 1), (64, .getfield 131, 3), (67, .iconst 1, 1), (68, .isub, 1), (69, .ireturn, 1)]
theorem dd_Mo_ticket_0 : dl_Mo_ticket_0.all (fun e => decide (decode prog_8_method_12_code e.1 = .ok e.2)) = true := by decide +kernel
theorem d_Mo_ticket_0 : decode prog_8_method_12_code 0 = .ok (.aload_n 0, 1) := kz_dr dd_Mo_ticket_0 0 rfl
theorem d_Mo_ticket_1 : decode prog_8_method_12_code 1 = .ok (.getfield 40, 3) := kz_dr dd_Mo_ticket_0 1 rfl
theorem d_Mo_ticket_4 : decode prog_8_method_12_code 4 = .ok (.aload_n 0, 1) := kz_dr dd_Mo_ticket_0 2 rfl
theorem d_Mo_ticket_5 : decode prog_8_method_12_code 5 = .ok (.getfield 131, 3) := kz_dr dd_Mo_ticket_0 3 rfl
theorem d_Mo_ticket_8 : decode prog_8_method_12_code 8 = .ok (.iload_n 1, 1) := kz_dr dd_Mo_ticket_0 4 rfl
theorem d_Mo_ticket_9 : decode prog_8_method_12_code 9 = .ok (.bastore, 1) := kz_dr dd_Mo_ticket_0 5 rfl
theorem d_Mo_ticket_10 : decode prog_8_method_12_code 10 = .ok (.aload_n 0, 1) := kz_dr dd_Mo_ticket_0 6 rfl
theorem d_Mo_ticket_11 : decode prog_8_method_12_code 11 = .ok (.getfield 44, 3) := kz_dr dd_Mo_ticket_0 7 rfl
theorem d_Mo_ticket_14 : decode prog_8_method_12_code 14 = .ok (.aload_n 0, 1) := kz_dr dd_Mo_ticket_0 8 rfl
theorem d_Mo_ticket_15 : decode prog_8_method_12_code 15 = .ok (.getfield 131, 3) := kz_dr dd_Mo_ticket_0 9 rfl
theorem d_Mo_ticket_18 : decode prog_8_method_12_code 18 = .ok (.iload_n 2, 1) := kz_dr dd_Mo_ticket_0 10 rfl
theorem d_Mo_ticket_19 : decode prog_8_method_12_code 19 = .ok (.iastore, 1) := kz_dr dd_Mo_ticket_0 11 rfl
theorem d_Mo_ticket_20 : decode prog_8_method_12_code 20 = .ok (.aload_n 0, 1) := kz_dr dd_Mo_ticket_0 12 rfl
theorem d_Mo_ticket_21 : decode prog_8_method_12_code 21 = .ok (.getfield 53, 3) := kz_dr dd_Mo_ticket_0 13 rfl
theorem d_Mo_ticket_24 : decode prog_8_method_12_code 24 = .ok (.aload_n 0, 1) := kz_dr dd_Mo_ticket_0 14 rfl
theorem d_Mo_ticket_25 : decode prog_8_method_12_code 25 = .ok (.getfield 131, 3) := kz_dr dd_Mo_ticket_0 15 rfl
theorem d_Mo_ticket_28 : decode prog_8_method_12_code 28 = .ok (.lload_n 3, 1) := kz_dr dd_Mo_ticket_0 16 rfl
theorem d_Mo_ticket_29 : decode prog_8_method_12_code 29 = .ok (.lastore, 1) := kz_dr dd_Mo_ticket_0 17 rfl
theorem d_Mo_ticket_30 : decode prog_8_method_12_code 30 = .ok (.aload_n 0, 1) := kz_dr dd_Mo_ticket_0 18 rfl
theorem d_Mo_ticket_31 : decode prog_8_method_12_code 31 = .ok (.getfield 47, 3) := kz_dr dd_Mo_ticket_0 19 rfl
theorem d_Mo_ticket_34 : decode prog_8_method_12_code 34 = .ok (.aload_n 0, 1) := kz_dr dd_Mo_ticket_0 20 rfl
theorem d_Mo_ticket_35 : decode prog_8_method_12_code 35 = .ok (.getfield 131, 3) := kz_dr dd_Mo_ticket_0 21 rfl
theorem d_Mo_ticket_38 : decode prog_8_method_12_code 38 = .ok (.aload_n 0, 1) := kz_dr dd_Mo_ticket_0 22 rfl
theorem d_Mo_ticket_39 : decode prog_8_method_12_code 39 = .ok (.getfield 96, 3) := kz_dr dd_Mo_ticket_0 23 rfl
theorem d_Mo_ticket_42 : decode prog_8_method_12_code 42 = .ok (.iastore, 1) := kz_dr dd_Mo_ticket_0 24 rfl
theorem d_Mo_ticket_43 : decode prog_8_method_12_code 43 = .ok (.aload_n 0, 1) := kz_dr dd_Mo_ticket_0 25 rfl
theorem d_Mo_ticket_44 : decode prog_8_method_12_code 44 = .ok (.getfield 50, 3) := kz_dr dd_Mo_ticket_0 26 rfl
theorem d_Mo_ticket_47 : decode prog_8_method_12_code 47 = .ok (.aload_n 0, 1) := kz_dr dd_Mo_ticket_0 27 rfl
theorem d_Mo_ticket_48 : decode prog_8_method_12_code 48 = .ok (.getfield 131, 3) := kz_dr dd_Mo_ticket_0 28 rfl
theorem d_Mo_ticket_51 : decode prog_8_method_12_code 51 = .ok (.iconst 0, 1) := kz_dr dd_Mo_ticket_0 29 rfl
theorem d_Mo_ticket_52 : decode prog_8_method_12_code 52 = .ok (.iastore, 1) := kz_dr dd_Mo_ticket_0 30 rfl
theorem d_Mo_ticket_53 : decode prog_8_method_12_code 53 = .ok (.aload_n 0, 1) := kz_dr dd_Mo_ticket_0 31 rfl
theorem d_Mo_ticket_54 : decode prog_8_method_12_code 54 = .ok (.dup, 1) := kz_dr dd_Mo_ticket_0 32 rfl
theorem d_Mo_ticket_55 : decode prog_8_method_12_code 55 = .ok (.getfield 131, 3) := kz_dr dd_Mo_ticket_0 33 rfl
theorem d_Mo_ticket_58 : decode prog_8_method_12_code 58 = .ok (.iconst 1, 1) := kz_dr dd_Mo_ticket_0 34 rfl
theorem d_Mo_ticket_59 : decode prog_8_method_12_code 59 = .ok (.iadd, 1) := kz_dr dd_Mo_ticket_0 35 rfl
theorem d_Mo_ticket_60 : decode prog_8_method_12_code 60 = .ok (.putfield 131, 3) := kz_dr dd_Mo_ticket_0 36 rfl
theorem d_Mo_ticket_63 : decode prog_8_method_12_code 63 = .ok (.aload_n 0, 1) := kz_dr dd_Mo_ticket_0 37 rfl
theorem d_Mo_ticket_64 : decode prog_8_method_12_code 64 = .ok (.getfield 131, 3) := kz_dr dd_Mo_ticket_0 38 rfl
theorem d_Mo_ticket_67 : decode prog_8_method_12_code 67 = .ok (.iconst 1, 1) := kz_dr dd_Mo_ticket_0 39 rfl
theorem d_Mo_ticket_68 : decode prog_8_method_12_code 68 = .ok (.isub, 1) := kz_dr dd_Mo_ticket_0 40 rfl
theorem d_Mo_ticket_69 : decode prog_8_method_12_code 69 = .ok (.ireturn, 1) := kz_dr dd_Mo_ticket_0 41 rfl
def dl_Mo_add_0 : List (Nat × Instr × Nat) := [(0, .aload_n 0, 1), (1, .getfield 62, 3), (4, .aload_n 0, 1), (5, .getfield 134, 3), (8, .iload_n 1, 1), (9, .iastore, 1), (10, .aload_n 0, 1), (11, .dup, 1), (12, .getfield 134, 3), (15, .iconst 1, 1), (16, .iadd, 1), (17, .putfield 134, 3), (20, .aload_n 0, 1), (21, .getfield 40, 3), (24, .iload_n 1, 1), (25, .baload, 1), (26, .ifCond .eq 16, 3), (29, .aload_n 0, 1), (30, .dup, 1), (31, .getfield 137, 3), (34, .iconst 1, 1), (35, .iadd, 1), (36, .putfield 137, 3), (39, .goto 13, 3), (42, .aload_n 0, 1), (43, .dup, 1), (44, .getfield 140, 3), (47, .iconst 1, 1), (48, .iadd, 1), (49, .putfield 140, 3), (52, .return_, 1)]
theorem dd_Mo_add_0 : dl_Mo_add_0.all (fun e => decide (decode prog_8_method_13_code e.1 = .ok e.2)) = true := by decide +kernel
theorem d_Mo_add_0 : decode prog_8_method_13_code 0 = .ok (.aload_n 0, 1) := kz_dr dd_Mo_add_0 0 rfl
theorem d_Mo_add_1 : decode prog_8_method_13_code 1 = .ok (.getfield 62, 3) := kz_dr dd_Mo_add_0 1 rfl
theorem d_Mo_add_4 : decode prog_8_method_13_code 4 = .ok (.aload_n 0, 1) := kz_dr dd_Mo_add_0 2 rfl
theorem d_Mo_add_5 : decode prog_8_method_13_code 5 = .ok (.getfield 134, 3) := kz_dr dd_Mo_add_0 3 rfl
theorem d_Mo_add_8 : decode prog_8_method_13_code 8 = .ok (.iload_n 1, 1) := kz_dr dd_Mo_add_0 4 rfl
theorem d_Mo_add_9 : decode prog_8_method_13_code 9 = .ok (.iastore, 1) := kz_dr dd_Mo_add_0 5 rfl
theorem d_Mo_add_10 : decode prog_8_method_13_code 10 = .ok (.aload_n 0, 1) := kz_dr dd_Mo_add_0 6 rfl
theorem d_Mo_add_11 : decode prog_8_method_13_code 11 = .ok (.dup, 1) := kz_dr dd_Mo_add_0 7 rfl
theorem d_Mo_add_12 : decode prog_8_method_13_code 12 = .ok (.getfield 134, 3) := kz_dr dd_Mo_add_0 8 rfl
theorem d_Mo_add_15 : decode prog_8_method_13_code 15 = .ok (.iconst 1, 1) := kz_dr dd_Mo_add_0 9 rfl
theorem d_Mo_add_16 : decode prog_8_method_13_code 16 = .ok (.iadd, 1) := kz_dr dd_Mo_add_0 10 rfl
theorem d_Mo_add_17 : decode prog_8_method_13_code 17 = .ok (.putfield 134, 3) := kz_dr dd_Mo_add_0 11 rfl
theorem d_Mo_add_20 : decode prog_8_method_13_code 20 = .ok (.aload_n 0, 1) := kz_dr dd_Mo_add_0 12 rfl
theorem d_Mo_add_21 : decode prog_8_method_13_code 21 = .ok (.getfield 40, 3) := kz_dr dd_Mo_add_0 13 rfl
theorem d_Mo_add_24 : decode prog_8_method_13_code 24 = .ok (.iload_n 1, 1) := kz_dr dd_Mo_add_0 14 rfl
theorem d_Mo_add_25 : decode prog_8_method_13_code 25 = .ok (.baload, 1) := kz_dr dd_Mo_add_0 15 rfl
theorem d_Mo_add_26 : decode prog_8_method_13_code 26 = .ok (.ifCond .eq 16, 3) := kz_dr dd_Mo_add_0 16 rfl
theorem d_Mo_add_29 : decode prog_8_method_13_code 29 = .ok (.aload_n 0, 1) := kz_dr dd_Mo_add_0 17 rfl
theorem d_Mo_add_30 : decode prog_8_method_13_code 30 = .ok (.dup, 1) := kz_dr dd_Mo_add_0 18 rfl
theorem d_Mo_add_31 : decode prog_8_method_13_code 31 = .ok (.getfield 137, 3) := kz_dr dd_Mo_add_0 19 rfl
theorem d_Mo_add_34 : decode prog_8_method_13_code 34 = .ok (.iconst 1, 1) := kz_dr dd_Mo_add_0 20 rfl
theorem d_Mo_add_35 : decode prog_8_method_13_code 35 = .ok (.iadd, 1) := kz_dr dd_Mo_add_0 21 rfl
theorem d_Mo_add_36 : decode prog_8_method_13_code 36 = .ok (.putfield 137, 3) := kz_dr dd_Mo_add_0 22 rfl
theorem d_Mo_add_39 : decode prog_8_method_13_code 39 = .ok (.goto 13, 3) := kz_dr dd_Mo_add_0 23 rfl
theorem d_Mo_add_42 : decode prog_8_method_13_code 42 = .ok (.aload_n 0, 1) := kz_dr dd_Mo_add_0 24 rfl
theorem d_Mo_add_43 : decode prog_8_method_13_code 43 = .ok (.dup, 1) := kz_dr dd_Mo_add_0 25 rfl
theorem d_Mo_add_44 : decode prog_8_method_13_code 44 = .ok (.getfield 140, 3) := kz_dr dd_Mo_add_0 26 rfl
theorem d_Mo_add_47 : decode prog_8_method_13_code 47 = .ok (.iconst 1, 1) := kz_dr dd_Mo_add_0 27 rfl
theorem d_Mo_add_48 : decode prog_8_method_13_code 48 = .ok (.iadd, 1) := kz_dr dd_Mo_add_0 28 rfl
theorem d_Mo_add_49 : decode prog_8_method_13_code 49 = .ok (.putfield 140, 3) := kz_dr dd_Mo_add_0 29 rfl
theorem d_Mo_add_52 : decode prog_8_method_13_code 52 = .ok (.return_, 1) := kz_dr dd_Mo_add_0 30 rfl
def dl_Mo_write_0 : List (Nat × Instr × Nat) := [(0, .iload_n 1, 1), (1, .ifCond .lt 10, 3), (4, .iload_n 1, 1), (5, .sipush 255, 3), (8, .if_icmp .le 5, 3), (11, .iconst (-1), 1), (12, .ireturn, 1), (13, .aload_n 0, 1), (14, .getfield 137, 3), (17, .aload_n 0, 1), (18, .getfield 86, 3), (21, .if_icmp .ne 6, 3), (24, .bipush (-2), 2), (26, .ireturn, 1), (27, .aload_n 0, 1), (28, .getfield 131, 3), (31, .sipush 400, 3), (34, .if_icmp .ne 6, 3), (37, .bipush (-3), 2), (39, .ireturn, 1), (40, .aload_n 0, 1), (41, .iconst 1, 1), (42, .iload_n 1, 1), (43, .lload_n 2, 1), (44, .invokevirtual 146, 3), (47, .istore 4, 2), (49, .aload_n 0, 1), (50, .iload 4, 2), (52, .invokevirtual 150, 3), (55, .iload 4, 2), (57, .ireturn, 1)]
theorem dd_Mo_write_0 : dl_Mo_write_0.all (fun e => decide (decode prog_8_method_16_code e.1 = .ok e.2)) = true := by decide +kernel
theorem d_Mo_write_0 : decode prog_8_method_16_code 0 = .ok (.iload_n 1, 1) := kz_dr dd_Mo_write_0 0 rfl
theorem d_Mo_write_1 : decode prog_8_method_16_code 1 = .ok (.ifCond .lt 10, 3) := kz_dr dd_Mo_write_0 1 rfl
theorem d_Mo_write_4 : decode prog_8_method_16_code 4 = .ok (.iload_n 1, 1) := kz_dr dd_Mo_write_0 2 rfl
theorem d_Mo_write_5 : decode prog_8_method_16_code 5 = .ok (.sipush 255, 3) := kz_dr dd_Mo_write_0 3 rfl
theorem d_Mo_write_8 : decode prog_8_method_16_code 8 = .ok (.if_icmp .le 5, 3) := kz_dr dd_Mo_write_0 4 rfl
theorem d_Mo_write_11 : decode prog_8_method_16_code 11 = .ok (.iconst (-1), 1) := kz_dr dd_Mo_write_0 5 rfl
theorem d_Mo_write_12 : decode prog_8_method_16_code 12 = .ok (.ireturn, 1) := kz_dr dd_Mo_write_0 6 rfl
theorem d_Mo_write_13 : decode prog_8_method_16_code 13 = .ok (.aload_n 0, 1) := kz_dr dd_Mo_write_0 7 rfl
theorem d_Mo_write_14 : decode prog_8_method_16_code 14 = .ok (.getfield 137, 3) := kz_dr dd_Mo_write_0 8 rfl
theorem d_Mo_write_17 : decode prog_8_method_16_code 17 = .ok (.aload_n 0, 1) := kz_dr dd_Mo_write_0 9 rfl
theorem d_Mo_write_18 : decode prog_8_method_16_code 18 = .ok (.getfield 86, 3) := kz_dr dd_Mo_write_0 10 rfl
theorem d_Mo_write_21 : decode prog_8_method_16_code 21 = .ok (.if_icmp .ne 6, 3) := kz_dr dd_Mo_write_0 11 rfl
theorem d_Mo_write_24 : decode prog_8_method_16_code 24 = .ok (.bipush (-2), 2) := kz_dr dd_Mo_write_0 12 rfl
theorem d_Mo_write_26 : decode prog_8_method_16_code 26 = .ok (.ireturn, 1) := kz_dr dd_Mo_write_0 13 rfl
theorem d_Mo_write_27 : decode prog_8_method_16_code 27 = .ok (.aload_n 0, 1) := kz_dr dd_Mo_write_0 14 rfl
theorem d_Mo_write_28 : decode prog_8_method_16_code 28 = .ok (.getfield 131, 3) := kz_dr dd_Mo_write_0 15 rfl
theorem d_Mo_write_31 : decode prog_8_method_16_code 31 = .ok (.sipush 400, 3) := kz_dr dd_Mo_write_0 16 rfl
theorem d_Mo_write_34 : decode prog_8_method_16_code 34 = .ok (.if_icmp .ne 6, 3) := kz_dr dd_Mo_write_0 17 rfl
theorem d_Mo_write_37 : decode prog_8_method_16_code 37 = .ok (.bipush (-3), 2) := kz_dr dd_Mo_write_0 18 rfl
theorem d_Mo_write_39 : decode prog_8_method_16_code 39 = .ok (.ireturn, 1) := kz_dr dd_Mo_write_0 19 rfl
theorem d_Mo_write_40 : decode prog_8_method_16_code 40 = .ok (.aload_n 0, 1) := kz_dr dd_Mo_write_0 20 rfl
theorem d_Mo_write_41 : decode prog_8_method_16_code 41 = .ok (.iconst 1, 1) := kz_dr dd_Mo_write_0 21 rfl
theorem d_Mo_write_42 : decode prog_8_method_16_code 42 = .ok (.iload_n 1, 1) := kz_dr dd_Mo_write_0 22 rfl
theorem d_Mo_write_43 : decode prog_8_method_16_code 43 = .ok (.lload_n 2, 1) := kz_dr dd_Mo_write_0 23 rfl
theorem d_Mo_write_44 : decode prog_8_method_16_code 44 = .ok (.invokevirtual 146, 3) := kz_dr dd_Mo_write_0 24 rfl
theorem d_Mo_write_47 : decode prog_8_method_16_code 47 = .ok (.istore 4, 2) := kz_dr dd_Mo_write_0 25 rfl
theorem d_Mo_write_49 : decode prog_8_method_16_code 49 = .ok (.aload_n 0, 1) := kz_dr dd_Mo_write_0 26 rfl
theorem d_Mo_write_50 : decode prog_8_method_16_code 50 = .ok (.iload 4, 2) := kz_dr dd_Mo_write_0 27 rfl
theorem d_Mo_write_52 : decode prog_8_method_16_code 52 = .ok (.invokevirtual 150, 3) := kz_dr dd_Mo_write_0 28 rfl
theorem d_Mo_write_55 : decode prog_8_method_16_code 55 = .ok (.iload 4, 2) := kz_dr dd_Mo_write_0 29 rfl
theorem d_Mo_write_57 : decode prog_8_method_16_code 57 = .ok (.ireturn, 1) := kz_dr dd_Mo_write_0 30 rfl
def dl_Mo_cycles_0 : List (Nat × Instr × Nat) := [(0, .iload_n 1, 1), (1, .ifCond .lt 10, 3), (4, .iload_n 1, 1), (5, .sipush 300, 3), (8, .if_icmp .le 5, 3), (11, .iconst (-1), 1), (12, .ireturn, 1), (13, .aload_n 0, 1), (14, .getfield 160, 3), (17, .istore_n 2, 1), (18, .iconst 0, 1), (19, .istore_n 3, 1), (20, .iload_n 3, 1), (21, .iload_n 1, 1), (22, .if_icmp .ge 13, 3), (25, .aload_n 0, 1), (26, .invokevirtual 248, 3), (29, .iinc 3 1, 3), (32, .goto (-12), 3), (35, .aload_n 0, 1), (36, .getfield 160, 3), (39, .iload_n 2, 1), (40, .isub, 1), (41, .ireturn, 1)]
theorem dd_Mo_cycles_0 : dl_Mo_cycles_0.all (fun e => decide (decode prog_8_method_40_code e.1 = .ok e.2)) = true := by decide +kernel
theorem d_Mo_cycles_0 : decode prog_8_method_40_code 0 = .ok (.iload_n 1, 1) := kz_dr dd_Mo_cycles_0 0 rfl
theorem d_Mo_cycles_1 : decode prog_8_method_40_code 1 = .ok (.ifCond .lt 10, 3) := kz_dr dd_Mo_cycles_0 1 rfl
theorem d_Mo_cycles_4 : decode prog_8_method_40_code 4 = .ok (.iload_n 1, 1) := kz_dr dd_Mo_cycles_0 2 rfl
theorem d_Mo_cycles_5 : decode prog_8_method_40_code 5 = .ok (.sipush 300, 3) := kz_dr dd_Mo_cycles_0 3 rfl
theorem d_Mo_cycles_8 : decode prog_8_method_40_code 8 = .ok (.if_icmp .le 5, 3) := kz_dr dd_Mo_cycles_0 4 rfl
theorem d_Mo_cycles_11 : decode prog_8_method_40_code 11 = .ok (.iconst (-1), 1) := kz_dr dd_Mo_cycles_0 5 rfl
theorem d_Mo_cycles_12 : decode prog_8_method_40_code 12 = .ok (.ireturn, 1) := kz_dr dd_Mo_cycles_0 6 rfl
theorem d_Mo_cycles_13 : decode prog_8_method_40_code 13 = .ok (.aload_n 0, 1) := kz_dr dd_Mo_cycles_0 7 rfl
theorem d_Mo_cycles_14 : decode prog_8_method_40_code 14 = .ok (.getfield 160, 3) := kz_dr dd_Mo_cycles_0 8 rfl
theorem d_Mo_cycles_17 : decode prog_8_method_40_code 17 = .ok (.istore_n 2, 1) := kz_dr dd_Mo_cycles_0 9 rfl
theorem d_Mo_cycles_18 : decode prog_8_method_40_code 18 = .ok (.iconst 0, 1) := kz_dr dd_Mo_cycles_0 10 rfl
theorem d_Mo_cycles_19 : decode prog_8_method_40_code 19 = .ok (.istore_n 3, 1) := kz_dr dd_Mo_cycles_0 11 rfl
theorem d_Mo_cycles_20 : decode prog_8_method_40_code 20 = .ok (.iload_n 3, 1) := kz_dr dd_Mo_cycles_0 12 rfl
theorem d_Mo_cycles_21 : decode prog_8_method_40_code 21 = .ok (.iload_n 1, 1) := kz_dr dd_Mo_cycles_0 13 rfl
theorem d_Mo_cycles_22 : decode prog_8_method_40_code 22 = .ok (.if_icmp .ge 13, 3) := kz_dr dd_Mo_cycles_0 14 rfl
theorem d_Mo_cycles_25 : decode prog_8_method_40_code 25 = .ok (.aload_n 0, 1) := kz_dr dd_Mo_cycles_0 15 rfl
theorem d_Mo_cycles_26 : decode prog_8_method_40_code 26 = .ok (.invokevirtual 248, 3) := kz_dr dd_Mo_cycles_0 16 rfl
theorem d_Mo_cycles_29 : decode prog_8_method_40_code 29 = .ok (.iinc 3 1, 3) := kz_dr dd_Mo_cycles_0 17 rfl
theorem d_Mo_cycles_32 : decode prog_8_method_40_code 32 = .ok (.goto (-12), 3) := kz_dr dd_Mo_cycles_0 18 rfl
theorem d_Mo_cycles_35 : decode prog_8_method_40_code 35 = .ok (.aload_n 0, 1) := kz_dr dd_Mo_cycles_0 19 rfl
theorem d_Mo_cycles_36 : decode prog_8_method_40_code 36 = .ok (.getfield 160, 3) := kz_dr dd_Mo_cycles_0 20 rfl
theorem d_Mo_cycles_39 : decode prog_8_method_40_code 39 = .ok (.iload_n 2, 1) := kz_dr dd_Mo_cycles_0 21 rfl
theorem d_Mo_cycles_40 : decode prog_8_method_40_code 40 = .ok (.isub, 1) := kz_dr dd_Mo_cycles_0 22 rfl
theorem d_Mo_cycles_41 : decode prog_8_method_40_code 41 = .ok (.ireturn, 1) := kz_dr dd_Mo_cycles_0 23 rfl
def dl_Mo_cycle_0 : List (Nat × Instr × Nat) := [(0, .aload_n 0, 1), (1, .getfield 96, 3), (4, .ifCond .le 28, 3), (7, .aload_n 0, 1), (8, .getfield 96, 3), (11, .aload_n 0, 1), (12, .getfield 7, 3), (15, .bipush 13, 2), (17, .iaload, 1), (18, .irem, 1), (19, .ifCond .ne 13, 3), (22, .aload_n 0, 1), (23, .dup, 1), (24, .getfield 187, 3), (27, .iconst 1, 1), (28, .iadd, 1), (29, .putfield 187, 3), (32, .aload_n 0, 1), (33, .getfield 239, 3), (36, .aload_n 0, 1), (37, .getfield 177, 3), (40, .if_icmp .ge 65, 3), (43, .aload_n 0, 1), (44, .getfield 56, 3), (47, .aload_n 0, 1), (48, .getfield 65, 3), (51, .aload_n 0, 1), (52, .getfield 239, 3), (55, .iaload, 1), (56, .iaload, 1), (57, .aload_n 0, 1), (58, .getfield 96, 3), (61, .if_icmp .ne 44, 3), (64, .aload_n 0, 1), (65, .getfield 50, 3), (68, .aload_n 0, 1), (69, .getfield 65, 3), (72, .aload_n 0, 1), (73, .getfield 239, 3), (76, .iaload, 1), (77, .aload_n 0, 1), (78, .getfield 59, 3), (81, .aload_n 0, 1), (82, .getfield 65, 3), (85, .aload_n 0, 1), (86, .getfield 239, 3), (89, .iaload, 1), (90, .iaload, 1), (91, .iastore, 1), (92, .aload_n 0, 1), (93, .dup, 1), (94, .getfield 239, 3), (97, .iconst 1, 1), (98, .iadd, 1), (99, .putfield 239, 3), (102, .goto (-70), 3), (105, .aload_n 0, 1), (106, .getfield 187, 3), (109, .bipush 6, 2), (111, .if_icmp .ge 17, 3)]
theorem dd_Mo_cycle_0 : dl_Mo_cycle_0.all (fun e => decide (decode prog_8_method_39_code e.1 = .ok e.2)) = true := by decide +kernel
theorem d_Mo_cycle_0 : decode prog_8_method_39_code 0 = .ok (.aload_n 0, 1) := kz_dr dd_Mo_cycle_0 0 rfl
theorem d_Mo_cycle_1 : decode prog_8_method_39_code 1 = .ok (.getfield 96, 3) := kz_dr dd_Mo_cycle_0 1 rfl
theorem d_Mo_cycle_4 : decode prog_8_method_39_code 4 = .ok (.ifCond .le 28, 3) := kz_dr dd_Mo_cycle_0 2 rfl
theorem d_Mo_cycle_7 : decode prog_8_method_39_code 7 = .ok (.aload_n 0, 1) := kz_dr dd_Mo_cycle_0 3 rfl
theorem d_Mo_cycle_8 : decode prog_8_method_39_code 8 = .ok (.getfield 96, 3) := kz_dr dd_Mo_cycle_0 4 rfl
theorem d_Mo_cycle_11 : decode prog_8_method_39_code 11 = .ok (.aload_n 0, 1) := kz_dr dd_Mo_cycle_0 5 rfl
theorem d_Mo_cycle_12 : decode prog_8_method_39_code 12 = .ok (.getfield 7, 3) := kz_dr dd_Mo_cycle_0 6 rfl
theorem d_Mo_cycle_15 : decode prog_8_method_39_code 15 = .ok (.bipush 13, 2) := kz_dr dd_Mo_cycle_0 7 rfl
theorem d_Mo_cycle_17 : decode prog_8_method_39_code 17 = .ok (.iaload, 1) := kz_dr dd_Mo_cycle_0 8 rfl
theorem d_Mo_cycle_18 : decode prog_8_method_39_code 18 = .ok (.irem, 1) := kz_dr dd_Mo_cycle_0 9 rfl
theorem d_Mo_cycle_19 : decode prog_8_method_39_code 19 = .ok (.ifCond .ne 13, 3) := kz_dr dd_Mo_cycle_0 10 rfl
theorem d_Mo_cycle_22 : decode prog_8_method_39_code 22 = .ok (.aload_n 0, 1) := kz_dr dd_Mo_cycle_0 11 rfl
theorem d_Mo_cycle_23 : decode prog_8_method_39_code 23 = .ok (.dup, 1) := kz_dr dd_Mo_cycle_0 12 rfl
theorem d_Mo_cycle_24 : decode prog_8_method_39_code 24 = .ok (.getfield 187, 3) := kz_dr dd_Mo_cycle_0 13 rfl
theorem d_Mo_cycle_27 : decode prog_8_method_39_code 27 = .ok (.iconst 1, 1) := kz_dr dd_Mo_cycle_0 14 rfl
theorem d_Mo_cycle_28 : decode prog_8_method_39_code 28 = .ok (.iadd, 1) := kz_dr dd_Mo_cycle_0 15 rfl
theorem d_Mo_cycle_29 : decode prog_8_method_39_code 29 = .ok (.putfield 187, 3) := kz_dr dd_Mo_cycle_0 16 rfl
theorem d_Mo_cycle_32 : decode prog_8_method_39_code 32 = .ok (.aload_n 0, 1) := kz_dr dd_Mo_cycle_0 17 rfl
theorem d_Mo_cycle_33 : decode prog_8_method_39_code 33 = .ok (.getfield 239, 3) := kz_dr dd_Mo_cycle_0 18 rfl
theorem d_Mo_cycle_36 : decode prog_8_method_39_code 36 = .ok (.aload_n 0, 1) := kz_dr dd_Mo_cycle_0 19 rfl
theorem d_Mo_cycle_37 : decode prog_8_method_39_code 37 = .ok (.getfield 177, 3) := kz_dr dd_Mo_cycle_0 20 rfl
theorem d_Mo_cycle_40 : decode prog_8_method_39_code 40 = .ok (.if_icmp .ge 65, 3) := kz_dr dd_Mo_cycle_0 21 rfl
theorem d_Mo_cycle_43 : decode prog_8_method_39_code 43 = .ok (.aload_n 0, 1) := kz_dr dd_Mo_cycle_0 22 rfl
theorem d_Mo_cycle_44 : decode prog_8_method_39_code 44 = .ok (.getfield 56, 3) := kz_dr dd_Mo_cycle_0 23 rfl
theorem d_Mo_cycle_47 : decode prog_8_method_39_code 47 = .ok (.aload_n 0, 1) := kz_dr dd_Mo_cycle_0 24 rfl
theorem d_Mo_cycle_48 : decode prog_8_method_39_code 48 = .ok (.getfield 65, 3) := kz_dr dd_Mo_cycle_0 25 rfl
theorem d_Mo_cycle_51 : decode prog_8_method_39_code 51 = .ok (.aload_n 0, 1) := kz_dr dd_Mo_cycle_0 26 rfl
theorem d_Mo_cycle_52 : decode prog_8_method_39_code 52 = .ok (.getfield 239, 3) := kz_dr dd_Mo_cycle_0 27 rfl
theorem d_Mo_cycle_55 : decode prog_8_method_39_code 55 = .ok (.iaload, 1) := kz_dr dd_Mo_cycle_0 28 rfl
theorem d_Mo_cycle_56 : decode prog_8_method_39_code 56 = .ok (.iaload, 1) := kz_dr dd_Mo_cycle_0 29 rfl
theorem d_Mo_cycle_57 : decode prog_8_method_39_code 57 = .ok (.aload_n 0, 1) := kz_dr dd_Mo_cycle_0 30 rfl
theorem d_Mo_cycle_58 : decode prog_8_method_39_code 58 = .ok (.getfield 96, 3) := kz_dr dd_Mo_cycle_0 31 rfl
theorem d_Mo_cycle_61 : decode prog_8_method_39_code 61 = .ok (.if_icmp .ne 44, 3) := kz_dr dd_Mo_cycle_0 32 rfl
theorem d_Mo_cycle_64 : decode prog_8_method_39_code 64 = .ok (.aload_n 0, 1) := kz_dr dd_Mo_cycle_0 33 rfl
theorem d_Mo_cycle_65 : decode prog_8_method_39_code 65 = .ok (.getfield 50, 3) := kz_dr dd_Mo_cycle_0 34 rfl
theorem d_Mo_cycle_68 : decode prog_8_method_39_code 68 = .ok (.aload_n 0, 1) := kz_dr dd_Mo_cycle_0 35 rfl
theorem d_Mo_cycle_69 : decode prog_8_method_39_code 69 = .ok (.getfield 65, 3) := kz_dr dd_Mo_cycle_0 36 rfl
theorem d_Mo_cycle_72 : decode prog_8_method_39_code 72 = .ok (.aload_n 0, 1) := kz_dr dd_Mo_cycle_0 37 rfl
theorem d_Mo_cycle_73 : decode prog_8_method_39_code 73 = .ok (.getfield 239, 3) := kz_dr dd_Mo_cycle_0 38 rfl
theorem d_Mo_cycle_76 : decode prog_8_method_39_code 76 = .ok (.iaload, 1) := kz_dr dd_Mo_cycle_0 39 rfl
theorem d_Mo_cycle_77 : decode prog_8_method_39_code 77 = .ok (.aload_n 0, 1) := kz_dr dd_Mo_cycle_0 40 rfl
theorem d_Mo_cycle_78 : decode prog_8_method_39_code 78 = .ok (.getfield 59, 3) := kz_dr dd_Mo_cycle_0 41 rfl
theorem d_Mo_cycle_81 : decode prog_8_method_39_code 81 = .ok (.aload_n 0, 1) := kz_dr dd_Mo_cycle_0 42 rfl
theorem d_Mo_cycle_82 : decode prog_8_method_39_code 82 = .ok (.getfield 65, 3) := kz_dr dd_Mo_cycle_0 43 rfl
theorem d_Mo_cycle_85 : decode prog_8_method_39_code 85 = .ok (.aload_n 0, 1) := kz_dr dd_Mo_cycle_0 44 rfl
theorem d_Mo_cycle_86 : decode prog_8_method_39_code 86 = .ok (.getfield 239, 3) := kz_dr dd_Mo_cycle_0 45 rfl
theorem d_Mo_cycle_89 : decode prog_8_method_39_code 89 = .ok (.iaload, 1) := kz_dr dd_Mo_cycle_0 46 rfl
theorem d_Mo_cycle_90 : decode prog_8_method_39_code 90 = .ok (.iaload, 1) := kz_dr dd_Mo_cycle_0 47 rfl
theorem d_Mo_cycle_91 : decode prog_8_method_39_code 91 = .ok (.iastore, 1) := kz_dr dd_Mo_cycle_0 48 rfl
theorem d_Mo_cycle_92 : decode prog_8_method_39_code 92 = .ok (.aload_n 0, 1) := kz_dr dd_Mo_cycle_0 49 rfl
theorem d_Mo_cycle_93 : decode prog_8_method_39_code 93 = .ok (.dup, 1) := kz_dr dd_Mo_cycle_0 50 rfl
theorem d_Mo_cycle_94 : decode prog_8_method_39_code 94 = .ok (.getfield 239, 3) := kz_dr dd_Mo_cycle_0 51 rfl
theorem d_Mo_cycle_97 : decode prog_8_method_39_code 97 = .ok (.iconst 1, 1) := kz_dr dd_Mo_cycle_0 52 rfl
theorem d_Mo_cycle_98 : decode prog_8_method_39_code 98 = .ok (.iadd, 1) := kz_dr dd_Mo_cycle_0 53 rfl
theorem d_Mo_cycle_99 : decode prog_8_method_39_code 99 = .ok (.putfield 239, 3) := kz_dr dd_Mo_cycle_0 54 rfl
theorem d_Mo_cycle_102 : decode prog_8_method_39_code 102 = .ok (.goto (-70), 3) := kz_dr dd_Mo_cycle_0 55 rfl
theorem d_Mo_cycle_105 : decode prog_8_method_39_code 105 = .ok (.aload_n 0, 1) := kz_dr dd_Mo_cycle_0 56 rfl
theorem d_Mo_cycle_106 : decode prog_8_method_39_code 106 = .ok (.getfield 187, 3) := kz_dr dd_Mo_cycle_0 57 rfl
theorem d_Mo_cycle_109 : decode prog_8_method_39_code 109 = .ok (.bipush 6, 2) := kz_dr dd_Mo_cycle_0 58 rfl
theorem d_Mo_cycle_111 : decode prog_8_method_39_code 111 = .ok (.if_icmp .ge 17, 3) := kz_dr dd_Mo_cycle_0 59 rfl
def dl_Mo_cycle_1 : List (Nat × Instr × Nat) := [(114, .aload_n 0, 1), (115, .getfield 187, 3), (118, .ifCond .le 17, 3), (121, .aload_n 0, 1), (122, .getfield 134, 3), (125, .ifCond .ne 10, 3), (128, .aload_n 0, 1), (129, .invokevirtual 242, 3), (132, .goto 7, 3), (135, .aload_n 0, 1), (136, .invokevirtual 245, 3), (139, .aload_n 0, 1), (140, .dup, 1), (141, .getfield 96, 3), (144, .iconst 1, 1), (145, .iadd, 1), (146, .putfield 96, 3), (149, .return_, 1)]
theorem dd_Mo_cycle_1 : dl_Mo_cycle_1.all (fun e => decide (decode prog_8_method_39_code e.1 = .ok e.2)) = true := by decide +kernel
theorem d_Mo_cycle_114 : decode prog_8_method_39_code 114 = .ok (.aload_n 0, 1) := kz_dr dd_Mo_cycle_1 0 rfl
theorem d_Mo_cycle_115 : decode prog_8_method_39_code 115 = .ok (.getfield 187, 3) := kz_dr dd_Mo_cycle_1 1 rfl
theorem d_Mo_cycle_118 : decode prog_8_method_39_code 118 = .ok (.ifCond .le 17, 3) := kz_dr dd_Mo_cycle_1 2 rfl
theorem d_Mo_cycle_121 : decode prog_8_method_39_code 121 = .ok (.aload_n 0, 1) := kz_dr dd_Mo_cycle_1 3 rfl
theorem d_Mo_cycle_122 : decode prog_8_method_39_code 122 = .ok (.getfield 134, 3) := kz_dr dd_Mo_cycle_1 4 rfl
theorem d_Mo_cycle_125 : decode prog_8_method_39_code 125 = .ok (.ifCond .ne 10, 3) := kz_dr dd_Mo_cycle_1 5 rfl
theorem d_Mo_cycle_128 : decode prog_8_method_39_code 128 = .ok (.aload_n 0, 1) := kz_dr dd_Mo_cycle_1 6 rfl
theorem d_Mo_cycle_129 : decode prog_8_method_39_code 129 = .ok (.invokevirtual 242, 3) := kz_dr dd_Mo_cycle_1 7 rfl
theorem d_Mo_cycle_132 : decode prog_8_method_39_code 132 = .ok (.goto 7, 3) := kz_dr dd_Mo_cycle_1 8 rfl
theorem d_Mo_cycle_135 : decode prog_8_method_39_code 135 = .ok (.aload_n 0, 1) := kz_dr dd_Mo_cycle_1 9 rfl
theorem d_Mo_cycle_136 : decode prog_8_method_39_code 136 = .ok (.invokevirtual 245, 3) := kz_dr dd_Mo_cycle_1 10 rfl
theorem d_Mo_cycle_139 : decode prog_8_method_39_code 139 = .ok (.aload_n 0, 1) := kz_dr dd_Mo_cycle_1 11 rfl
theorem d_Mo_cycle_140 : decode prog_8_method_39_code 140 = .ok (.dup, 1) := kz_dr dd_Mo_cycle_1 12 rfl
theorem d_Mo_cycle_141 : decode prog_8_method_39_code 141 = .ok (.getfield 96, 3) := kz_dr dd_Mo_cycle_1 13 rfl
theorem d_Mo_cycle_144 : decode prog_8_method_39_code 144 = .ok (.iconst 1, 1) := kz_dr dd_Mo_cycle_1 14 rfl
theorem d_Mo_cycle_145 : decode prog_8_method_39_code 145 = .ok (.iadd, 1) := kz_dr dd_Mo_cycle_1 15 rfl
theorem d_Mo_cycle_146 : decode prog_8_method_39_code 146 = .ok (.putfield 96, 3) := kz_dr dd_Mo_cycle_1 16 rfl
theorem d_Mo_cycle_149 : decode prog_8_method_39_code 149 = .ok (.return_, 1) := kz_dr dd_Mo_cycle_1 17 rfl
def dl_Mo_refresh_0 : List (Nat × Instr × Nat) := [(0, .iconst (-1), 1), (1, .istore_n 1, 1), (2, .iconst 1, 1), (3, .istore_n 2, 1), (4, .iconst 3, 1), (5, .istore_n 3, 1), (6, .iload_n 3, 1), (7, .ifCond .lt 43, 3), (10, .iload_n 2, 1), (11, .ifCond .eq 17, 3), (14, .aload_n 0, 1), (15, .getfield 20, 3), (18, .iload_n 3, 1), (19, .iaload, 1), (20, .iconst (-1), 1), (21, .if_icmp .ne 7, 3), (24, .iconst 1, 1), (25, .goto 4, 3), (28, .iconst 0, 1), (29, .istore_n 2, 1), (30, .aload_n 0, 1), (31, .iload_n 3, 1), (32, .invokevirtual 180, 3), (35, .ifCond .eq 7, 3), (38, .iload_n 3, 1), (39, .goto 4, 3), (42, .iload_n 1, 1), (43, .istore_n 1, 1), (44, .iinc 3 (-1), 3), (47, .goto (-41), 3), (50, .iload_n 2, 1), (51, .ifCond .eq 39, 3), (54, .aload_n 0, 1), (55, .invokevirtual 183, 3), (58, .ifCond .eq 32, 3), (61, .aload_n 0, 1), (62, .iconst 4, 1), (63, .iconst (-1), 1), (64, .iconst (-1), 1), (65, .iconst (-1), 1), (66, .invokevirtual 163, 3), (69, .aload_n 0, 1), (70, .dup, 1), (71, .getfield 187, 3), (74, .iconst 1, 1), (75, .isub, 1), (76, .putfield 187, 3), (79, .aload_n 0, 1), (80, .invokevirtual 190, 3), (83, .aload_n 0, 1), (84, .invokevirtual 190, 3), (87, .goto 12, 3), (90, .iload_n 1, 1), (91, .ifCond .lt 8, 3), (94, .aload_n 0, 1), (95, .iload_n 1, 1), (96, .invokevirtual 193, 3), (99, .return_, 1)]
theorem dd_Mo_refresh_0 : dl_Mo_refresh_0.all (fun e => decide (decode prog_8_method_30_code e.1 = .ok e.2)) = true := by decide +kernel
theorem d_Mo_refresh_0 : decode prog_8_method_30_code 0 = .ok (.iconst (-1), 1) := kz_dr dd_Mo_refresh_0 0 rfl
theorem d_Mo_refresh_1 : decode prog_8_method_30_code 1 = .ok (.istore_n 1, 1) := kz_dr dd_Mo_refresh_0 1 rfl
theorem d_Mo_refresh_2 : decode prog_8_method_30_code 2 = .ok (.iconst 1, 1) := kz_dr dd_Mo_refresh_0 2 rfl
theorem d_Mo_refresh_3 : decode prog_8_method_30_code 3 = .ok (.istore_n 2, 1) := kz_dr dd_Mo_refresh_0 3 rfl
theorem d_Mo_refresh_4 : decode prog_8_method_30_code 4 = .ok (.iconst 3, 1) := kz_dr dd_Mo_refresh_0 4 rfl
theorem d_Mo_refresh_5 : decode prog_8_method_30_code 5 = .ok (.istore_n 3, 1) := kz_dr dd_Mo_refresh_0 5 rfl
theorem d_Mo_refresh_6 : decode prog_8_method_30_code 6 = .ok (.iload_n 3, 1) := kz_dr dd_Mo_refresh_0 6 rfl
theorem d_Mo_refresh_7 : decode prog_8_method_30_code 7 = .ok (.ifCond .lt 43, 3) := kz_dr dd_Mo_refresh_0 7 rfl
theorem d_Mo_refresh_10 : decode prog_8_method_30_code 10 = .ok (.iload_n 2, 1) := kz_dr dd_Mo_refresh_0 8 rfl
theorem d_Mo_refresh_11 : decode prog_8_method_30_code 11 = .ok (.ifCond .eq 17, 3) := kz_dr dd_Mo_refresh_0 9 rfl
theorem d_Mo_refresh_14 : decode prog_8_method_30_code 14 = .ok (.aload_n 0, 1) := kz_dr dd_Mo_refresh_0 10 rfl
theorem d_Mo_refresh_15 : decode prog_8_method_30_code 15 = .ok (.getfield 20, 3) := kz_dr dd_Mo_refresh_0 11 rfl
theorem d_Mo_refresh_18 : decode prog_8_method_30_code 18 = .ok (.iload_n 3, 1) := kz_dr dd_Mo_refresh_0 12 rfl
theorem d_Mo_refresh_19 : decode prog_8_method_30_code 19 = .ok (.iaload, 1) := kz_dr dd_Mo_refresh_0 13 rfl
theorem d_Mo_refresh_20 : decode prog_8_method_30_code 20 = .ok (.iconst (-1), 1) := kz_dr dd_Mo_refresh_0 14 rfl
theorem d_Mo_refresh_21 : decode prog_8_method_30_code 21 = .ok (.if_icmp .ne 7, 3) := kz_dr dd_Mo_refresh_0 15 rfl
theorem d_Mo_refresh_24 : decode prog_8_method_30_code 24 = .ok (.iconst 1, 1) := kz_dr dd_Mo_refresh_0 16 rfl
theorem d_Mo_refresh_25 : decode prog_8_method_30_code 25 = .ok (.goto 4, 3) := kz_dr dd_Mo_refresh_0 17 rfl
theorem d_Mo_refresh_28 : decode prog_8_method_30_code 28 = .ok (.iconst 0, 1) := kz_dr dd_Mo_refresh_0 18 rfl
theorem d_Mo_refresh_29 : decode prog_8_method_30_code 29 = .ok (.istore_n 2, 1) := kz_dr dd_Mo_refresh_0 19 rfl
theorem d_Mo_refresh_30 : decode prog_8_method_30_code 30 = .ok (.aload_n 0, 1) := kz_dr dd_Mo_refresh_0 20 rfl
theorem d_Mo_refresh_31 : decode prog_8_method_30_code 31 = .ok (.iload_n 3, 1) := kz_dr dd_Mo_refresh_0 21 rfl
theorem d_Mo_refresh_32 : decode prog_8_method_30_code 32 = .ok (.invokevirtual 180, 3) := kz_dr dd_Mo_refresh_0 22 rfl
theorem d_Mo_refresh_35 : decode prog_8_method_30_code 35 = .ok (.ifCond .eq 7, 3) := kz_dr dd_Mo_refresh_0 23 rfl
theorem d_Mo_refresh_38 : decode prog_8_method_30_code 38 = .ok (.iload_n 3, 1) := kz_dr dd_Mo_refresh_0 24 rfl
theorem d_Mo_refresh_39 : decode prog_8_method_30_code 39 = .ok (.goto 4, 3) := kz_dr dd_Mo_refresh_0 25 rfl
theorem d_Mo_refresh_42 : decode prog_8_method_30_code 42 = .ok (.iload_n 1, 1) := kz_dr dd_Mo_refresh_0 26 rfl
theorem d_Mo_refresh_43 : decode prog_8_method_30_code 43 = .ok (.istore_n 1, 1) := kz_dr dd_Mo_refresh_0 27 rfl
theorem d_Mo_refresh_44 : decode prog_8_method_30_code 44 = .ok (.iinc 3 (-1), 3) := kz_dr dd_Mo_refresh_0 28 rfl
theorem d_Mo_refresh_47 : decode prog_8_method_30_code 47 = .ok (.goto (-41), 3) := kz_dr dd_Mo_refresh_0 29 rfl
theorem d_Mo_refresh_50 : decode prog_8_method_30_code 50 = .ok (.iload_n 2, 1) := kz_dr dd_Mo_refresh_0 30 rfl
theorem d_Mo_refresh_51 : decode prog_8_method_30_code 51 = .ok (.ifCond .eq 39, 3) := kz_dr dd_Mo_refresh_0 31 rfl
theorem d_Mo_refresh_54 : decode prog_8_method_30_code 54 = .ok (.aload_n 0, 1) := kz_dr dd_Mo_refresh_0 32 rfl
theorem d_Mo_refresh_55 : decode prog_8_method_30_code 55 = .ok (.invokevirtual 183, 3) := kz_dr dd_Mo_refresh_0 33 rfl
theorem d_Mo_refresh_58 : decode prog_8_method_30_code 58 = .ok (.ifCond .eq 32, 3) := kz_dr dd_Mo_refresh_0 34 rfl
theorem d_Mo_refresh_61 : decode prog_8_method_30_code 61 = .ok (.aload_n 0, 1) := kz_dr dd_Mo_refresh_0 35 rfl
theorem d_Mo_refresh_62 : decode prog_8_method_30_code 62 = .ok (.iconst 4, 1) := kz_dr dd_Mo_refresh_0 36 rfl
theorem d_Mo_refresh_63 : decode prog_8_method_30_code 63 = .ok (.iconst (-1), 1) := kz_dr dd_Mo_refresh_0 37 rfl
theorem d_Mo_refresh_64 : decode prog_8_method_30_code 64 = .ok (.iconst (-1), 1) := kz_dr dd_Mo_refresh_0 38 rfl
theorem d_Mo_refresh_65 : decode prog_8_method_30_code 65 = .ok (.iconst (-1), 1) := kz_dr dd_Mo_refresh_0 39 rfl
theorem d_Mo_refresh_66 : decode prog_8_method_30_code 66 = .ok (.invokevirtual 163, 3) := kz_dr dd_Mo_refresh_0 40 rfl
theorem d_Mo_refresh_69 : decode prog_8_method_30_code 69 = .ok (.aload_n 0, 1) := kz_dr dd_Mo_refresh_0 41 rfl
theorem d_Mo_refresh_70 : decode prog_8_method_30_code 70 = .ok (.dup, 1) := kz_dr dd_Mo_refresh_0 42 rfl
theorem d_Mo_refresh_71 : decode prog_8_method_30_code 71 = .ok (.getfield 187, 3) := kz_dr dd_Mo_refresh_0 43 rfl
theorem d_Mo_refresh_74 : decode prog_8_method_30_code 74 = .ok (.iconst 1, 1) := kz_dr dd_Mo_refresh_0 44 rfl
theorem d_Mo_refresh_75 : decode prog_8_method_30_code 75 = .ok (.isub, 1) := kz_dr dd_Mo_refresh_0 45 rfl
theorem d_Mo_refresh_76 : decode prog_8_method_30_code 76 = .ok (.putfield 187, 3) := kz_dr dd_Mo_refresh_0 46 rfl
theorem d_Mo_refresh_79 : decode prog_8_method_30_code 79 = .ok (.aload_n 0, 1) := kz_dr dd_Mo_refresh_0 47 rfl
theorem d_Mo_refresh_80 : decode prog_8_method_30_code 80 = .ok (.invokevirtual 190, 3) := kz_dr dd_Mo_refresh_0 48 rfl
theorem d_Mo_refresh_83 : decode prog_8_method_30_code 83 = .ok (.aload_n 0, 1) := kz_dr dd_Mo_refresh_0 49 rfl
theorem d_Mo_refresh_84 : decode prog_8_method_30_code 84 = .ok (.invokevirtual 190, 3) := kz_dr dd_Mo_refresh_0 50 rfl
theorem d_Mo_refresh_87 : decode prog_8_method_30_code 87 = .ok (.goto 12, 3) := kz_dr dd_Mo_refresh_0 51 rfl
theorem d_Mo_refresh_90 : decode prog_8_method_30_code 90 = .ok (.iload_n 1, 1) := kz_dr dd_Mo_refresh_0 52 rfl
theorem d_Mo_refresh_91 : decode prog_8_method_30_code 91 = .ok (.ifCond .lt 8, 3) := kz_dr dd_Mo_refresh_0 53 rfl
theorem d_Mo_refresh_94 : decode prog_8_method_30_code 94 = .ok (.aload_n 0, 1) := kz_dr dd_Mo_refresh_0 54 rfl
theorem d_Mo_refresh_95 : decode prog_8_method_30_code 95 = .ok (.iload_n 1, 1) := kz_dr dd_Mo_refresh_0 55 rfl
theorem d_Mo_refresh_96 : decode prog_8_method_30_code 96 = .ok (.invokevirtual 193, 3) := kz_dr dd_Mo_refresh_0 56 rfl
theorem d_Mo_refresh_99 : decode prog_8_method_30_code 99 = .ok (.return_, 1) := kz_dr dd_Mo_refresh_0 57 rfl
def dl_Mo_mayPrecharge_0 : List (Nat × Instr × Nat) := [(0, .aload_n 0, 1), (1, .getfield 20, 3), (4, .iload_n 1, 1), (5, .iaload, 1), (6, .iconst (-1), 1), (7, .if_icmp .eq 88, 3), (10, .aload_n 0, 1), (11, .aload_n 0, 1), (12, .getfield 23, 3), (15, .iconst 5, 1), (16, .iload_n 1, 1), (17, .imul, 1), (18, .iconst 0, 1), (19, .iadd, 1), (20, .iaload, 1), (21, .aload_n 0, 1), (22, .getfield 7, 3), (25, .iconst 2, 1), (26, .iaload, 1), (27, .invokevirtual 153, 3), (30, .ifCond .eq 65, 3), (33, .aload_n 0, 1), (34, .aload_n 0, 1), (35, .getfield 23, 3), (38, .iconst 5, 1), (39, .iload_n 1, 1), (40, .imul, 1), (41, .iconst 2, 1), (42, .iadd, 1), (43, .iaload, 1), (44, .aload_n 0, 1), (45, .getfield 7, 3), (48, .bipush 9, 2), (50, .iaload, 1), (51, .invokevirtual 153, 3), (54, .ifCond .eq 41, 3), (57, .aload_n 0, 1), (58, .aload_n 0, 1), (59, .getfield 23, 3), (62, .iconst 5, 1), (63, .iload_n 1, 1), (64, .imul, 1), (65, .iconst 3, 1), (66, .iadd, 1), (67, .iaload, 1), (68, .aload_n 0, 1), (69, .getfield 7, 3), (72, .bipush 11, 2), (74, .iaload, 1), (75, .iconst 4, 1), (76, .iadd, 1), (77, .aload_n 0, 1), (78, .getfield 7, 3), (81, .bipush 7, 2), (83, .iaload, 1), (84, .iadd, 1), (85, .invokevirtual 153, 3), (88, .ifCond .eq 7, 3), (91, .iconst 1, 1), (92, .goto 4, 3)]
theorem dd_Mo_mayPrecharge_0 : dl_Mo_mayPrecharge_0.all (fun e => decide (decode prog_8_method_23_code e.1 = .ok e.2)) = true := by decide +kernel
theorem d_Mo_mayPrecharge_0 : decode prog_8_method_23_code 0 = .ok (.aload_n 0, 1) := kz_dr dd_Mo_mayPrecharge_0 0 rfl
theorem d_Mo_mayPrecharge_1 : decode prog_8_method_23_code 1 = .ok (.getfield 20, 3) := kz_dr dd_Mo_mayPrecharge_0 1 rfl
theorem d_Mo_mayPrecharge_4 : decode prog_8_method_23_code 4 = .ok (.iload_n 1, 1) := kz_dr dd_Mo_mayPrecharge_0 2 rfl
theorem d_Mo_mayPrecharge_5 : decode prog_8_method_23_code 5 = .ok (.iaload, 1) := kz_dr dd_Mo_mayPrecharge_0 3 rfl
theorem d_Mo_mayPrecharge_6 : decode prog_8_method_23_code 6 = .ok (.iconst (-1), 1) := kz_dr dd_Mo_mayPrecharge_0 4 rfl
theorem d_Mo_mayPrecharge_7 : decode prog_8_method_23_code 7 = .ok (.if_icmp .eq 88, 3) := kz_dr dd_Mo_mayPrecharge_0 5 rfl
theorem d_Mo_mayPrecharge_10 : decode prog_8_method_23_code 10 = .ok (.aload_n 0, 1) := kz_dr dd_Mo_mayPrecharge_0 6 rfl
theorem d_Mo_mayPrecharge_11 : decode prog_8_method_23_code 11 = .ok (.aload_n 0, 1) := kz_dr dd_Mo_mayPrecharge_0 7 rfl
theorem d_Mo_mayPrecharge_12 : decode prog_8_method_23_code 12 = .ok (.getfield 23, 3) := kz_dr dd_Mo_mayPrecharge_0 8 rfl
theorem d_Mo_mayPrecharge_15 : decode prog_8_method_23_code 15 = .ok (.iconst 5, 1) := kz_dr dd_Mo_mayPrecharge_0 9 rfl
theorem d_Mo_mayPrecharge_16 : decode prog_8_method_23_code 16 = .ok (.iload_n 1, 1) := kz_dr dd_Mo_mayPrecharge_0 10 rfl
theorem d_Mo_mayPrecharge_17 : decode prog_8_method_23_code 17 = .ok (.imul, 1) := kz_dr dd_Mo_mayPrecharge_0 11 rfl
theorem d_Mo_mayPrecharge_18 : decode prog_8_method_23_code 18 = .ok (.iconst 0, 1) := kz_dr dd_Mo_mayPrecharge_0 12 rfl
theorem d_Mo_mayPrecharge_19 : decode prog_8_method_23_code 19 = .ok (.iadd, 1) := kz_dr dd_Mo_mayPrecharge_0 13 rfl
theorem d_Mo_mayPrecharge_20 : decode prog_8_method_23_code 20 = .ok (.iaload, 1) := kz_dr dd_Mo_mayPrecharge_0 14 rfl
theorem d_Mo_mayPrecharge_21 : decode prog_8_method_23_code 21 = .ok (.aload_n 0, 1) := kz_dr dd_Mo_mayPrecharge_0 15 rfl
theorem d_Mo_mayPrecharge_22 : decode prog_8_method_23_code 22 = .ok (.getfield 7, 3) := kz_dr dd_Mo_mayPrecharge_0 16 rfl
theorem d_Mo_mayPrecharge_25 : decode prog_8_method_23_code 25 = .ok (.iconst 2, 1) := kz_dr dd_Mo_mayPrecharge_0 17 rfl
theorem d_Mo_mayPrecharge_26 : decode prog_8_method_23_code 26 = .ok (.iaload, 1) := kz_dr dd_Mo_mayPrecharge_0 18 rfl
theorem d_Mo_mayPrecharge_27 : decode prog_8_method_23_code 27 = .ok (.invokevirtual 153, 3) := kz_dr dd_Mo_mayPrecharge_0 19 rfl
theorem d_Mo_mayPrecharge_30 : decode prog_8_method_23_code 30 = .ok (.ifCond .eq 65, 3) := kz_dr dd_Mo_mayPrecharge_0 20 rfl
theorem d_Mo_mayPrecharge_33 : decode prog_8_method_23_code 33 = .ok (.aload_n 0, 1) := kz_dr dd_Mo_mayPrecharge_0 21 rfl
theorem d_Mo_mayPrecharge_34 : decode prog_8_method_23_code 34 = .ok (.aload_n 0, 1) := kz_dr dd_Mo_mayPrecharge_0 22 rfl
theorem d_Mo_mayPrecharge_35 : decode prog_8_method_23_code 35 = .ok (.getfield 23, 3) := kz_dr dd_Mo_mayPrecharge_0 23 rfl
theorem d_Mo_mayPrecharge_38 : decode prog_8_method_23_code 38 = .ok (.iconst 5, 1) := kz_dr dd_Mo_mayPrecharge_0 24 rfl
theorem d_Mo_mayPrecharge_39 : decode prog_8_method_23_code 39 = .ok (.iload_n 1, 1) := kz_dr dd_Mo_mayPrecharge_0 25 rfl
theorem d_Mo_mayPrecharge_40 : decode prog_8_method_23_code 40 = .ok (.imul, 1) := kz_dr dd_Mo_mayPrecharge_0 26 rfl
theorem d_Mo_mayPrecharge_41 : decode prog_8_method_23_code 41 = .ok (.iconst 2, 1) := kz_dr dd_Mo_mayPrecharge_0 27 rfl
theorem d_Mo_mayPrecharge_42 : decode prog_8_method_23_code 42 = .ok (.iadd, 1) := kz_dr dd_Mo_mayPrecharge_0 28 rfl
theorem d_Mo_mayPrecharge_43 : decode prog_8_method_23_code 43 = .ok (.iaload, 1) := kz_dr dd_Mo_mayPrecharge_0 29 rfl
theorem d_Mo_mayPrecharge_44 : decode prog_8_method_23_code 44 = .ok (.aload_n 0, 1) := kz_dr dd_Mo_mayPrecharge_0 30 rfl
theorem d_Mo_mayPrecharge_45 : decode prog_8_method_23_code 45 = .ok (.getfield 7, 3) := kz_dr dd_Mo_mayPrecharge_0 31 rfl
theorem d_Mo_mayPrecharge_48 : decode prog_8_method_23_code 48 = .ok (.bipush 9, 2) := kz_dr dd_Mo_mayPrecharge_0 32 rfl
theorem d_Mo_mayPrecharge_50 : decode prog_8_method_23_code 50 = .ok (.iaload, 1) := kz_dr dd_Mo_mayPrecharge_0 33 rfl
theorem d_Mo_mayPrecharge_51 : decode prog_8_method_23_code 51 = .ok (.invokevirtual 153, 3) := kz_dr dd_Mo_mayPrecharge_0 34 rfl
theorem d_Mo_mayPrecharge_54 : decode prog_8_method_23_code 54 = .ok (.ifCond .eq 41, 3) := kz_dr dd_Mo_mayPrecharge_0 35 rfl
theorem d_Mo_mayPrecharge_57 : decode prog_8_method_23_code 57 = .ok (.aload_n 0, 1) := kz_dr dd_Mo_mayPrecharge_0 36 rfl
theorem d_Mo_mayPrecharge_58 : decode prog_8_method_23_code 58 = .ok (.aload_n 0, 1) := kz_dr dd_Mo_mayPrecharge_0 37 rfl
theorem d_Mo_mayPrecharge_59 : decode prog_8_method_23_code 59 = .ok (.getfield 23, 3) := kz_dr dd_Mo_mayPrecharge_0 38 rfl
theorem d_Mo_mayPrecharge_62 : decode prog_8_method_23_code 62 = .ok (.iconst 5, 1) := kz_dr dd_Mo_mayPrecharge_0 39 rfl
theorem d_Mo_mayPrecharge_63 : decode prog_8_method_23_code 63 = .ok (.iload_n 1, 1) := kz_dr dd_Mo_mayPrecharge_0 40 rfl
theorem d_Mo_mayPrecharge_64 : decode prog_8_method_23_code 64 = .ok (.imul, 1) := kz_dr dd_Mo_mayPrecharge_0 41 rfl
theorem d_Mo_mayPrecharge_65 : decode prog_8_method_23_code 65 = .ok (.iconst 3, 1) := kz_dr dd_Mo_mayPrecharge_0 42 rfl
theorem d_Mo_mayPrecharge_66 : decode prog_8_method_23_code 66 = .ok (.iadd, 1) := kz_dr dd_Mo_mayPrecharge_0 43 rfl
theorem d_Mo_mayPrecharge_67 : decode prog_8_method_23_code 67 = .ok (.iaload, 1) := kz_dr dd_Mo_mayPrecharge_0 44 rfl
theorem d_Mo_mayPrecharge_68 : decode prog_8_method_23_code 68 = .ok (.aload_n 0, 1) := kz_dr dd_Mo_mayPrecharge_0 45 rfl
theorem d_Mo_mayPrecharge_69 : decode prog_8_method_23_code 69 = .ok (.getfield 7, 3) := kz_dr dd_Mo_mayPrecharge_0 46 rfl
theorem d_Mo_mayPrecharge_72 : decode prog_8_method_23_code 72 = .ok (.bipush 11, 2) := kz_dr dd_Mo_mayPrecharge_0 47 rfl
theorem d_Mo_mayPrecharge_74 : decode prog_8_method_23_code 74 = .ok (.iaload, 1) := kz_dr dd_Mo_mayPrecharge_0 48 rfl
theorem d_Mo_mayPrecharge_75 : decode prog_8_method_23_code 75 = .ok (.iconst 4, 1) := kz_dr dd_Mo_mayPrecharge_0 49 rfl
theorem d_Mo_mayPrecharge_76 : decode prog_8_method_23_code 76 = .ok (.iadd, 1) := kz_dr dd_Mo_mayPrecharge_0 50 rfl
theorem d_Mo_mayPrecharge_77 : decode prog_8_method_23_code 77 = .ok (.aload_n 0, 1) := kz_dr dd_Mo_mayPrecharge_0 51 rfl
theorem d_Mo_mayPrecharge_78 : decode prog_8_method_23_code 78 = .ok (.getfield 7, 3) := kz_dr dd_Mo_mayPrecharge_0 52 rfl
theorem d_Mo_mayPrecharge_81 : decode prog_8_method_23_code 81 = .ok (.bipush 7, 2) := kz_dr dd_Mo_mayPrecharge_0 53 rfl
theorem d_Mo_mayPrecharge_83 : decode prog_8_method_23_code 83 = .ok (.iaload, 1) := kz_dr dd_Mo_mayPrecharge_0 54 rfl
theorem d_Mo_mayPrecharge_84 : decode prog_8_method_23_code 84 = .ok (.iadd, 1) := kz_dr dd_Mo_mayPrecharge_0 55 rfl
theorem d_Mo_mayPrecharge_85 : decode prog_8_method_23_code 85 = .ok (.invokevirtual 153, 3) := kz_dr dd_Mo_mayPrecharge_0 56 rfl
theorem d_Mo_mayPrecharge_88 : decode prog_8_method_23_code 88 = .ok (.ifCond .eq 7, 3) := kz_dr dd_Mo_mayPrecharge_0 57 rfl
theorem d_Mo_mayPrecharge_91 : decode prog_8_method_23_code 91 = .ok (.iconst 1, 1) := kz_dr dd_Mo_mayPrecharge_0 58 rfl
theorem d_Mo_mayPrecharge_92 : decode prog_8_method_23_code 92 = .ok (.goto 4, 3) := kz_dr dd_Mo_mayPrecharge_0 59 rfl
def dl_Mo_mayPrecharge_1 : List (Nat × Instr × Nat) := [(95, .iconst 0, 1), (96, .ireturn, 1)]
theorem dd_Mo_mayPrecharge_1 : dl_Mo_mayPrecharge_1.all (fun e => decide (decode prog_8_method_23_code e.1 = .ok e.2)) = true := by decide +kernel
theorem d_Mo_mayPrecharge_95 : decode prog_8_method_23_code 95 = .ok (.iconst 0, 1) := kz_dr dd_Mo_mayPrecharge_1 0 rfl
theorem d_Mo_mayPrecharge_96 : decode prog_8_method_23_code 96 = .ok (.ireturn, 1) := kz_dr dd_Mo_mayPrecharge_1 1 rfl
def dl_Mo_isBehind_0 : List (Nat × Instr × Nat) := [(0, .aload_n 0, 1), (1, .getfield 96, 3), (4, .iload_n 1, 1), (5, .iload_n 2, 1), (6, .iadd, 1), (7, .if_icmp .lt 7, 3), (10, .iconst 1, 1), (11, .goto 4, 3), (14, .iconst 0, 1), (15, .ireturn, 1)]
theorem dd_Mo_isBehind_0 : dl_Mo_isBehind_0.all (fun e => decide (decode prog_8_method_20_code e.1 = .ok e.2)) = true := by decide +kernel
theorem d_Mo_isBehind_0 : decode prog_8_method_20_code 0 = .ok (.aload_n 0, 1) := kz_dr dd_Mo_isBehind_0 0 rfl
theorem d_Mo_isBehind_1 : decode prog_8_method_20_code 1 = .ok (.getfield 96, 3) := kz_dr dd_Mo_isBehind_0 1 rfl
theorem d_Mo_isBehind_4 : decode prog_8_method_20_code 4 = .ok (.iload_n 1, 1) := kz_dr dd_Mo_isBehind_0 2 rfl
theorem d_Mo_isBehind_5 : decode prog_8_method_20_code 5 = .ok (.iload_n 2, 1) := kz_dr dd_Mo_isBehind_0 3 rfl
theorem d_Mo_isBehind_6 : decode prog_8_method_20_code 6 = .ok (.iadd, 1) := kz_dr dd_Mo_isBehind_0 4 rfl
theorem d_Mo_isBehind_7 : decode prog_8_method_20_code 7 = .ok (.if_icmp .lt 7, 3) := kz_dr dd_Mo_isBehind_0 5 rfl
theorem d_Mo_isBehind_10 : decode prog_8_method_20_code 10 = .ok (.iconst 1, 1) := kz_dr dd_Mo_isBehind_0 6 rfl
theorem d_Mo_isBehind_11 : decode prog_8_method_20_code 11 = .ok (.goto 4, 3) := kz_dr dd_Mo_isBehind_0 7 rfl
theorem d_Mo_isBehind_14 : decode prog_8_method_20_code 14 = .ok (.iconst 0, 1) := kz_dr dd_Mo_isBehind_0 8 rfl
theorem d_Mo_isBehind_15 : decode prog_8_method_20_code 15 = .ok (.ireturn, 1) := kz_dr dd_Mo_isBehind_0 9 rfl
def dl_Mo_mayRefresh_0 : List (Nat × Instr × Nat) := [(0, .aload_n 0, 1), (1, .aload_n 0, 1), (2, .getfield 26, 3), (5, .iconst 4, 1), (6, .iaload, 1), (7, .aload_n 0, 1), (8, .getfield 7, 3), (11, .bipush 12, 2), (13, .iaload, 1), (14, .invokevirtual 153, 3), (17, .istore_n 1, 1), (18, .iconst 0, 1), (19, .istore_n 2, 1), (20, .iload_n 2, 1), (21, .iconst 4, 1), (22, .if_icmp .ge 52, 3), (25, .iload_n 1, 1), (26, .ifCond .eq 40, 3), (29, .aload_n 0, 1), (30, .getfield 20, 3), (33, .iload_n 2, 1), (34, .iaload, 1), (35, .iconst (-1), 1), (36, .if_icmp .ne 30, 3), (39, .aload_n 0, 1), (40, .aload_n 0, 1), (41, .getfield 23, 3), (44, .iconst 5, 1), (45, .iload_n 2, 1), (46, .imul, 1), (47, .iconst 1, 1), (48, .iadd, 1), (49, .iaload, 1), (50, .aload_n 0, 1), (51, .getfield 7, 3), (54, .iconst 1, 1), (55, .iaload, 1), (56, .invokevirtual 153, 3), (59, .ifCond .eq 7, 3), (62, .iconst 1, 1), (63, .goto 4, 3), (66, .iconst 0, 1), (67, .istore_n 1, 1), (68, .iinc 2 1, 3), (71, .goto (-51), 3), (74, .iload_n 1, 1), (75, .ireturn, 1)]
theorem dd_Mo_mayRefresh_0 : dl_Mo_mayRefresh_0.all (fun e => decide (decode prog_8_method_25_code e.1 = .ok e.2)) = true := by decide +kernel
theorem d_Mo_mayRefresh_0 : decode prog_8_method_25_code 0 = .ok (.aload_n 0, 1) := kz_dr dd_Mo_mayRefresh_0 0 rfl
theorem d_Mo_mayRefresh_1 : decode prog_8_method_25_code 1 = .ok (.aload_n 0, 1) := kz_dr dd_Mo_mayRefresh_0 1 rfl
theorem d_Mo_mayRefresh_2 : decode prog_8_method_25_code 2 = .ok (.getfield 26, 3) := kz_dr dd_Mo_mayRefresh_0 2 rfl
theorem d_Mo_mayRefresh_5 : decode prog_8_method_25_code 5 = .ok (.iconst 4, 1) := kz_dr dd_Mo_mayRefresh_0 3 rfl
theorem d_Mo_mayRefresh_6 : decode prog_8_method_25_code 6 = .ok (.iaload, 1) := kz_dr dd_Mo_mayRefresh_0 4 rfl
theorem d_Mo_mayRefresh_7 : decode prog_8_method_25_code 7 = .ok (.aload_n 0, 1) := kz_dr dd_Mo_mayRefresh_0 5 rfl
theorem d_Mo_mayRefresh_8 : decode prog_8_method_25_code 8 = .ok (.getfield 7, 3) := kz_dr dd_Mo_mayRefresh_0 6 rfl
theorem d_Mo_mayRefresh_11 : decode prog_8_method_25_code 11 = .ok (.bipush 12, 2) := kz_dr dd_Mo_mayRefresh_0 7 rfl
theorem d_Mo_mayRefresh_13 : decode prog_8_method_25_code 13 = .ok (.iaload, 1) := kz_dr dd_Mo_mayRefresh_0 8 rfl
theorem d_Mo_mayRefresh_14 : decode prog_8_method_25_code 14 = .ok (.invokevirtual 153, 3) := kz_dr dd_Mo_mayRefresh_0 9 rfl
theorem d_Mo_mayRefresh_17 : decode prog_8_method_25_code 17 = .ok (.istore_n 1, 1) := kz_dr dd_Mo_mayRefresh_0 10 rfl
theorem d_Mo_mayRefresh_18 : decode prog_8_method_25_code 18 = .ok (.iconst 0, 1) := kz_dr dd_Mo_mayRefresh_0 11 rfl
theorem d_Mo_mayRefresh_19 : decode prog_8_method_25_code 19 = .ok (.istore_n 2, 1) := kz_dr dd_Mo_mayRefresh_0 12 rfl
theorem d_Mo_mayRefresh_20 : decode prog_8_method_25_code 20 = .ok (.iload_n 2, 1) := kz_dr dd_Mo_mayRefresh_0 13 rfl
theorem d_Mo_mayRefresh_21 : decode prog_8_method_25_code 21 = .ok (.iconst 4, 1) := kz_dr dd_Mo_mayRefresh_0 14 rfl
theorem d_Mo_mayRefresh_22 : decode prog_8_method_25_code 22 = .ok (.if_icmp .ge 52, 3) := kz_dr dd_Mo_mayRefresh_0 15 rfl
theorem d_Mo_mayRefresh_25 : decode prog_8_method_25_code 25 = .ok (.iload_n 1, 1) := kz_dr dd_Mo_mayRefresh_0 16 rfl
theorem d_Mo_mayRefresh_26 : decode prog_8_method_25_code 26 = .ok (.ifCond .eq 40, 3) := kz_dr dd_Mo_mayRefresh_0 17 rfl
theorem d_Mo_mayRefresh_29 : decode prog_8_method_25_code 29 = .ok (.aload_n 0, 1) := kz_dr dd_Mo_mayRefresh_0 18 rfl
theorem d_Mo_mayRefresh_30 : decode prog_8_method_25_code 30 = .ok (.getfield 20, 3) := kz_dr dd_Mo_mayRefresh_0 19 rfl
theorem d_Mo_mayRefresh_33 : decode prog_8_method_25_code 33 = .ok (.iload_n 2, 1) := kz_dr dd_Mo_mayRefresh_0 20 rfl
theorem d_Mo_mayRefresh_34 : decode prog_8_method_25_code 34 = .ok (.iaload, 1) := kz_dr dd_Mo_mayRefresh_0 21 rfl
theorem d_Mo_mayRefresh_35 : decode prog_8_method_25_code 35 = .ok (.iconst (-1), 1) := kz_dr dd_Mo_mayRefresh_0 22 rfl
theorem d_Mo_mayRefresh_36 : decode prog_8_method_25_code 36 = .ok (.if_icmp .ne 30, 3) := kz_dr dd_Mo_mayRefresh_0 23 rfl
theorem d_Mo_mayRefresh_39 : decode prog_8_method_25_code 39 = .ok (.aload_n 0, 1) := kz_dr dd_Mo_mayRefresh_0 24 rfl
theorem d_Mo_mayRefresh_40 : decode prog_8_method_25_code 40 = .ok (.aload_n 0, 1) := kz_dr dd_Mo_mayRefresh_0 25 rfl
theorem d_Mo_mayRefresh_41 : decode prog_8_method_25_code 41 = .ok (.getfield 23, 3) := kz_dr dd_Mo_mayRefresh_0 26 rfl
theorem d_Mo_mayRefresh_44 : decode prog_8_method_25_code 44 = .ok (.iconst 5, 1) := kz_dr dd_Mo_mayRefresh_0 27 rfl
theorem d_Mo_mayRefresh_45 : decode prog_8_method_25_code 45 = .ok (.iload_n 2, 1) := kz_dr dd_Mo_mayRefresh_0 28 rfl
theorem d_Mo_mayRefresh_46 : decode prog_8_method_25_code 46 = .ok (.imul, 1) := kz_dr dd_Mo_mayRefresh_0 29 rfl
theorem d_Mo_mayRefresh_47 : decode prog_8_method_25_code 47 = .ok (.iconst 1, 1) := kz_dr dd_Mo_mayRefresh_0 30 rfl
theorem d_Mo_mayRefresh_48 : decode prog_8_method_25_code 48 = .ok (.iadd, 1) := kz_dr dd_Mo_mayRefresh_0 31 rfl
theorem d_Mo_mayRefresh_49 : decode prog_8_method_25_code 49 = .ok (.iaload, 1) := kz_dr dd_Mo_mayRefresh_0 32 rfl
theorem d_Mo_mayRefresh_50 : decode prog_8_method_25_code 50 = .ok (.aload_n 0, 1) := kz_dr dd_Mo_mayRefresh_0 33 rfl
theorem d_Mo_mayRefresh_51 : decode prog_8_method_25_code 51 = .ok (.getfield 7, 3) := kz_dr dd_Mo_mayRefresh_0 34 rfl
theorem d_Mo_mayRefresh_54 : decode prog_8_method_25_code 54 = .ok (.iconst 1, 1) := kz_dr dd_Mo_mayRefresh_0 35 rfl
theorem d_Mo_mayRefresh_55 : decode prog_8_method_25_code 55 = .ok (.iaload, 1) := kz_dr dd_Mo_mayRefresh_0 36 rfl
theorem d_Mo_mayRefresh_56 : decode prog_8_method_25_code 56 = .ok (.invokevirtual 153, 3) := kz_dr dd_Mo_mayRefresh_0 37 rfl
theorem d_Mo_mayRefresh_59 : decode prog_8_method_25_code 59 = .ok (.ifCond .eq 7, 3) := kz_dr dd_Mo_mayRefresh_0 38 rfl
theorem d_Mo_mayRefresh_62 : decode prog_8_method_25_code 62 = .ok (.iconst 1, 1) := kz_dr dd_Mo_mayRefresh_0 39 rfl
theorem d_Mo_mayRefresh_63 : decode prog_8_method_25_code 63 = .ok (.goto 4, 3) := kz_dr dd_Mo_mayRefresh_0 40 rfl
theorem d_Mo_mayRefresh_66 : decode prog_8_method_25_code 66 = .ok (.iconst 0, 1) := kz_dr dd_Mo_mayRefresh_0 41 rfl
theorem d_Mo_mayRefresh_67 : decode prog_8_method_25_code 67 = .ok (.istore_n 1, 1) := kz_dr dd_Mo_mayRefresh_0 42 rfl
theorem d_Mo_mayRefresh_68 : decode prog_8_method_25_code 68 = .ok (.iinc 2 1, 3) := kz_dr dd_Mo_mayRefresh_0 43 rfl
theorem d_Mo_mayRefresh_71 : decode prog_8_method_25_code 71 = .ok (.goto (-51), 3) := kz_dr dd_Mo_mayRefresh_0 44 rfl
theorem d_Mo_mayRefresh_74 : decode prog_8_method_25_code 74 = .ok (.iload_n 1, 1) := kz_dr dd_Mo_mayRefresh_0 45 rfl
theorem d_Mo_mayRefresh_75 : decode prog_8_method_25_code 75 = .ok (.ireturn, 1) := kz_dr dd_Mo_mayRefresh_0 46 rfl
def dl_Mo_give_0 : List (Nat × Instr × Nat) := [(0, .aload_n 0, 1), (1, .getfield 160, 3), (4, .bipush 32, 2), (6, .irem, 1), (7, .istore 5, 2), (9, .aload_n 0, 1), (10, .getfield 71, 3), (13, .iload 5, 2), (15, .iload_n 1, 1), (16, .iastore, 1), (17, .aload_n 0, 1), (18, .getfield 74, 3), (21, .iload 5, 2), (23, .iload_n 2, 1), (24, .iastore, 1), (25, .aload_n 0, 1), (26, .getfield 77, 3), (29, .iload 5, 2), (31, .iload_n 3, 1), (32, .iastore, 1), (33, .aload_n 0, 1), (34, .getfield 80, 3), (37, .iload 5, 2), (39, .aload_n 0, 1), (40, .getfield 96, 3), (43, .iastore, 1), (44, .aload_n 0, 1), (45, .getfield 83, 3), (48, .iload 5, 2), (50, .iload 4, 2), (52, .iastore, 1), (53, .aload_n 0, 1), (54, .dup, 1), (55, .getfield 160, 3), (58, .iconst 1, 1), (59, .iadd, 1), (60, .putfield 160, 3), (63, .aload_n 0, 1), (64, .getfield 26, 3), (67, .iload_n 1, 1), (68, .aload_n 0, 1), (69, .getfield 96, 3), (72, .iastore, 1), (73, .iload_n 2, 1), (74, .ifCond .lt 17, 3), (77, .aload_n 0, 1), (78, .getfield 23, 3), (81, .iconst 5, 1), (82, .iload_n 2, 1), (83, .imul, 1), (84, .iload_n 1, 1), (85, .iadd, 1), (86, .aload_n 0, 1), (87, .getfield 96, 3), (90, .iastore, 1), (91, .return_, 1)]
theorem dd_Mo_give_0 : dl_Mo_give_0.all (fun e => decide (decode prog_8_method_26_code e.1 = .ok e.2)) = true := by decide +kernel
theorem d_Mo_give_0 : decode prog_8_method_26_code 0 = .ok (.aload_n 0, 1) := kz_dr dd_Mo_give_0 0 rfl
theorem d_Mo_give_1 : decode prog_8_method_26_code 1 = .ok (.getfield 160, 3) := kz_dr dd_Mo_give_0 1 rfl
theorem d_Mo_give_4 : decode prog_8_method_26_code 4 = .ok (.bipush 32, 2) := kz_dr dd_Mo_give_0 2 rfl
theorem d_Mo_give_6 : decode prog_8_method_26_code 6 = .ok (.irem, 1) := kz_dr dd_Mo_give_0 3 rfl
theorem d_Mo_give_7 : decode prog_8_method_26_code 7 = .ok (.istore 5, 2) := kz_dr dd_Mo_give_0 4 rfl
theorem d_Mo_give_9 : decode prog_8_method_26_code 9 = .ok (.aload_n 0, 1) := kz_dr dd_Mo_give_0 5 rfl
theorem d_Mo_give_10 : decode prog_8_method_26_code 10 = .ok (.getfield 71, 3) := kz_dr dd_Mo_give_0 6 rfl
theorem d_Mo_give_13 : decode prog_8_method_26_code 13 = .ok (.iload 5, 2) := kz_dr dd_Mo_give_0 7 rfl
theorem d_Mo_give_15 : decode prog_8_method_26_code 15 = .ok (.iload_n 1, 1) := kz_dr dd_Mo_give_0 8 rfl
theorem d_Mo_give_16 : decode prog_8_method_26_code 16 = .ok (.iastore, 1) := kz_dr dd_Mo_give_0 9 rfl
theorem d_Mo_give_17 : decode prog_8_method_26_code 17 = .ok (.aload_n 0, 1) := kz_dr dd_Mo_give_0 10 rfl
theorem d_Mo_give_18 : decode prog_8_method_26_code 18 = .ok (.getfield 74, 3) := kz_dr dd_Mo_give_0 11 rfl
theorem d_Mo_give_21 : decode prog_8_method_26_code 21 = .ok (.iload 5, 2) := kz_dr dd_Mo_give_0 12 rfl
theorem d_Mo_give_23 : decode prog_8_method_26_code 23 = .ok (.iload_n 2, 1) := kz_dr dd_Mo_give_0 13 rfl
theorem d_Mo_give_24 : decode prog_8_method_26_code 24 = .ok (.iastore, 1) := kz_dr dd_Mo_give_0 14 rfl
theorem d_Mo_give_25 : decode prog_8_method_26_code 25 = .ok (.aload_n 0, 1) := kz_dr dd_Mo_give_0 15 rfl
theorem d_Mo_give_26 : decode prog_8_method_26_code 26 = .ok (.getfield 77, 3) := kz_dr dd_Mo_give_0 16 rfl
theorem d_Mo_give_29 : decode prog_8_method_26_code 29 = .ok (.iload 5, 2) := kz_dr dd_Mo_give_0 17 rfl
theorem d_Mo_give_31 : decode prog_8_method_26_code 31 = .ok (.iload_n 3, 1) := kz_dr dd_Mo_give_0 18 rfl
theorem d_Mo_give_32 : decode prog_8_method_26_code 32 = .ok (.iastore, 1) := kz_dr dd_Mo_give_0 19 rfl
theorem d_Mo_give_33 : decode prog_8_method_26_code 33 = .ok (.aload_n 0, 1) := kz_dr dd_Mo_give_0 20 rfl
theorem d_Mo_give_34 : decode prog_8_method_26_code 34 = .ok (.getfield 80, 3) := kz_dr dd_Mo_give_0 21 rfl
theorem d_Mo_give_37 : decode prog_8_method_26_code 37 = .ok (.iload 5, 2) := kz_dr dd_Mo_give_0 22 rfl
theorem d_Mo_give_39 : decode prog_8_method_26_code 39 = .ok (.aload_n 0, 1) := kz_dr dd_Mo_give_0 23 rfl
theorem d_Mo_give_40 : decode prog_8_method_26_code 40 = .ok (.getfield 96, 3) := kz_dr dd_Mo_give_0 24 rfl
theorem d_Mo_give_43 : decode prog_8_method_26_code 43 = .ok (.iastore, 1) := kz_dr dd_Mo_give_0 25 rfl
theorem d_Mo_give_44 : decode prog_8_method_26_code 44 = .ok (.aload_n 0, 1) := kz_dr dd_Mo_give_0 26 rfl
theorem d_Mo_give_45 : decode prog_8_method_26_code 45 = .ok (.getfield 83, 3) := kz_dr dd_Mo_give_0 27 rfl
theorem d_Mo_give_48 : decode prog_8_method_26_code 48 = .ok (.iload 5, 2) := kz_dr dd_Mo_give_0 28 rfl
theorem d_Mo_give_50 : decode prog_8_method_26_code 50 = .ok (.iload 4, 2) := kz_dr dd_Mo_give_0 29 rfl
theorem d_Mo_give_52 : decode prog_8_method_26_code 52 = .ok (.iastore, 1) := kz_dr dd_Mo_give_0 30 rfl
theorem d_Mo_give_53 : decode prog_8_method_26_code 53 = .ok (.aload_n 0, 1) := kz_dr dd_Mo_give_0 31 rfl
theorem d_Mo_give_54 : decode prog_8_method_26_code 54 = .ok (.dup, 1) := kz_dr dd_Mo_give_0 32 rfl
theorem d_Mo_give_55 : decode prog_8_method_26_code 55 = .ok (.getfield 160, 3) := kz_dr dd_Mo_give_0 33 rfl
theorem d_Mo_give_58 : decode prog_8_method_26_code 58 = .ok (.iconst 1, 1) := kz_dr dd_Mo_give_0 34 rfl
theorem d_Mo_give_59 : decode prog_8_method_26_code 59 = .ok (.iadd, 1) := kz_dr dd_Mo_give_0 35 rfl
theorem d_Mo_give_60 : decode prog_8_method_26_code 60 = .ok (.putfield 160, 3) := kz_dr dd_Mo_give_0 36 rfl
theorem d_Mo_give_63 : decode prog_8_method_26_code 63 = .ok (.aload_n 0, 1) := kz_dr dd_Mo_give_0 37 rfl
theorem d_Mo_give_64 : decode prog_8_method_26_code 64 = .ok (.getfield 26, 3) := kz_dr dd_Mo_give_0 38 rfl
theorem d_Mo_give_67 : decode prog_8_method_26_code 67 = .ok (.iload_n 1, 1) := kz_dr dd_Mo_give_0 39 rfl
theorem d_Mo_give_68 : decode prog_8_method_26_code 68 = .ok (.aload_n 0, 1) := kz_dr dd_Mo_give_0 40 rfl
theorem d_Mo_give_69 : decode prog_8_method_26_code 69 = .ok (.getfield 96, 3) := kz_dr dd_Mo_give_0 41 rfl
theorem d_Mo_give_72 : decode prog_8_method_26_code 72 = .ok (.iastore, 1) := kz_dr dd_Mo_give_0 42 rfl
theorem d_Mo_give_73 : decode prog_8_method_26_code 73 = .ok (.iload_n 2, 1) := kz_dr dd_Mo_give_0 43 rfl
theorem d_Mo_give_74 : decode prog_8_method_26_code 74 = .ok (.ifCond .lt 17, 3) := kz_dr dd_Mo_give_0 44 rfl
theorem d_Mo_give_77 : decode prog_8_method_26_code 77 = .ok (.aload_n 0, 1) := kz_dr dd_Mo_give_0 45 rfl
theorem d_Mo_give_78 : decode prog_8_method_26_code 78 = .ok (.getfield 23, 3) := kz_dr dd_Mo_give_0 46 rfl
theorem d_Mo_give_81 : decode prog_8_method_26_code 81 = .ok (.iconst 5, 1) := kz_dr dd_Mo_give_0 47 rfl
theorem d_Mo_give_82 : decode prog_8_method_26_code 82 = .ok (.iload_n 2, 1) := kz_dr dd_Mo_give_0 48 rfl
theorem d_Mo_give_83 : decode prog_8_method_26_code 83 = .ok (.imul, 1) := kz_dr dd_Mo_give_0 49 rfl
theorem d_Mo_give_84 : decode prog_8_method_26_code 84 = .ok (.iload_n 1, 1) := kz_dr dd_Mo_give_0 50 rfl
theorem d_Mo_give_85 : decode prog_8_method_26_code 85 = .ok (.iadd, 1) := kz_dr dd_Mo_give_0 51 rfl
theorem d_Mo_give_86 : decode prog_8_method_26_code 86 = .ok (.aload_n 0, 1) := kz_dr dd_Mo_give_0 52 rfl
theorem d_Mo_give_87 : decode prog_8_method_26_code 87 = .ok (.getfield 96, 3) := kz_dr dd_Mo_give_0 53 rfl
theorem d_Mo_give_90 : decode prog_8_method_26_code 90 = .ok (.iastore, 1) := kz_dr dd_Mo_give_0 54 rfl
theorem d_Mo_give_91 : decode prog_8_method_26_code 91 = .ok (.return_, 1) := kz_dr dd_Mo_give_0 55 rfl
def dl_Mo_scrub_0 : List (Nat × Instr × Nat) := [(0, .aload_n 0, 1), (1, .aload_n 0, 1), (2, .getfield 121, 3), (5, .invokevirtual 124, 3), (8, .aload_n 0, 1), (9, .getfield 111, 3), (12, .ifCond .lt 25, 3), (15, .aload_n 0, 1), (16, .aload_n 0, 1), (17, .getfield 121, 3), (20, .aload_n 0, 1), (21, .getfield 111, 3), (24, .invokevirtual 103, 3), (27, .aload_n 0, 1), (28, .dup, 1), (29, .getfield 128, 3), (32, .iconst 1, 1), (33, .iadd, 1), (34, .putfield 128, 3), (37, .aload_n 0, 1), (38, .aload_n 0, 1), (39, .getfield 121, 3), (42, .iconst 1, 1), (43, .iadd, 1), (44, .sipush 256, 3), (47, .irem, 1), (48, .putfield 121, 3), (51, .return_, 1)]
theorem dd_Mo_scrub_0 : dl_Mo_scrub_0.all (fun e => decide (decode prog_8_method_11_code e.1 = .ok e.2)) = true := by decide +kernel
theorem d_Mo_scrub_0 : decode prog_8_method_11_code 0 = .ok (.aload_n 0, 1) := kz_dr dd_Mo_scrub_0 0 rfl
theorem d_Mo_scrub_1 : decode prog_8_method_11_code 1 = .ok (.aload_n 0, 1) := kz_dr dd_Mo_scrub_0 1 rfl
theorem d_Mo_scrub_2 : decode prog_8_method_11_code 2 = .ok (.getfield 121, 3) := kz_dr dd_Mo_scrub_0 2 rfl
theorem d_Mo_scrub_5 : decode prog_8_method_11_code 5 = .ok (.invokevirtual 124, 3) := kz_dr dd_Mo_scrub_0 3 rfl
theorem d_Mo_scrub_8 : decode prog_8_method_11_code 8 = .ok (.aload_n 0, 1) := kz_dr dd_Mo_scrub_0 4 rfl
theorem d_Mo_scrub_9 : decode prog_8_method_11_code 9 = .ok (.getfield 111, 3) := kz_dr dd_Mo_scrub_0 5 rfl
theorem d_Mo_scrub_12 : decode prog_8_method_11_code 12 = .ok (.ifCond .lt 25, 3) := kz_dr dd_Mo_scrub_0 6 rfl
theorem d_Mo_scrub_15 : decode prog_8_method_11_code 15 = .ok (.aload_n 0, 1) := kz_dr dd_Mo_scrub_0 7 rfl
theorem d_Mo_scrub_16 : decode prog_8_method_11_code 16 = .ok (.aload_n 0, 1) := kz_dr dd_Mo_scrub_0 8 rfl
theorem d_Mo_scrub_17 : decode prog_8_method_11_code 17 = .ok (.getfield 121, 3) := kz_dr dd_Mo_scrub_0 9 rfl
theorem d_Mo_scrub_20 : decode prog_8_method_11_code 20 = .ok (.aload_n 0, 1) := kz_dr dd_Mo_scrub_0 10 rfl
theorem d_Mo_scrub_21 : decode prog_8_method_11_code 21 = .ok (.getfield 111, 3) := kz_dr dd_Mo_scrub_0 11 rfl
theorem d_Mo_scrub_24 : decode prog_8_method_11_code 24 = .ok (.invokevirtual 103, 3) := kz_dr dd_Mo_scrub_0 12 rfl
theorem d_Mo_scrub_27 : decode prog_8_method_11_code 27 = .ok (.aload_n 0, 1) := kz_dr dd_Mo_scrub_0 13 rfl
theorem d_Mo_scrub_28 : decode prog_8_method_11_code 28 = .ok (.dup, 1) := kz_dr dd_Mo_scrub_0 14 rfl
theorem d_Mo_scrub_29 : decode prog_8_method_11_code 29 = .ok (.getfield 128, 3) := kz_dr dd_Mo_scrub_0 15 rfl
theorem d_Mo_scrub_32 : decode prog_8_method_11_code 32 = .ok (.iconst 1, 1) := kz_dr dd_Mo_scrub_0 16 rfl
theorem d_Mo_scrub_33 : decode prog_8_method_11_code 33 = .ok (.iadd, 1) := kz_dr dd_Mo_scrub_0 17 rfl
theorem d_Mo_scrub_34 : decode prog_8_method_11_code 34 = .ok (.putfield 128, 3) := kz_dr dd_Mo_scrub_0 18 rfl
theorem d_Mo_scrub_37 : decode prog_8_method_11_code 37 = .ok (.aload_n 0, 1) := kz_dr dd_Mo_scrub_0 19 rfl
theorem d_Mo_scrub_38 : decode prog_8_method_11_code 38 = .ok (.aload_n 0, 1) := kz_dr dd_Mo_scrub_0 20 rfl
theorem d_Mo_scrub_39 : decode prog_8_method_11_code 39 = .ok (.getfield 121, 3) := kz_dr dd_Mo_scrub_0 21 rfl
theorem d_Mo_scrub_42 : decode prog_8_method_11_code 42 = .ok (.iconst 1, 1) := kz_dr dd_Mo_scrub_0 22 rfl
theorem d_Mo_scrub_43 : decode prog_8_method_11_code 43 = .ok (.iadd, 1) := kz_dr dd_Mo_scrub_0 23 rfl
theorem d_Mo_scrub_44 : decode prog_8_method_11_code 44 = .ok (.sipush 256, 3) := kz_dr dd_Mo_scrub_0 24 rfl
theorem d_Mo_scrub_47 : decode prog_8_method_11_code 47 = .ok (.irem, 1) := kz_dr dd_Mo_scrub_0 25 rfl
theorem d_Mo_scrub_48 : decode prog_8_method_11_code 48 = .ok (.putfield 121, 3) := kz_dr dd_Mo_scrub_0 26 rfl
theorem d_Mo_scrub_51 : decode prog_8_method_11_code 51 = .ok (.return_, 1) := kz_dr dd_Mo_scrub_0 27 rfl
def dl_Mo_take_0 : List (Nat × Instr × Nat) := [(0, .iconst 0, 1), (1, .istore_n 2, 1), (2, .iconst 0, 1), (3, .istore_n 3, 1), (4, .iconst 0, 1), (5, .istore 4, 2), (7, .iload 4, 2), (9, .bipush 72, 2), (11, .if_icmp .ge 28, 3), (14, .aload_n 0, 1), (15, .iload_n 1, 1), (16, .iload 4, 2), (18, .invokevirtual 107, 3), (21, .iconst 1, 1), (22, .if_icmp .ne 11, 3), (25, .iload_n 2, 1), (26, .iload 4, 2), (28, .ixor, 1), (29, .istore_n 2, 1), (30, .iinc 3 1, 3), (33, .iinc 4 1, 3), (36, .goto (-29), 3), (39, .iload_n 3, 1), (40, .iconst 2, 1), (41, .irem, 1), (42, .iconst 1, 1), (43, .if_icmp .ne 7, 3), (46, .iconst 1, 1), (47, .goto 4, 3), (50, .iconst 0, 1), (51, .istore 4, 2), (53, .aload_n 0, 1), (54, .iload 4, 2), (56, .ifCond .eq 13, 3), (59, .iload_n 2, 1), (60, .bipush 72, 2), (62, .if_icmp .ge 7, 3), (65, .iload_n 2, 1), (66, .goto 4, 3), (69, .iconst (-1), 1), (70, .putfield 111, 3), (73, .aload_n 0, 1), (74, .aload_n 0, 1), (75, .getfield 111, 3), (78, .ifCond .lt 7, 3), (81, .iconst 3, 1), (82, .goto 17, 3), (85, .iload 4, 2), (87, .ifCond .ne 7, 3), (90, .iload_n 2, 1), (91, .ifCond .eq 7, 3), (94, .iconst 4, 1), (95, .goto 4, 3), (98, .iconst 2, 1), (99, .putfield 114, 3), (102, .aload_n 0, 1), (103, .lconst 0, 1), (104, .putfield 117, 3), (107, .iconst 0, 1), (108, .istore 5, 2)]
theorem dd_Mo_take_0 : dl_Mo_take_0.all (fun e => decide (decode prog_8_method_8_code e.1 = .ok e.2)) = true := by decide +kernel
theorem d_Mo_take_0 : decode prog_8_method_8_code 0 = .ok (.iconst 0, 1) := kz_dr dd_Mo_take_0 0 rfl
theorem d_Mo_take_1 : decode prog_8_method_8_code 1 = .ok (.istore_n 2, 1) := kz_dr dd_Mo_take_0 1 rfl
theorem d_Mo_take_2 : decode prog_8_method_8_code 2 = .ok (.iconst 0, 1) := kz_dr dd_Mo_take_0 2 rfl
theorem d_Mo_take_3 : decode prog_8_method_8_code 3 = .ok (.istore_n 3, 1) := kz_dr dd_Mo_take_0 3 rfl
theorem d_Mo_take_4 : decode prog_8_method_8_code 4 = .ok (.iconst 0, 1) := kz_dr dd_Mo_take_0 4 rfl
theorem d_Mo_take_5 : decode prog_8_method_8_code 5 = .ok (.istore 4, 2) := kz_dr dd_Mo_take_0 5 rfl
theorem d_Mo_take_7 : decode prog_8_method_8_code 7 = .ok (.iload 4, 2) := kz_dr dd_Mo_take_0 6 rfl
theorem d_Mo_take_9 : decode prog_8_method_8_code 9 = .ok (.bipush 72, 2) := kz_dr dd_Mo_take_0 7 rfl
theorem d_Mo_take_11 : decode prog_8_method_8_code 11 = .ok (.if_icmp .ge 28, 3) := kz_dr dd_Mo_take_0 8 rfl
theorem d_Mo_take_14 : decode prog_8_method_8_code 14 = .ok (.aload_n 0, 1) := kz_dr dd_Mo_take_0 9 rfl
theorem d_Mo_take_15 : decode prog_8_method_8_code 15 = .ok (.iload_n 1, 1) := kz_dr dd_Mo_take_0 10 rfl
theorem d_Mo_take_16 : decode prog_8_method_8_code 16 = .ok (.iload 4, 2) := kz_dr dd_Mo_take_0 11 rfl
theorem d_Mo_take_18 : decode prog_8_method_8_code 18 = .ok (.invokevirtual 107, 3) := kz_dr dd_Mo_take_0 12 rfl
theorem d_Mo_take_21 : decode prog_8_method_8_code 21 = .ok (.iconst 1, 1) := kz_dr dd_Mo_take_0 13 rfl
theorem d_Mo_take_22 : decode prog_8_method_8_code 22 = .ok (.if_icmp .ne 11, 3) := kz_dr dd_Mo_take_0 14 rfl
theorem d_Mo_take_25 : decode prog_8_method_8_code 25 = .ok (.iload_n 2, 1) := kz_dr dd_Mo_take_0 15 rfl
theorem d_Mo_take_26 : decode prog_8_method_8_code 26 = .ok (.iload 4, 2) := kz_dr dd_Mo_take_0 16 rfl
theorem d_Mo_take_28 : decode prog_8_method_8_code 28 = .ok (.ixor, 1) := kz_dr dd_Mo_take_0 17 rfl
theorem d_Mo_take_29 : decode prog_8_method_8_code 29 = .ok (.istore_n 2, 1) := kz_dr dd_Mo_take_0 18 rfl
theorem d_Mo_take_30 : decode prog_8_method_8_code 30 = .ok (.iinc 3 1, 3) := kz_dr dd_Mo_take_0 19 rfl
theorem d_Mo_take_33 : decode prog_8_method_8_code 33 = .ok (.iinc 4 1, 3) := kz_dr dd_Mo_take_0 20 rfl
theorem d_Mo_take_36 : decode prog_8_method_8_code 36 = .ok (.goto (-29), 3) := kz_dr dd_Mo_take_0 21 rfl
theorem d_Mo_take_39 : decode prog_8_method_8_code 39 = .ok (.iload_n 3, 1) := kz_dr dd_Mo_take_0 22 rfl
theorem d_Mo_take_40 : decode prog_8_method_8_code 40 = .ok (.iconst 2, 1) := kz_dr dd_Mo_take_0 23 rfl
theorem d_Mo_take_41 : decode prog_8_method_8_code 41 = .ok (.irem, 1) := kz_dr dd_Mo_take_0 24 rfl
theorem d_Mo_take_42 : decode prog_8_method_8_code 42 = .ok (.iconst 1, 1) := kz_dr dd_Mo_take_0 25 rfl
theorem d_Mo_take_43 : decode prog_8_method_8_code 43 = .ok (.if_icmp .ne 7, 3) := kz_dr dd_Mo_take_0 26 rfl
theorem d_Mo_take_46 : decode prog_8_method_8_code 46 = .ok (.iconst 1, 1) := kz_dr dd_Mo_take_0 27 rfl
theorem d_Mo_take_47 : decode prog_8_method_8_code 47 = .ok (.goto 4, 3) := kz_dr dd_Mo_take_0 28 rfl
theorem d_Mo_take_50 : decode prog_8_method_8_code 50 = .ok (.iconst 0, 1) := kz_dr dd_Mo_take_0 29 rfl
theorem d_Mo_take_51 : decode prog_8_method_8_code 51 = .ok (.istore 4, 2) := kz_dr dd_Mo_take_0 30 rfl
theorem d_Mo_take_53 : decode prog_8_method_8_code 53 = .ok (.aload_n 0, 1) := kz_dr dd_Mo_take_0 31 rfl
theorem d_Mo_take_54 : decode prog_8_method_8_code 54 = .ok (.iload 4, 2) := kz_dr dd_Mo_take_0 32 rfl
theorem d_Mo_take_56 : decode prog_8_method_8_code 56 = .ok (.ifCond .eq 13, 3) := kz_dr dd_Mo_take_0 33 rfl
theorem d_Mo_take_59 : decode prog_8_method_8_code 59 = .ok (.iload_n 2, 1) := kz_dr dd_Mo_take_0 34 rfl
theorem d_Mo_take_60 : decode prog_8_method_8_code 60 = .ok (.bipush 72, 2) := kz_dr dd_Mo_take_0 35 rfl
theorem d_Mo_take_62 : decode prog_8_method_8_code 62 = .ok (.if_icmp .ge 7, 3) := kz_dr dd_Mo_take_0 36 rfl
theorem d_Mo_take_65 : decode prog_8_method_8_code 65 = .ok (.iload_n 2, 1) := kz_dr dd_Mo_take_0 37 rfl
theorem d_Mo_take_66 : decode prog_8_method_8_code 66 = .ok (.goto 4, 3) := kz_dr dd_Mo_take_0 38 rfl
theorem d_Mo_take_69 : decode prog_8_method_8_code 69 = .ok (.iconst (-1), 1) := kz_dr dd_Mo_take_0 39 rfl
theorem d_Mo_take_70 : decode prog_8_method_8_code 70 = .ok (.putfield 111, 3) := kz_dr dd_Mo_take_0 40 rfl
theorem d_Mo_take_73 : decode prog_8_method_8_code 73 = .ok (.aload_n 0, 1) := kz_dr dd_Mo_take_0 41 rfl
theorem d_Mo_take_74 : decode prog_8_method_8_code 74 = .ok (.aload_n 0, 1) := kz_dr dd_Mo_take_0 42 rfl
theorem d_Mo_take_75 : decode prog_8_method_8_code 75 = .ok (.getfield 111, 3) := kz_dr dd_Mo_take_0 43 rfl
theorem d_Mo_take_78 : decode prog_8_method_8_code 78 = .ok (.ifCond .lt 7, 3) := kz_dr dd_Mo_take_0 44 rfl
theorem d_Mo_take_81 : decode prog_8_method_8_code 81 = .ok (.iconst 3, 1) := kz_dr dd_Mo_take_0 45 rfl
theorem d_Mo_take_82 : decode prog_8_method_8_code 82 = .ok (.goto 17, 3) := kz_dr dd_Mo_take_0 46 rfl
theorem d_Mo_take_85 : decode prog_8_method_8_code 85 = .ok (.iload 4, 2) := kz_dr dd_Mo_take_0 47 rfl
theorem d_Mo_take_87 : decode prog_8_method_8_code 87 = .ok (.ifCond .ne 7, 3) := kz_dr dd_Mo_take_0 48 rfl
theorem d_Mo_take_90 : decode prog_8_method_8_code 90 = .ok (.iload_n 2, 1) := kz_dr dd_Mo_take_0 49 rfl
theorem d_Mo_take_91 : decode prog_8_method_8_code 91 = .ok (.ifCond .eq 7, 3) := kz_dr dd_Mo_take_0 50 rfl
theorem d_Mo_take_94 : decode prog_8_method_8_code 94 = .ok (.iconst 4, 1) := kz_dr dd_Mo_take_0 51 rfl
theorem d_Mo_take_95 : decode prog_8_method_8_code 95 = .ok (.goto 4, 3) := kz_dr dd_Mo_take_0 52 rfl
theorem d_Mo_take_98 : decode prog_8_method_8_code 98 = .ok (.iconst 2, 1) := kz_dr dd_Mo_take_0 53 rfl
theorem d_Mo_take_99 : decode prog_8_method_8_code 99 = .ok (.putfield 114, 3) := kz_dr dd_Mo_take_0 54 rfl
theorem d_Mo_take_102 : decode prog_8_method_8_code 102 = .ok (.aload_n 0, 1) := kz_dr dd_Mo_take_0 55 rfl
theorem d_Mo_take_103 : decode prog_8_method_8_code 103 = .ok (.lconst 0, 1) := kz_dr dd_Mo_take_0 56 rfl
theorem d_Mo_take_104 : decode prog_8_method_8_code 104 = .ok (.putfield 117, 3) := kz_dr dd_Mo_take_0 57 rfl
theorem d_Mo_take_107 : decode prog_8_method_8_code 107 = .ok (.iconst 0, 1) := kz_dr dd_Mo_take_0 58 rfl
theorem d_Mo_take_108 : decode prog_8_method_8_code 108 = .ok (.istore 5, 2) := kz_dr dd_Mo_take_0 59 rfl
def dl_Mo_take_1 : List (Nat × Instr × Nat) := [(110, .iconst 3, 1), (111, .istore 6, 2), (113, .iload 6, 2), (115, .bipush 72, 2), (117, .if_icmp .ge 59, 3), (120, .iload 6, 2), (122, .invokestatic 99, 3), (125, .ifCond .ne 45, 3), (128, .aload_n 0, 1), (129, .iload_n 1, 1), (130, .iload 6, 2), (132, .invokevirtual 107, 3), (135, .iload 6, 2), (137, .aload_n 0, 1), (138, .getfield 111, 3), (141, .if_icmp .ne 7, 3), (144, .iconst 1, 1), (145, .goto 4, 3), (148, .iconst 0, 1), (149, .ixor, 1), (150, .istore 7, 2), (152, .aload_n 0, 1), (153, .dup, 1), (154, .getfield 117, 3), (157, .iload 7, 2), (159, .i2l, 1), (160, .iload 5, 2), (162, .lshl, 1), (163, .lor, 1), (164, .putfield 117, 3), (167, .iinc 5 1, 3), (170, .iinc 6 1, 3), (173, .goto (-60), 3), (176, .return_, 1)]
theorem dd_Mo_take_1 : dl_Mo_take_1.all (fun e => decide (decode prog_8_method_8_code e.1 = .ok e.2)) = true := by decide +kernel
theorem d_Mo_take_110 : decode prog_8_method_8_code 110 = .ok (.iconst 3, 1) := kz_dr dd_Mo_take_1 0 rfl
theorem d_Mo_take_111 : decode prog_8_method_8_code 111 = .ok (.istore 6, 2) := kz_dr dd_Mo_take_1 1 rfl
theorem d_Mo_take_113 : decode prog_8_method_8_code 113 = .ok (.iload 6, 2) := kz_dr dd_Mo_take_1 2 rfl
theorem d_Mo_take_115 : decode prog_8_method_8_code 115 = .ok (.bipush 72, 2) := kz_dr dd_Mo_take_1 3 rfl
theorem d_Mo_take_117 : decode prog_8_method_8_code 117 = .ok (.if_icmp .ge 59, 3) := kz_dr dd_Mo_take_1 4 rfl
theorem d_Mo_take_120 : decode prog_8_method_8_code 120 = .ok (.iload 6, 2) := kz_dr dd_Mo_take_1 5 rfl
theorem d_Mo_take_122 : decode prog_8_method_8_code 122 = .ok (.invokestatic 99, 3) := kz_dr dd_Mo_take_1 6 rfl
theorem d_Mo_take_125 : decode prog_8_method_8_code 125 = .ok (.ifCond .ne 45, 3) := kz_dr dd_Mo_take_1 7 rfl
theorem d_Mo_take_128 : decode prog_8_method_8_code 128 = .ok (.aload_n 0, 1) := kz_dr dd_Mo_take_1 8 rfl
theorem d_Mo_take_129 : decode prog_8_method_8_code 129 = .ok (.iload_n 1, 1) := kz_dr dd_Mo_take_1 9 rfl
theorem d_Mo_take_130 : decode prog_8_method_8_code 130 = .ok (.iload 6, 2) := kz_dr dd_Mo_take_1 10 rfl
theorem d_Mo_take_132 : decode prog_8_method_8_code 132 = .ok (.invokevirtual 107, 3) := kz_dr dd_Mo_take_1 11 rfl
theorem d_Mo_take_135 : decode prog_8_method_8_code 135 = .ok (.iload 6, 2) := kz_dr dd_Mo_take_1 12 rfl
theorem d_Mo_take_137 : decode prog_8_method_8_code 137 = .ok (.aload_n 0, 1) := kz_dr dd_Mo_take_1 13 rfl
theorem d_Mo_take_138 : decode prog_8_method_8_code 138 = .ok (.getfield 111, 3) := kz_dr dd_Mo_take_1 14 rfl
theorem d_Mo_take_141 : decode prog_8_method_8_code 141 = .ok (.if_icmp .ne 7, 3) := kz_dr dd_Mo_take_1 15 rfl
theorem d_Mo_take_144 : decode prog_8_method_8_code 144 = .ok (.iconst 1, 1) := kz_dr dd_Mo_take_1 16 rfl
theorem d_Mo_take_145 : decode prog_8_method_8_code 145 = .ok (.goto 4, 3) := kz_dr dd_Mo_take_1 17 rfl
theorem d_Mo_take_148 : decode prog_8_method_8_code 148 = .ok (.iconst 0, 1) := kz_dr dd_Mo_take_1 18 rfl
theorem d_Mo_take_149 : decode prog_8_method_8_code 149 = .ok (.ixor, 1) := kz_dr dd_Mo_take_1 19 rfl
theorem d_Mo_take_150 : decode prog_8_method_8_code 150 = .ok (.istore 7, 2) := kz_dr dd_Mo_take_1 20 rfl
theorem d_Mo_take_152 : decode prog_8_method_8_code 152 = .ok (.aload_n 0, 1) := kz_dr dd_Mo_take_1 21 rfl
theorem d_Mo_take_153 : decode prog_8_method_8_code 153 = .ok (.dup, 1) := kz_dr dd_Mo_take_1 22 rfl
theorem d_Mo_take_154 : decode prog_8_method_8_code 154 = .ok (.getfield 117, 3) := kz_dr dd_Mo_take_1 23 rfl
theorem d_Mo_take_157 : decode prog_8_method_8_code 157 = .ok (.iload 7, 2) := kz_dr dd_Mo_take_1 24 rfl
theorem d_Mo_take_159 : decode prog_8_method_8_code 159 = .ok (.i2l, 1) := kz_dr dd_Mo_take_1 25 rfl
theorem d_Mo_take_160 : decode prog_8_method_8_code 160 = .ok (.iload 5, 2) := kz_dr dd_Mo_take_1 26 rfl
theorem d_Mo_take_162 : decode prog_8_method_8_code 162 = .ok (.lshl, 1) := kz_dr dd_Mo_take_1 27 rfl
theorem d_Mo_take_163 : decode prog_8_method_8_code 163 = .ok (.lor, 1) := kz_dr dd_Mo_take_1 28 rfl
theorem d_Mo_take_164 : decode prog_8_method_8_code 164 = .ok (.putfield 117, 3) := kz_dr dd_Mo_take_1 29 rfl
theorem d_Mo_take_167 : decode prog_8_method_8_code 167 = .ok (.iinc 5 1, 3) := kz_dr dd_Mo_take_1 30 rfl
theorem d_Mo_take_170 : decode prog_8_method_8_code 170 = .ok (.iinc 6 1, 3) := kz_dr dd_Mo_take_1 31 rfl
theorem d_Mo_take_173 : decode prog_8_method_8_code 173 = .ok (.goto (-60), 3) := kz_dr dd_Mo_take_1 32 rfl
theorem d_Mo_take_176 : decode prog_8_method_8_code 176 = .ok (.return_, 1) := kz_dr dd_Mo_take_1 33 rfl
def dl_Mo_isCheck_0 : List (Nat × Instr × Nat) := [(0, .iload_n 0, 1), (1, .iload_n 0, 1), (2, .iconst 1, 1), (3, .isub, 1), (4, .iand, 1), (5, .ifCond .ne 7, 3), (8, .iconst 1, 1), (9, .goto 4, 3), (12, .iconst 0, 1), (13, .ireturn, 1)]
theorem dd_Mo_isCheck_0 : dl_Mo_isCheck_0.all (fun e => decide (decode prog_8_method_6_code e.1 = .ok e.2)) = true := by decide +kernel
theorem d_Mo_isCheck_0 : decode prog_8_method_6_code 0 = .ok (.iload_n 0, 1) := kz_dr dd_Mo_isCheck_0 0 rfl
theorem d_Mo_isCheck_1 : decode prog_8_method_6_code 1 = .ok (.iload_n 0, 1) := kz_dr dd_Mo_isCheck_0 1 rfl
theorem d_Mo_isCheck_2 : decode prog_8_method_6_code 2 = .ok (.iconst 1, 1) := kz_dr dd_Mo_isCheck_0 2 rfl
theorem d_Mo_isCheck_3 : decode prog_8_method_6_code 3 = .ok (.isub, 1) := kz_dr dd_Mo_isCheck_0 3 rfl
theorem d_Mo_isCheck_4 : decode prog_8_method_6_code 4 = .ok (.iand, 1) := kz_dr dd_Mo_isCheck_0 4 rfl
theorem d_Mo_isCheck_5 : decode prog_8_method_6_code 5 = .ok (.ifCond .ne 7, 3) := kz_dr dd_Mo_isCheck_0 5 rfl
theorem d_Mo_isCheck_8 : decode prog_8_method_6_code 8 = .ok (.iconst 1, 1) := kz_dr dd_Mo_isCheck_0 6 rfl
theorem d_Mo_isCheck_9 : decode prog_8_method_6_code 9 = .ok (.goto 4, 3) := kz_dr dd_Mo_isCheck_0 7 rfl
theorem d_Mo_isCheck_12 : decode prog_8_method_6_code 12 = .ok (.iconst 0, 1) := kz_dr dd_Mo_isCheck_0 8 rfl
theorem d_Mo_isCheck_13 : decode prog_8_method_6_code 13 = .ok (.ireturn, 1) := kz_dr dd_Mo_isCheck_0 9 rfl
def dl_Mo_precharge_0 : List (Nat × Instr × Nat) := [(0, .aload_n 0, 1), (1, .iconst 1, 1), (2, .iload_n 1, 1), (3, .iconst (-1), 1), (4, .iconst (-1), 1), (5, .invokevirtual 163, 3), (8, .aload_n 0, 1), (9, .getfield 20, 3), (12, .iload_n 1, 1), (13, .iconst (-1), 1), (14, .iastore, 1), (15, .return_, 1)]
theorem dd_Mo_precharge_0 : dl_Mo_precharge_0.all (fun e => decide (decode prog_8_method_28_code e.1 = .ok e.2)) = true := by decide +kernel
theorem d_Mo_precharge_0 : decode prog_8_method_28_code 0 = .ok (.aload_n 0, 1) := kz_dr dd_Mo_precharge_0 0 rfl
theorem d_Mo_precharge_1 : decode prog_8_method_28_code 1 = .ok (.iconst 1, 1) := kz_dr dd_Mo_precharge_0 1 rfl
theorem d_Mo_precharge_2 : decode prog_8_method_28_code 2 = .ok (.iload_n 1, 1) := kz_dr dd_Mo_precharge_0 2 rfl
theorem d_Mo_precharge_3 : decode prog_8_method_28_code 3 = .ok (.iconst (-1), 1) := kz_dr dd_Mo_precharge_0 3 rfl
theorem d_Mo_precharge_4 : decode prog_8_method_28_code 4 = .ok (.iconst (-1), 1) := kz_dr dd_Mo_precharge_0 4 rfl
theorem d_Mo_precharge_5 : decode prog_8_method_28_code 5 = .ok (.invokevirtual 163, 3) := kz_dr dd_Mo_precharge_0 5 rfl
theorem d_Mo_precharge_8 : decode prog_8_method_28_code 8 = .ok (.aload_n 0, 1) := kz_dr dd_Mo_precharge_0 6 rfl
theorem d_Mo_precharge_9 : decode prog_8_method_28_code 9 = .ok (.getfield 20, 3) := kz_dr dd_Mo_precharge_0 7 rfl
theorem d_Mo_precharge_12 : decode prog_8_method_28_code 12 = .ok (.iload_n 1, 1) := kz_dr dd_Mo_precharge_0 8 rfl
theorem d_Mo_precharge_13 : decode prog_8_method_28_code 13 = .ok (.iconst (-1), 1) := kz_dr dd_Mo_precharge_0 9 rfl
theorem d_Mo_precharge_14 : decode prog_8_method_28_code 14 = .ok (.iastore, 1) := kz_dr dd_Mo_precharge_0 10 rfl
theorem d_Mo_precharge_15 : decode prog_8_method_28_code 15 = .ok (.return_, 1) := kz_dr dd_Mo_precharge_0 11 rfl
def dl_Mo_serve_0 : List (Nat × Instr × Nat) := [(0, .aload_n 0, 1), (1, .invokevirtual 214, 3), (4, .aload_n 0, 1), (5, .aload_n 0, 1), (6, .getfield 206, 3), (9, .invokevirtual 217, 3), (12, .ifCond .ne 20, 3), (15, .aload_n 0, 1), (16, .aload_n 0, 1), (17, .getfield 206, 3), (20, .ifCond .ne 7, 3), (23, .iconst 1, 1), (24, .goto 4, 3), (27, .iconst 0, 1), (28, .invokevirtual 217, 3), (31, .pop, 1), (32, .aload_n 0, 1), (33, .invokevirtual 221, 3), (36, .aload_n 0, 1), (37, .invokevirtual 224, 3), (40, .istore_n 1, 1), (41, .iload_n 1, 1), (42, .ifCond .lt 9, 3), (45, .aload_n 0, 1), (46, .iload_n 1, 1), (47, .invokevirtual 227, 3), (50, .return_, 1), (51, .iconst 1, 1), (52, .istore_n 2, 1), (53, .iconst 0, 1), (54, .istore_n 3, 1), (55, .iload_n 3, 1), (56, .aload_n 0, 1), (57, .getfield 134, 3), (60, .if_icmp .ge 178, 3), (63, .iload_n 2, 1), (64, .ifCond .eq 174, 3), (67, .aload_n 0, 1), (68, .getfield 44, 3), (71, .aload_n 0, 1), (72, .getfield 62, 3), (75, .iload_n 3, 1), (76, .iaload, 1), (77, .iaload, 1), (78, .istore 4, 2), (80, .iload 4, 2), (82, .invokestatic 167, 3), (85, .istore 5, 2), (87, .aload_n 0, 1), (88, .getfield 20, 3), (91, .iload 5, 2), (93, .iaload, 1), (94, .iconst (-1), 1), (95, .if_icmp .ne 7, 3), (98, .iconst 1, 1), (99, .goto 4, 3), (102, .iconst 0, 1), (103, .istore 6, 2), (105, .aload_n 0, 1), (106, .getfield 68, 3)]
theorem dd_Mo_serve_0 : dl_Mo_serve_0.all (fun e => decide (decode prog_8_method_38_code e.1 = .ok e.2)) = true := by decide +kernel
theorem d_Mo_serve_0 : decode prog_8_method_38_code 0 = .ok (.aload_n 0, 1) := kz_dr dd_Mo_serve_0 0 rfl
theorem d_Mo_serve_1 : decode prog_8_method_38_code 1 = .ok (.invokevirtual 214, 3) := kz_dr dd_Mo_serve_0 1 rfl
theorem d_Mo_serve_4 : decode prog_8_method_38_code 4 = .ok (.aload_n 0, 1) := kz_dr dd_Mo_serve_0 2 rfl
theorem d_Mo_serve_5 : decode prog_8_method_38_code 5 = .ok (.aload_n 0, 1) := kz_dr dd_Mo_serve_0 3 rfl
theorem d_Mo_serve_6 : decode prog_8_method_38_code 6 = .ok (.getfield 206, 3) := kz_dr dd_Mo_serve_0 4 rfl
theorem d_Mo_serve_9 : decode prog_8_method_38_code 9 = .ok (.invokevirtual 217, 3) := kz_dr dd_Mo_serve_0 5 rfl
theorem d_Mo_serve_12 : decode prog_8_method_38_code 12 = .ok (.ifCond .ne 20, 3) := kz_dr dd_Mo_serve_0 6 rfl
theorem d_Mo_serve_15 : decode prog_8_method_38_code 15 = .ok (.aload_n 0, 1) := kz_dr dd_Mo_serve_0 7 rfl
theorem d_Mo_serve_16 : decode prog_8_method_38_code 16 = .ok (.aload_n 0, 1) := kz_dr dd_Mo_serve_0 8 rfl
theorem d_Mo_serve_17 : decode prog_8_method_38_code 17 = .ok (.getfield 206, 3) := kz_dr dd_Mo_serve_0 9 rfl
theorem d_Mo_serve_20 : decode prog_8_method_38_code 20 = .ok (.ifCond .ne 7, 3) := kz_dr dd_Mo_serve_0 10 rfl
theorem d_Mo_serve_23 : decode prog_8_method_38_code 23 = .ok (.iconst 1, 1) := kz_dr dd_Mo_serve_0 11 rfl
theorem d_Mo_serve_24 : decode prog_8_method_38_code 24 = .ok (.goto 4, 3) := kz_dr dd_Mo_serve_0 12 rfl
theorem d_Mo_serve_27 : decode prog_8_method_38_code 27 = .ok (.iconst 0, 1) := kz_dr dd_Mo_serve_0 13 rfl
theorem d_Mo_serve_28 : decode prog_8_method_38_code 28 = .ok (.invokevirtual 217, 3) := kz_dr dd_Mo_serve_0 14 rfl
theorem d_Mo_serve_31 : decode prog_8_method_38_code 31 = .ok (.pop, 1) := kz_dr dd_Mo_serve_0 15 rfl
theorem d_Mo_serve_32 : decode prog_8_method_38_code 32 = .ok (.aload_n 0, 1) := kz_dr dd_Mo_serve_0 16 rfl
theorem d_Mo_serve_33 : decode prog_8_method_38_code 33 = .ok (.invokevirtual 221, 3) := kz_dr dd_Mo_serve_0 17 rfl
theorem d_Mo_serve_36 : decode prog_8_method_38_code 36 = .ok (.aload_n 0, 1) := kz_dr dd_Mo_serve_0 18 rfl
theorem d_Mo_serve_37 : decode prog_8_method_38_code 37 = .ok (.invokevirtual 224, 3) := kz_dr dd_Mo_serve_0 19 rfl
theorem d_Mo_serve_40 : decode prog_8_method_38_code 40 = .ok (.istore_n 1, 1) := kz_dr dd_Mo_serve_0 20 rfl
theorem d_Mo_serve_41 : decode prog_8_method_38_code 41 = .ok (.iload_n 1, 1) := kz_dr dd_Mo_serve_0 21 rfl
theorem d_Mo_serve_42 : decode prog_8_method_38_code 42 = .ok (.ifCond .lt 9, 3) := kz_dr dd_Mo_serve_0 22 rfl
theorem d_Mo_serve_45 : decode prog_8_method_38_code 45 = .ok (.aload_n 0, 1) := kz_dr dd_Mo_serve_0 23 rfl
theorem d_Mo_serve_46 : decode prog_8_method_38_code 46 = .ok (.iload_n 1, 1) := kz_dr dd_Mo_serve_0 24 rfl
theorem d_Mo_serve_47 : decode prog_8_method_38_code 47 = .ok (.invokevirtual 227, 3) := kz_dr dd_Mo_serve_0 25 rfl
theorem d_Mo_serve_50 : decode prog_8_method_38_code 50 = .ok (.return_, 1) := kz_dr dd_Mo_serve_0 26 rfl
theorem d_Mo_serve_51 : decode prog_8_method_38_code 51 = .ok (.iconst 1, 1) := kz_dr dd_Mo_serve_0 27 rfl
theorem d_Mo_serve_52 : decode prog_8_method_38_code 52 = .ok (.istore_n 2, 1) := kz_dr dd_Mo_serve_0 28 rfl
theorem d_Mo_serve_53 : decode prog_8_method_38_code 53 = .ok (.iconst 0, 1) := kz_dr dd_Mo_serve_0 29 rfl
theorem d_Mo_serve_54 : decode prog_8_method_38_code 54 = .ok (.istore_n 3, 1) := kz_dr dd_Mo_serve_0 30 rfl
theorem d_Mo_serve_55 : decode prog_8_method_38_code 55 = .ok (.iload_n 3, 1) := kz_dr dd_Mo_serve_0 31 rfl
theorem d_Mo_serve_56 : decode prog_8_method_38_code 56 = .ok (.aload_n 0, 1) := kz_dr dd_Mo_serve_0 32 rfl
theorem d_Mo_serve_57 : decode prog_8_method_38_code 57 = .ok (.getfield 134, 3) := kz_dr dd_Mo_serve_0 33 rfl
theorem d_Mo_serve_60 : decode prog_8_method_38_code 60 = .ok (.if_icmp .ge 178, 3) := kz_dr dd_Mo_serve_0 34 rfl
theorem d_Mo_serve_63 : decode prog_8_method_38_code 63 = .ok (.iload_n 2, 1) := kz_dr dd_Mo_serve_0 35 rfl
theorem d_Mo_serve_64 : decode prog_8_method_38_code 64 = .ok (.ifCond .eq 174, 3) := kz_dr dd_Mo_serve_0 36 rfl
theorem d_Mo_serve_67 : decode prog_8_method_38_code 67 = .ok (.aload_n 0, 1) := kz_dr dd_Mo_serve_0 37 rfl
theorem d_Mo_serve_68 : decode prog_8_method_38_code 68 = .ok (.getfield 44, 3) := kz_dr dd_Mo_serve_0 38 rfl
theorem d_Mo_serve_71 : decode prog_8_method_38_code 71 = .ok (.aload_n 0, 1) := kz_dr dd_Mo_serve_0 39 rfl
theorem d_Mo_serve_72 : decode prog_8_method_38_code 72 = .ok (.getfield 62, 3) := kz_dr dd_Mo_serve_0 40 rfl
theorem d_Mo_serve_75 : decode prog_8_method_38_code 75 = .ok (.iload_n 3, 1) := kz_dr dd_Mo_serve_0 41 rfl
theorem d_Mo_serve_76 : decode prog_8_method_38_code 76 = .ok (.iaload, 1) := kz_dr dd_Mo_serve_0 42 rfl
theorem d_Mo_serve_77 : decode prog_8_method_38_code 77 = .ok (.iaload, 1) := kz_dr dd_Mo_serve_0 43 rfl
theorem d_Mo_serve_78 : decode prog_8_method_38_code 78 = .ok (.istore 4, 2) := kz_dr dd_Mo_serve_0 44 rfl
theorem d_Mo_serve_80 : decode prog_8_method_38_code 80 = .ok (.iload 4, 2) := kz_dr dd_Mo_serve_0 45 rfl
theorem d_Mo_serve_82 : decode prog_8_method_38_code 82 = .ok (.invokestatic 167, 3) := kz_dr dd_Mo_serve_0 46 rfl
theorem d_Mo_serve_85 : decode prog_8_method_38_code 85 = .ok (.istore 5, 2) := kz_dr dd_Mo_serve_0 47 rfl
theorem d_Mo_serve_87 : decode prog_8_method_38_code 87 = .ok (.aload_n 0, 1) := kz_dr dd_Mo_serve_0 48 rfl
theorem d_Mo_serve_88 : decode prog_8_method_38_code 88 = .ok (.getfield 20, 3) := kz_dr dd_Mo_serve_0 49 rfl
theorem d_Mo_serve_91 : decode prog_8_method_38_code 91 = .ok (.iload 5, 2) := kz_dr dd_Mo_serve_0 50 rfl
theorem d_Mo_serve_93 : decode prog_8_method_38_code 93 = .ok (.iaload, 1) := kz_dr dd_Mo_serve_0 51 rfl
theorem d_Mo_serve_94 : decode prog_8_method_38_code 94 = .ok (.iconst (-1), 1) := kz_dr dd_Mo_serve_0 52 rfl
theorem d_Mo_serve_95 : decode prog_8_method_38_code 95 = .ok (.if_icmp .ne 7, 3) := kz_dr dd_Mo_serve_0 53 rfl
theorem d_Mo_serve_98 : decode prog_8_method_38_code 98 = .ok (.iconst 1, 1) := kz_dr dd_Mo_serve_0 54 rfl
theorem d_Mo_serve_99 : decode prog_8_method_38_code 99 = .ok (.goto 4, 3) := kz_dr dd_Mo_serve_0 55 rfl
theorem d_Mo_serve_102 : decode prog_8_method_38_code 102 = .ok (.iconst 0, 1) := kz_dr dd_Mo_serve_0 56 rfl
theorem d_Mo_serve_103 : decode prog_8_method_38_code 103 = .ok (.istore 6, 2) := kz_dr dd_Mo_serve_0 57 rfl
theorem d_Mo_serve_105 : decode prog_8_method_38_code 105 = .ok (.aload_n 0, 1) := kz_dr dd_Mo_serve_0 58 rfl
theorem d_Mo_serve_106 : decode prog_8_method_38_code 106 = .ok (.getfield 68, 3) := kz_dr dd_Mo_serve_0 59 rfl
def dl_Mo_serve_1 : List (Nat × Instr × Nat) := [(109, .iload_n 3, 1), (110, .baload, 1), (111, .ifCond .eq 21, 3), (114, .iload 6, 2), (116, .ifCond .eq 16, 3), (119, .aload_n 0, 1), (120, .iload 5, 2), (122, .invokevirtual 230, 3), (125, .ifCond .eq 7, 3), (128, .iconst 1, 1), (129, .goto 4, 3), (132, .iconst 0, 1), (133, .istore 7, 2), (135, .aload_n 0, 1), (136, .getfield 68, 3), (139, .iload_n 3, 1), (140, .baload, 1), (141, .ifCond .eq 45, 3), (144, .iload 6, 2), (146, .ifCond .ne 40, 3), (149, .aload_n 0, 1), (150, .getfield 20, 3), (153, .iload 5, 2), (155, .iaload, 1), (156, .iload 4, 2), (158, .invokestatic 203, 3), (161, .if_icmp .eq 25, 3), (164, .aload_n 0, 1), (165, .iload 5, 2), (167, .invokevirtual 233, 3), (170, .ifCond .ne 16, 3), (173, .aload_n 0, 1), (174, .iload 5, 2), (176, .invokevirtual 180, 3), (179, .ifCond .eq 7, 3), (182, .iconst 1, 1), (183, .goto 4, 3), (186, .iconst 0, 1), (187, .istore 8, 2), (189, .iload 7, 2), (191, .ifCond .eq 14, 3), (194, .aload_n 0, 1), (195, .iload 5, 2), (197, .iload 4, 2), (199, .invokestatic 203, 3), (202, .invokevirtual 236, 3), (205, .iload 8, 2), (207, .ifCond .eq 9, 3), (210, .aload_n 0, 1), (211, .iload 5, 2), (213, .invokevirtual 193, 3), (216, .iload 7, 2), (218, .ifCond .ne 12, 3), (221, .iload 8, 2), (223, .ifCond .ne 7, 3), (226, .iconst 1, 1), (227, .goto 4, 3), (230, .iconst 0, 1), (231, .istore_n 2, 1), (232, .iinc 3 1, 3)]
theorem dd_Mo_serve_1 : dl_Mo_serve_1.all (fun e => decide (decode prog_8_method_38_code e.1 = .ok e.2)) = true := by decide +kernel
theorem d_Mo_serve_109 : decode prog_8_method_38_code 109 = .ok (.iload_n 3, 1) := kz_dr dd_Mo_serve_1 0 rfl
theorem d_Mo_serve_110 : decode prog_8_method_38_code 110 = .ok (.baload, 1) := kz_dr dd_Mo_serve_1 1 rfl
theorem d_Mo_serve_111 : decode prog_8_method_38_code 111 = .ok (.ifCond .eq 21, 3) := kz_dr dd_Mo_serve_1 2 rfl
theorem d_Mo_serve_114 : decode prog_8_method_38_code 114 = .ok (.iload 6, 2) := kz_dr dd_Mo_serve_1 3 rfl
theorem d_Mo_serve_116 : decode prog_8_method_38_code 116 = .ok (.ifCond .eq 16, 3) := kz_dr dd_Mo_serve_1 4 rfl
theorem d_Mo_serve_119 : decode prog_8_method_38_code 119 = .ok (.aload_n 0, 1) := kz_dr dd_Mo_serve_1 5 rfl
theorem d_Mo_serve_120 : decode prog_8_method_38_code 120 = .ok (.iload 5, 2) := kz_dr dd_Mo_serve_1 6 rfl
theorem d_Mo_serve_122 : decode prog_8_method_38_code 122 = .ok (.invokevirtual 230, 3) := kz_dr dd_Mo_serve_1 7 rfl
theorem d_Mo_serve_125 : decode prog_8_method_38_code 125 = .ok (.ifCond .eq 7, 3) := kz_dr dd_Mo_serve_1 8 rfl
theorem d_Mo_serve_128 : decode prog_8_method_38_code 128 = .ok (.iconst 1, 1) := kz_dr dd_Mo_serve_1 9 rfl
theorem d_Mo_serve_129 : decode prog_8_method_38_code 129 = .ok (.goto 4, 3) := kz_dr dd_Mo_serve_1 10 rfl
theorem d_Mo_serve_132 : decode prog_8_method_38_code 132 = .ok (.iconst 0, 1) := kz_dr dd_Mo_serve_1 11 rfl
theorem d_Mo_serve_133 : decode prog_8_method_38_code 133 = .ok (.istore 7, 2) := kz_dr dd_Mo_serve_1 12 rfl
theorem d_Mo_serve_135 : decode prog_8_method_38_code 135 = .ok (.aload_n 0, 1) := kz_dr dd_Mo_serve_1 13 rfl
theorem d_Mo_serve_136 : decode prog_8_method_38_code 136 = .ok (.getfield 68, 3) := kz_dr dd_Mo_serve_1 14 rfl
theorem d_Mo_serve_139 : decode prog_8_method_38_code 139 = .ok (.iload_n 3, 1) := kz_dr dd_Mo_serve_1 15 rfl
theorem d_Mo_serve_140 : decode prog_8_method_38_code 140 = .ok (.baload, 1) := kz_dr dd_Mo_serve_1 16 rfl
theorem d_Mo_serve_141 : decode prog_8_method_38_code 141 = .ok (.ifCond .eq 45, 3) := kz_dr dd_Mo_serve_1 17 rfl
theorem d_Mo_serve_144 : decode prog_8_method_38_code 144 = .ok (.iload 6, 2) := kz_dr dd_Mo_serve_1 18 rfl
theorem d_Mo_serve_146 : decode prog_8_method_38_code 146 = .ok (.ifCond .ne 40, 3) := kz_dr dd_Mo_serve_1 19 rfl
theorem d_Mo_serve_149 : decode prog_8_method_38_code 149 = .ok (.aload_n 0, 1) := kz_dr dd_Mo_serve_1 20 rfl
theorem d_Mo_serve_150 : decode prog_8_method_38_code 150 = .ok (.getfield 20, 3) := kz_dr dd_Mo_serve_1 21 rfl
theorem d_Mo_serve_153 : decode prog_8_method_38_code 153 = .ok (.iload 5, 2) := kz_dr dd_Mo_serve_1 22 rfl
theorem d_Mo_serve_155 : decode prog_8_method_38_code 155 = .ok (.iaload, 1) := kz_dr dd_Mo_serve_1 23 rfl
theorem d_Mo_serve_156 : decode prog_8_method_38_code 156 = .ok (.iload 4, 2) := kz_dr dd_Mo_serve_1 24 rfl
theorem d_Mo_serve_158 : decode prog_8_method_38_code 158 = .ok (.invokestatic 203, 3) := kz_dr dd_Mo_serve_1 25 rfl
theorem d_Mo_serve_161 : decode prog_8_method_38_code 161 = .ok (.if_icmp .eq 25, 3) := kz_dr dd_Mo_serve_1 26 rfl
theorem d_Mo_serve_164 : decode prog_8_method_38_code 164 = .ok (.aload_n 0, 1) := kz_dr dd_Mo_serve_1 27 rfl
theorem d_Mo_serve_165 : decode prog_8_method_38_code 165 = .ok (.iload 5, 2) := kz_dr dd_Mo_serve_1 28 rfl
theorem d_Mo_serve_167 : decode prog_8_method_38_code 167 = .ok (.invokevirtual 233, 3) := kz_dr dd_Mo_serve_1 29 rfl
theorem d_Mo_serve_170 : decode prog_8_method_38_code 170 = .ok (.ifCond .ne 16, 3) := kz_dr dd_Mo_serve_1 30 rfl
theorem d_Mo_serve_173 : decode prog_8_method_38_code 173 = .ok (.aload_n 0, 1) := kz_dr dd_Mo_serve_1 31 rfl
theorem d_Mo_serve_174 : decode prog_8_method_38_code 174 = .ok (.iload 5, 2) := kz_dr dd_Mo_serve_1 32 rfl
theorem d_Mo_serve_176 : decode prog_8_method_38_code 176 = .ok (.invokevirtual 180, 3) := kz_dr dd_Mo_serve_1 33 rfl
theorem d_Mo_serve_179 : decode prog_8_method_38_code 179 = .ok (.ifCond .eq 7, 3) := kz_dr dd_Mo_serve_1 34 rfl
theorem d_Mo_serve_182 : decode prog_8_method_38_code 182 = .ok (.iconst 1, 1) := kz_dr dd_Mo_serve_1 35 rfl
theorem d_Mo_serve_183 : decode prog_8_method_38_code 183 = .ok (.goto 4, 3) := kz_dr dd_Mo_serve_1 36 rfl
theorem d_Mo_serve_186 : decode prog_8_method_38_code 186 = .ok (.iconst 0, 1) := kz_dr dd_Mo_serve_1 37 rfl
theorem d_Mo_serve_187 : decode prog_8_method_38_code 187 = .ok (.istore 8, 2) := kz_dr dd_Mo_serve_1 38 rfl
theorem d_Mo_serve_189 : decode prog_8_method_38_code 189 = .ok (.iload 7, 2) := kz_dr dd_Mo_serve_1 39 rfl
theorem d_Mo_serve_191 : decode prog_8_method_38_code 191 = .ok (.ifCond .eq 14, 3) := kz_dr dd_Mo_serve_1 40 rfl
theorem d_Mo_serve_194 : decode prog_8_method_38_code 194 = .ok (.aload_n 0, 1) := kz_dr dd_Mo_serve_1 41 rfl
theorem d_Mo_serve_195 : decode prog_8_method_38_code 195 = .ok (.iload 5, 2) := kz_dr dd_Mo_serve_1 42 rfl
theorem d_Mo_serve_197 : decode prog_8_method_38_code 197 = .ok (.iload 4, 2) := kz_dr dd_Mo_serve_1 43 rfl
theorem d_Mo_serve_199 : decode prog_8_method_38_code 199 = .ok (.invokestatic 203, 3) := kz_dr dd_Mo_serve_1 44 rfl
theorem d_Mo_serve_202 : decode prog_8_method_38_code 202 = .ok (.invokevirtual 236, 3) := kz_dr dd_Mo_serve_1 45 rfl
theorem d_Mo_serve_205 : decode prog_8_method_38_code 205 = .ok (.iload 8, 2) := kz_dr dd_Mo_serve_1 46 rfl
theorem d_Mo_serve_207 : decode prog_8_method_38_code 207 = .ok (.ifCond .eq 9, 3) := kz_dr dd_Mo_serve_1 47 rfl
theorem d_Mo_serve_210 : decode prog_8_method_38_code 210 = .ok (.aload_n 0, 1) := kz_dr dd_Mo_serve_1 48 rfl
theorem d_Mo_serve_211 : decode prog_8_method_38_code 211 = .ok (.iload 5, 2) := kz_dr dd_Mo_serve_1 49 rfl
theorem d_Mo_serve_213 : decode prog_8_method_38_code 213 = .ok (.invokevirtual 193, 3) := kz_dr dd_Mo_serve_1 50 rfl
theorem d_Mo_serve_216 : decode prog_8_method_38_code 216 = .ok (.iload 7, 2) := kz_dr dd_Mo_serve_1 51 rfl
theorem d_Mo_serve_218 : decode prog_8_method_38_code 218 = .ok (.ifCond .ne 12, 3) := kz_dr dd_Mo_serve_1 52 rfl
theorem d_Mo_serve_221 : decode prog_8_method_38_code 221 = .ok (.iload 8, 2) := kz_dr dd_Mo_serve_1 53 rfl
theorem d_Mo_serve_223 : decode prog_8_method_38_code 223 = .ok (.ifCond .ne 7, 3) := kz_dr dd_Mo_serve_1 54 rfl
theorem d_Mo_serve_226 : decode prog_8_method_38_code 226 = .ok (.iconst 1, 1) := kz_dr dd_Mo_serve_1 55 rfl
theorem d_Mo_serve_227 : decode prog_8_method_38_code 227 = .ok (.goto 4, 3) := kz_dr dd_Mo_serve_1 56 rfl
theorem d_Mo_serve_230 : decode prog_8_method_38_code 230 = .ok (.iconst 0, 1) := kz_dr dd_Mo_serve_1 57 rfl
theorem d_Mo_serve_231 : decode prog_8_method_38_code 231 = .ok (.istore_n 2, 1) := kz_dr dd_Mo_serve_1 58 rfl
theorem d_Mo_serve_232 : decode prog_8_method_38_code 232 = .ok (.iinc 3 1, 3) := kz_dr dd_Mo_serve_1 59 rfl
def dl_Mo_serve_2 : List (Nat × Instr × Nat) := [(235, .goto (-180), 3), (238, .return_, 1)]
theorem dd_Mo_serve_2 : dl_Mo_serve_2.all (fun e => decide (decode prog_8_method_38_code e.1 = .ok e.2)) = true := by decide +kernel
theorem d_Mo_serve_235 : decode prog_8_method_38_code 235 = .ok (.goto (-180), 3) := kz_dr dd_Mo_serve_2 0 rfl
theorem d_Mo_serve_238 : decode prog_8_method_38_code 238 = .ok (.return_, 1) := kz_dr dd_Mo_serve_2 1 rfl
def dl_Mo_drain_0 : List (Nat × Instr × Nat) := [(0, .aload_n 0, 1), (1, .getfield 137, 3), (4, .ifCond .le 10, 3), (7, .aload_n 0, 1), (8, .getfield 140, 3), (11, .ifCond .eq 14, 3), (14, .aload_n 0, 1), (15, .getfield 137, 3), (18, .aload_n 0, 1), (19, .getfield 86, 3), (22, .if_icmp .ne 7, 3), (25, .iconst 1, 1), (26, .goto 4, 3), (29, .iconst 0, 1), (30, .istore_n 1, 1), (31, .aload_n 0, 1), (32, .getfield 137, 3), (35, .ifCond .eq 23, 3), (38, .aload_n 0, 1), (39, .getfield 140, 3), (42, .ifCond .le 20, 3), (45, .iconst 2, 1), (46, .aload_n 0, 1), (47, .getfield 137, 3), (50, .imul, 1), (51, .aload_n 0, 1), (52, .getfield 86, 3), (55, .if_icmp .gt 7, 3), (58, .iconst 1, 1), (59, .goto 4, 3), (62, .iconst 0, 1), (63, .istore_n 2, 1), (64, .aload_n 0, 1), (65, .aload_n 0, 1), (66, .getfield 206, 3), (69, .ifCond .eq 15, 3), (72, .iload_n 2, 1), (73, .ifCond .ne 7, 3), (76, .iconst 1, 1), (77, .goto 8, 3), (80, .iconst 0, 1), (81, .goto 4, 3), (84, .iload_n 1, 1), (85, .putfield 206, 3), (88, .return_, 1)]
theorem dd_Mo_drain_0 : dl_Mo_drain_0.all (fun e => decide (decode prog_8_method_36_code e.1 = .ok e.2)) = true := by decide +kernel
theorem d_Mo_drain_0 : decode prog_8_method_36_code 0 = .ok (.aload_n 0, 1) := kz_dr dd_Mo_drain_0 0 rfl
theorem d_Mo_drain_1 : decode prog_8_method_36_code 1 = .ok (.getfield 137, 3) := kz_dr dd_Mo_drain_0 1 rfl
theorem d_Mo_drain_4 : decode prog_8_method_36_code 4 = .ok (.ifCond .le 10, 3) := kz_dr dd_Mo_drain_0 2 rfl
theorem d_Mo_drain_7 : decode prog_8_method_36_code 7 = .ok (.aload_n 0, 1) := kz_dr dd_Mo_drain_0 3 rfl
theorem d_Mo_drain_8 : decode prog_8_method_36_code 8 = .ok (.getfield 140, 3) := kz_dr dd_Mo_drain_0 4 rfl
theorem d_Mo_drain_11 : decode prog_8_method_36_code 11 = .ok (.ifCond .eq 14, 3) := kz_dr dd_Mo_drain_0 5 rfl
theorem d_Mo_drain_14 : decode prog_8_method_36_code 14 = .ok (.aload_n 0, 1) := kz_dr dd_Mo_drain_0 6 rfl
theorem d_Mo_drain_15 : decode prog_8_method_36_code 15 = .ok (.getfield 137, 3) := kz_dr dd_Mo_drain_0 7 rfl
theorem d_Mo_drain_18 : decode prog_8_method_36_code 18 = .ok (.aload_n 0, 1) := kz_dr dd_Mo_drain_0 8 rfl
theorem d_Mo_drain_19 : decode prog_8_method_36_code 19 = .ok (.getfield 86, 3) := kz_dr dd_Mo_drain_0 9 rfl
theorem d_Mo_drain_22 : decode prog_8_method_36_code 22 = .ok (.if_icmp .ne 7, 3) := kz_dr dd_Mo_drain_0 10 rfl
theorem d_Mo_drain_25 : decode prog_8_method_36_code 25 = .ok (.iconst 1, 1) := kz_dr dd_Mo_drain_0 11 rfl
theorem d_Mo_drain_26 : decode prog_8_method_36_code 26 = .ok (.goto 4, 3) := kz_dr dd_Mo_drain_0 12 rfl
theorem d_Mo_drain_29 : decode prog_8_method_36_code 29 = .ok (.iconst 0, 1) := kz_dr dd_Mo_drain_0 13 rfl
theorem d_Mo_drain_30 : decode prog_8_method_36_code 30 = .ok (.istore_n 1, 1) := kz_dr dd_Mo_drain_0 14 rfl
theorem d_Mo_drain_31 : decode prog_8_method_36_code 31 = .ok (.aload_n 0, 1) := kz_dr dd_Mo_drain_0 15 rfl
theorem d_Mo_drain_32 : decode prog_8_method_36_code 32 = .ok (.getfield 137, 3) := kz_dr dd_Mo_drain_0 16 rfl
theorem d_Mo_drain_35 : decode prog_8_method_36_code 35 = .ok (.ifCond .eq 23, 3) := kz_dr dd_Mo_drain_0 17 rfl
theorem d_Mo_drain_38 : decode prog_8_method_36_code 38 = .ok (.aload_n 0, 1) := kz_dr dd_Mo_drain_0 18 rfl
theorem d_Mo_drain_39 : decode prog_8_method_36_code 39 = .ok (.getfield 140, 3) := kz_dr dd_Mo_drain_0 19 rfl
theorem d_Mo_drain_42 : decode prog_8_method_36_code 42 = .ok (.ifCond .le 20, 3) := kz_dr dd_Mo_drain_0 20 rfl
theorem d_Mo_drain_45 : decode prog_8_method_36_code 45 = .ok (.iconst 2, 1) := kz_dr dd_Mo_drain_0 21 rfl
theorem d_Mo_drain_46 : decode prog_8_method_36_code 46 = .ok (.aload_n 0, 1) := kz_dr dd_Mo_drain_0 22 rfl
theorem d_Mo_drain_47 : decode prog_8_method_36_code 47 = .ok (.getfield 137, 3) := kz_dr dd_Mo_drain_0 23 rfl
theorem d_Mo_drain_50 : decode prog_8_method_36_code 50 = .ok (.imul, 1) := kz_dr dd_Mo_drain_0 24 rfl
theorem d_Mo_drain_51 : decode prog_8_method_36_code 51 = .ok (.aload_n 0, 1) := kz_dr dd_Mo_drain_0 25 rfl
theorem d_Mo_drain_52 : decode prog_8_method_36_code 52 = .ok (.getfield 86, 3) := kz_dr dd_Mo_drain_0 26 rfl
theorem d_Mo_drain_55 : decode prog_8_method_36_code 55 = .ok (.if_icmp .gt 7, 3) := kz_dr dd_Mo_drain_0 27 rfl
theorem d_Mo_drain_58 : decode prog_8_method_36_code 58 = .ok (.iconst 1, 1) := kz_dr dd_Mo_drain_0 28 rfl
theorem d_Mo_drain_59 : decode prog_8_method_36_code 59 = .ok (.goto 4, 3) := kz_dr dd_Mo_drain_0 29 rfl
theorem d_Mo_drain_62 : decode prog_8_method_36_code 62 = .ok (.iconst 0, 1) := kz_dr dd_Mo_drain_0 30 rfl
theorem d_Mo_drain_63 : decode prog_8_method_36_code 63 = .ok (.istore_n 2, 1) := kz_dr dd_Mo_drain_0 31 rfl
theorem d_Mo_drain_64 : decode prog_8_method_36_code 64 = .ok (.aload_n 0, 1) := kz_dr dd_Mo_drain_0 32 rfl
theorem d_Mo_drain_65 : decode prog_8_method_36_code 65 = .ok (.aload_n 0, 1) := kz_dr dd_Mo_drain_0 33 rfl
theorem d_Mo_drain_66 : decode prog_8_method_36_code 66 = .ok (.getfield 206, 3) := kz_dr dd_Mo_drain_0 34 rfl
theorem d_Mo_drain_69 : decode prog_8_method_36_code 69 = .ok (.ifCond .eq 15, 3) := kz_dr dd_Mo_drain_0 35 rfl
theorem d_Mo_drain_72 : decode prog_8_method_36_code 72 = .ok (.iload_n 2, 1) := kz_dr dd_Mo_drain_0 36 rfl
theorem d_Mo_drain_73 : decode prog_8_method_36_code 73 = .ok (.ifCond .ne 7, 3) := kz_dr dd_Mo_drain_0 37 rfl
theorem d_Mo_drain_76 : decode prog_8_method_36_code 76 = .ok (.iconst 1, 1) := kz_dr dd_Mo_drain_0 38 rfl
theorem d_Mo_drain_77 : decode prog_8_method_36_code 77 = .ok (.goto 8, 3) := kz_dr dd_Mo_drain_0 39 rfl
theorem d_Mo_drain_80 : decode prog_8_method_36_code 80 = .ok (.iconst 0, 1) := kz_dr dd_Mo_drain_0 40 rfl
theorem d_Mo_drain_81 : decode prog_8_method_36_code 81 = .ok (.goto 4, 3) := kz_dr dd_Mo_drain_0 41 rfl
theorem d_Mo_drain_84 : decode prog_8_method_36_code 84 = .ok (.iload_n 1, 1) := kz_dr dd_Mo_drain_0 42 rfl
theorem d_Mo_drain_85 : decode prog_8_method_36_code 85 = .ok (.putfield 206, 3) := kz_dr dd_Mo_drain_0 43 rfl
theorem d_Mo_drain_88 : decode prog_8_method_36_code 88 = .ok (.return_, 1) := kz_dr dd_Mo_drain_0 44 rfl
def dl_Mo_look_0 : List (Nat × Instr × Nat) := [(0, .iconst 0, 1), (1, .istore_n 2, 1), (2, .iconst 0, 1), (3, .istore_n 3, 1), (4, .iload_n 3, 1), (5, .aload_n 0, 1), (6, .getfield 134, 3), (9, .if_icmp .ge 64, 3), (12, .aload_n 0, 1), (13, .getfield 68, 3), (16, .iload_n 3, 1), (17, .aload_n 0, 1), (18, .getfield 40, 3), (21, .aload_n 0, 1), (22, .getfield 62, 3), (25, .iload_n 3, 1), (26, .iaload, 1), (27, .baload, 1), (28, .iload_n 1, 1), (29, .if_icmp .ne 19, 3), (32, .iload_n 1, 1), (33, .ifCond .eq 11, 3), (36, .aload_n 0, 1), (37, .iload_n 3, 1), (38, .invokevirtual 196, 3), (41, .ifCond .ne 7, 3), (44, .iconst 1, 1), (45, .goto 4, 3), (48, .iconst 0, 1), (49, .bastore, 1), (50, .iload_n 2, 1), (51, .aload_n 0, 1), (52, .getfield 68, 3), (55, .iload_n 3, 1), (56, .baload, 1), (57, .ifCond .eq 7, 3), (60, .iconst 1, 1), (61, .goto 4, 3), (64, .iconst 0, 1), (65, .iadd, 1), (66, .istore_n 2, 1), (67, .iinc 3 1, 3), (70, .goto (-66), 3), (73, .iload_n 2, 1), (74, .ireturn, 1)]
theorem dd_Mo_look_0 : dl_Mo_look_0.all (fun e => decide (decode prog_8_method_32_code e.1 = .ok e.2)) = true := by decide +kernel
theorem d_Mo_look_0 : decode prog_8_method_32_code 0 = .ok (.iconst 0, 1) := kz_dr dd_Mo_look_0 0 rfl
theorem d_Mo_look_1 : decode prog_8_method_32_code 1 = .ok (.istore_n 2, 1) := kz_dr dd_Mo_look_0 1 rfl
theorem d_Mo_look_2 : decode prog_8_method_32_code 2 = .ok (.iconst 0, 1) := kz_dr dd_Mo_look_0 2 rfl
theorem d_Mo_look_3 : decode prog_8_method_32_code 3 = .ok (.istore_n 3, 1) := kz_dr dd_Mo_look_0 3 rfl
theorem d_Mo_look_4 : decode prog_8_method_32_code 4 = .ok (.iload_n 3, 1) := kz_dr dd_Mo_look_0 4 rfl
theorem d_Mo_look_5 : decode prog_8_method_32_code 5 = .ok (.aload_n 0, 1) := kz_dr dd_Mo_look_0 5 rfl
theorem d_Mo_look_6 : decode prog_8_method_32_code 6 = .ok (.getfield 134, 3) := kz_dr dd_Mo_look_0 6 rfl
theorem d_Mo_look_9 : decode prog_8_method_32_code 9 = .ok (.if_icmp .ge 64, 3) := kz_dr dd_Mo_look_0 7 rfl
theorem d_Mo_look_12 : decode prog_8_method_32_code 12 = .ok (.aload_n 0, 1) := kz_dr dd_Mo_look_0 8 rfl
theorem d_Mo_look_13 : decode prog_8_method_32_code 13 = .ok (.getfield 68, 3) := kz_dr dd_Mo_look_0 9 rfl
theorem d_Mo_look_16 : decode prog_8_method_32_code 16 = .ok (.iload_n 3, 1) := kz_dr dd_Mo_look_0 10 rfl
theorem d_Mo_look_17 : decode prog_8_method_32_code 17 = .ok (.aload_n 0, 1) := kz_dr dd_Mo_look_0 11 rfl
theorem d_Mo_look_18 : decode prog_8_method_32_code 18 = .ok (.getfield 40, 3) := kz_dr dd_Mo_look_0 12 rfl
theorem d_Mo_look_21 : decode prog_8_method_32_code 21 = .ok (.aload_n 0, 1) := kz_dr dd_Mo_look_0 13 rfl
theorem d_Mo_look_22 : decode prog_8_method_32_code 22 = .ok (.getfield 62, 3) := kz_dr dd_Mo_look_0 14 rfl
theorem d_Mo_look_25 : decode prog_8_method_32_code 25 = .ok (.iload_n 3, 1) := kz_dr dd_Mo_look_0 15 rfl
theorem d_Mo_look_26 : decode prog_8_method_32_code 26 = .ok (.iaload, 1) := kz_dr dd_Mo_look_0 16 rfl
theorem d_Mo_look_27 : decode prog_8_method_32_code 27 = .ok (.baload, 1) := kz_dr dd_Mo_look_0 17 rfl
theorem d_Mo_look_28 : decode prog_8_method_32_code 28 = .ok (.iload_n 1, 1) := kz_dr dd_Mo_look_0 18 rfl
theorem d_Mo_look_29 : decode prog_8_method_32_code 29 = .ok (.if_icmp .ne 19, 3) := kz_dr dd_Mo_look_0 19 rfl
theorem d_Mo_look_32 : decode prog_8_method_32_code 32 = .ok (.iload_n 1, 1) := kz_dr dd_Mo_look_0 20 rfl
theorem d_Mo_look_33 : decode prog_8_method_32_code 33 = .ok (.ifCond .eq 11, 3) := kz_dr dd_Mo_look_0 21 rfl
theorem d_Mo_look_36 : decode prog_8_method_32_code 36 = .ok (.aload_n 0, 1) := kz_dr dd_Mo_look_0 22 rfl
theorem d_Mo_look_37 : decode prog_8_method_32_code 37 = .ok (.iload_n 3, 1) := kz_dr dd_Mo_look_0 23 rfl
theorem d_Mo_look_38 : decode prog_8_method_32_code 38 = .ok (.invokevirtual 196, 3) := kz_dr dd_Mo_look_0 24 rfl
theorem d_Mo_look_41 : decode prog_8_method_32_code 41 = .ok (.ifCond .ne 7, 3) := kz_dr dd_Mo_look_0 25 rfl
theorem d_Mo_look_44 : decode prog_8_method_32_code 44 = .ok (.iconst 1, 1) := kz_dr dd_Mo_look_0 26 rfl
theorem d_Mo_look_45 : decode prog_8_method_32_code 45 = .ok (.goto 4, 3) := kz_dr dd_Mo_look_0 27 rfl
theorem d_Mo_look_48 : decode prog_8_method_32_code 48 = .ok (.iconst 0, 1) := kz_dr dd_Mo_look_0 28 rfl
theorem d_Mo_look_49 : decode prog_8_method_32_code 49 = .ok (.bastore, 1) := kz_dr dd_Mo_look_0 29 rfl
theorem d_Mo_look_50 : decode prog_8_method_32_code 50 = .ok (.iload_n 2, 1) := kz_dr dd_Mo_look_0 30 rfl
theorem d_Mo_look_51 : decode prog_8_method_32_code 51 = .ok (.aload_n 0, 1) := kz_dr dd_Mo_look_0 31 rfl
theorem d_Mo_look_52 : decode prog_8_method_32_code 52 = .ok (.getfield 68, 3) := kz_dr dd_Mo_look_0 32 rfl
theorem d_Mo_look_55 : decode prog_8_method_32_code 55 = .ok (.iload_n 3, 1) := kz_dr dd_Mo_look_0 33 rfl
theorem d_Mo_look_56 : decode prog_8_method_32_code 56 = .ok (.baload, 1) := kz_dr dd_Mo_look_0 34 rfl
theorem d_Mo_look_57 : decode prog_8_method_32_code 57 = .ok (.ifCond .eq 7, 3) := kz_dr dd_Mo_look_0 35 rfl
theorem d_Mo_look_60 : decode prog_8_method_32_code 60 = .ok (.iconst 1, 1) := kz_dr dd_Mo_look_0 36 rfl
theorem d_Mo_look_61 : decode prog_8_method_32_code 61 = .ok (.goto 4, 3) := kz_dr dd_Mo_look_0 37 rfl
theorem d_Mo_look_64 : decode prog_8_method_32_code 64 = .ok (.iconst 0, 1) := kz_dr dd_Mo_look_0 38 rfl
theorem d_Mo_look_65 : decode prog_8_method_32_code 65 = .ok (.iadd, 1) := kz_dr dd_Mo_look_0 39 rfl
theorem d_Mo_look_66 : decode prog_8_method_32_code 66 = .ok (.istore_n 2, 1) := kz_dr dd_Mo_look_0 40 rfl
theorem d_Mo_look_67 : decode prog_8_method_32_code 67 = .ok (.iinc 3 1, 3) := kz_dr dd_Mo_look_0 41 rfl
theorem d_Mo_look_70 : decode prog_8_method_32_code 70 = .ok (.goto (-66), 3) := kz_dr dd_Mo_look_0 42 rfl
theorem d_Mo_look_73 : decode prog_8_method_32_code 73 = .ok (.iload_n 2, 1) := kz_dr dd_Mo_look_0 43 rfl
theorem d_Mo_look_74 : decode prog_8_method_32_code 74 = .ok (.ireturn, 1) := kz_dr dd_Mo_look_0 44 rfl
def dl_Mo_isHeld_0 : List (Nat × Instr × Nat) := [(0, .iconst 0, 1), (1, .istore_n 2, 1), (2, .iconst 0, 1), (3, .istore_n 3, 1), (4, .iload_n 3, 1), (5, .iload_n 1, 1), (6, .if_icmp .ge 58, 3), (9, .iload_n 2, 1), (10, .ifCond .ne 42, 3), (13, .aload_n 0, 1), (14, .getfield 40, 3), (17, .aload_n 0, 1), (18, .getfield 62, 3), (21, .iload_n 3, 1), (22, .iaload, 1), (23, .baload, 1), (24, .ifCond .ne 32, 3), (27, .aload_n 0, 1), (28, .getfield 44, 3), (31, .aload_n 0, 1), (32, .getfield 62, 3), (35, .iload_n 3, 1), (36, .iaload, 1), (37, .iaload, 1), (38, .aload_n 0, 1), (39, .getfield 44, 3), (42, .aload_n 0, 1), (43, .getfield 62, 3), (46, .iload_n 1, 1), (47, .iaload, 1), (48, .iaload, 1), (49, .if_icmp .ne 7, 3), (52, .iconst 1, 1), (53, .goto 4, 3), (56, .iconst 0, 1), (57, .istore_n 2, 1), (58, .iinc 3 1, 3), (61, .goto (-57), 3), (64, .iload_n 2, 1), (65, .ireturn, 1)]
theorem dd_Mo_isHeld_0 : dl_Mo_isHeld_0.all (fun e => decide (decode prog_8_method_31_code e.1 = .ok e.2)) = true := by decide +kernel
theorem d_Mo_isHeld_0 : decode prog_8_method_31_code 0 = .ok (.iconst 0, 1) := kz_dr dd_Mo_isHeld_0 0 rfl
theorem d_Mo_isHeld_1 : decode prog_8_method_31_code 1 = .ok (.istore_n 2, 1) := kz_dr dd_Mo_isHeld_0 1 rfl
theorem d_Mo_isHeld_2 : decode prog_8_method_31_code 2 = .ok (.iconst 0, 1) := kz_dr dd_Mo_isHeld_0 2 rfl
theorem d_Mo_isHeld_3 : decode prog_8_method_31_code 3 = .ok (.istore_n 3, 1) := kz_dr dd_Mo_isHeld_0 3 rfl
theorem d_Mo_isHeld_4 : decode prog_8_method_31_code 4 = .ok (.iload_n 3, 1) := kz_dr dd_Mo_isHeld_0 4 rfl
theorem d_Mo_isHeld_5 : decode prog_8_method_31_code 5 = .ok (.iload_n 1, 1) := kz_dr dd_Mo_isHeld_0 5 rfl
theorem d_Mo_isHeld_6 : decode prog_8_method_31_code 6 = .ok (.if_icmp .ge 58, 3) := kz_dr dd_Mo_isHeld_0 6 rfl
theorem d_Mo_isHeld_9 : decode prog_8_method_31_code 9 = .ok (.iload_n 2, 1) := kz_dr dd_Mo_isHeld_0 7 rfl
theorem d_Mo_isHeld_10 : decode prog_8_method_31_code 10 = .ok (.ifCond .ne 42, 3) := kz_dr dd_Mo_isHeld_0 8 rfl
theorem d_Mo_isHeld_13 : decode prog_8_method_31_code 13 = .ok (.aload_n 0, 1) := kz_dr dd_Mo_isHeld_0 9 rfl
theorem d_Mo_isHeld_14 : decode prog_8_method_31_code 14 = .ok (.getfield 40, 3) := kz_dr dd_Mo_isHeld_0 10 rfl
theorem d_Mo_isHeld_17 : decode prog_8_method_31_code 17 = .ok (.aload_n 0, 1) := kz_dr dd_Mo_isHeld_0 11 rfl
theorem d_Mo_isHeld_18 : decode prog_8_method_31_code 18 = .ok (.getfield 62, 3) := kz_dr dd_Mo_isHeld_0 12 rfl
theorem d_Mo_isHeld_21 : decode prog_8_method_31_code 21 = .ok (.iload_n 3, 1) := kz_dr dd_Mo_isHeld_0 13 rfl
theorem d_Mo_isHeld_22 : decode prog_8_method_31_code 22 = .ok (.iaload, 1) := kz_dr dd_Mo_isHeld_0 14 rfl
theorem d_Mo_isHeld_23 : decode prog_8_method_31_code 23 = .ok (.baload, 1) := kz_dr dd_Mo_isHeld_0 15 rfl
theorem d_Mo_isHeld_24 : decode prog_8_method_31_code 24 = .ok (.ifCond .ne 32, 3) := kz_dr dd_Mo_isHeld_0 16 rfl
theorem d_Mo_isHeld_27 : decode prog_8_method_31_code 27 = .ok (.aload_n 0, 1) := kz_dr dd_Mo_isHeld_0 17 rfl
theorem d_Mo_isHeld_28 : decode prog_8_method_31_code 28 = .ok (.getfield 44, 3) := kz_dr dd_Mo_isHeld_0 18 rfl
theorem d_Mo_isHeld_31 : decode prog_8_method_31_code 31 = .ok (.aload_n 0, 1) := kz_dr dd_Mo_isHeld_0 19 rfl
theorem d_Mo_isHeld_32 : decode prog_8_method_31_code 32 = .ok (.getfield 62, 3) := kz_dr dd_Mo_isHeld_0 20 rfl
theorem d_Mo_isHeld_35 : decode prog_8_method_31_code 35 = .ok (.iload_n 3, 1) := kz_dr dd_Mo_isHeld_0 21 rfl
theorem d_Mo_isHeld_36 : decode prog_8_method_31_code 36 = .ok (.iaload, 1) := kz_dr dd_Mo_isHeld_0 22 rfl
theorem d_Mo_isHeld_37 : decode prog_8_method_31_code 37 = .ok (.iaload, 1) := kz_dr dd_Mo_isHeld_0 23 rfl
theorem d_Mo_isHeld_38 : decode prog_8_method_31_code 38 = .ok (.aload_n 0, 1) := kz_dr dd_Mo_isHeld_0 24 rfl
theorem d_Mo_isHeld_39 : decode prog_8_method_31_code 39 = .ok (.getfield 44, 3) := kz_dr dd_Mo_isHeld_0 25 rfl
theorem d_Mo_isHeld_42 : decode prog_8_method_31_code 42 = .ok (.aload_n 0, 1) := kz_dr dd_Mo_isHeld_0 26 rfl
theorem d_Mo_isHeld_43 : decode prog_8_method_31_code 43 = .ok (.getfield 62, 3) := kz_dr dd_Mo_isHeld_0 27 rfl
theorem d_Mo_isHeld_46 : decode prog_8_method_31_code 46 = .ok (.iload_n 1, 1) := kz_dr dd_Mo_isHeld_0 28 rfl
theorem d_Mo_isHeld_47 : decode prog_8_method_31_code 47 = .ok (.iaload, 1) := kz_dr dd_Mo_isHeld_0 29 rfl
theorem d_Mo_isHeld_48 : decode prog_8_method_31_code 48 = .ok (.iaload, 1) := kz_dr dd_Mo_isHeld_0 30 rfl
theorem d_Mo_isHeld_49 : decode prog_8_method_31_code 49 = .ok (.if_icmp .ne 7, 3) := kz_dr dd_Mo_isHeld_0 31 rfl
theorem d_Mo_isHeld_52 : decode prog_8_method_31_code 52 = .ok (.iconst 1, 1) := kz_dr dd_Mo_isHeld_0 32 rfl
theorem d_Mo_isHeld_53 : decode prog_8_method_31_code 53 = .ok (.goto 4, 3) := kz_dr dd_Mo_isHeld_0 33 rfl
theorem d_Mo_isHeld_56 : decode prog_8_method_31_code 56 = .ok (.iconst 0, 1) := kz_dr dd_Mo_isHeld_0 34 rfl
theorem d_Mo_isHeld_57 : decode prog_8_method_31_code 57 = .ok (.istore_n 2, 1) := kz_dr dd_Mo_isHeld_0 35 rfl
theorem d_Mo_isHeld_58 : decode prog_8_method_31_code 58 = .ok (.iinc 3 1, 3) := kz_dr dd_Mo_isHeld_0 36 rfl
theorem d_Mo_isHeld_61 : decode prog_8_method_31_code 61 = .ok (.goto (-57), 3) := kz_dr dd_Mo_isHeld_0 37 rfl
theorem d_Mo_isHeld_64 : decode prog_8_method_31_code 64 = .ok (.iload_n 2, 1) := kz_dr dd_Mo_isHeld_0 38 rfl
theorem d_Mo_isHeld_65 : decode prog_8_method_31_code 65 = .ok (.ireturn, 1) := kz_dr dd_Mo_isHeld_0 39 rfl
def dl_Mo_capped_0 : List (Nat × Instr × Nat) := [(0, .aload_n 0, 1), (1, .invokevirtual 199, 3), (4, .istore_n 1, 1), (5, .iload_n 1, 1), (6, .ifCond .lt 26, 3), (9, .aload_n 0, 1), (10, .getfield 96, 3), (13, .aload_n 0, 1), (14, .getfield 47, 3), (17, .aload_n 0, 1), (18, .getfield 62, 3), (21, .iload_n 1, 1), (22, .iaload, 1), (23, .iaload, 1), (24, .isub, 1), (25, .aload_n 0, 1), (26, .getfield 89, 3), (29, .if_icmp .gt 4, 3), (32, .return_, 1), (33, .iload_n 1, 1), (34, .iconst 1, 1), (35, .iadd, 1), (36, .istore_n 2, 1), (37, .iload_n 2, 1), (38, .aload_n 0, 1), (39, .getfield 134, 3), (42, .if_icmp .ge 16, 3), (45, .aload_n 0, 1), (46, .getfield 68, 3), (49, .iload_n 2, 1), (50, .iconst 0, 1), (51, .bastore, 1), (52, .iinc 2 1, 3), (55, .goto (-18), 3), (58, .return_, 1)]
theorem dd_Mo_capped_0 : dl_Mo_capped_0.all (fun e => decide (decode prog_8_method_34_code e.1 = .ok e.2)) = true := by decide +kernel
theorem d_Mo_capped_0 : decode prog_8_method_34_code 0 = .ok (.aload_n 0, 1) := kz_dr dd_Mo_capped_0 0 rfl
theorem d_Mo_capped_1 : decode prog_8_method_34_code 1 = .ok (.invokevirtual 199, 3) := kz_dr dd_Mo_capped_0 1 rfl
theorem d_Mo_capped_4 : decode prog_8_method_34_code 4 = .ok (.istore_n 1, 1) := kz_dr dd_Mo_capped_0 2 rfl
theorem d_Mo_capped_5 : decode prog_8_method_34_code 5 = .ok (.iload_n 1, 1) := kz_dr dd_Mo_capped_0 3 rfl
theorem d_Mo_capped_6 : decode prog_8_method_34_code 6 = .ok (.ifCond .lt 26, 3) := kz_dr dd_Mo_capped_0 4 rfl
theorem d_Mo_capped_9 : decode prog_8_method_34_code 9 = .ok (.aload_n 0, 1) := kz_dr dd_Mo_capped_0 5 rfl
theorem d_Mo_capped_10 : decode prog_8_method_34_code 10 = .ok (.getfield 96, 3) := kz_dr dd_Mo_capped_0 6 rfl
theorem d_Mo_capped_13 : decode prog_8_method_34_code 13 = .ok (.aload_n 0, 1) := kz_dr dd_Mo_capped_0 7 rfl
theorem d_Mo_capped_14 : decode prog_8_method_34_code 14 = .ok (.getfield 47, 3) := kz_dr dd_Mo_capped_0 8 rfl
theorem d_Mo_capped_17 : decode prog_8_method_34_code 17 = .ok (.aload_n 0, 1) := kz_dr dd_Mo_capped_0 9 rfl
theorem d_Mo_capped_18 : decode prog_8_method_34_code 18 = .ok (.getfield 62, 3) := kz_dr dd_Mo_capped_0 10 rfl
theorem d_Mo_capped_21 : decode prog_8_method_34_code 21 = .ok (.iload_n 1, 1) := kz_dr dd_Mo_capped_0 11 rfl
theorem d_Mo_capped_22 : decode prog_8_method_34_code 22 = .ok (.iaload, 1) := kz_dr dd_Mo_capped_0 12 rfl
theorem d_Mo_capped_23 : decode prog_8_method_34_code 23 = .ok (.iaload, 1) := kz_dr dd_Mo_capped_0 13 rfl
theorem d_Mo_capped_24 : decode prog_8_method_34_code 24 = .ok (.isub, 1) := kz_dr dd_Mo_capped_0 14 rfl
theorem d_Mo_capped_25 : decode prog_8_method_34_code 25 = .ok (.aload_n 0, 1) := kz_dr dd_Mo_capped_0 15 rfl
theorem d_Mo_capped_26 : decode prog_8_method_34_code 26 = .ok (.getfield 89, 3) := kz_dr dd_Mo_capped_0 16 rfl
theorem d_Mo_capped_29 : decode prog_8_method_34_code 29 = .ok (.if_icmp .gt 4, 3) := kz_dr dd_Mo_capped_0 17 rfl
theorem d_Mo_capped_32 : decode prog_8_method_34_code 32 = .ok (.return_, 1) := kz_dr dd_Mo_capped_0 18 rfl
theorem d_Mo_capped_33 : decode prog_8_method_34_code 33 = .ok (.iload_n 1, 1) := kz_dr dd_Mo_capped_0 19 rfl
theorem d_Mo_capped_34 : decode prog_8_method_34_code 34 = .ok (.iconst 1, 1) := kz_dr dd_Mo_capped_0 20 rfl
theorem d_Mo_capped_35 : decode prog_8_method_34_code 35 = .ok (.iadd, 1) := kz_dr dd_Mo_capped_0 21 rfl
theorem d_Mo_capped_36 : decode prog_8_method_34_code 36 = .ok (.istore_n 2, 1) := kz_dr dd_Mo_capped_0 22 rfl
theorem d_Mo_capped_37 : decode prog_8_method_34_code 37 = .ok (.iload_n 2, 1) := kz_dr dd_Mo_capped_0 23 rfl
theorem d_Mo_capped_38 : decode prog_8_method_34_code 38 = .ok (.aload_n 0, 1) := kz_dr dd_Mo_capped_0 24 rfl
theorem d_Mo_capped_39 : decode prog_8_method_34_code 39 = .ok (.getfield 134, 3) := kz_dr dd_Mo_capped_0 25 rfl
theorem d_Mo_capped_42 : decode prog_8_method_34_code 42 = .ok (.if_icmp .ge 16, 3) := kz_dr dd_Mo_capped_0 26 rfl
theorem d_Mo_capped_45 : decode prog_8_method_34_code 45 = .ok (.aload_n 0, 1) := kz_dr dd_Mo_capped_0 27 rfl
theorem d_Mo_capped_46 : decode prog_8_method_34_code 46 = .ok (.getfield 68, 3) := kz_dr dd_Mo_capped_0 28 rfl
theorem d_Mo_capped_49 : decode prog_8_method_34_code 49 = .ok (.iload_n 2, 1) := kz_dr dd_Mo_capped_0 29 rfl
theorem d_Mo_capped_50 : decode prog_8_method_34_code 50 = .ok (.iconst 0, 1) := kz_dr dd_Mo_capped_0 30 rfl
theorem d_Mo_capped_51 : decode prog_8_method_34_code 51 = .ok (.bastore, 1) := kz_dr dd_Mo_capped_0 31 rfl
theorem d_Mo_capped_52 : decode prog_8_method_34_code 52 = .ok (.iinc 2 1, 3) := kz_dr dd_Mo_capped_0 32 rfl
theorem d_Mo_capped_55 : decode prog_8_method_34_code 55 = .ok (.goto (-18), 3) := kz_dr dd_Mo_capped_0 33 rfl
theorem d_Mo_capped_58 : decode prog_8_method_34_code 58 = .ok (.return_, 1) := kz_dr dd_Mo_capped_0 34 rfl
def dl_Mo_oldest_0 : List (Nat × Instr × Nat) := [(0, .iconst 0, 1), (1, .istore_n 1, 1), (2, .iload_n 1, 1), (3, .aload_n 0, 1), (4, .getfield 134, 3), (7, .if_icmp .ge 18, 3), (10, .aload_n 0, 1), (11, .getfield 68, 3), (14, .iload_n 1, 1), (15, .baload, 1), (16, .ifCond .ne 9, 3), (19, .iinc 1 1, 3), (22, .goto (-20), 3), (25, .iload_n 1, 1), (26, .aload_n 0, 1), (27, .getfield 134, 3), (30, .if_icmp .ge 7, 3), (33, .iload_n 1, 1), (34, .goto 4, 3), (37, .iconst (-1), 1), (38, .ireturn, 1)]
theorem dd_Mo_oldest_0 : dl_Mo_oldest_0.all (fun e => decide (decode prog_8_method_33_code e.1 = .ok e.2)) = true := by decide +kernel
theorem d_Mo_oldest_0 : decode prog_8_method_33_code 0 = .ok (.iconst 0, 1) := kz_dr dd_Mo_oldest_0 0 rfl
theorem d_Mo_oldest_1 : decode prog_8_method_33_code 1 = .ok (.istore_n 1, 1) := kz_dr dd_Mo_oldest_0 1 rfl
theorem d_Mo_oldest_2 : decode prog_8_method_33_code 2 = .ok (.iload_n 1, 1) := kz_dr dd_Mo_oldest_0 2 rfl
theorem d_Mo_oldest_3 : decode prog_8_method_33_code 3 = .ok (.aload_n 0, 1) := kz_dr dd_Mo_oldest_0 3 rfl
theorem d_Mo_oldest_4 : decode prog_8_method_33_code 4 = .ok (.getfield 134, 3) := kz_dr dd_Mo_oldest_0 4 rfl
theorem d_Mo_oldest_7 : decode prog_8_method_33_code 7 = .ok (.if_icmp .ge 18, 3) := kz_dr dd_Mo_oldest_0 5 rfl
theorem d_Mo_oldest_10 : decode prog_8_method_33_code 10 = .ok (.aload_n 0, 1) := kz_dr dd_Mo_oldest_0 6 rfl
theorem d_Mo_oldest_11 : decode prog_8_method_33_code 11 = .ok (.getfield 68, 3) := kz_dr dd_Mo_oldest_0 7 rfl
theorem d_Mo_oldest_14 : decode prog_8_method_33_code 14 = .ok (.iload_n 1, 1) := kz_dr dd_Mo_oldest_0 8 rfl
theorem d_Mo_oldest_15 : decode prog_8_method_33_code 15 = .ok (.baload, 1) := kz_dr dd_Mo_oldest_0 9 rfl
theorem d_Mo_oldest_16 : decode prog_8_method_33_code 16 = .ok (.ifCond .ne 9, 3) := kz_dr dd_Mo_oldest_0 10 rfl
theorem d_Mo_oldest_19 : decode prog_8_method_33_code 19 = .ok (.iinc 1 1, 3) := kz_dr dd_Mo_oldest_0 11 rfl
theorem d_Mo_oldest_22 : decode prog_8_method_33_code 22 = .ok (.goto (-20), 3) := kz_dr dd_Mo_oldest_0 12 rfl
theorem d_Mo_oldest_25 : decode prog_8_method_33_code 25 = .ok (.iload_n 1, 1) := kz_dr dd_Mo_oldest_0 13 rfl
theorem d_Mo_oldest_26 : decode prog_8_method_33_code 26 = .ok (.aload_n 0, 1) := kz_dr dd_Mo_oldest_0 14 rfl
theorem d_Mo_oldest_27 : decode prog_8_method_33_code 27 = .ok (.getfield 134, 3) := kz_dr dd_Mo_oldest_0 15 rfl
theorem d_Mo_oldest_30 : decode prog_8_method_33_code 30 = .ok (.if_icmp .ge 7, 3) := kz_dr dd_Mo_oldest_0 16 rfl
theorem d_Mo_oldest_33 : decode prog_8_method_33_code 33 = .ok (.iload_n 1, 1) := kz_dr dd_Mo_oldest_0 17 rfl
theorem d_Mo_oldest_34 : decode prog_8_method_33_code 34 = .ok (.goto 4, 3) := kz_dr dd_Mo_oldest_0 18 rfl
theorem d_Mo_oldest_37 : decode prog_8_method_33_code 37 = .ok (.iconst (-1), 1) := kz_dr dd_Mo_oldest_0 19 rfl
theorem d_Mo_oldest_38 : decode prog_8_method_33_code 38 = .ok (.ireturn, 1) := kz_dr dd_Mo_oldest_0 20 rfl
def dl_Mo_quick_0 : List (Nat × Instr × Nat) := [(0, .iconst (-1), 1), (1, .istore_n 1, 1), (2, .aload_n 0, 1), (3, .getfield 134, 3), (6, .iconst 1, 1), (7, .isub, 1), (8, .istore_n 2, 1), (9, .iload_n 2, 1), (10, .ifCond .lt 86, 3), (13, .aload_n 0, 1), (14, .getfield 44, 3), (17, .aload_n 0, 1), (18, .getfield 62, 3), (21, .iload_n 2, 1), (22, .iaload, 1), (23, .iaload, 1), (24, .istore_n 3, 1), (25, .aload_n 0, 1), (26, .getfield 68, 3), (29, .iload_n 2, 1), (30, .baload, 1), (31, .ifCond .eq 45, 3), (34, .aload_n 0, 1), (35, .getfield 20, 3), (38, .iload_n 3, 1), (39, .invokestatic 167, 3), (42, .iaload, 1), (43, .iload_n 3, 1), (44, .invokestatic 203, 3), (47, .if_icmp .ne 29, 3), (50, .aload_n 0, 1), (51, .iload_n 3, 1), (52, .invokestatic 167, 3), (55, .aload_n 0, 1), (56, .getfield 40, 3), (59, .aload_n 0, 1), (60, .getfield 62, 3), (63, .iload_n 2, 1), (64, .iaload, 1), (65, .baload, 1), (66, .invokevirtual 210, 3), (69, .ifCond .eq 7, 3), (72, .iconst 1, 1), (73, .goto 4, 3), (76, .iconst 0, 1), (77, .istore 4, 2), (79, .iload 4, 2), (81, .ifCond .eq 7, 3), (84, .iload_n 2, 1), (85, .goto 4, 3), (88, .iload_n 1, 1), (89, .istore_n 1, 1), (90, .iinc 2 (-1), 3), (93, .goto (-84), 3), (96, .iload_n 1, 1), (97, .ireturn, 1)]
theorem dd_Mo_quick_0 : dl_Mo_quick_0.all (fun e => decide (decode prog_8_method_37_code e.1 = .ok e.2)) = true := by decide +kernel
theorem d_Mo_quick_0 : decode prog_8_method_37_code 0 = .ok (.iconst (-1), 1) := kz_dr dd_Mo_quick_0 0 rfl
theorem d_Mo_quick_1 : decode prog_8_method_37_code 1 = .ok (.istore_n 1, 1) := kz_dr dd_Mo_quick_0 1 rfl
theorem d_Mo_quick_2 : decode prog_8_method_37_code 2 = .ok (.aload_n 0, 1) := kz_dr dd_Mo_quick_0 2 rfl
theorem d_Mo_quick_3 : decode prog_8_method_37_code 3 = .ok (.getfield 134, 3) := kz_dr dd_Mo_quick_0 3 rfl
theorem d_Mo_quick_6 : decode prog_8_method_37_code 6 = .ok (.iconst 1, 1) := kz_dr dd_Mo_quick_0 4 rfl
theorem d_Mo_quick_7 : decode prog_8_method_37_code 7 = .ok (.isub, 1) := kz_dr dd_Mo_quick_0 5 rfl
theorem d_Mo_quick_8 : decode prog_8_method_37_code 8 = .ok (.istore_n 2, 1) := kz_dr dd_Mo_quick_0 6 rfl
theorem d_Mo_quick_9 : decode prog_8_method_37_code 9 = .ok (.iload_n 2, 1) := kz_dr dd_Mo_quick_0 7 rfl
theorem d_Mo_quick_10 : decode prog_8_method_37_code 10 = .ok (.ifCond .lt 86, 3) := kz_dr dd_Mo_quick_0 8 rfl
theorem d_Mo_quick_13 : decode prog_8_method_37_code 13 = .ok (.aload_n 0, 1) := kz_dr dd_Mo_quick_0 9 rfl
theorem d_Mo_quick_14 : decode prog_8_method_37_code 14 = .ok (.getfield 44, 3) := kz_dr dd_Mo_quick_0 10 rfl
theorem d_Mo_quick_17 : decode prog_8_method_37_code 17 = .ok (.aload_n 0, 1) := kz_dr dd_Mo_quick_0 11 rfl
theorem d_Mo_quick_18 : decode prog_8_method_37_code 18 = .ok (.getfield 62, 3) := kz_dr dd_Mo_quick_0 12 rfl
theorem d_Mo_quick_21 : decode prog_8_method_37_code 21 = .ok (.iload_n 2, 1) := kz_dr dd_Mo_quick_0 13 rfl
theorem d_Mo_quick_22 : decode prog_8_method_37_code 22 = .ok (.iaload, 1) := kz_dr dd_Mo_quick_0 14 rfl
theorem d_Mo_quick_23 : decode prog_8_method_37_code 23 = .ok (.iaload, 1) := kz_dr dd_Mo_quick_0 15 rfl
theorem d_Mo_quick_24 : decode prog_8_method_37_code 24 = .ok (.istore_n 3, 1) := kz_dr dd_Mo_quick_0 16 rfl
theorem d_Mo_quick_25 : decode prog_8_method_37_code 25 = .ok (.aload_n 0, 1) := kz_dr dd_Mo_quick_0 17 rfl
theorem d_Mo_quick_26 : decode prog_8_method_37_code 26 = .ok (.getfield 68, 3) := kz_dr dd_Mo_quick_0 18 rfl
theorem d_Mo_quick_29 : decode prog_8_method_37_code 29 = .ok (.iload_n 2, 1) := kz_dr dd_Mo_quick_0 19 rfl
theorem d_Mo_quick_30 : decode prog_8_method_37_code 30 = .ok (.baload, 1) := kz_dr dd_Mo_quick_0 20 rfl
theorem d_Mo_quick_31 : decode prog_8_method_37_code 31 = .ok (.ifCond .eq 45, 3) := kz_dr dd_Mo_quick_0 21 rfl
theorem d_Mo_quick_34 : decode prog_8_method_37_code 34 = .ok (.aload_n 0, 1) := kz_dr dd_Mo_quick_0 22 rfl
theorem d_Mo_quick_35 : decode prog_8_method_37_code 35 = .ok (.getfield 20, 3) := kz_dr dd_Mo_quick_0 23 rfl
theorem d_Mo_quick_38 : decode prog_8_method_37_code 38 = .ok (.iload_n 3, 1) := kz_dr dd_Mo_quick_0 24 rfl
theorem d_Mo_quick_39 : decode prog_8_method_37_code 39 = .ok (.invokestatic 167, 3) := kz_dr dd_Mo_quick_0 25 rfl
theorem d_Mo_quick_42 : decode prog_8_method_37_code 42 = .ok (.iaload, 1) := kz_dr dd_Mo_quick_0 26 rfl
theorem d_Mo_quick_43 : decode prog_8_method_37_code 43 = .ok (.iload_n 3, 1) := kz_dr dd_Mo_quick_0 27 rfl
theorem d_Mo_quick_44 : decode prog_8_method_37_code 44 = .ok (.invokestatic 203, 3) := kz_dr dd_Mo_quick_0 28 rfl
theorem d_Mo_quick_47 : decode prog_8_method_37_code 47 = .ok (.if_icmp .ne 29, 3) := kz_dr dd_Mo_quick_0 29 rfl
theorem d_Mo_quick_50 : decode prog_8_method_37_code 50 = .ok (.aload_n 0, 1) := kz_dr dd_Mo_quick_0 30 rfl
theorem d_Mo_quick_51 : decode prog_8_method_37_code 51 = .ok (.iload_n 3, 1) := kz_dr dd_Mo_quick_0 31 rfl
theorem d_Mo_quick_52 : decode prog_8_method_37_code 52 = .ok (.invokestatic 167, 3) := kz_dr dd_Mo_quick_0 32 rfl
theorem d_Mo_quick_55 : decode prog_8_method_37_code 55 = .ok (.aload_n 0, 1) := kz_dr dd_Mo_quick_0 33 rfl
theorem d_Mo_quick_56 : decode prog_8_method_37_code 56 = .ok (.getfield 40, 3) := kz_dr dd_Mo_quick_0 34 rfl
theorem d_Mo_quick_59 : decode prog_8_method_37_code 59 = .ok (.aload_n 0, 1) := kz_dr dd_Mo_quick_0 35 rfl
theorem d_Mo_quick_60 : decode prog_8_method_37_code 60 = .ok (.getfield 62, 3) := kz_dr dd_Mo_quick_0 36 rfl
theorem d_Mo_quick_63 : decode prog_8_method_37_code 63 = .ok (.iload_n 2, 1) := kz_dr dd_Mo_quick_0 37 rfl
theorem d_Mo_quick_64 : decode prog_8_method_37_code 64 = .ok (.iaload, 1) := kz_dr dd_Mo_quick_0 38 rfl
theorem d_Mo_quick_65 : decode prog_8_method_37_code 65 = .ok (.baload, 1) := kz_dr dd_Mo_quick_0 39 rfl
theorem d_Mo_quick_66 : decode prog_8_method_37_code 66 = .ok (.invokevirtual 210, 3) := kz_dr dd_Mo_quick_0 40 rfl
theorem d_Mo_quick_69 : decode prog_8_method_37_code 69 = .ok (.ifCond .eq 7, 3) := kz_dr dd_Mo_quick_0 41 rfl
theorem d_Mo_quick_72 : decode prog_8_method_37_code 72 = .ok (.iconst 1, 1) := kz_dr dd_Mo_quick_0 42 rfl
theorem d_Mo_quick_73 : decode prog_8_method_37_code 73 = .ok (.goto 4, 3) := kz_dr dd_Mo_quick_0 43 rfl
theorem d_Mo_quick_76 : decode prog_8_method_37_code 76 = .ok (.iconst 0, 1) := kz_dr dd_Mo_quick_0 44 rfl
theorem d_Mo_quick_77 : decode prog_8_method_37_code 77 = .ok (.istore 4, 2) := kz_dr dd_Mo_quick_0 45 rfl
theorem d_Mo_quick_79 : decode prog_8_method_37_code 79 = .ok (.iload 4, 2) := kz_dr dd_Mo_quick_0 46 rfl
theorem d_Mo_quick_81 : decode prog_8_method_37_code 81 = .ok (.ifCond .eq 7, 3) := kz_dr dd_Mo_quick_0 47 rfl
theorem d_Mo_quick_84 : decode prog_8_method_37_code 84 = .ok (.iload_n 2, 1) := kz_dr dd_Mo_quick_0 48 rfl
theorem d_Mo_quick_85 : decode prog_8_method_37_code 85 = .ok (.goto 4, 3) := kz_dr dd_Mo_quick_0 49 rfl
theorem d_Mo_quick_88 : decode prog_8_method_37_code 88 = .ok (.iload_n 1, 1) := kz_dr dd_Mo_quick_0 50 rfl
theorem d_Mo_quick_89 : decode prog_8_method_37_code 89 = .ok (.istore_n 1, 1) := kz_dr dd_Mo_quick_0 51 rfl
theorem d_Mo_quick_90 : decode prog_8_method_37_code 90 = .ok (.iinc 2 (-1), 3) := kz_dr dd_Mo_quick_0 52 rfl
theorem d_Mo_quick_93 : decode prog_8_method_37_code 93 = .ok (.goto (-84), 3) := kz_dr dd_Mo_quick_0 53 rfl
theorem d_Mo_quick_96 : decode prog_8_method_37_code 96 = .ok (.iload_n 1, 1) := kz_dr dd_Mo_quick_0 54 rfl
theorem d_Mo_quick_97 : decode prog_8_method_37_code 97 = .ok (.ireturn, 1) := kz_dr dd_Mo_quick_0 55 rfl
