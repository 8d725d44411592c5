/-! decode rows, by program (wip/whole/names.py) -/
def dl_Li_clear_0 : List (Nat × Instr × Nat) := [(0, .aload_n 0, 1), (1, .iconst 0, 1), (2, .putfield 15, 3), (5, .return_, 1)]
theorem dd_Li_clear_0 : dl_Li_clear_0.all (fun e => decide (decode prog_4_method_7_code e.1 = .ok e.2)) = true := by decide +kernel
theorem d_Li_clear_0 : decode prog_4_method_7_code 0 = .ok (.aload_n 0, 1) := kz_dr dd_Li_clear_0 0 rfl
theorem d_Li_clear_1 : decode prog_4_method_7_code 1 = .ok (.iconst 0, 1) := kz_dr dd_Li_clear_0 1 rfl
theorem d_Li_clear_2 : decode prog_4_method_7_code 2 = .ok (.putfield 15, 3) := kz_dr dd_Li_clear_0 2 rfl
theorem d_Li_clear_5 : decode prog_4_method_7_code 5 = .ok (.return_, 1) := kz_dr dd_Li_clear_0 3 rfl
def dl_Bk_lookAtWritings_0 : List (Nat × Instr × Nat) := [(0, .iconst 0, 1), (1, .istore_n 1, 1), (2, .iload_n 1, 1), (3, .aload_n 0, 1), (4, .getfield 53, 3), (7, .invokevirtual 81, 3), (10, .if_icmp .ge 39, 3), (13, .aload_n 0, 1), (14, .aload_n 0, 1), (15, .getfield 53, 3), (18, .iload_n 1, 1), (19, .invokevirtual 151, 3), (22, .invokevirtual 226, 3), (25, .ifCond .ne 18, 3), (28, .aload_n 0, 1), (29, .getfield 56, 3), (32, .aload_n 0, 1), (33, .getfield 53, 3), (36, .iload_n 1, 1), (37, .invokevirtual 151, 3), (40, .invokevirtual 93, 3), (43, .iinc 1 1, 3), (46, .goto (-44), 3), (49, .return_, 1)]
theorem dd_Bk_lookAtWritings_0 : dl_Bk_lookAtWritings_0.all (fun e => decide (decode prog_1_method_28_code e.1 = .ok e.2)) = true := by decide +kernel
theorem d_Bk_lookAtWritings_0 : decode prog_1_method_28_code 0 = .ok (.iconst 0, 1) := kz_dr dd_Bk_lookAtWritings_0 0 rfl
theorem d_Bk_lookAtWritings_1 : decode prog_1_method_28_code 1 = .ok (.istore_n 1, 1) := kz_dr dd_Bk_lookAtWritings_0 1 rfl
theorem d_Bk_lookAtWritings_2 : decode prog_1_method_28_code 2 = .ok (.iload_n 1, 1) := kz_dr dd_Bk_lookAtWritings_0 2 rfl
theorem d_Bk_lookAtWritings_3 : decode prog_1_method_28_code 3 = .ok (.aload_n 0, 1) := kz_dr dd_Bk_lookAtWritings_0 3 rfl
theorem d_Bk_lookAtWritings_4 : decode prog_1_method_28_code 4 = .ok (.getfield 53, 3) := kz_dr dd_Bk_lookAtWritings_0 4 rfl
theorem d_Bk_lookAtWritings_7 : decode prog_1_method_28_code 7 = .ok (.invokevirtual 81, 3) := kz_dr dd_Bk_lookAtWritings_0 5 rfl
theorem d_Bk_lookAtWritings_10 : decode prog_1_method_28_code 10 = .ok (.if_icmp .ge 39, 3) := kz_dr dd_Bk_lookAtWritings_0 6 rfl
theorem d_Bk_lookAtWritings_13 : decode prog_1_method_28_code 13 = .ok (.aload_n 0, 1) := kz_dr dd_Bk_lookAtWritings_0 7 rfl
theorem d_Bk_lookAtWritings_14 : decode prog_1_method_28_code 14 = .ok (.aload_n 0, 1) := kz_dr dd_Bk_lookAtWritings_0 8 rfl
theorem d_Bk_lookAtWritings_15 : decode prog_1_method_28_code 15 = .ok (.getfield 53, 3) := kz_dr dd_Bk_lookAtWritings_0 9 rfl
theorem d_Bk_lookAtWritings_18 : decode prog_1_method_28_code 18 = .ok (.iload_n 1, 1) := kz_dr dd_Bk_lookAtWritings_0 10 rfl
theorem d_Bk_lookAtWritings_19 : decode prog_1_method_28_code 19 = .ok (.invokevirtual 151, 3) := kz_dr dd_Bk_lookAtWritings_0 11 rfl
theorem d_Bk_lookAtWritings_22 : decode prog_1_method_28_code 22 = .ok (.invokevirtual 226, 3) := kz_dr dd_Bk_lookAtWritings_0 12 rfl
theorem d_Bk_lookAtWritings_25 : decode prog_1_method_28_code 25 = .ok (.ifCond .ne 18, 3) := kz_dr dd_Bk_lookAtWritings_0 13 rfl
theorem d_Bk_lookAtWritings_28 : decode prog_1_method_28_code 28 = .ok (.aload_n 0, 1) := kz_dr dd_Bk_lookAtWritings_0 14 rfl
theorem d_Bk_lookAtWritings_29 : decode prog_1_method_28_code 29 = .ok (.getfield 56, 3) := kz_dr dd_Bk_lookAtWritings_0 15 rfl
theorem d_Bk_lookAtWritings_32 : decode prog_1_method_28_code 32 = .ok (.aload_n 0, 1) := kz_dr dd_Bk_lookAtWritings_0 16 rfl
theorem d_Bk_lookAtWritings_33 : decode prog_1_method_28_code 33 = .ok (.getfield 53, 3) := kz_dr dd_Bk_lookAtWritings_0 17 rfl
theorem d_Bk_lookAtWritings_36 : decode prog_1_method_28_code 36 = .ok (.iload_n 1, 1) := kz_dr dd_Bk_lookAtWritings_0 18 rfl
theorem d_Bk_lookAtWritings_37 : decode prog_1_method_28_code 37 = .ok (.invokevirtual 151, 3) := kz_dr dd_Bk_lookAtWritings_0 19 rfl
theorem d_Bk_lookAtWritings_40 : decode prog_1_method_28_code 40 = .ok (.invokevirtual 93, 3) := kz_dr dd_Bk_lookAtWritings_0 20 rfl
theorem d_Bk_lookAtWritings_43 : decode prog_1_method_28_code 43 = .ok (.iinc 1 1, 3) := kz_dr dd_Bk_lookAtWritings_0 21 rfl
theorem d_Bk_lookAtWritings_46 : decode prog_1_method_28_code 46 = .ok (.goto (-44), 3) := kz_dr dd_Bk_lookAtWritings_0 22 rfl
theorem d_Bk_lookAtWritings_49 : decode prog_1_method_28_code 49 = .ok (.return_, 1) := kz_dr dd_Bk_lookAtWritings_0 23 rfl
def dl_Bk_isHeld_0 : List (Nat × Instr × Nat) := [(0, .aload_n 0, 1), (1, .getfield 42, 3), (4, .iload_n 1, 1), (5, .invokevirtual 154, 3), (8, .istore_n 2, 1), (9, .iconst 0, 1), (10, .istore_n 3, 1), (11, .iload_n 3, 1), (12, .aload_n 0, 1), (13, .getfield 49, 3), (16, .invokevirtual 81, 3), (19, .if_icmp .ge 40, 3), (22, .aload_n 0, 1), (23, .getfield 49, 3), (26, .iload_n 3, 1), (27, .invokevirtual 151, 3), (30, .istore 4, 2), (32, .iload 4, 2), (34, .iload_n 1, 1), (35, .if_icmp .ge 18, 3), (38, .aload_n 0, 1), (39, .getfield 42, 3), (42, .iload 4, 2), (44, .invokevirtual 154, 3), (47, .iload_n 2, 1), (48, .if_icmp .ne 5, 3), (51, .iconst 1, 1), (52, .ireturn, 1), (53, .iinc 3 1, 3), (56, .goto (-45), 3), (59, .iconst 0, 1), (60, .ireturn, 1)]
theorem dd_Bk_isHeld_0 : dl_Bk_isHeld_0.all (fun e => decide (decode prog_1_method_29_code e.1 = .ok e.2)) = true := by decide +kernel
theorem d_Bk_isHeld_0 : decode prog_1_method_29_code 0 = .ok (.aload_n 0, 1) := kz_dr dd_Bk_isHeld_0 0 rfl
theorem d_Bk_isHeld_1 : decode prog_1_method_29_code 1 = .ok (.getfield 42, 3) := kz_dr dd_Bk_isHeld_0 1 rfl
theorem d_Bk_isHeld_4 : decode prog_1_method_29_code 4 = .ok (.iload_n 1, 1) := kz_dr dd_Bk_isHeld_0 2 rfl
theorem d_Bk_isHeld_5 : decode prog_1_method_29_code 5 = .ok (.invokevirtual 154, 3) := kz_dr dd_Bk_isHeld_0 3 rfl
theorem d_Bk_isHeld_8 : decode prog_1_method_29_code 8 = .ok (.istore_n 2, 1) := kz_dr dd_Bk_isHeld_0 4 rfl
theorem d_Bk_isHeld_9 : decode prog_1_method_29_code 9 = .ok (.iconst 0, 1) := kz_dr dd_Bk_isHeld_0 5 rfl
theorem d_Bk_isHeld_10 : decode prog_1_method_29_code 10 = .ok (.istore_n 3, 1) := kz_dr dd_Bk_isHeld_0 6 rfl
theorem d_Bk_isHeld_11 : decode prog_1_method_29_code 11 = .ok (.iload_n 3, 1) := kz_dr dd_Bk_isHeld_0 7 rfl
theorem d_Bk_isHeld_12 : decode prog_1_method_29_code 12 = .ok (.aload_n 0, 1) := kz_dr dd_Bk_isHeld_0 8 rfl
theorem d_Bk_isHeld_13 : decode prog_1_method_29_code 13 = .ok (.getfield 49, 3) := kz_dr dd_Bk_isHeld_0 9 rfl
theorem d_Bk_isHeld_16 : decode prog_1_method_29_code 16 = .ok (.invokevirtual 81, 3) := kz_dr dd_Bk_isHeld_0 10 rfl
theorem d_Bk_isHeld_19 : decode prog_1_method_29_code 19 = .ok (.if_icmp .ge 40, 3) := kz_dr dd_Bk_isHeld_0 11 rfl
theorem d_Bk_isHeld_22 : decode prog_1_method_29_code 22 = .ok (.aload_n 0, 1) := kz_dr dd_Bk_isHeld_0 12 rfl
theorem d_Bk_isHeld_23 : decode prog_1_method_29_code 23 = .ok (.getfield 49, 3) := kz_dr dd_Bk_isHeld_0 13 rfl
theorem d_Bk_isHeld_26 : decode prog_1_method_29_code 26 = .ok (.iload_n 3, 1) := kz_dr dd_Bk_isHeld_0 14 rfl
theorem d_Bk_isHeld_27 : decode prog_1_method_29_code 27 = .ok (.invokevirtual 151, 3) := kz_dr dd_Bk_isHeld_0 15 rfl
theorem d_Bk_isHeld_30 : decode prog_1_method_29_code 30 = .ok (.istore 4, 2) := kz_dr dd_Bk_isHeld_0 16 rfl
theorem d_Bk_isHeld_32 : decode prog_1_method_29_code 32 = .ok (.iload 4, 2) := kz_dr dd_Bk_isHeld_0 17 rfl
theorem d_Bk_isHeld_34 : decode prog_1_method_29_code 34 = .ok (.iload_n 1, 1) := kz_dr dd_Bk_isHeld_0 18 rfl
theorem d_Bk_isHeld_35 : decode prog_1_method_29_code 35 = .ok (.if_icmp .ge 18, 3) := kz_dr dd_Bk_isHeld_0 19 rfl
theorem d_Bk_isHeld_38 : decode prog_1_method_29_code 38 = .ok (.aload_n 0, 1) := kz_dr dd_Bk_isHeld_0 20 rfl
theorem d_Bk_isHeld_39 : decode prog_1_method_29_code 39 = .ok (.getfield 42, 3) := kz_dr dd_Bk_isHeld_0 21 rfl
theorem d_Bk_isHeld_42 : decode prog_1_method_29_code 42 = .ok (.iload 4, 2) := kz_dr dd_Bk_isHeld_0 22 rfl
theorem d_Bk_isHeld_44 : decode prog_1_method_29_code 44 = .ok (.invokevirtual 154, 3) := kz_dr dd_Bk_isHeld_0 23 rfl
theorem d_Bk_isHeld_47 : decode prog_1_method_29_code 47 = .ok (.iload_n 2, 1) := kz_dr dd_Bk_isHeld_0 24 rfl
theorem d_Bk_isHeld_48 : decode prog_1_method_29_code 48 = .ok (.if_icmp .ne 5, 3) := kz_dr dd_Bk_isHeld_0 25 rfl
theorem d_Bk_isHeld_51 : decode prog_1_method_29_code 51 = .ok (.iconst 1, 1) := kz_dr dd_Bk_isHeld_0 26 rfl
theorem d_Bk_isHeld_52 : decode prog_1_method_29_code 52 = .ok (.ireturn, 1) := kz_dr dd_Bk_isHeld_0 27 rfl
theorem d_Bk_isHeld_53 : decode prog_1_method_29_code 53 = .ok (.iinc 3 1, 3) := kz_dr dd_Bk_isHeld_0 28 rfl
theorem d_Bk_isHeld_56 : decode prog_1_method_29_code 56 = .ok (.goto (-45), 3) := kz_dr dd_Bk_isHeld_0 29 rfl
theorem d_Bk_isHeld_59 : decode prog_1_method_29_code 59 = .ok (.iconst 0, 1) := kz_dr dd_Bk_isHeld_0 30 rfl
theorem d_Bk_isHeld_60 : decode prog_1_method_29_code 60 = .ok (.ireturn, 1) := kz_dr dd_Bk_isHeld_0 31 rfl
def dl_Bk_lookAtReadings_0 : List (Nat × Instr × Nat) := [(0, .iconst 0, 1), (1, .istore_n 1, 1), (2, .iload_n 1, 1), (3, .aload_n 0, 1), (4, .getfield 49, 3), (7, .invokevirtual 81, 3), (10, .if_icmp .ge 24, 3), (13, .aload_n 0, 1), (14, .getfield 56, 3), (17, .aload_n 0, 1), (18, .getfield 49, 3), (21, .iload_n 1, 1), (22, .invokevirtual 151, 3), (25, .invokevirtual 93, 3), (28, .iinc 1 1, 3), (31, .goto (-29), 3), (34, .return_, 1)]
theorem dd_Bk_lookAtReadings_0 : dl_Bk_lookAtReadings_0.all (fun e => decide (decode prog_1_method_27_code e.1 = .ok e.2)) = true := by decide +kernel
theorem d_Bk_lookAtReadings_0 : decode prog_1_method_27_code 0 = .ok (.iconst 0, 1) := kz_dr dd_Bk_lookAtReadings_0 0 rfl
theorem d_Bk_lookAtReadings_1 : decode prog_1_method_27_code 1 = .ok (.istore_n 1, 1) := kz_dr dd_Bk_lookAtReadings_0 1 rfl
theorem d_Bk_lookAtReadings_2 : decode prog_1_method_27_code 2 = .ok (.iload_n 1, 1) := kz_dr dd_Bk_lookAtReadings_0 2 rfl
theorem d_Bk_lookAtReadings_3 : decode prog_1_method_27_code 3 = .ok (.aload_n 0, 1) := kz_dr dd_Bk_lookAtReadings_0 3 rfl
theorem d_Bk_lookAtReadings_4 : decode prog_1_method_27_code 4 = .ok (.getfield 49, 3) := kz_dr dd_Bk_lookAtReadings_0 4 rfl
theorem d_Bk_lookAtReadings_7 : decode prog_1_method_27_code 7 = .ok (.invokevirtual 81, 3) := kz_dr dd_Bk_lookAtReadings_0 5 rfl
theorem d_Bk_lookAtReadings_10 : decode prog_1_method_27_code 10 = .ok (.if_icmp .ge 24, 3) := kz_dr dd_Bk_lookAtReadings_0 6 rfl
theorem d_Bk_lookAtReadings_13 : decode prog_1_method_27_code 13 = .ok (.aload_n 0, 1) := kz_dr dd_Bk_lookAtReadings_0 7 rfl
theorem d_Bk_lookAtReadings_14 : decode prog_1_method_27_code 14 = .ok (.getfield 56, 3) := kz_dr dd_Bk_lookAtReadings_0 8 rfl
theorem d_Bk_lookAtReadings_17 : decode prog_1_method_27_code 17 = .ok (.aload_n 0, 1) := kz_dr dd_Bk_lookAtReadings_0 9 rfl
theorem d_Bk_lookAtReadings_18 : decode prog_1_method_27_code 18 = .ok (.getfield 49, 3) := kz_dr dd_Bk_lookAtReadings_0 10 rfl
theorem d_Bk_lookAtReadings_21 : decode prog_1_method_27_code 21 = .ok (.iload_n 1, 1) := kz_dr dd_Bk_lookAtReadings_0 11 rfl
theorem d_Bk_lookAtReadings_22 : decode prog_1_method_27_code 22 = .ok (.invokevirtual 151, 3) := kz_dr dd_Bk_lookAtReadings_0 12 rfl
theorem d_Bk_lookAtReadings_25 : decode prog_1_method_27_code 25 = .ok (.invokevirtual 93, 3) := kz_dr dd_Bk_lookAtReadings_0 13 rfl
theorem d_Bk_lookAtReadings_28 : decode prog_1_method_27_code 28 = .ok (.iinc 1 1, 3) := kz_dr dd_Bk_lookAtReadings_0 14 rfl
theorem d_Bk_lookAtReadings_31 : decode prog_1_method_27_code 31 = .ok (.goto (-29), 3) := kz_dr dd_Bk_lookAtReadings_0 15 rfl
theorem d_Bk_lookAtReadings_34 : decode prog_1_method_27_code 34 = .ok (.return_, 1) := kz_dr dd_Bk_lookAtReadings_0 16 rfl
def dl_Re_comingOf_0 : List (Nat × Instr × Nat) := [(0, .aload_n 0, 1), (1, .getfield 19, 3), (4, .iload_n 1, 1), (5, .iaload, 1), (6, .ireturn, 1)]
theorem dd_Re_comingOf_0 : dl_Re_comingOf_0.all (fun e => decide (decode prog_5_method_10_code e.1 = .ok e.2)) = true := by decide +kernel
theorem d_Re_comingOf_0 : decode prog_5_method_10_code 0 = .ok (.aload_n 0, 1) := kz_dr dd_Re_comingOf_0 0 rfl
theorem d_Re_comingOf_1 : decode prog_5_method_10_code 1 = .ok (.getfield 19, 3) := kz_dr dd_Re_comingOf_0 1 rfl
theorem d_Re_comingOf_4 : decode prog_5_method_10_code 4 = .ok (.iload_n 1, 1) := kz_dr dd_Re_comingOf_0 2 rfl
theorem d_Re_comingOf_5 : decode prog_5_method_10_code 5 = .ok (.iaload, 1) := kz_dr dd_Re_comingOf_0 3 rfl
theorem d_Re_comingOf_6 : decode prog_5_method_10_code 6 = .ok (.ireturn, 1) := kz_dr dd_Re_comingOf_0 4 rfl
def dl_Li_keepFirst_0 : List (Nat × Instr × Nat) := [(0, .aload_n 0, 1), (1, .aload_n 0, 1), (2, .getfield 15, 3), (5, .iconst 1, 1), (6, .invokestatic 19, 3), (9, .putfield 15, 3), (12, .return_, 1)]
theorem dd_Li_keepFirst_0 : dl_Li_keepFirst_0.all (fun e => decide (decode prog_4_method_6_code e.1 = .ok e.2)) = true := by decide +kernel
theorem d_Li_keepFirst_0 : decode prog_4_method_6_code 0 = .ok (.aload_n 0, 1) := kz_dr dd_Li_keepFirst_0 0 rfl
theorem d_Li_keepFirst_1 : decode prog_4_method_6_code 1 = .ok (.aload_n 0, 1) := kz_dr dd_Li_keepFirst_0 1 rfl
theorem d_Li_keepFirst_2 : decode prog_4_method_6_code 2 = .ok (.getfield 15, 3) := kz_dr dd_Li_keepFirst_0 2 rfl
theorem d_Li_keepFirst_5 : decode prog_4_method_6_code 5 = .ok (.iconst 1, 1) := kz_dr dd_Li_keepFirst_0 3 rfl
theorem d_Li_keepFirst_6 : decode prog_4_method_6_code 6 = .ok (.invokestatic 19, 3) := kz_dr dd_Li_keepFirst_0 4 rfl
theorem d_Li_keepFirst_9 : decode prog_4_method_6_code 9 = .ok (.putfield 15, 3) := kz_dr dd_Li_keepFirst_0 5 rfl
theorem d_Li_keepFirst_12 : decode prog_4_method_6_code 12 = .ok (.return_, 1) := kz_dr dd_Li_keepFirst_0 6 rfl
def dl_Bk_transferOldest_0 : List (Nat × Instr × Nat) := [(0, .iconst 0, 1), (1, .istore_n 1, 1), (2, .iload_n 1, 1), (3, .aload_n 0, 1), (4, .getfield 56, 3), (7, .invokevirtual 81, 3), (10, .if_icmp .ge 71, 3), (13, .aload_n 0, 1), (14, .getfield 56, 3), (17, .iload_n 1, 1), (18, .invokevirtual 151, 3), (21, .istore_n 2, 1), (22, .aload_n 0, 1), (23, .getfield 42, 3), (26, .iload_n 2, 1), (27, .invokevirtual 154, 3), (30, .istore_n 3, 1), (31, .aload_n 0, 1), (32, .getfield 42, 3), (35, .iload_n 2, 1), (36, .invokevirtual 229, 3), (39, .istore 4, 2), (41, .aload_n 0, 1), (42, .getfield 28, 3), (45, .iload_n 3, 1), (46, .invokestatic 232, 3), (49, .iload_n 3, 1), (50, .invokestatic 235, 3), (53, .iload 4, 2), (55, .aload_n 0, 1), (56, .getfield 66, 3), (59, .invokevirtual 238, 3), (62, .ifCond .eq 13, 3), (65, .aload_n 0, 1), (66, .iload_n 2, 1), (67, .iload_n 3, 1), (68, .iload 4, 2), (70, .invokevirtual 242, 3), (73, .iconst 1, 1), (74, .ireturn, 1), (75, .iinc 1 1, 3), (78, .goto (-76), 3), (81, .iconst 0, 1), (82, .ireturn, 1)]
theorem dd_Bk_transferOldest_0 : dl_Bk_transferOldest_0.all (fun e => decide (decode prog_1_method_30_code e.1 = .ok e.2)) = true := by decide +kernel
theorem d_Bk_transferOldest_0 : decode prog_1_method_30_code 0 = .ok (.iconst 0, 1) := kz_dr dd_Bk_transferOldest_0 0 rfl
theorem d_Bk_transferOldest_1 : decode prog_1_method_30_code 1 = .ok (.istore_n 1, 1) := kz_dr dd_Bk_transferOldest_0 1 rfl
theorem d_Bk_transferOldest_2 : decode prog_1_method_30_code 2 = .ok (.iload_n 1, 1) := kz_dr dd_Bk_transferOldest_0 2 rfl
theorem d_Bk_transferOldest_3 : decode prog_1_method_30_code 3 = .ok (.aload_n 0, 1) := kz_dr dd_Bk_transferOldest_0 3 rfl
theorem d_Bk_transferOldest_4 : decode prog_1_method_30_code 4 = .ok (.getfield 56, 3) := kz_dr dd_Bk_transferOldest_0 4 rfl
theorem d_Bk_transferOldest_7 : decode prog_1_method_30_code 7 = .ok (.invokevirtual 81, 3) := kz_dr dd_Bk_transferOldest_0 5 rfl
theorem d_Bk_transferOldest_10 : decode prog_1_method_30_code 10 = .ok (.if_icmp .ge 71, 3) := kz_dr dd_Bk_transferOldest_0 6 rfl
theorem d_Bk_transferOldest_13 : decode prog_1_method_30_code 13 = .ok (.aload_n 0, 1) := kz_dr dd_Bk_transferOldest_0 7 rfl
theorem d_Bk_transferOldest_14 : decode prog_1_method_30_code 14 = .ok (.getfield 56, 3) := kz_dr dd_Bk_transferOldest_0 8 rfl
theorem d_Bk_transferOldest_17 : decode prog_1_method_30_code 17 = .ok (.iload_n 1, 1) := kz_dr dd_Bk_transferOldest_0 9 rfl
theorem d_Bk_transferOldest_18 : decode prog_1_method_30_code 18 = .ok (.invokevirtual 151, 3) := kz_dr dd_Bk_transferOldest_0 10 rfl
theorem d_Bk_transferOldest_21 : decode prog_1_method_30_code 21 = .ok (.istore_n 2, 1) := kz_dr dd_Bk_transferOldest_0 11 rfl
theorem d_Bk_transferOldest_22 : decode prog_1_method_30_code 22 = .ok (.aload_n 0, 1) := kz_dr dd_Bk_transferOldest_0 12 rfl
theorem d_Bk_transferOldest_23 : decode prog_1_method_30_code 23 = .ok (.getfield 42, 3) := kz_dr dd_Bk_transferOldest_0 13 rfl
theorem d_Bk_transferOldest_26 : decode prog_1_method_30_code 26 = .ok (.iload_n 2, 1) := kz_dr dd_Bk_transferOldest_0 14 rfl
theorem d_Bk_transferOldest_27 : decode prog_1_method_30_code 27 = .ok (.invokevirtual 154, 3) := kz_dr dd_Bk_transferOldest_0 15 rfl
theorem d_Bk_transferOldest_30 : decode prog_1_method_30_code 30 = .ok (.istore_n 3, 1) := kz_dr dd_Bk_transferOldest_0 16 rfl
theorem d_Bk_transferOldest_31 : decode prog_1_method_30_code 31 = .ok (.aload_n 0, 1) := kz_dr dd_Bk_transferOldest_0 17 rfl
theorem d_Bk_transferOldest_32 : decode prog_1_method_30_code 32 = .ok (.getfield 42, 3) := kz_dr dd_Bk_transferOldest_0 18 rfl
theorem d_Bk_transferOldest_35 : decode prog_1_method_30_code 35 = .ok (.iload_n 2, 1) := kz_dr dd_Bk_transferOldest_0 19 rfl
theorem d_Bk_transferOldest_36 : decode prog_1_method_30_code 36 = .ok (.invokevirtual 229, 3) := kz_dr dd_Bk_transferOldest_0 20 rfl
theorem d_Bk_transferOldest_39 : decode prog_1_method_30_code 39 = .ok (.istore 4, 2) := kz_dr dd_Bk_transferOldest_0 21 rfl
theorem d_Bk_transferOldest_41 : decode prog_1_method_30_code 41 = .ok (.aload_n 0, 1) := kz_dr dd_Bk_transferOldest_0 22 rfl
theorem d_Bk_transferOldest_42 : decode prog_1_method_30_code 42 = .ok (.getfield 28, 3) := kz_dr dd_Bk_transferOldest_0 23 rfl
theorem d_Bk_transferOldest_45 : decode prog_1_method_30_code 45 = .ok (.iload_n 3, 1) := kz_dr dd_Bk_transferOldest_0 24 rfl
theorem d_Bk_transferOldest_46 : decode prog_1_method_30_code 46 = .ok (.invokestatic 232, 3) := kz_dr dd_Bk_transferOldest_0 25 rfl
theorem d_Bk_transferOldest_49 : decode prog_1_method_30_code 49 = .ok (.iload_n 3, 1) := kz_dr dd_Bk_transferOldest_0 26 rfl
theorem d_Bk_transferOldest_50 : decode prog_1_method_30_code 50 = .ok (.invokestatic 235, 3) := kz_dr dd_Bk_transferOldest_0 27 rfl
theorem d_Bk_transferOldest_53 : decode prog_1_method_30_code 53 = .ok (.iload 4, 2) := kz_dr dd_Bk_transferOldest_0 28 rfl
theorem d_Bk_transferOldest_55 : decode prog_1_method_30_code 55 = .ok (.aload_n 0, 1) := kz_dr dd_Bk_transferOldest_0 29 rfl
theorem d_Bk_transferOldest_56 : decode prog_1_method_30_code 56 = .ok (.getfield 66, 3) := kz_dr dd_Bk_transferOldest_0 30 rfl
theorem d_Bk_transferOldest_59 : decode prog_1_method_30_code 59 = .ok (.invokevirtual 238, 3) := kz_dr dd_Bk_transferOldest_0 31 rfl
theorem d_Bk_transferOldest_62 : decode prog_1_method_30_code 62 = .ok (.ifCond .eq 13, 3) := kz_dr dd_Bk_transferOldest_0 32 rfl
theorem d_Bk_transferOldest_65 : decode prog_1_method_30_code 65 = .ok (.aload_n 0, 1) := kz_dr dd_Bk_transferOldest_0 33 rfl
theorem d_Bk_transferOldest_66 : decode prog_1_method_30_code 66 = .ok (.iload_n 2, 1) := kz_dr dd_Bk_transferOldest_0 34 rfl
theorem d_Bk_transferOldest_67 : decode prog_1_method_30_code 67 = .ok (.iload_n 3, 1) := kz_dr dd_Bk_transferOldest_0 35 rfl
theorem d_Bk_transferOldest_68 : decode prog_1_method_30_code 68 = .ok (.iload 4, 2) := kz_dr dd_Bk_transferOldest_0 36 rfl
theorem d_Bk_transferOldest_70 : decode prog_1_method_30_code 70 = .ok (.invokevirtual 242, 3) := kz_dr dd_Bk_transferOldest_0 37 rfl
theorem d_Bk_transferOldest_73 : decode prog_1_method_30_code 73 = .ok (.iconst 1, 1) := kz_dr dd_Bk_transferOldest_0 38 rfl
theorem d_Bk_transferOldest_74 : decode prog_1_method_30_code 74 = .ok (.ireturn, 1) := kz_dr dd_Bk_transferOldest_0 39 rfl
theorem d_Bk_transferOldest_75 : decode prog_1_method_30_code 75 = .ok (.iinc 1 1, 3) := kz_dr dd_Bk_transferOldest_0 40 rfl
theorem d_Bk_transferOldest_78 : decode prog_1_method_30_code 78 = .ok (.goto (-76), 3) := kz_dr dd_Bk_transferOldest_0 41 rfl
theorem d_Bk_transferOldest_81 : decode prog_1_method_30_code 81 = .ok (.iconst 0, 1) := kz_dr dd_Bk_transferOldest_0 42 rfl
theorem d_Bk_transferOldest_82 : decode prog_1_method_30_code 82 = .ok (.ireturn, 1) := kz_dr dd_Bk_transferOldest_0 43 rfl
def dl_Re_isWriting_0 : List (Nat × Instr × Nat) := [(0, .aload_n 0, 1), (1, .getfield 15, 3), (4, .iload_n 1, 1), (5, .baload, 1), (6, .ireturn, 1)]
theorem dd_Re_isWriting_0 : dl_Re_isWriting_0.all (fun e => decide (decode prog_5_method_9_code e.1 = .ok e.2)) = true := by decide +kernel
theorem d_Re_isWriting_0 : decode prog_5_method_9_code 0 = .ok (.aload_n 0, 1) := kz_dr dd_Re_isWriting_0 0 rfl
theorem d_Re_isWriting_1 : decode prog_5_method_9_code 1 = .ok (.getfield 15, 3) := kz_dr dd_Re_isWriting_0 1 rfl
theorem d_Re_isWriting_4 : decode prog_5_method_9_code 4 = .ok (.iload_n 1, 1) := kz_dr dd_Re_isWriting_0 2 rfl
theorem d_Re_isWriting_5 : decode prog_5_method_9_code 5 = .ok (.baload, 1) := kz_dr dd_Re_isWriting_0 3 rfl
theorem d_Re_isWriting_6 : decode prog_5_method_9_code 6 = .ok (.ireturn, 1) := kz_dr dd_Re_isWriting_0 4 rfl
def dl_Bk_bankOf_0 : List (Nat × Instr × Nat) := [(0, .iload_n 0, 1), (1, .bipush 8, 2), (3, .idiv, 1), (4, .iconst 4, 1), (5, .irem, 1), (6, .ireturn, 1)]
theorem dd_Bk_bankOf_0 : dl_Bk_bankOf_0.all (fun e => decide (decode prog_1_method_15_code e.1 = .ok e.2)) = true := by decide +kernel
theorem d_Bk_bankOf_0 : decode prog_1_method_15_code 0 = .ok (.iload_n 0, 1) := kz_dr dd_Bk_bankOf_0 0 rfl
theorem d_Bk_bankOf_1 : decode prog_1_method_15_code 1 = .ok (.bipush 8, 2) := kz_dr dd_Bk_bankOf_0 1 rfl
theorem d_Bk_bankOf_3 : decode prog_1_method_15_code 3 = .ok (.idiv, 1) := kz_dr dd_Bk_bankOf_0 2 rfl
theorem d_Bk_bankOf_4 : decode prog_1_method_15_code 4 = .ok (.iconst 4, 1) := kz_dr dd_Bk_bankOf_0 3 rfl
theorem d_Bk_bankOf_5 : decode prog_1_method_15_code 5 = .ok (.irem, 1) := kz_dr dd_Bk_bankOf_0 4 rfl
theorem d_Bk_bankOf_6 : decode prog_1_method_15_code 6 = .ok (.ireturn, 1) := kz_dr dd_Bk_bankOf_0 5 rfl
def dl_Bk_rowOf_0 : List (Nat × Instr × Nat) := [(0, .iload_n 0, 1), (1, .bipush 32, 2), (3, .idiv, 1), (4, .ireturn, 1)]
theorem dd_Bk_rowOf_0 : dl_Bk_rowOf_0.all (fun e => decide (decode prog_1_method_16_code e.1 = .ok e.2)) = true := by decide +kernel
theorem d_Bk_rowOf_0 : decode prog_1_method_16_code 0 = .ok (.iload_n 0, 1) := kz_dr dd_Bk_rowOf_0 0 rfl
theorem d_Bk_rowOf_1 : decode prog_1_method_16_code 1 = .ok (.bipush 32, 2) := kz_dr dd_Bk_rowOf_0 1 rfl
theorem d_Bk_rowOf_3 : decode prog_1_method_16_code 3 = .ok (.idiv, 1) := kz_dr dd_Bk_rowOf_0 2 rfl
theorem d_Bk_rowOf_4 : decode prog_1_method_16_code 4 = .ok (.ireturn, 1) := kz_dr dd_Bk_rowOf_0 3 rfl
def dl_Ba_mayTransfer_0 : List (Nat × Instr × Nat) := [(0, .aload_n 0, 1), (1, .getfield 23, 3), (4, .iload_n 1, 1), (5, .iaload, 1), (6, .iload_n 2, 1), (7, .if_icmp .ne 88, 3), (10, .iload 4, 2), (12, .aload_n 0, 1), (13, .getfield 26, 3), (16, .iload_n 1, 1), (17, .iaload, 1), (18, .isub, 1), (19, .aload_n 0, 1), (20, .getfield 18, 3), (23, .iconst 0, 1), (24, .iaload, 1), (25, .if_icmp .lt 70, 3), (28, .iload 4, 2), (30, .aload_n 0, 1), (31, .getfield 42, 3), (34, .isub, 1), (35, .aload_n 0, 1), (36, .getfield 18, 3), (39, .bipush 6, 2), (41, .iaload, 1), (42, .if_icmp .lt 53, 3), (45, .iload_n 3, 1), (46, .ifCond .ne 30, 3), (49, .iload 4, 2), (51, .aload_n 0, 1), (52, .getfield 46, 3), (55, .isub, 1), (56, .aload_n 0, 1), (57, .getfield 18, 3), (60, .bipush 11, 2), (62, .iaload, 1), (63, .iconst 4, 1), (64, .iadd, 1), (65, .aload_n 0, 1), (66, .getfield 18, 3), (69, .bipush 8, 2), (71, .iaload, 1), (72, .iadd, 1), (73, .if_icmp .lt 22, 3), (76, .aload_n 0, 1), (77, .iload_n 3, 1), (78, .iload 4, 2), (80, .invokevirtual 61, 3), (83, .aload_n 0, 1), (84, .iload_n 3, 1), (85, .invokevirtual 65, 3), (88, .if_icmp .lt 7, 3), (91, .iconst 1, 1), (92, .goto 4, 3), (95, .iconst 0, 1), (96, .ireturn, 1)]
theorem dd_Ba_mayTransfer_0 : dl_Ba_mayTransfer_0.all (fun e => decide (decode prog_2_method_9_code e.1 = .ok e.2)) = true := by decide +kernel
theorem d_Ba_mayTransfer_0 : decode prog_2_method_9_code 0 = .ok (.aload_n 0, 1) := kz_dr dd_Ba_mayTransfer_0 0 rfl
theorem d_Ba_mayTransfer_1 : decode prog_2_method_9_code 1 = .ok (.getfield 23, 3) := kz_dr dd_Ba_mayTransfer_0 1 rfl
theorem d_Ba_mayTransfer_4 : decode prog_2_method_9_code 4 = .ok (.iload_n 1, 1) := kz_dr dd_Ba_mayTransfer_0 2 rfl
theorem d_Ba_mayTransfer_5 : decode prog_2_method_9_code 5 = .ok (.iaload, 1) := kz_dr dd_Ba_mayTransfer_0 3 rfl
theorem d_Ba_mayTransfer_6 : decode prog_2_method_9_code 6 = .ok (.iload_n 2, 1) := kz_dr dd_Ba_mayTransfer_0 4 rfl
theorem d_Ba_mayTransfer_7 : decode prog_2_method_9_code 7 = .ok (.if_icmp .ne 88, 3) := kz_dr dd_Ba_mayTransfer_0 5 rfl
theorem d_Ba_mayTransfer_10 : decode prog_2_method_9_code 10 = .ok (.iload 4, 2) := kz_dr dd_Ba_mayTransfer_0 6 rfl
theorem d_Ba_mayTransfer_12 : decode prog_2_method_9_code 12 = .ok (.aload_n 0, 1) := kz_dr dd_Ba_mayTransfer_0 7 rfl
theorem d_Ba_mayTransfer_13 : decode prog_2_method_9_code 13 = .ok (.getfield 26, 3) := kz_dr dd_Ba_mayTransfer_0 8 rfl
theorem d_Ba_mayTransfer_16 : decode prog_2_method_9_code 16 = .ok (.iload_n 1, 1) := kz_dr dd_Ba_mayTransfer_0 9 rfl
theorem d_Ba_mayTransfer_17 : decode prog_2_method_9_code 17 = .ok (.iaload, 1) := kz_dr dd_Ba_mayTransfer_0 10 rfl
theorem d_Ba_mayTransfer_18 : decode prog_2_method_9_code 18 = .ok (.isub, 1) := kz_dr dd_Ba_mayTransfer_0 11 rfl
theorem d_Ba_mayTransfer_19 : decode prog_2_method_9_code 19 = .ok (.aload_n 0, 1) := kz_dr dd_Ba_mayTransfer_0 12 rfl
theorem d_Ba_mayTransfer_20 : decode prog_2_method_9_code 20 = .ok (.getfield 18, 3) := kz_dr dd_Ba_mayTransfer_0 13 rfl
theorem d_Ba_mayTransfer_23 : decode prog_2_method_9_code 23 = .ok (.iconst 0, 1) := kz_dr dd_Ba_mayTransfer_0 14 rfl
theorem d_Ba_mayTransfer_24 : decode prog_2_method_9_code 24 = .ok (.iaload, 1) := kz_dr dd_Ba_mayTransfer_0 15 rfl
theorem d_Ba_mayTransfer_25 : decode prog_2_method_9_code 25 = .ok (.if_icmp .lt 70, 3) := kz_dr dd_Ba_mayTransfer_0 16 rfl
theorem d_Ba_mayTransfer_28 : decode prog_2_method_9_code 28 = .ok (.iload 4, 2) := kz_dr dd_Ba_mayTransfer_0 17 rfl
theorem d_Ba_mayTransfer_30 : decode prog_2_method_9_code 30 = .ok (.aload_n 0, 1) := kz_dr dd_Ba_mayTransfer_0 18 rfl
theorem d_Ba_mayTransfer_31 : decode prog_2_method_9_code 31 = .ok (.getfield 42, 3) := kz_dr dd_Ba_mayTransfer_0 19 rfl
theorem d_Ba_mayTransfer_34 : decode prog_2_method_9_code 34 = .ok (.isub, 1) := kz_dr dd_Ba_mayTransfer_0 20 rfl
theorem d_Ba_mayTransfer_35 : decode prog_2_method_9_code 35 = .ok (.aload_n 0, 1) := kz_dr dd_Ba_mayTransfer_0 21 rfl
theorem d_Ba_mayTransfer_36 : decode prog_2_method_9_code 36 = .ok (.getfield 18, 3) := kz_dr dd_Ba_mayTransfer_0 22 rfl
theorem d_Ba_mayTransfer_39 : decode prog_2_method_9_code 39 = .ok (.bipush 6, 2) := kz_dr dd_Ba_mayTransfer_0 23 rfl
theorem d_Ba_mayTransfer_41 : decode prog_2_method_9_code 41 = .ok (.iaload, 1) := kz_dr dd_Ba_mayTransfer_0 24 rfl
theorem d_Ba_mayTransfer_42 : decode prog_2_method_9_code 42 = .ok (.if_icmp .lt 53, 3) := kz_dr dd_Ba_mayTransfer_0 25 rfl
theorem d_Ba_mayTransfer_45 : decode prog_2_method_9_code 45 = .ok (.iload_n 3, 1) := kz_dr dd_Ba_mayTransfer_0 26 rfl
theorem d_Ba_mayTransfer_46 : decode prog_2_method_9_code 46 = .ok (.ifCond .ne 30, 3) := kz_dr dd_Ba_mayTransfer_0 27 rfl
theorem d_Ba_mayTransfer_49 : decode prog_2_method_9_code 49 = .ok (.iload 4, 2) := kz_dr dd_Ba_mayTransfer_0 28 rfl
theorem d_Ba_mayTransfer_51 : decode prog_2_method_9_code 51 = .ok (.aload_n 0, 1) := kz_dr dd_Ba_mayTransfer_0 29 rfl
theorem d_Ba_mayTransfer_52 : decode prog_2_method_9_code 52 = .ok (.getfield 46, 3) := kz_dr dd_Ba_mayTransfer_0 30 rfl
theorem d_Ba_mayTransfer_55 : decode prog_2_method_9_code 55 = .ok (.isub, 1) := kz_dr dd_Ba_mayTransfer_0 31 rfl
theorem d_Ba_mayTransfer_56 : decode prog_2_method_9_code 56 = .ok (.aload_n 0, 1) := kz_dr dd_Ba_mayTransfer_0 32 rfl
theorem d_Ba_mayTransfer_57 : decode prog_2_method_9_code 57 = .ok (.getfield 18, 3) := kz_dr dd_Ba_mayTransfer_0 33 rfl
theorem d_Ba_mayTransfer_60 : decode prog_2_method_9_code 60 = .ok (.bipush 11, 2) := kz_dr dd_Ba_mayTransfer_0 34 rfl
theorem d_Ba_mayTransfer_62 : decode prog_2_method_9_code 62 = .ok (.iaload, 1) := kz_dr dd_Ba_mayTransfer_0 35 rfl
theorem d_Ba_mayTransfer_63 : decode prog_2_method_9_code 63 = .ok (.iconst 4, 1) := kz_dr dd_Ba_mayTransfer_0 36 rfl
theorem d_Ba_mayTransfer_64 : decode prog_2_method_9_code 64 = .ok (.iadd, 1) := kz_dr dd_Ba_mayTransfer_0 37 rfl
theorem d_Ba_mayTransfer_65 : decode prog_2_method_9_code 65 = .ok (.aload_n 0, 1) := kz_dr dd_Ba_mayTransfer_0 38 rfl
theorem d_Ba_mayTransfer_66 : decode prog_2_method_9_code 66 = .ok (.getfield 18, 3) := kz_dr dd_Ba_mayTransfer_0 39 rfl
theorem d_Ba_mayTransfer_69 : decode prog_2_method_9_code 69 = .ok (.bipush 8, 2) := kz_dr dd_Ba_mayTransfer_0 40 rfl
theorem d_Ba_mayTransfer_71 : decode prog_2_method_9_code 71 = .ok (.iaload, 1) := kz_dr dd_Ba_mayTransfer_0 41 rfl
theorem d_Ba_mayTransfer_72 : decode prog_2_method_9_code 72 = .ok (.iadd, 1) := kz_dr dd_Ba_mayTransfer_0 42 rfl
theorem d_Ba_mayTransfer_73 : decode prog_2_method_9_code 73 = .ok (.if_icmp .lt 22, 3) := kz_dr dd_Ba_mayTransfer_0 43 rfl
theorem d_Ba_mayTransfer_76 : decode prog_2_method_9_code 76 = .ok (.aload_n 0, 1) := kz_dr dd_Ba_mayTransfer_0 44 rfl
theorem d_Ba_mayTransfer_77 : decode prog_2_method_9_code 77 = .ok (.iload_n 3, 1) := kz_dr dd_Ba_mayTransfer_0 45 rfl
theorem d_Ba_mayTransfer_78 : decode prog_2_method_9_code 78 = .ok (.iload 4, 2) := kz_dr dd_Ba_mayTransfer_0 46 rfl
theorem d_Ba_mayTransfer_80 : decode prog_2_method_9_code 80 = .ok (.invokevirtual 61, 3) := kz_dr dd_Ba_mayTransfer_0 47 rfl
theorem d_Ba_mayTransfer_83 : decode prog_2_method_9_code 83 = .ok (.aload_n 0, 1) := kz_dr dd_Ba_mayTransfer_0 48 rfl
theorem d_Ba_mayTransfer_84 : decode prog_2_method_9_code 84 = .ok (.iload_n 3, 1) := kz_dr dd_Ba_mayTransfer_0 49 rfl
theorem d_Ba_mayTransfer_85 : decode prog_2_method_9_code 85 = .ok (.invokevirtual 65, 3) := kz_dr dd_Ba_mayTransfer_0 50 rfl
theorem d_Ba_mayTransfer_88 : decode prog_2_method_9_code 88 = .ok (.if_icmp .lt 7, 3) := kz_dr dd_Ba_mayTransfer_0 51 rfl
theorem d_Ba_mayTransfer_91 : decode prog_2_method_9_code 91 = .ok (.iconst 1, 1) := kz_dr dd_Ba_mayTransfer_0 52 rfl
theorem d_Ba_mayTransfer_92 : decode prog_2_method_9_code 92 = .ok (.goto 4, 3) := kz_dr dd_Ba_mayTransfer_0 53 rfl
theorem d_Ba_mayTransfer_95 : decode prog_2_method_9_code 95 = .ok (.iconst 0, 1) := kz_dr dd_Ba_mayTransfer_0 54 rfl
theorem d_Ba_mayTransfer_96 : decode prog_2_method_9_code 96 = .ok (.ireturn, 1) := kz_dr dd_Ba_mayTransfer_0 55 rfl
def dl_Ba_beginOfBurst_0 : List (Nat × Instr × Nat) := [(0, .iload_n 2, 1), (1, .iload_n 1, 1), (2, .ifCond .eq 13, 3), (5, .aload_n 0, 1), (6, .getfield 18, 3), (9, .bipush 11, 2), (11, .iaload, 1), (12, .goto 10, 3), (15, .aload_n 0, 1), (16, .getfield 18, 3), (19, .bipush 10, 2), (21, .iaload, 1), (22, .iadd, 1), (23, .ireturn, 1)]
theorem dd_Ba_beginOfBurst_0 : dl_Ba_beginOfBurst_0.all (fun e => decide (decode prog_2_method_10_code e.1 = .ok e.2)) = true := by decide +kernel
theorem d_Ba_beginOfBurst_0 : decode prog_2_method_10_code 0 = .ok (.iload_n 2, 1) := kz_dr dd_Ba_beginOfBurst_0 0 rfl
theorem d_Ba_beginOfBurst_1 : decode prog_2_method_10_code 1 = .ok (.iload_n 1, 1) := kz_dr dd_Ba_beginOfBurst_0 1 rfl
theorem d_Ba_beginOfBurst_2 : decode prog_2_method_10_code 2 = .ok (.ifCond .eq 13, 3) := kz_dr dd_Ba_beginOfBurst_0 2 rfl
theorem d_Ba_beginOfBurst_5 : decode prog_2_method_10_code 5 = .ok (.aload_n 0, 1) := kz_dr dd_Ba_beginOfBurst_0 3 rfl
theorem d_Ba_beginOfBurst_6 : decode prog_2_method_10_code 6 = .ok (.getfield 18, 3) := kz_dr dd_Ba_beginOfBurst_0 4 rfl
theorem d_Ba_beginOfBurst_9 : decode prog_2_method_10_code 9 = .ok (.bipush 11, 2) := kz_dr dd_Ba_beginOfBurst_0 5 rfl
theorem d_Ba_beginOfBurst_11 : decode prog_2_method_10_code 11 = .ok (.iaload, 1) := kz_dr dd_Ba_beginOfBurst_0 6 rfl
theorem d_Ba_beginOfBurst_12 : decode prog_2_method_10_code 12 = .ok (.goto 10, 3) := kz_dr dd_Ba_beginOfBurst_0 7 rfl
theorem d_Ba_beginOfBurst_15 : decode prog_2_method_10_code 15 = .ok (.aload_n 0, 1) := kz_dr dd_Ba_beginOfBurst_0 8 rfl
theorem d_Ba_beginOfBurst_16 : decode prog_2_method_10_code 16 = .ok (.getfield 18, 3) := kz_dr dd_Ba_beginOfBurst_0 9 rfl
theorem d_Ba_beginOfBurst_19 : decode prog_2_method_10_code 19 = .ok (.bipush 10, 2) := kz_dr dd_Ba_beginOfBurst_0 10 rfl
theorem d_Ba_beginOfBurst_21 : decode prog_2_method_10_code 21 = .ok (.iaload, 1) := kz_dr dd_Ba_beginOfBurst_0 11 rfl
theorem d_Ba_beginOfBurst_22 : decode prog_2_method_10_code 22 = .ok (.iadd, 1) := kz_dr dd_Ba_beginOfBurst_0 12 rfl
theorem d_Ba_beginOfBurst_23 : decode prog_2_method_10_code 23 = .ok (.ireturn, 1) := kz_dr dd_Ba_beginOfBurst_0 13 rfl
def dl_Ba_busFreeFrom_0 : List (Nat × Instr × Nat) := [(0, .aload_n 0, 1), (1, .invokevirtual 69, 3), (4, .iload_n 1, 1), (5, .aload_n 0, 1), (6, .getfield 73, 3), (9, .if_icmp .ne 7, 3), (12, .iconst 0, 1), (13, .goto 4, 3), (16, .iconst 1, 1), (17, .iadd, 1), (18, .ireturn, 1)]
theorem dd_Ba_busFreeFrom_0 : dl_Ba_busFreeFrom_0.all (fun e => decide (decode prog_2_method_11_code e.1 = .ok e.2)) = true := by decide +kernel
theorem d_Ba_busFreeFrom_0 : decode prog_2_method_11_code 0 = .ok (.aload_n 0, 1) := kz_dr dd_Ba_busFreeFrom_0 0 rfl
theorem d_Ba_busFreeFrom_1 : decode prog_2_method_11_code 1 = .ok (.invokevirtual 69, 3) := kz_dr dd_Ba_busFreeFrom_0 1 rfl
theorem d_Ba_busFreeFrom_4 : decode prog_2_method_11_code 4 = .ok (.iload_n 1, 1) := kz_dr dd_Ba_busFreeFrom_0 2 rfl
theorem d_Ba_busFreeFrom_5 : decode prog_2_method_11_code 5 = .ok (.aload_n 0, 1) := kz_dr dd_Ba_busFreeFrom_0 3 rfl
theorem d_Ba_busFreeFrom_6 : decode prog_2_method_11_code 6 = .ok (.getfield 73, 3) := kz_dr dd_Ba_busFreeFrom_0 4 rfl
theorem d_Ba_busFreeFrom_9 : decode prog_2_method_11_code 9 = .ok (.if_icmp .ne 7, 3) := kz_dr dd_Ba_busFreeFrom_0 5 rfl
theorem d_Ba_busFreeFrom_12 : decode prog_2_method_11_code 12 = .ok (.iconst 0, 1) := kz_dr dd_Ba_busFreeFrom_0 6 rfl
theorem d_Ba_busFreeFrom_13 : decode prog_2_method_11_code 13 = .ok (.goto 4, 3) := kz_dr dd_Ba_busFreeFrom_0 7 rfl
theorem d_Ba_busFreeFrom_16 : decode prog_2_method_11_code 16 = .ok (.iconst 1, 1) := kz_dr dd_Ba_busFreeFrom_0 8 rfl
theorem d_Ba_busFreeFrom_17 : decode prog_2_method_11_code 17 = .ok (.iadd, 1) := kz_dr dd_Ba_busFreeFrom_0 9 rfl
theorem d_Ba_busFreeFrom_18 : decode prog_2_method_11_code 18 = .ok (.ireturn, 1) := kz_dr dd_Ba_busFreeFrom_0 10 rfl
def dl_Ba_endOfBurst_0 : List (Nat × Instr × Nat) := [(0, .aload_n 0, 1), (1, .getfield 52, 3), (4, .iconst 4, 1), (5, .iadd, 1), (6, .ireturn, 1)]
theorem dd_Ba_endOfBurst_0 : dl_Ba_endOfBurst_0.all (fun e => decide (decode prog_2_method_12_code e.1 = .ok e.2)) = true := by decide +kernel
theorem d_Ba_endOfBurst_0 : decode prog_2_method_12_code 0 = .ok (.aload_n 0, 1) := kz_dr dd_Ba_endOfBurst_0 0 rfl
theorem d_Ba_endOfBurst_1 : decode prog_2_method_12_code 1 = .ok (.getfield 52, 3) := kz_dr dd_Ba_endOfBurst_0 1 rfl
theorem d_Ba_endOfBurst_4 : decode prog_2_method_12_code 4 = .ok (.iconst 4, 1) := kz_dr dd_Ba_endOfBurst_0 2 rfl
theorem d_Ba_endOfBurst_5 : decode prog_2_method_12_code 5 = .ok (.iadd, 1) := kz_dr dd_Ba_endOfBurst_0 3 rfl
theorem d_Ba_endOfBurst_6 : decode prog_2_method_12_code 6 = .ok (.ireturn, 1) := kz_dr dd_Ba_endOfBurst_0 4 rfl
def dl_Bk_transfer_0 : List (Nat × Instr × Nat) := [(0, .aload_n 0, 1), (1, .getfield 28, 3), (4, .iload_n 2, 1), (5, .invokestatic 232, 3), (8, .iload_n 3, 1), (9, .aload_n 0, 1), (10, .getfield 66, 3), (13, .invokevirtual 246, 3), (16, .aload_n 0, 1), (17, .getfield 62, 3), (20, .iload_n 3, 1), (21, .ifCond .eq 7, 3), (24, .iconst 3, 1), (25, .goto 4, 3), (28, .iconst 2, 1), (29, .iload_n 2, 1), (30, .invokestatic 232, 3), (33, .iload_n 2, 1), (34, .invokestatic 249, 3), (37, .aload_n 0, 1), (38, .getfield 66, 3), (41, .iload_n 1, 1), (42, .invokevirtual 198, 3), (45, .iload_n 3, 1), (46, .ifCond .eq 51, 3), (49, .aload_n 0, 1), (50, .getfield 53, 3), (53, .iload_n 1, 1), (54, .invokevirtual 252, 3), (57, .aload_n 0, 1), (58, .getfield 35, 3), (61, .iload_n 2, 1), (62, .aload_n 0, 1), (63, .getfield 42, 3), (66, .iload_n 1, 1), (67, .invokevirtual 97, 3), (70, .invokevirtual 255, 3), (73, .aload_n 0, 1), (74, .getfield 42, 3), (77, .iload_n 1, 1), (78, .aload_n 0, 1), (79, .getfield 42, 3), (82, .iload_n 1, 1), (83, .invokevirtual 97, 3), (86, .iconst 2, 1), (87, .aload_n 0, 1), (88, .getfield 66, 3), (91, .invokevirtual 101, 3), (94, .goto 55, 3), (97, .aload_n 0, 1), (98, .getfield 49, 3), (101, .iload_n 1, 1), (102, .invokevirtual 252, 3), (105, .aload_n 0, 1), (106, .getfield 35, 3), (109, .iload_n 2, 1), (110, .invokevirtual 258, 3), (113, .istore 4, 2), (115, .aload_n 0, 1), (116, .getfield 35, 3)]
theorem dd_Bk_transfer_0 : dl_Bk_transfer_0.all (fun e => decide (decode prog_1_method_31_code e.1 = .ok e.2)) = true := by decide +kernel
theorem d_Bk_transfer_0 : decode prog_1_method_31_code 0 = .ok (.aload_n 0, 1) := kz_dr dd_Bk_transfer_0 0 rfl
theorem d_Bk_transfer_1 : decode prog_1_method_31_code 1 = .ok (.getfield 28, 3) := kz_dr dd_Bk_transfer_0 1 rfl
theorem d_Bk_transfer_4 : decode prog_1_method_31_code 4 = .ok (.iload_n 2, 1) := kz_dr dd_Bk_transfer_0 2 rfl
theorem d_Bk_transfer_5 : decode prog_1_method_31_code 5 = .ok (.invokestatic 232, 3) := kz_dr dd_Bk_transfer_0 3 rfl
theorem d_Bk_transfer_8 : decode prog_1_method_31_code 8 = .ok (.iload_n 3, 1) := kz_dr dd_Bk_transfer_0 4 rfl
theorem d_Bk_transfer_9 : decode prog_1_method_31_code 9 = .ok (.aload_n 0, 1) := kz_dr dd_Bk_transfer_0 5 rfl
theorem d_Bk_transfer_10 : decode prog_1_method_31_code 10 = .ok (.getfield 66, 3) := kz_dr dd_Bk_transfer_0 6 rfl
theorem d_Bk_transfer_13 : decode prog_1_method_31_code 13 = .ok (.invokevirtual 246, 3) := kz_dr dd_Bk_transfer_0 7 rfl
theorem d_Bk_transfer_16 : decode prog_1_method_31_code 16 = .ok (.aload_n 0, 1) := kz_dr dd_Bk_transfer_0 8 rfl
theorem d_Bk_transfer_17 : decode prog_1_method_31_code 17 = .ok (.getfield 62, 3) := kz_dr dd_Bk_transfer_0 9 rfl
theorem d_Bk_transfer_20 : decode prog_1_method_31_code 20 = .ok (.iload_n 3, 1) := kz_dr dd_Bk_transfer_0 10 rfl
theorem d_Bk_transfer_21 : decode prog_1_method_31_code 21 = .ok (.ifCond .eq 7, 3) := kz_dr dd_Bk_transfer_0 11 rfl
theorem d_Bk_transfer_24 : decode prog_1_method_31_code 24 = .ok (.iconst 3, 1) := kz_dr dd_Bk_transfer_0 12 rfl
theorem d_Bk_transfer_25 : decode prog_1_method_31_code 25 = .ok (.goto 4, 3) := kz_dr dd_Bk_transfer_0 13 rfl
theorem d_Bk_transfer_28 : decode prog_1_method_31_code 28 = .ok (.iconst 2, 1) := kz_dr dd_Bk_transfer_0 14 rfl
theorem d_Bk_transfer_29 : decode prog_1_method_31_code 29 = .ok (.iload_n 2, 1) := kz_dr dd_Bk_transfer_0 15 rfl
theorem d_Bk_transfer_30 : decode prog_1_method_31_code 30 = .ok (.invokestatic 232, 3) := kz_dr dd_Bk_transfer_0 16 rfl
theorem d_Bk_transfer_33 : decode prog_1_method_31_code 33 = .ok (.iload_n 2, 1) := kz_dr dd_Bk_transfer_0 17 rfl
theorem d_Bk_transfer_34 : decode prog_1_method_31_code 34 = .ok (.invokestatic 249, 3) := kz_dr dd_Bk_transfer_0 18 rfl
theorem d_Bk_transfer_37 : decode prog_1_method_31_code 37 = .ok (.aload_n 0, 1) := kz_dr dd_Bk_transfer_0 19 rfl
theorem d_Bk_transfer_38 : decode prog_1_method_31_code 38 = .ok (.getfield 66, 3) := kz_dr dd_Bk_transfer_0 20 rfl
theorem d_Bk_transfer_41 : decode prog_1_method_31_code 41 = .ok (.iload_n 1, 1) := kz_dr dd_Bk_transfer_0 21 rfl
theorem d_Bk_transfer_42 : decode prog_1_method_31_code 42 = .ok (.invokevirtual 198, 3) := kz_dr dd_Bk_transfer_0 22 rfl
theorem d_Bk_transfer_45 : decode prog_1_method_31_code 45 = .ok (.iload_n 3, 1) := kz_dr dd_Bk_transfer_0 23 rfl
theorem d_Bk_transfer_46 : decode prog_1_method_31_code 46 = .ok (.ifCond .eq 51, 3) := kz_dr dd_Bk_transfer_0 24 rfl
theorem d_Bk_transfer_49 : decode prog_1_method_31_code 49 = .ok (.aload_n 0, 1) := kz_dr dd_Bk_transfer_0 25 rfl
theorem d_Bk_transfer_50 : decode prog_1_method_31_code 50 = .ok (.getfield 53, 3) := kz_dr dd_Bk_transfer_0 26 rfl
theorem d_Bk_transfer_53 : decode prog_1_method_31_code 53 = .ok (.iload_n 1, 1) := kz_dr dd_Bk_transfer_0 27 rfl
theorem d_Bk_transfer_54 : decode prog_1_method_31_code 54 = .ok (.invokevirtual 252, 3) := kz_dr dd_Bk_transfer_0 28 rfl
theorem d_Bk_transfer_57 : decode prog_1_method_31_code 57 = .ok (.aload_n 0, 1) := kz_dr dd_Bk_transfer_0 29 rfl
theorem d_Bk_transfer_58 : decode prog_1_method_31_code 58 = .ok (.getfield 35, 3) := kz_dr dd_Bk_transfer_0 30 rfl
theorem d_Bk_transfer_61 : decode prog_1_method_31_code 61 = .ok (.iload_n 2, 1) := kz_dr dd_Bk_transfer_0 31 rfl
theorem d_Bk_transfer_62 : decode prog_1_method_31_code 62 = .ok (.aload_n 0, 1) := kz_dr dd_Bk_transfer_0 32 rfl
theorem d_Bk_transfer_63 : decode prog_1_method_31_code 63 = .ok (.getfield 42, 3) := kz_dr dd_Bk_transfer_0 33 rfl
theorem d_Bk_transfer_66 : decode prog_1_method_31_code 66 = .ok (.iload_n 1, 1) := kz_dr dd_Bk_transfer_0 34 rfl
theorem d_Bk_transfer_67 : decode prog_1_method_31_code 67 = .ok (.invokevirtual 97, 3) := kz_dr dd_Bk_transfer_0 35 rfl
theorem d_Bk_transfer_70 : decode prog_1_method_31_code 70 = .ok (.invokevirtual 255, 3) := kz_dr dd_Bk_transfer_0 36 rfl
theorem d_Bk_transfer_73 : decode prog_1_method_31_code 73 = .ok (.aload_n 0, 1) := kz_dr dd_Bk_transfer_0 37 rfl
theorem d_Bk_transfer_74 : decode prog_1_method_31_code 74 = .ok (.getfield 42, 3) := kz_dr dd_Bk_transfer_0 38 rfl
theorem d_Bk_transfer_77 : decode prog_1_method_31_code 77 = .ok (.iload_n 1, 1) := kz_dr dd_Bk_transfer_0 39 rfl
theorem d_Bk_transfer_78 : decode prog_1_method_31_code 78 = .ok (.aload_n 0, 1) := kz_dr dd_Bk_transfer_0 40 rfl
theorem d_Bk_transfer_79 : decode prog_1_method_31_code 79 = .ok (.getfield 42, 3) := kz_dr dd_Bk_transfer_0 41 rfl
theorem d_Bk_transfer_82 : decode prog_1_method_31_code 82 = .ok (.iload_n 1, 1) := kz_dr dd_Bk_transfer_0 42 rfl
theorem d_Bk_transfer_83 : decode prog_1_method_31_code 83 = .ok (.invokevirtual 97, 3) := kz_dr dd_Bk_transfer_0 43 rfl
theorem d_Bk_transfer_86 : decode prog_1_method_31_code 86 = .ok (.iconst 2, 1) := kz_dr dd_Bk_transfer_0 44 rfl
theorem d_Bk_transfer_87 : decode prog_1_method_31_code 87 = .ok (.aload_n 0, 1) := kz_dr dd_Bk_transfer_0 45 rfl
theorem d_Bk_transfer_88 : decode prog_1_method_31_code 88 = .ok (.getfield 66, 3) := kz_dr dd_Bk_transfer_0 46 rfl
theorem d_Bk_transfer_91 : decode prog_1_method_31_code 91 = .ok (.invokevirtual 101, 3) := kz_dr dd_Bk_transfer_0 47 rfl
theorem d_Bk_transfer_94 : decode prog_1_method_31_code 94 = .ok (.goto 55, 3) := kz_dr dd_Bk_transfer_0 48 rfl
theorem d_Bk_transfer_97 : decode prog_1_method_31_code 97 = .ok (.aload_n 0, 1) := kz_dr dd_Bk_transfer_0 49 rfl
theorem d_Bk_transfer_98 : decode prog_1_method_31_code 98 = .ok (.getfield 49, 3) := kz_dr dd_Bk_transfer_0 50 rfl
theorem d_Bk_transfer_101 : decode prog_1_method_31_code 101 = .ok (.iload_n 1, 1) := kz_dr dd_Bk_transfer_0 51 rfl
theorem d_Bk_transfer_102 : decode prog_1_method_31_code 102 = .ok (.invokevirtual 252, 3) := kz_dr dd_Bk_transfer_0 52 rfl
theorem d_Bk_transfer_105 : decode prog_1_method_31_code 105 = .ok (.aload_n 0, 1) := kz_dr dd_Bk_transfer_0 53 rfl
theorem d_Bk_transfer_106 : decode prog_1_method_31_code 106 = .ok (.getfield 35, 3) := kz_dr dd_Bk_transfer_0 54 rfl
theorem d_Bk_transfer_109 : decode prog_1_method_31_code 109 = .ok (.iload_n 2, 1) := kz_dr dd_Bk_transfer_0 55 rfl
theorem d_Bk_transfer_110 : decode prog_1_method_31_code 110 = .ok (.invokevirtual 258, 3) := kz_dr dd_Bk_transfer_0 56 rfl
theorem d_Bk_transfer_113 : decode prog_1_method_31_code 113 = .ok (.istore 4, 2) := kz_dr dd_Bk_transfer_0 57 rfl
theorem d_Bk_transfer_115 : decode prog_1_method_31_code 115 = .ok (.aload_n 0, 1) := kz_dr dd_Bk_transfer_0 58 rfl
theorem d_Bk_transfer_116 : decode prog_1_method_31_code 116 = .ok (.getfield 35, 3) := kz_dr dd_Bk_transfer_0 59 rfl
def dl_Bk_transfer_1 : List (Nat × Instr × Nat) := [(119, .iload_n 2, 1), (120, .iload 4, 2), (122, .invokevirtual 261, 3), (125, .lstore 5, 2), (127, .aload_n 0, 1), (128, .getfield 42, 3), (131, .iload_n 1, 1), (132, .lload 5, 2), (134, .iload 4, 2), (136, .invokestatic 265, 3), (139, .aload_n 0, 1), (140, .getfield 28, 3), (143, .invokevirtual 268, 3), (146, .invokevirtual 101, 3), (149, .return_, 1)]
theorem dd_Bk_transfer_1 : dl_Bk_transfer_1.all (fun e => decide (decode prog_1_method_31_code e.1 = .ok e.2)) = true := by decide +kernel
theorem d_Bk_transfer_119 : decode prog_1_method_31_code 119 = .ok (.iload_n 2, 1) := kz_dr dd_Bk_transfer_1 0 rfl
theorem d_Bk_transfer_120 : decode prog_1_method_31_code 120 = .ok (.iload 4, 2) := kz_dr dd_Bk_transfer_1 1 rfl
theorem d_Bk_transfer_122 : decode prog_1_method_31_code 122 = .ok (.invokevirtual 261, 3) := kz_dr dd_Bk_transfer_1 2 rfl
theorem d_Bk_transfer_125 : decode prog_1_method_31_code 125 = .ok (.lstore 5, 2) := kz_dr dd_Bk_transfer_1 3 rfl
theorem d_Bk_transfer_127 : decode prog_1_method_31_code 127 = .ok (.aload_n 0, 1) := kz_dr dd_Bk_transfer_1 4 rfl
theorem d_Bk_transfer_128 : decode prog_1_method_31_code 128 = .ok (.getfield 42, 3) := kz_dr dd_Bk_transfer_1 5 rfl
theorem d_Bk_transfer_131 : decode prog_1_method_31_code 131 = .ok (.iload_n 1, 1) := kz_dr dd_Bk_transfer_1 6 rfl
theorem d_Bk_transfer_132 : decode prog_1_method_31_code 132 = .ok (.lload 5, 2) := kz_dr dd_Bk_transfer_1 7 rfl
theorem d_Bk_transfer_134 : decode prog_1_method_31_code 134 = .ok (.iload 4, 2) := kz_dr dd_Bk_transfer_1 8 rfl
theorem d_Bk_transfer_136 : decode prog_1_method_31_code 136 = .ok (.invokestatic 265, 3) := kz_dr dd_Bk_transfer_1 9 rfl
theorem d_Bk_transfer_139 : decode prog_1_method_31_code 139 = .ok (.aload_n 0, 1) := kz_dr dd_Bk_transfer_1 10 rfl
theorem d_Bk_transfer_140 : decode prog_1_method_31_code 140 = .ok (.getfield 28, 3) := kz_dr dd_Bk_transfer_1 11 rfl
theorem d_Bk_transfer_143 : decode prog_1_method_31_code 143 = .ok (.invokevirtual 268, 3) := kz_dr dd_Bk_transfer_1 12 rfl
theorem d_Bk_transfer_146 : decode prog_1_method_31_code 146 = .ok (.invokevirtual 101, 3) := kz_dr dd_Bk_transfer_1 13 rfl
theorem d_Bk_transfer_149 : decode prog_1_method_31_code 149 = .ok (.return_, 1) := kz_dr dd_Bk_transfer_1 14 rfl
def dl_Ba_transfer_0 : List (Nat × Instr × Nat) := [(0, .aload_n 0, 1), (1, .iload_n 3, 1), (2, .putfield 42, 3), (5, .aload_n 0, 1), (6, .aload_n 0, 1), (7, .iload_n 2, 1), (8, .iload_n 3, 1), (9, .invokevirtual 61, 3), (12, .putfield 52, 3), (15, .aload_n 0, 1), (16, .iload_n 2, 1), (17, .putfield 73, 3), (20, .iload_n 2, 1), (21, .ifCond .eq 18, 3), (24, .aload_n 0, 1), (25, .getfield 35, 3), (28, .iload_n 1, 1), (29, .iload_n 3, 1), (30, .iastore, 1), (31, .aload_n 0, 1), (32, .iload_n 3, 1), (33, .putfield 46, 3), (36, .goto 10, 3), (39, .aload_n 0, 1), (40, .getfield 32, 3), (43, .iload_n 1, 1), (44, .iload_n 3, 1), (45, .iastore, 1), (46, .return_, 1)]
theorem dd_Ba_transfer_0 : dl_Ba_transfer_0.all (fun e => decide (decode prog_2_method_13_code e.1 = .ok e.2)) = true := by decide +kernel
theorem d_Ba_transfer_0 : decode prog_2_method_13_code 0 = .ok (.aload_n 0, 1) := kz_dr dd_Ba_transfer_0 0 rfl
theorem d_Ba_transfer_1 : decode prog_2_method_13_code 1 = .ok (.iload_n 3, 1) := kz_dr dd_Ba_transfer_0 1 rfl
theorem d_Ba_transfer_2 : decode prog_2_method_13_code 2 = .ok (.putfield 42, 3) := kz_dr dd_Ba_transfer_0 2 rfl
theorem d_Ba_transfer_5 : decode prog_2_method_13_code 5 = .ok (.aload_n 0, 1) := kz_dr dd_Ba_transfer_0 3 rfl
theorem d_Ba_transfer_6 : decode prog_2_method_13_code 6 = .ok (.aload_n 0, 1) := kz_dr dd_Ba_transfer_0 4 rfl
theorem d_Ba_transfer_7 : decode prog_2_method_13_code 7 = .ok (.iload_n 2, 1) := kz_dr dd_Ba_transfer_0 5 rfl
theorem d_Ba_transfer_8 : decode prog_2_method_13_code 8 = .ok (.iload_n 3, 1) := kz_dr dd_Ba_transfer_0 6 rfl
theorem d_Ba_transfer_9 : decode prog_2_method_13_code 9 = .ok (.invokevirtual 61, 3) := kz_dr dd_Ba_transfer_0 7 rfl
theorem d_Ba_transfer_12 : decode prog_2_method_13_code 12 = .ok (.putfield 52, 3) := kz_dr dd_Ba_transfer_0 8 rfl
theorem d_Ba_transfer_15 : decode prog_2_method_13_code 15 = .ok (.aload_n 0, 1) := kz_dr dd_Ba_transfer_0 9 rfl
theorem d_Ba_transfer_16 : decode prog_2_method_13_code 16 = .ok (.iload_n 2, 1) := kz_dr dd_Ba_transfer_0 10 rfl
theorem d_Ba_transfer_17 : decode prog_2_method_13_code 17 = .ok (.putfield 73, 3) := kz_dr dd_Ba_transfer_0 11 rfl
theorem d_Ba_transfer_20 : decode prog_2_method_13_code 20 = .ok (.iload_n 2, 1) := kz_dr dd_Ba_transfer_0 12 rfl
theorem d_Ba_transfer_21 : decode prog_2_method_13_code 21 = .ok (.ifCond .eq 18, 3) := kz_dr dd_Ba_transfer_0 13 rfl
theorem d_Ba_transfer_24 : decode prog_2_method_13_code 24 = .ok (.aload_n 0, 1) := kz_dr dd_Ba_transfer_0 14 rfl
theorem d_Ba_transfer_25 : decode prog_2_method_13_code 25 = .ok (.getfield 35, 3) := kz_dr dd_Ba_transfer_0 15 rfl
theorem d_Ba_transfer_28 : decode prog_2_method_13_code 28 = .ok (.iload_n 1, 1) := kz_dr dd_Ba_transfer_0 16 rfl
theorem d_Ba_transfer_29 : decode prog_2_method_13_code 29 = .ok (.iload_n 3, 1) := kz_dr dd_Ba_transfer_0 17 rfl
theorem d_Ba_transfer_30 : decode prog_2_method_13_code 30 = .ok (.iastore, 1) := kz_dr dd_Ba_transfer_0 18 rfl
theorem d_Ba_transfer_31 : decode prog_2_method_13_code 31 = .ok (.aload_n 0, 1) := kz_dr dd_Ba_transfer_0 19 rfl
theorem d_Ba_transfer_32 : decode prog_2_method_13_code 32 = .ok (.iload_n 3, 1) := kz_dr dd_Ba_transfer_0 20 rfl
theorem d_Ba_transfer_33 : decode prog_2_method_13_code 33 = .ok (.putfield 46, 3) := kz_dr dd_Ba_transfer_0 21 rfl
theorem d_Ba_transfer_36 : decode prog_2_method_13_code 36 = .ok (.goto 10, 3) := kz_dr dd_Ba_transfer_0 22 rfl
theorem d_Ba_transfer_39 : decode prog_2_method_13_code 39 = .ok (.aload_n 0, 1) := kz_dr dd_Ba_transfer_0 23 rfl
theorem d_Ba_transfer_40 : decode prog_2_method_13_code 40 = .ok (.getfield 32, 3) := kz_dr dd_Ba_transfer_0 24 rfl
theorem d_Ba_transfer_43 : decode prog_2_method_13_code 43 = .ok (.iload_n 1, 1) := kz_dr dd_Ba_transfer_0 25 rfl
theorem d_Ba_transfer_44 : decode prog_2_method_13_code 44 = .ok (.iload_n 3, 1) := kz_dr dd_Ba_transfer_0 26 rfl
theorem d_Ba_transfer_45 : decode prog_2_method_13_code 45 = .ok (.iastore, 1) := kz_dr dd_Ba_transfer_0 27 rfl
theorem d_Ba_transfer_46 : decode prog_2_method_13_code 46 = .ok (.return_, 1) := kz_dr dd_Ba_transfer_0 28 rfl
def dl_Bk_columnOf_0 : List (Nat × Instr × Nat) := [(0, .iload_n 0, 1), (1, .bipush 8, 2), (3, .irem, 1), (4, .ireturn, 1)]
theorem dd_Bk_columnOf_0 : dl_Bk_columnOf_0.all (fun e => decide (decode prog_1_method_14_code e.1 = .ok e.2)) = true := by decide +kernel
theorem d_Bk_columnOf_0 : decode prog_1_method_14_code 0 = .ok (.iload_n 0, 1) := kz_dr dd_Bk_columnOf_0 0 rfl
theorem d_Bk_columnOf_1 : decode prog_1_method_14_code 1 = .ok (.bipush 8, 2) := kz_dr dd_Bk_columnOf_0 1 rfl
theorem d_Bk_columnOf_3 : decode prog_1_method_14_code 3 = .ok (.irem, 1) := kz_dr dd_Bk_columnOf_0 2 rfl
theorem d_Bk_columnOf_4 : decode prog_1_method_14_code 4 = .ok (.ireturn, 1) := kz_dr dd_Bk_columnOf_0 3 rfl
def dl_Li_remove_0 : List (Nat × Instr × Nat) := [(0, .iconst 0, 1), (1, .istore_n 2, 1), (2, .iconst 0, 1), (3, .istore_n 3, 1), (4, .iload_n 3, 1), (5, .aload_n 0, 1), (6, .getfield 15, 3), (9, .if_icmp .ge 34, 3), (12, .aload_n 0, 1), (13, .getfield 9, 3), (16, .iload_n 3, 1), (17, .iaload, 1), (18, .iload_n 1, 1), (19, .if_icmp .eq 18, 3), (22, .aload_n 0, 1), (23, .getfield 9, 3), (26, .iload_n 2, 1), (27, .aload_n 0, 1), (28, .getfield 9, 3), (31, .iload_n 3, 1), (32, .iaload, 1), (33, .iastore, 1), (34, .iinc 2 1, 3), (37, .iinc 3 1, 3), (40, .goto (-36), 3), (43, .aload_n 0, 1), (44, .iload_n 2, 1), (45, .putfield 15, 3), (48, .return_, 1)]
theorem dd_Li_remove_0 : dl_Li_remove_0.all (fun e => decide (decode prog_4_method_5_code e.1 = .ok e.2)) = true := by decide +kernel
theorem d_Li_remove_0 : decode prog_4_method_5_code 0 = .ok (.iconst 0, 1) := kz_dr dd_Li_remove_0 0 rfl
theorem d_Li_remove_1 : decode prog_4_method_5_code 1 = .ok (.istore_n 2, 1) := kz_dr dd_Li_remove_0 1 rfl
theorem d_Li_remove_2 : decode prog_4_method_5_code 2 = .ok (.iconst 0, 1) := kz_dr dd_Li_remove_0 2 rfl
theorem d_Li_remove_3 : decode prog_4_method_5_code 3 = .ok (.istore_n 3, 1) := kz_dr dd_Li_remove_0 3 rfl
theorem d_Li_remove_4 : decode prog_4_method_5_code 4 = .ok (.iload_n 3, 1) := kz_dr dd_Li_remove_0 4 rfl
theorem d_Li_remove_5 : decode prog_4_method_5_code 5 = .ok (.aload_n 0, 1) := kz_dr dd_Li_remove_0 5 rfl
theorem d_Li_remove_6 : decode prog_4_method_5_code 6 = .ok (.getfield 15, 3) := kz_dr dd_Li_remove_0 6 rfl
theorem d_Li_remove_9 : decode prog_4_method_5_code 9 = .ok (.if_icmp .ge 34, 3) := kz_dr dd_Li_remove_0 7 rfl
theorem d_Li_remove_12 : decode prog_4_method_5_code 12 = .ok (.aload_n 0, 1) := kz_dr dd_Li_remove_0 8 rfl
theorem d_Li_remove_13 : decode prog_4_method_5_code 13 = .ok (.getfield 9, 3) := kz_dr dd_Li_remove_0 9 rfl
theorem d_Li_remove_16 : decode prog_4_method_5_code 16 = .ok (.iload_n 3, 1) := kz_dr dd_Li_remove_0 10 rfl
theorem d_Li_remove_17 : decode prog_4_method_5_code 17 = .ok (.iaload, 1) := kz_dr dd_Li_remove_0 11 rfl
theorem d_Li_remove_18 : decode prog_4_method_5_code 18 = .ok (.iload_n 1, 1) := kz_dr dd_Li_remove_0 12 rfl
theorem d_Li_remove_19 : decode prog_4_method_5_code 19 = .ok (.if_icmp .eq 18, 3) := kz_dr dd_Li_remove_0 13 rfl
theorem d_Li_remove_22 : decode prog_4_method_5_code 22 = .ok (.aload_n 0, 1) := kz_dr dd_Li_remove_0 14 rfl
theorem d_Li_remove_23 : decode prog_4_method_5_code 23 = .ok (.getfield 9, 3) := kz_dr dd_Li_remove_0 15 rfl
theorem d_Li_remove_26 : decode prog_4_method_5_code 26 = .ok (.iload_n 2, 1) := kz_dr dd_Li_remove_0 16 rfl
theorem d_Li_remove_27 : decode prog_4_method_5_code 27 = .ok (.aload_n 0, 1) := kz_dr dd_Li_remove_0 17 rfl
theorem d_Li_remove_28 : decode prog_4_method_5_code 28 = .ok (.getfield 9, 3) := kz_dr dd_Li_remove_0 18 rfl
theorem d_Li_remove_31 : decode prog_4_method_5_code 31 = .ok (.iload_n 3, 1) := kz_dr dd_Li_remove_0 19 rfl
theorem d_Li_remove_32 : decode prog_4_method_5_code 32 = .ok (.iaload, 1) := kz_dr dd_Li_remove_0 20 rfl
theorem d_Li_remove_33 : decode prog_4_method_5_code 33 = .ok (.iastore, 1) := kz_dr dd_Li_remove_0 21 rfl
theorem d_Li_remove_34 : decode prog_4_method_5_code 34 = .ok (.iinc 2 1, 3) := kz_dr dd_Li_remove_0 22 rfl
theorem d_Li_remove_37 : decode prog_4_method_5_code 37 = .ok (.iinc 3 1, 3) := kz_dr dd_Li_remove_0 23 rfl
theorem d_Li_remove_40 : decode prog_4_method_5_code 40 = .ok (.goto (-36), 3) := kz_dr dd_Li_remove_0 24 rfl
theorem d_Li_remove_43 : decode prog_4_method_5_code 43 = .ok (.aload_n 0, 1) := kz_dr dd_Li_remove_0 25 rfl
theorem d_Li_remove_44 : decode prog_4_method_5_code 44 = .ok (.iload_n 2, 1) := kz_dr dd_Li_remove_0 26 rfl
theorem d_Li_remove_45 : decode prog_4_method_5_code 45 = .ok (.putfield 15, 3) := kz_dr dd_Li_remove_0 27 rfl
theorem d_Li_remove_48 : decode prog_4_method_5_code 48 = .ok (.return_, 1) := kz_dr dd_Li_remove_0 28 rfl
def dl_St_keep_0 : List (Nat × Instr × Nat) := [(0, .aload_n 0, 1), (1, .getfield 9, 3), (4, .iload_n 1, 1), (5, .lconst 0, 1), (6, .lastore, 1), (7, .aload_n 0, 1), (8, .getfield 15, 3), (11, .iload_n 1, 1), (12, .iconst 0, 1), (13, .iastore, 1), (14, .iconst 0, 1), (15, .istore 4, 2), (17, .lload_n 2, 1), (18, .lstore 5, 2), (20, .iconst 3, 1), (21, .istore 7, 2), (23, .iload 7, 2), (25, .bipush 72, 2), (27, .if_icmp .ge 46, 3), (30, .iload 7, 2), (32, .invokestatic 19, 3), (35, .ifCond .ne 32, 3), (38, .lload 5, 2), (40, .lconst 1, 1), (41, .land, 1), (42, .lconst 0, 1), (43, .lcmp, 1), (44, .ifCond .eq 17, 3), (47, .aload_n 0, 1), (48, .iload_n 1, 1), (49, .iload 7, 2), (51, .invokevirtual 23, 3), (54, .iload 4, 2), (56, .iload 7, 2), (58, .ixor, 1), (59, .istore 4, 2), (61, .lload 5, 2), (63, .iconst 1, 1), (64, .lushr, 1), (65, .lstore 5, 2), (67, .iinc 7 1, 3), (70, .goto (-47), 3), (73, .iconst 1, 1), (74, .istore 7, 2), (76, .iload 7, 2), (78, .bipush 72, 2), (80, .if_icmp .ge 27, 3), (83, .iload 4, 2), (85, .iload 7, 2), (87, .iand, 1), (88, .ifCond .eq 10, 3), (91, .aload_n 0, 1), (92, .iload_n 1, 1), (93, .iload 7, 2), (95, .invokevirtual 23, 3), (98, .iload 7, 2), (100, .iconst 2, 1), (101, .imul, 1), (102, .istore 7, 2), (104, .goto (-28), 3)]
theorem dd_St_keep_0 : dl_St_keep_0.all (fun e => decide (decode prog_6_method_4_code e.1 = .ok e.2)) = true := by decide +kernel
theorem d_St_keep_0 : decode prog_6_method_4_code 0 = .ok (.aload_n 0, 1) := kz_dr dd_St_keep_0 0 rfl
theorem d_St_keep_1 : decode prog_6_method_4_code 1 = .ok (.getfield 9, 3) := kz_dr dd_St_keep_0 1 rfl
theorem d_St_keep_4 : decode prog_6_method_4_code 4 = .ok (.iload_n 1, 1) := kz_dr dd_St_keep_0 2 rfl
theorem d_St_keep_5 : decode prog_6_method_4_code 5 = .ok (.lconst 0, 1) := kz_dr dd_St_keep_0 3 rfl
theorem d_St_keep_6 : decode prog_6_method_4_code 6 = .ok (.lastore, 1) := kz_dr dd_St_keep_0 4 rfl
theorem d_St_keep_7 : decode prog_6_method_4_code 7 = .ok (.aload_n 0, 1) := kz_dr dd_St_keep_0 5 rfl
theorem d_St_keep_8 : decode prog_6_method_4_code 8 = .ok (.getfield 15, 3) := kz_dr dd_St_keep_0 6 rfl
theorem d_St_keep_11 : decode prog_6_method_4_code 11 = .ok (.iload_n 1, 1) := kz_dr dd_St_keep_0 7 rfl
theorem d_St_keep_12 : decode prog_6_method_4_code 12 = .ok (.iconst 0, 1) := kz_dr dd_St_keep_0 8 rfl
theorem d_St_keep_13 : decode prog_6_method_4_code 13 = .ok (.iastore, 1) := kz_dr dd_St_keep_0 9 rfl
theorem d_St_keep_14 : decode prog_6_method_4_code 14 = .ok (.iconst 0, 1) := kz_dr dd_St_keep_0 10 rfl
theorem d_St_keep_15 : decode prog_6_method_4_code 15 = .ok (.istore 4, 2) := kz_dr dd_St_keep_0 11 rfl
theorem d_St_keep_17 : decode prog_6_method_4_code 17 = .ok (.lload_n 2, 1) := kz_dr dd_St_keep_0 12 rfl
theorem d_St_keep_18 : decode prog_6_method_4_code 18 = .ok (.lstore 5, 2) := kz_dr dd_St_keep_0 13 rfl
theorem d_St_keep_20 : decode prog_6_method_4_code 20 = .ok (.iconst 3, 1) := kz_dr dd_St_keep_0 14 rfl
theorem d_St_keep_21 : decode prog_6_method_4_code 21 = .ok (.istore 7, 2) := kz_dr dd_St_keep_0 15 rfl
theorem d_St_keep_23 : decode prog_6_method_4_code 23 = .ok (.iload 7, 2) := kz_dr dd_St_keep_0 16 rfl
theorem d_St_keep_25 : decode prog_6_method_4_code 25 = .ok (.bipush 72, 2) := kz_dr dd_St_keep_0 17 rfl
theorem d_St_keep_27 : decode prog_6_method_4_code 27 = .ok (.if_icmp .ge 46, 3) := kz_dr dd_St_keep_0 18 rfl
theorem d_St_keep_30 : decode prog_6_method_4_code 30 = .ok (.iload 7, 2) := kz_dr dd_St_keep_0 19 rfl
theorem d_St_keep_32 : decode prog_6_method_4_code 32 = .ok (.invokestatic 19, 3) := kz_dr dd_St_keep_0 20 rfl
theorem d_St_keep_35 : decode prog_6_method_4_code 35 = .ok (.ifCond .ne 32, 3) := kz_dr dd_St_keep_0 21 rfl
theorem d_St_keep_38 : decode prog_6_method_4_code 38 = .ok (.lload 5, 2) := kz_dr dd_St_keep_0 22 rfl
theorem d_St_keep_40 : decode prog_6_method_4_code 40 = .ok (.lconst 1, 1) := kz_dr dd_St_keep_0 23 rfl
theorem d_St_keep_41 : decode prog_6_method_4_code 41 = .ok (.land, 1) := kz_dr dd_St_keep_0 24 rfl
theorem d_St_keep_42 : decode prog_6_method_4_code 42 = .ok (.lconst 0, 1) := kz_dr dd_St_keep_0 25 rfl
theorem d_St_keep_43 : decode prog_6_method_4_code 43 = .ok (.lcmp, 1) := kz_dr dd_St_keep_0 26 rfl
theorem d_St_keep_44 : decode prog_6_method_4_code 44 = .ok (.ifCond .eq 17, 3) := kz_dr dd_St_keep_0 27 rfl
theorem d_St_keep_47 : decode prog_6_method_4_code 47 = .ok (.aload_n 0, 1) := kz_dr dd_St_keep_0 28 rfl
theorem d_St_keep_48 : decode prog_6_method_4_code 48 = .ok (.iload_n 1, 1) := kz_dr dd_St_keep_0 29 rfl
theorem d_St_keep_49 : decode prog_6_method_4_code 49 = .ok (.iload 7, 2) := kz_dr dd_St_keep_0 30 rfl
theorem d_St_keep_51 : decode prog_6_method_4_code 51 = .ok (.invokevirtual 23, 3) := kz_dr dd_St_keep_0 31 rfl
theorem d_St_keep_54 : decode prog_6_method_4_code 54 = .ok (.iload 4, 2) := kz_dr dd_St_keep_0 32 rfl
theorem d_St_keep_56 : decode prog_6_method_4_code 56 = .ok (.iload 7, 2) := kz_dr dd_St_keep_0 33 rfl
theorem d_St_keep_58 : decode prog_6_method_4_code 58 = .ok (.ixor, 1) := kz_dr dd_St_keep_0 34 rfl
theorem d_St_keep_59 : decode prog_6_method_4_code 59 = .ok (.istore 4, 2) := kz_dr dd_St_keep_0 35 rfl
theorem d_St_keep_61 : decode prog_6_method_4_code 61 = .ok (.lload 5, 2) := kz_dr dd_St_keep_0 36 rfl
theorem d_St_keep_63 : decode prog_6_method_4_code 63 = .ok (.iconst 1, 1) := kz_dr dd_St_keep_0 37 rfl
theorem d_St_keep_64 : decode prog_6_method_4_code 64 = .ok (.lushr, 1) := kz_dr dd_St_keep_0 38 rfl
theorem d_St_keep_65 : decode prog_6_method_4_code 65 = .ok (.lstore 5, 2) := kz_dr dd_St_keep_0 39 rfl
theorem d_St_keep_67 : decode prog_6_method_4_code 67 = .ok (.iinc 7 1, 3) := kz_dr dd_St_keep_0 40 rfl
theorem d_St_keep_70 : decode prog_6_method_4_code 70 = .ok (.goto (-47), 3) := kz_dr dd_St_keep_0 41 rfl
theorem d_St_keep_73 : decode prog_6_method_4_code 73 = .ok (.iconst 1, 1) := kz_dr dd_St_keep_0 42 rfl
theorem d_St_keep_74 : decode prog_6_method_4_code 74 = .ok (.istore 7, 2) := kz_dr dd_St_keep_0 43 rfl
theorem d_St_keep_76 : decode prog_6_method_4_code 76 = .ok (.iload 7, 2) := kz_dr dd_St_keep_0 44 rfl
theorem d_St_keep_78 : decode prog_6_method_4_code 78 = .ok (.bipush 72, 2) := kz_dr dd_St_keep_0 45 rfl
theorem d_St_keep_80 : decode prog_6_method_4_code 80 = .ok (.if_icmp .ge 27, 3) := kz_dr dd_St_keep_0 46 rfl
theorem d_St_keep_83 : decode prog_6_method_4_code 83 = .ok (.iload 4, 2) := kz_dr dd_St_keep_0 47 rfl
theorem d_St_keep_85 : decode prog_6_method_4_code 85 = .ok (.iload 7, 2) := kz_dr dd_St_keep_0 48 rfl
theorem d_St_keep_87 : decode prog_6_method_4_code 87 = .ok (.iand, 1) := kz_dr dd_St_keep_0 49 rfl
theorem d_St_keep_88 : decode prog_6_method_4_code 88 = .ok (.ifCond .eq 10, 3) := kz_dr dd_St_keep_0 50 rfl
theorem d_St_keep_91 : decode prog_6_method_4_code 91 = .ok (.aload_n 0, 1) := kz_dr dd_St_keep_0 51 rfl
theorem d_St_keep_92 : decode prog_6_method_4_code 92 = .ok (.iload_n 1, 1) := kz_dr dd_St_keep_0 52 rfl
theorem d_St_keep_93 : decode prog_6_method_4_code 93 = .ok (.iload 7, 2) := kz_dr dd_St_keep_0 53 rfl
theorem d_St_keep_95 : decode prog_6_method_4_code 95 = .ok (.invokevirtual 23, 3) := kz_dr dd_St_keep_0 54 rfl
theorem d_St_keep_98 : decode prog_6_method_4_code 98 = .ok (.iload 7, 2) := kz_dr dd_St_keep_0 55 rfl
theorem d_St_keep_100 : decode prog_6_method_4_code 100 = .ok (.iconst 2, 1) := kz_dr dd_St_keep_0 56 rfl
theorem d_St_keep_101 : decode prog_6_method_4_code 101 = .ok (.imul, 1) := kz_dr dd_St_keep_0 57 rfl
theorem d_St_keep_102 : decode prog_6_method_4_code 102 = .ok (.istore 7, 2) := kz_dr dd_St_keep_0 58 rfl
theorem d_St_keep_104 : decode prog_6_method_4_code 104 = .ok (.goto (-28), 3) := kz_dr dd_St_keep_0 59 rfl
def dl_St_keep_1 : List (Nat × Instr × Nat) := [(107, .aload_n 0, 1), (108, .iload_n 1, 1), (109, .invokevirtual 27, 3), (112, .ifCond .eq 9, 3), (115, .aload_n 0, 1), (116, .iload_n 1, 1), (117, .iconst 0, 1), (118, .invokevirtual 23, 3), (121, .return_, 1)]
theorem dd_St_keep_1 : dl_St_keep_1.all (fun e => decide (decode prog_6_method_4_code e.1 = .ok e.2)) = true := by decide +kernel
theorem d_St_keep_107 : decode prog_6_method_4_code 107 = .ok (.aload_n 0, 1) := kz_dr dd_St_keep_1 0 rfl
theorem d_St_keep_108 : decode prog_6_method_4_code 108 = .ok (.iload_n 1, 1) := kz_dr dd_St_keep_1 1 rfl
theorem d_St_keep_109 : decode prog_6_method_4_code 109 = .ok (.invokevirtual 27, 3) := kz_dr dd_St_keep_1 2 rfl
theorem d_St_keep_112 : decode prog_6_method_4_code 112 = .ok (.ifCond .eq 9, 3) := kz_dr dd_St_keep_1 3 rfl
theorem d_St_keep_115 : decode prog_6_method_4_code 115 = .ok (.aload_n 0, 1) := kz_dr dd_St_keep_1 4 rfl
theorem d_St_keep_116 : decode prog_6_method_4_code 116 = .ok (.iload_n 1, 1) := kz_dr dd_St_keep_1 5 rfl
theorem d_St_keep_117 : decode prog_6_method_4_code 117 = .ok (.iconst 0, 1) := kz_dr dd_St_keep_1 6 rfl
theorem d_St_keep_118 : decode prog_6_method_4_code 118 = .ok (.invokevirtual 23, 3) := kz_dr dd_St_keep_1 7 rfl
theorem d_St_keep_121 : decode prog_6_method_4_code 121 = .ok (.return_, 1) := kz_dr dd_St_keep_1 8 rfl
def dl_St_isCheck_0 : List (Nat × Instr × Nat) := [(0, .iload_n 0, 1), (1, .iload_n 0, 1), (2, .iconst 1, 1), (3, .isub, 1), (4, .iand, 1), (5, .ifCond .ne 7, 3), (8, .iconst 1, 1), (9, .goto 4, 3), (12, .iconst 0, 1), (13, .ireturn, 1)]
theorem dd_St_isCheck_0 : dl_St_isCheck_0.all (fun e => decide (decode prog_6_method_5_code e.1 = .ok e.2)) = true := by decide +kernel
theorem d_St_isCheck_0 : decode prog_6_method_5_code 0 = .ok (.iload_n 0, 1) := kz_dr dd_St_isCheck_0 0 rfl
theorem d_St_isCheck_1 : decode prog_6_method_5_code 1 = .ok (.iload_n 0, 1) := kz_dr dd_St_isCheck_0 1 rfl
theorem d_St_isCheck_2 : decode prog_6_method_5_code 2 = .ok (.iconst 1, 1) := kz_dr dd_St_isCheck_0 2 rfl
theorem d_St_isCheck_3 : decode prog_6_method_5_code 3 = .ok (.isub, 1) := kz_dr dd_St_isCheck_0 3 rfl
theorem d_St_isCheck_4 : decode prog_6_method_5_code 4 = .ok (.iand, 1) := kz_dr dd_St_isCheck_0 4 rfl
theorem d_St_isCheck_5 : decode prog_6_method_5_code 5 = .ok (.ifCond .ne 7, 3) := kz_dr dd_St_isCheck_0 5 rfl
theorem d_St_isCheck_8 : decode prog_6_method_5_code 8 = .ok (.iconst 1, 1) := kz_dr dd_St_isCheck_0 6 rfl
theorem d_St_isCheck_9 : decode prog_6_method_5_code 9 = .ok (.goto 4, 3) := kz_dr dd_St_isCheck_0 7 rfl
theorem d_St_isCheck_12 : decode prog_6_method_5_code 12 = .ok (.iconst 0, 1) := kz_dr dd_St_isCheck_0 8 rfl
theorem d_St_isCheck_13 : decode prog_6_method_5_code 13 = .ok (.ireturn, 1) := kz_dr dd_St_isCheck_0 9 rfl
def dl_St_wordAt_0 : List (Nat × Instr × Nat) := [(0, .lconst 0, 1), (1, .lstore_n 3, 1), (2, .bipush 71, 2), (4, .istore 5, 2), (6, .iload 5, 2), (8, .iconst 3, 1), (9, .if_icmp .lt 47, 3), (12, .iload 5, 2), (14, .invokestatic 19, 3), (17, .ifCond .ne 33, 3), (20, .aload_n 0, 1), (21, .iload_n 1, 1), (22, .iload 5, 2), (24, .invokevirtual 30, 3), (27, .istore 6, 2), (29, .lload_n 3, 1), (30, .iconst 1, 1), (31, .lshl, 1), (32, .iload 5, 2), (34, .iload_n 2, 1), (35, .if_icmp .ne 10, 3), (38, .iconst 1, 1), (39, .iload 6, 2), (41, .isub, 1), (42, .goto 5, 3), (45, .iload 6, 2), (47, .i2l, 1), (48, .lor, 1), (49, .lstore_n 3, 1), (50, .iinc 5 (-1), 3), (53, .goto (-47), 3), (56, .lload_n 3, 1), (57, .lreturn, 1)]
theorem dd_St_wordAt_0 : dl_St_wordAt_0.all (fun e => decide (decode prog_6_method_9_code e.1 = .ok e.2)) = true := by decide +kernel
theorem d_St_wordAt_0 : decode prog_6_method_9_code 0 = .ok (.lconst 0, 1) := kz_dr dd_St_wordAt_0 0 rfl
theorem d_St_wordAt_1 : decode prog_6_method_9_code 1 = .ok (.lstore_n 3, 1) := kz_dr dd_St_wordAt_0 1 rfl
theorem d_St_wordAt_2 : decode prog_6_method_9_code 2 = .ok (.bipush 71, 2) := kz_dr dd_St_wordAt_0 2 rfl
theorem d_St_wordAt_4 : decode prog_6_method_9_code 4 = .ok (.istore 5, 2) := kz_dr dd_St_wordAt_0 3 rfl
theorem d_St_wordAt_6 : decode prog_6_method_9_code 6 = .ok (.iload 5, 2) := kz_dr dd_St_wordAt_0 4 rfl
theorem d_St_wordAt_8 : decode prog_6_method_9_code 8 = .ok (.iconst 3, 1) := kz_dr dd_St_wordAt_0 5 rfl
theorem d_St_wordAt_9 : decode prog_6_method_9_code 9 = .ok (.if_icmp .lt 47, 3) := kz_dr dd_St_wordAt_0 6 rfl
theorem d_St_wordAt_12 : decode prog_6_method_9_code 12 = .ok (.iload 5, 2) := kz_dr dd_St_wordAt_0 7 rfl
theorem d_St_wordAt_14 : decode prog_6_method_9_code 14 = .ok (.invokestatic 19, 3) := kz_dr dd_St_wordAt_0 8 rfl
theorem d_St_wordAt_17 : decode prog_6_method_9_code 17 = .ok (.ifCond .ne 33, 3) := kz_dr dd_St_wordAt_0 9 rfl
theorem d_St_wordAt_20 : decode prog_6_method_9_code 20 = .ok (.aload_n 0, 1) := kz_dr dd_St_wordAt_0 10 rfl
theorem d_St_wordAt_21 : decode prog_6_method_9_code 21 = .ok (.iload_n 1, 1) := kz_dr dd_St_wordAt_0 11 rfl
theorem d_St_wordAt_22 : decode prog_6_method_9_code 22 = .ok (.iload 5, 2) := kz_dr dd_St_wordAt_0 12 rfl
theorem d_St_wordAt_24 : decode prog_6_method_9_code 24 = .ok (.invokevirtual 30, 3) := kz_dr dd_St_wordAt_0 13 rfl
theorem d_St_wordAt_27 : decode prog_6_method_9_code 27 = .ok (.istore 6, 2) := kz_dr dd_St_wordAt_0 14 rfl
theorem d_St_wordAt_29 : decode prog_6_method_9_code 29 = .ok (.lload_n 3, 1) := kz_dr dd_St_wordAt_0 15 rfl
theorem d_St_wordAt_30 : decode prog_6_method_9_code 30 = .ok (.iconst 1, 1) := kz_dr dd_St_wordAt_0 16 rfl
theorem d_St_wordAt_31 : decode prog_6_method_9_code 31 = .ok (.lshl, 1) := kz_dr dd_St_wordAt_0 17 rfl
theorem d_St_wordAt_32 : decode prog_6_method_9_code 32 = .ok (.iload 5, 2) := kz_dr dd_St_wordAt_0 18 rfl
theorem d_St_wordAt_34 : decode prog_6_method_9_code 34 = .ok (.iload_n 2, 1) := kz_dr dd_St_wordAt_0 19 rfl
theorem d_St_wordAt_35 : decode prog_6_method_9_code 35 = .ok (.if_icmp .ne 10, 3) := kz_dr dd_St_wordAt_0 20 rfl
theorem d_St_wordAt_38 : decode prog_6_method_9_code 38 = .ok (.iconst 1, 1) := kz_dr dd_St_wordAt_0 21 rfl
theorem d_St_wordAt_39 : decode prog_6_method_9_code 39 = .ok (.iload 6, 2) := kz_dr dd_St_wordAt_0 22 rfl
theorem d_St_wordAt_41 : decode prog_6_method_9_code 41 = .ok (.isub, 1) := kz_dr dd_St_wordAt_0 23 rfl
theorem d_St_wordAt_42 : decode prog_6_method_9_code 42 = .ok (.goto 5, 3) := kz_dr dd_St_wordAt_0 24 rfl
theorem d_St_wordAt_45 : decode prog_6_method_9_code 45 = .ok (.iload 6, 2) := kz_dr dd_St_wordAt_0 25 rfl
theorem d_St_wordAt_47 : decode prog_6_method_9_code 47 = .ok (.i2l, 1) := kz_dr dd_St_wordAt_0 26 rfl
theorem d_St_wordAt_48 : decode prog_6_method_9_code 48 = .ok (.lor, 1) := kz_dr dd_St_wordAt_0 27 rfl
theorem d_St_wordAt_49 : decode prog_6_method_9_code 49 = .ok (.lstore_n 3, 1) := kz_dr dd_St_wordAt_0 28 rfl
theorem d_St_wordAt_50 : decode prog_6_method_9_code 50 = .ok (.iinc 5 (-1), 3) := kz_dr dd_St_wordAt_0 29 rfl
theorem d_St_wordAt_53 : decode prog_6_method_9_code 53 = .ok (.goto (-47), 3) := kz_dr dd_St_wordAt_0 30 rfl
theorem d_St_wordAt_56 : decode prog_6_method_9_code 56 = .ok (.lload_n 3, 1) := kz_dr dd_St_wordAt_0 31 rfl
theorem d_St_wordAt_57 : decode prog_6_method_9_code 57 = .ok (.lreturn, 1) := kz_dr dd_St_wordAt_0 32 rfl
def dl_Bk_stageAfter_0 : List (Nat × Instr × Nat) := [(0, .iload_n 0, 1), (1, .iconst (-1), 1), (2, .if_icmp .ne 5, 3), (5, .iconst 2, 1), (6, .ireturn, 1), (7, .iload_n 0, 1), (8, .bipush (-2), 2), (10, .if_icmp .ne 7, 3), (13, .iconst 4, 1), (14, .goto 4, 3), (17, .iconst 3, 1), (18, .ireturn, 1)]
theorem dd_Bk_stageAfter_0 : dl_Bk_stageAfter_0.all (fun e => decide (decode prog_1_method_32_code e.1 = .ok e.2)) = true := by decide +kernel
theorem d_Bk_stageAfter_0 : decode prog_1_method_32_code 0 = .ok (.iload_n 0, 1) := kz_dr dd_Bk_stageAfter_0 0 rfl
theorem d_Bk_stageAfter_1 : decode prog_1_method_32_code 1 = .ok (.iconst (-1), 1) := kz_dr dd_Bk_stageAfter_0 1 rfl
theorem d_Bk_stageAfter_2 : decode prog_1_method_32_code 2 = .ok (.if_icmp .ne 5, 3) := kz_dr dd_Bk_stageAfter_0 2 rfl
theorem d_Bk_stageAfter_5 : decode prog_1_method_32_code 5 = .ok (.iconst 2, 1) := kz_dr dd_Bk_stageAfter_0 3 rfl
theorem d_Bk_stageAfter_6 : decode prog_1_method_32_code 6 = .ok (.ireturn, 1) := kz_dr dd_Bk_stageAfter_0 4 rfl
theorem d_Bk_stageAfter_7 : decode prog_1_method_32_code 7 = .ok (.iload_n 0, 1) := kz_dr dd_Bk_stageAfter_0 5 rfl
theorem d_Bk_stageAfter_8 : decode prog_1_method_32_code 8 = .ok (.bipush (-2), 2) := kz_dr dd_Bk_stageAfter_0 6 rfl
theorem d_Bk_stageAfter_10 : decode prog_1_method_32_code 10 = .ok (.if_icmp .ne 7, 3) := kz_dr dd_Bk_stageAfter_0 7 rfl
theorem d_Bk_stageAfter_13 : decode prog_1_method_32_code 13 = .ok (.iconst 4, 1) := kz_dr dd_Bk_stageAfter_0 8 rfl
theorem d_Bk_stageAfter_14 : decode prog_1_method_32_code 14 = .ok (.goto 4, 3) := kz_dr dd_Bk_stageAfter_0 9 rfl
theorem d_Bk_stageAfter_17 : decode prog_1_method_32_code 17 = .ok (.iconst 3, 1) := kz_dr dd_Bk_stageAfter_0 10 rfl
theorem d_Bk_stageAfter_18 : decode prog_1_method_32_code 18 = .ok (.ireturn, 1) := kz_dr dd_Bk_stageAfter_0 11 rfl
def dl_Bk_openOrCloseForOldest_0 : List (Nat × Instr × Nat) := [(0, .iconst 0, 1), (1, .istore_n 1, 1), (2, .iload_n 1, 1), (3, .aload_n 0, 1), (4, .getfield 56, 3), (7, .invokevirtual 81, 3), (10, .if_icmp .ge 84, 3), (13, .aload_n 0, 1), (14, .getfield 42, 3), (17, .aload_n 0, 1), (18, .getfield 56, 3), (21, .iload_n 1, 1), (22, .invokevirtual 151, 3), (25, .invokevirtual 154, 3), (28, .istore_n 2, 1), (29, .iload_n 2, 1), (30, .invokestatic 232, 3), (33, .istore_n 3, 1), (34, .aload_n 0, 1), (35, .getfield 28, 3), (38, .iload_n 3, 1), (39, .aload_n 0, 1), (40, .getfield 66, 3), (43, .invokevirtual 271, 3), (46, .ifCond .eq 13, 3), (49, .aload_n 0, 1), (50, .iload_n 3, 1), (51, .iload_n 2, 1), (52, .invokestatic 235, 3), (55, .invokevirtual 274, 3), (58, .return_, 1), (59, .aload_n 0, 1), (60, .getfield 28, 3), (63, .iload_n 3, 1), (64, .aload_n 0, 1), (65, .getfield 66, 3), (68, .invokevirtual 190, 3), (71, .ifCond .eq 17, 3), (74, .aload_n 0, 1), (75, .iload_n 3, 1), (76, .invokevirtual 276, 3), (79, .ifCond .ne 9, 3), (82, .aload_n 0, 1), (83, .iload_n 3, 1), (84, .invokevirtual 193, 3), (87, .return_, 1), (88, .iinc 1 1, 3), (91, .goto (-89), 3), (94, .return_, 1)]
theorem dd_Bk_openOrCloseForOldest_0 : dl_Bk_openOrCloseForOldest_0.all (fun e => decide (decode prog_1_method_33_code e.1 = .ok e.2)) = true := by decide +kernel
theorem d_Bk_openOrCloseForOldest_0 : decode prog_1_method_33_code 0 = .ok (.iconst 0, 1) := kz_dr dd_Bk_openOrCloseForOldest_0 0 rfl
theorem d_Bk_openOrCloseForOldest_1 : decode prog_1_method_33_code 1 = .ok (.istore_n 1, 1) := kz_dr dd_Bk_openOrCloseForOldest_0 1 rfl
theorem d_Bk_openOrCloseForOldest_2 : decode prog_1_method_33_code 2 = .ok (.iload_n 1, 1) := kz_dr dd_Bk_openOrCloseForOldest_0 2 rfl
theorem d_Bk_openOrCloseForOldest_3 : decode prog_1_method_33_code 3 = .ok (.aload_n 0, 1) := kz_dr dd_Bk_openOrCloseForOldest_0 3 rfl
theorem d_Bk_openOrCloseForOldest_4 : decode prog_1_method_33_code 4 = .ok (.getfield 56, 3) := kz_dr dd_Bk_openOrCloseForOldest_0 4 rfl
theorem d_Bk_openOrCloseForOldest_7 : decode prog_1_method_33_code 7 = .ok (.invokevirtual 81, 3) := kz_dr dd_Bk_openOrCloseForOldest_0 5 rfl
theorem d_Bk_openOrCloseForOldest_10 : decode prog_1_method_33_code 10 = .ok (.if_icmp .ge 84, 3) := kz_dr dd_Bk_openOrCloseForOldest_0 6 rfl
theorem d_Bk_openOrCloseForOldest_13 : decode prog_1_method_33_code 13 = .ok (.aload_n 0, 1) := kz_dr dd_Bk_openOrCloseForOldest_0 7 rfl
theorem d_Bk_openOrCloseForOldest_14 : decode prog_1_method_33_code 14 = .ok (.getfield 42, 3) := kz_dr dd_Bk_openOrCloseForOldest_0 8 rfl
theorem d_Bk_openOrCloseForOldest_17 : decode prog_1_method_33_code 17 = .ok (.aload_n 0, 1) := kz_dr dd_Bk_openOrCloseForOldest_0 9 rfl
theorem d_Bk_openOrCloseForOldest_18 : decode prog_1_method_33_code 18 = .ok (.getfield 56, 3) := kz_dr dd_Bk_openOrCloseForOldest_0 10 rfl
theorem d_Bk_openOrCloseForOldest_21 : decode prog_1_method_33_code 21 = .ok (.iload_n 1, 1) := kz_dr dd_Bk_openOrCloseForOldest_0 11 rfl
theorem d_Bk_openOrCloseForOldest_22 : decode prog_1_method_33_code 22 = .ok (.invokevirtual 151, 3) := kz_dr dd_Bk_openOrCloseForOldest_0 12 rfl
theorem d_Bk_openOrCloseForOldest_25 : decode prog_1_method_33_code 25 = .ok (.invokevirtual 154, 3) := kz_dr dd_Bk_openOrCloseForOldest_0 13 rfl
theorem d_Bk_openOrCloseForOldest_28 : decode prog_1_method_33_code 28 = .ok (.istore_n 2, 1) := kz_dr dd_Bk_openOrCloseForOldest_0 14 rfl
theorem d_Bk_openOrCloseForOldest_29 : decode prog_1_method_33_code 29 = .ok (.iload_n 2, 1) := kz_dr dd_Bk_openOrCloseForOldest_0 15 rfl
theorem d_Bk_openOrCloseForOldest_30 : decode prog_1_method_33_code 30 = .ok (.invokestatic 232, 3) := kz_dr dd_Bk_openOrCloseForOldest_0 16 rfl
theorem d_Bk_openOrCloseForOldest_33 : decode prog_1_method_33_code 33 = .ok (.istore_n 3, 1) := kz_dr dd_Bk_openOrCloseForOldest_0 17 rfl
theorem d_Bk_openOrCloseForOldest_34 : decode prog_1_method_33_code 34 = .ok (.aload_n 0, 1) := kz_dr dd_Bk_openOrCloseForOldest_0 18 rfl
theorem d_Bk_openOrCloseForOldest_35 : decode prog_1_method_33_code 35 = .ok (.getfield 28, 3) := kz_dr dd_Bk_openOrCloseForOldest_0 19 rfl
theorem d_Bk_openOrCloseForOldest_38 : decode prog_1_method_33_code 38 = .ok (.iload_n 3, 1) := kz_dr dd_Bk_openOrCloseForOldest_0 20 rfl
theorem d_Bk_openOrCloseForOldest_39 : decode prog_1_method_33_code 39 = .ok (.aload_n 0, 1) := kz_dr dd_Bk_openOrCloseForOldest_0 21 rfl
theorem d_Bk_openOrCloseForOldest_40 : decode prog_1_method_33_code 40 = .ok (.getfield 66, 3) := kz_dr dd_Bk_openOrCloseForOldest_0 22 rfl
theorem d_Bk_openOrCloseForOldest_43 : decode prog_1_method_33_code 43 = .ok (.invokevirtual 271, 3) := kz_dr dd_Bk_openOrCloseForOldest_0 23 rfl
theorem d_Bk_openOrCloseForOldest_46 : decode prog_1_method_33_code 46 = .ok (.ifCond .eq 13, 3) := kz_dr dd_Bk_openOrCloseForOldest_0 24 rfl
theorem d_Bk_openOrCloseForOldest_49 : decode prog_1_method_33_code 49 = .ok (.aload_n 0, 1) := kz_dr dd_Bk_openOrCloseForOldest_0 25 rfl
theorem d_Bk_openOrCloseForOldest_50 : decode prog_1_method_33_code 50 = .ok (.iload_n 3, 1) := kz_dr dd_Bk_openOrCloseForOldest_0 26 rfl
theorem d_Bk_openOrCloseForOldest_51 : decode prog_1_method_33_code 51 = .ok (.iload_n 2, 1) := kz_dr dd_Bk_openOrCloseForOldest_0 27 rfl
theorem d_Bk_openOrCloseForOldest_52 : decode prog_1_method_33_code 52 = .ok (.invokestatic 235, 3) := kz_dr dd_Bk_openOrCloseForOldest_0 28 rfl
theorem d_Bk_openOrCloseForOldest_55 : decode prog_1_method_33_code 55 = .ok (.invokevirtual 274, 3) := kz_dr dd_Bk_openOrCloseForOldest_0 29 rfl
theorem d_Bk_openOrCloseForOldest_58 : decode prog_1_method_33_code 58 = .ok (.return_, 1) := kz_dr dd_Bk_openOrCloseForOldest_0 30 rfl
theorem d_Bk_openOrCloseForOldest_59 : decode prog_1_method_33_code 59 = .ok (.aload_n 0, 1) := kz_dr dd_Bk_openOrCloseForOldest_0 31 rfl
theorem d_Bk_openOrCloseForOldest_60 : decode prog_1_method_33_code 60 = .ok (.getfield 28, 3) := kz_dr dd_Bk_openOrCloseForOldest_0 32 rfl
theorem d_Bk_openOrCloseForOldest_63 : decode prog_1_method_33_code 63 = .ok (.iload_n 3, 1) := kz_dr dd_Bk_openOrCloseForOldest_0 33 rfl
theorem d_Bk_openOrCloseForOldest_64 : decode prog_1_method_33_code 64 = .ok (.aload_n 0, 1) := kz_dr dd_Bk_openOrCloseForOldest_0 34 rfl
theorem d_Bk_openOrCloseForOldest_65 : decode prog_1_method_33_code 65 = .ok (.getfield 66, 3) := kz_dr dd_Bk_openOrCloseForOldest_0 35 rfl
theorem d_Bk_openOrCloseForOldest_68 : decode prog_1_method_33_code 68 = .ok (.invokevirtual 190, 3) := kz_dr dd_Bk_openOrCloseForOldest_0 36 rfl
theorem d_Bk_openOrCloseForOldest_71 : decode prog_1_method_33_code 71 = .ok (.ifCond .eq 17, 3) := kz_dr dd_Bk_openOrCloseForOldest_0 37 rfl
theorem d_Bk_openOrCloseForOldest_74 : decode prog_1_method_33_code 74 = .ok (.aload_n 0, 1) := kz_dr dd_Bk_openOrCloseForOldest_0 38 rfl
theorem d_Bk_openOrCloseForOldest_75 : decode prog_1_method_33_code 75 = .ok (.iload_n 3, 1) := kz_dr dd_Bk_openOrCloseForOldest_0 39 rfl
theorem d_Bk_openOrCloseForOldest_76 : decode prog_1_method_33_code 76 = .ok (.invokevirtual 276, 3) := kz_dr dd_Bk_openOrCloseForOldest_0 40 rfl
theorem d_Bk_openOrCloseForOldest_79 : decode prog_1_method_33_code 79 = .ok (.ifCond .ne 9, 3) := kz_dr dd_Bk_openOrCloseForOldest_0 41 rfl
theorem d_Bk_openOrCloseForOldest_82 : decode prog_1_method_33_code 82 = .ok (.aload_n 0, 1) := kz_dr dd_Bk_openOrCloseForOldest_0 42 rfl
theorem d_Bk_openOrCloseForOldest_83 : decode prog_1_method_33_code 83 = .ok (.iload_n 3, 1) := kz_dr dd_Bk_openOrCloseForOldest_0 43 rfl
theorem d_Bk_openOrCloseForOldest_84 : decode prog_1_method_33_code 84 = .ok (.invokevirtual 193, 3) := kz_dr dd_Bk_openOrCloseForOldest_0 44 rfl
theorem d_Bk_openOrCloseForOldest_87 : decode prog_1_method_33_code 87 = .ok (.return_, 1) := kz_dr dd_Bk_openOrCloseForOldest_0 45 rfl
theorem d_Bk_openOrCloseForOldest_88 : decode prog_1_method_33_code 88 = .ok (.iinc 1 1, 3) := kz_dr dd_Bk_openOrCloseForOldest_0 46 rfl
theorem d_Bk_openOrCloseForOldest_91 : decode prog_1_method_33_code 91 = .ok (.goto (-89), 3) := kz_dr dd_Bk_openOrCloseForOldest_0 47 rfl
theorem d_Bk_openOrCloseForOldest_94 : decode prog_1_method_33_code 94 = .ok (.return_, 1) := kz_dr dd_Bk_openOrCloseForOldest_0 48 rfl
def dl_Ba_mayActivate_0 : List (Nat × Instr × Nat) := [(0, .aload_n 0, 1), (1, .getfield 23, 3), (4, .iload_n 1, 1), (5, .iaload, 1), (6, .iconst (-1), 1), (7, .if_icmp .ne 91, 3), (10, .iload_n 2, 1), (11, .aload_n 0, 1), (12, .getfield 29, 3), (15, .iload_n 1, 1), (16, .iaload, 1), (17, .isub, 1), (18, .aload_n 0, 1), (19, .getfield 18, 3), (22, .iconst 1, 1), (23, .iaload, 1), (24, .if_icmp .lt 74, 3), (27, .iload_n 2, 1), (28, .aload_n 0, 1), (29, .getfield 26, 3), (32, .iload_n 1, 1), (33, .iaload, 1), (34, .isub, 1), (35, .aload_n 0, 1), (36, .getfield 18, 3), (39, .iconst 3, 1), (40, .iaload, 1), (41, .if_icmp .lt 57, 3), (44, .iload_n 2, 1), (45, .aload_n 0, 1), (46, .getfield 38, 3), (49, .iconst 0, 1), (50, .iaload, 1), (51, .isub, 1), (52, .aload_n 0, 1), (53, .getfield 18, 3), (56, .iconst 4, 1), (57, .iaload, 1), (58, .if_icmp .lt 40, 3), (61, .iload_n 2, 1), (62, .aload_n 0, 1), (63, .getfield 38, 3), (66, .iconst 3, 1), (67, .iaload, 1), (68, .isub, 1), (69, .aload_n 0, 1), (70, .getfield 18, 3), (73, .iconst 5, 1), (74, .iaload, 1), (75, .if_icmp .lt 23, 3), (78, .iload_n 2, 1), (79, .aload_n 0, 1), (80, .getfield 49, 3), (83, .isub, 1), (84, .aload_n 0, 1), (85, .getfield 18, 3), (88, .bipush 12, 2), (90, .iaload, 1), (91, .if_icmp .lt 7, 3), (94, .iconst 1, 1)]
theorem dd_Ba_mayActivate_0 : dl_Ba_mayActivate_0.all (fun e => decide (decode prog_2_method_5_code e.1 = .ok e.2)) = true := by decide +kernel
theorem d_Ba_mayActivate_0 : decode prog_2_method_5_code 0 = .ok (.aload_n 0, 1) := kz_dr dd_Ba_mayActivate_0 0 rfl
theorem d_Ba_mayActivate_1 : decode prog_2_method_5_code 1 = .ok (.getfield 23, 3) := kz_dr dd_Ba_mayActivate_0 1 rfl
theorem d_Ba_mayActivate_4 : decode prog_2_method_5_code 4 = .ok (.iload_n 1, 1) := kz_dr dd_Ba_mayActivate_0 2 rfl
theorem d_Ba_mayActivate_5 : decode prog_2_method_5_code 5 = .ok (.iaload, 1) := kz_dr dd_Ba_mayActivate_0 3 rfl
theorem d_Ba_mayActivate_6 : decode prog_2_method_5_code 6 = .ok (.iconst (-1), 1) := kz_dr dd_Ba_mayActivate_0 4 rfl
theorem d_Ba_mayActivate_7 : decode prog_2_method_5_code 7 = .ok (.if_icmp .ne 91, 3) := kz_dr dd_Ba_mayActivate_0 5 rfl
theorem d_Ba_mayActivate_10 : decode prog_2_method_5_code 10 = .ok (.iload_n 2, 1) := kz_dr dd_Ba_mayActivate_0 6 rfl
theorem d_Ba_mayActivate_11 : decode prog_2_method_5_code 11 = .ok (.aload_n 0, 1) := kz_dr dd_Ba_mayActivate_0 7 rfl
theorem d_Ba_mayActivate_12 : decode prog_2_method_5_code 12 = .ok (.getfield 29, 3) := kz_dr dd_Ba_mayActivate_0 8 rfl
theorem d_Ba_mayActivate_15 : decode prog_2_method_5_code 15 = .ok (.iload_n 1, 1) := kz_dr dd_Ba_mayActivate_0 9 rfl
theorem d_Ba_mayActivate_16 : decode prog_2_method_5_code 16 = .ok (.iaload, 1) := kz_dr dd_Ba_mayActivate_0 10 rfl
theorem d_Ba_mayActivate_17 : decode prog_2_method_5_code 17 = .ok (.isub, 1) := kz_dr dd_Ba_mayActivate_0 11 rfl
theorem d_Ba_mayActivate_18 : decode prog_2_method_5_code 18 = .ok (.aload_n 0, 1) := kz_dr dd_Ba_mayActivate_0 12 rfl
theorem d_Ba_mayActivate_19 : decode prog_2_method_5_code 19 = .ok (.getfield 18, 3) := kz_dr dd_Ba_mayActivate_0 13 rfl
theorem d_Ba_mayActivate_22 : decode prog_2_method_5_code 22 = .ok (.iconst 1, 1) := kz_dr dd_Ba_mayActivate_0 14 rfl
theorem d_Ba_mayActivate_23 : decode prog_2_method_5_code 23 = .ok (.iaload, 1) := kz_dr dd_Ba_mayActivate_0 15 rfl
theorem d_Ba_mayActivate_24 : decode prog_2_method_5_code 24 = .ok (.if_icmp .lt 74, 3) := kz_dr dd_Ba_mayActivate_0 16 rfl
theorem d_Ba_mayActivate_27 : decode prog_2_method_5_code 27 = .ok (.iload_n 2, 1) := kz_dr dd_Ba_mayActivate_0 17 rfl
theorem d_Ba_mayActivate_28 : decode prog_2_method_5_code 28 = .ok (.aload_n 0, 1) := kz_dr dd_Ba_mayActivate_0 18 rfl
theorem d_Ba_mayActivate_29 : decode prog_2_method_5_code 29 = .ok (.getfield 26, 3) := kz_dr dd_Ba_mayActivate_0 19 rfl
theorem d_Ba_mayActivate_32 : decode prog_2_method_5_code 32 = .ok (.iload_n 1, 1) := kz_dr dd_Ba_mayActivate_0 20 rfl
theorem d_Ba_mayActivate_33 : decode prog_2_method_5_code 33 = .ok (.iaload, 1) := kz_dr dd_Ba_mayActivate_0 21 rfl
theorem d_Ba_mayActivate_34 : decode prog_2_method_5_code 34 = .ok (.isub, 1) := kz_dr dd_Ba_mayActivate_0 22 rfl
theorem d_Ba_mayActivate_35 : decode prog_2_method_5_code 35 = .ok (.aload_n 0, 1) := kz_dr dd_Ba_mayActivate_0 23 rfl
theorem d_Ba_mayActivate_36 : decode prog_2_method_5_code 36 = .ok (.getfield 18, 3) := kz_dr dd_Ba_mayActivate_0 24 rfl
theorem d_Ba_mayActivate_39 : decode prog_2_method_5_code 39 = .ok (.iconst 3, 1) := kz_dr dd_Ba_mayActivate_0 25 rfl
theorem d_Ba_mayActivate_40 : decode prog_2_method_5_code 40 = .ok (.iaload, 1) := kz_dr dd_Ba_mayActivate_0 26 rfl
theorem d_Ba_mayActivate_41 : decode prog_2_method_5_code 41 = .ok (.if_icmp .lt 57, 3) := kz_dr dd_Ba_mayActivate_0 27 rfl
theorem d_Ba_mayActivate_44 : decode prog_2_method_5_code 44 = .ok (.iload_n 2, 1) := kz_dr dd_Ba_mayActivate_0 28 rfl
theorem d_Ba_mayActivate_45 : decode prog_2_method_5_code 45 = .ok (.aload_n 0, 1) := kz_dr dd_Ba_mayActivate_0 29 rfl
theorem d_Ba_mayActivate_46 : decode prog_2_method_5_code 46 = .ok (.getfield 38, 3) := kz_dr dd_Ba_mayActivate_0 30 rfl
theorem d_Ba_mayActivate_49 : decode prog_2_method_5_code 49 = .ok (.iconst 0, 1) := kz_dr dd_Ba_mayActivate_0 31 rfl
theorem d_Ba_mayActivate_50 : decode prog_2_method_5_code 50 = .ok (.iaload, 1) := kz_dr dd_Ba_mayActivate_0 32 rfl
theorem d_Ba_mayActivate_51 : decode prog_2_method_5_code 51 = .ok (.isub, 1) := kz_dr dd_Ba_mayActivate_0 33 rfl
theorem d_Ba_mayActivate_52 : decode prog_2_method_5_code 52 = .ok (.aload_n 0, 1) := kz_dr dd_Ba_mayActivate_0 34 rfl
theorem d_Ba_mayActivate_53 : decode prog_2_method_5_code 53 = .ok (.getfield 18, 3) := kz_dr dd_Ba_mayActivate_0 35 rfl
theorem d_Ba_mayActivate_56 : decode prog_2_method_5_code 56 = .ok (.iconst 4, 1) := kz_dr dd_Ba_mayActivate_0 36 rfl
theorem d_Ba_mayActivate_57 : decode prog_2_method_5_code 57 = .ok (.iaload, 1) := kz_dr dd_Ba_mayActivate_0 37 rfl
theorem d_Ba_mayActivate_58 : decode prog_2_method_5_code 58 = .ok (.if_icmp .lt 40, 3) := kz_dr dd_Ba_mayActivate_0 38 rfl
theorem d_Ba_mayActivate_61 : decode prog_2_method_5_code 61 = .ok (.iload_n 2, 1) := kz_dr dd_Ba_mayActivate_0 39 rfl
theorem d_Ba_mayActivate_62 : decode prog_2_method_5_code 62 = .ok (.aload_n 0, 1) := kz_dr dd_Ba_mayActivate_0 40 rfl
theorem d_Ba_mayActivate_63 : decode prog_2_method_5_code 63 = .ok (.getfield 38, 3) := kz_dr dd_Ba_mayActivate_0 41 rfl
theorem d_Ba_mayActivate_66 : decode prog_2_method_5_code 66 = .ok (.iconst 3, 1) := kz_dr dd_Ba_mayActivate_0 42 rfl
theorem d_Ba_mayActivate_67 : decode prog_2_method_5_code 67 = .ok (.iaload, 1) := kz_dr dd_Ba_mayActivate_0 43 rfl
theorem d_Ba_mayActivate_68 : decode prog_2_method_5_code 68 = .ok (.isub, 1) := kz_dr dd_Ba_mayActivate_0 44 rfl
theorem d_Ba_mayActivate_69 : decode prog_2_method_5_code 69 = .ok (.aload_n 0, 1) := kz_dr dd_Ba_mayActivate_0 45 rfl
theorem d_Ba_mayActivate_70 : decode prog_2_method_5_code 70 = .ok (.getfield 18, 3) := kz_dr dd_Ba_mayActivate_0 46 rfl
theorem d_Ba_mayActivate_73 : decode prog_2_method_5_code 73 = .ok (.iconst 5, 1) := kz_dr dd_Ba_mayActivate_0 47 rfl
theorem d_Ba_mayActivate_74 : decode prog_2_method_5_code 74 = .ok (.iaload, 1) := kz_dr dd_Ba_mayActivate_0 48 rfl
theorem d_Ba_mayActivate_75 : decode prog_2_method_5_code 75 = .ok (.if_icmp .lt 23, 3) := kz_dr dd_Ba_mayActivate_0 49 rfl
theorem d_Ba_mayActivate_78 : decode prog_2_method_5_code 78 = .ok (.iload_n 2, 1) := kz_dr dd_Ba_mayActivate_0 50 rfl
theorem d_Ba_mayActivate_79 : decode prog_2_method_5_code 79 = .ok (.aload_n 0, 1) := kz_dr dd_Ba_mayActivate_0 51 rfl
theorem d_Ba_mayActivate_80 : decode prog_2_method_5_code 80 = .ok (.getfield 49, 3) := kz_dr dd_Ba_mayActivate_0 52 rfl
theorem d_Ba_mayActivate_83 : decode prog_2_method_5_code 83 = .ok (.isub, 1) := kz_dr dd_Ba_mayActivate_0 53 rfl
theorem d_Ba_mayActivate_84 : decode prog_2_method_5_code 84 = .ok (.aload_n 0, 1) := kz_dr dd_Ba_mayActivate_0 54 rfl
theorem d_Ba_mayActivate_85 : decode prog_2_method_5_code 85 = .ok (.getfield 18, 3) := kz_dr dd_Ba_mayActivate_0 55 rfl
theorem d_Ba_mayActivate_88 : decode prog_2_method_5_code 88 = .ok (.bipush 12, 2) := kz_dr dd_Ba_mayActivate_0 56 rfl
theorem d_Ba_mayActivate_90 : decode prog_2_method_5_code 90 = .ok (.iaload, 1) := kz_dr dd_Ba_mayActivate_0 57 rfl
theorem d_Ba_mayActivate_91 : decode prog_2_method_5_code 91 = .ok (.if_icmp .lt 7, 3) := kz_dr dd_Ba_mayActivate_0 58 rfl
theorem d_Ba_mayActivate_94 : decode prog_2_method_5_code 94 = .ok (.iconst 1, 1) := kz_dr dd_Ba_mayActivate_0 59 rfl
def dl_Ba_mayActivate_1 : List (Nat × Instr × Nat) := [(95, .goto 4, 3), (98, .iconst 0, 1), (99, .ireturn, 1)]
theorem dd_Ba_mayActivate_1 : dl_Ba_mayActivate_1.all (fun e => decide (decode prog_2_method_5_code e.1 = .ok e.2)) = true := by decide +kernel
theorem d_Ba_mayActivate_95 : decode prog_2_method_5_code 95 = .ok (.goto 4, 3) := kz_dr dd_Ba_mayActivate_1 0 rfl
theorem d_Ba_mayActivate_98 : decode prog_2_method_5_code 98 = .ok (.iconst 0, 1) := kz_dr dd_Ba_mayActivate_1 1 rfl
theorem d_Ba_mayActivate_99 : decode prog_2_method_5_code 99 = .ok (.ireturn, 1) := kz_dr dd_Ba_mayActivate_1 2 rfl
def dl_Bk_activate_0 : List (Nat × Instr × Nat) := [(0, .aload_n 0, 1), (1, .getfield 28, 3), (4, .iload_n 1, 1), (5, .iload_n 2, 1), (6, .aload_n 0, 1), (7, .getfield 66, 3), (10, .invokevirtual 207, 3), (13, .aload_n 0, 1), (14, .getfield 62, 3), (17, .iconst 0, 1), (18, .iload_n 1, 1), (19, .iload_n 2, 1), (20, .aload_n 0, 1), (21, .getfield 66, 3), (24, .iconst (-1), 1), (25, .invokevirtual 198, 3), (28, .return_, 1)]
theorem dd_Bk_activate_0 : dl_Bk_activate_0.all (fun e => decide (decode prog_1_method_24_code e.1 = .ok e.2)) = true := by decide +kernel
theorem d_Bk_activate_0 : decode prog_1_method_24_code 0 = .ok (.aload_n 0, 1) := kz_dr dd_Bk_activate_0 0 rfl
theorem d_Bk_activate_1 : decode prog_1_method_24_code 1 = .ok (.getfield 28, 3) := kz_dr dd_Bk_activate_0 1 rfl
theorem d_Bk_activate_4 : decode prog_1_method_24_code 4 = .ok (.iload_n 1, 1) := kz_dr dd_Bk_activate_0 2 rfl
theorem d_Bk_activate_5 : decode prog_1_method_24_code 5 = .ok (.iload_n 2, 1) := kz_dr dd_Bk_activate_0 3 rfl
theorem d_Bk_activate_6 : decode prog_1_method_24_code 6 = .ok (.aload_n 0, 1) := kz_dr dd_Bk_activate_0 4 rfl
theorem d_Bk_activate_7 : decode prog_1_method_24_code 7 = .ok (.getfield 66, 3) := kz_dr dd_Bk_activate_0 5 rfl
theorem d_Bk_activate_10 : decode prog_1_method_24_code 10 = .ok (.invokevirtual 207, 3) := kz_dr dd_Bk_activate_0 6 rfl
theorem d_Bk_activate_13 : decode prog_1_method_24_code 13 = .ok (.aload_n 0, 1) := kz_dr dd_Bk_activate_0 7 rfl
theorem d_Bk_activate_14 : decode prog_1_method_24_code 14 = .ok (.getfield 62, 3) := kz_dr dd_Bk_activate_0 8 rfl
theorem d_Bk_activate_17 : decode prog_1_method_24_code 17 = .ok (.iconst 0, 1) := kz_dr dd_Bk_activate_0 9 rfl
theorem d_Bk_activate_18 : decode prog_1_method_24_code 18 = .ok (.iload_n 1, 1) := kz_dr dd_Bk_activate_0 10 rfl
theorem d_Bk_activate_19 : decode prog_1_method_24_code 19 = .ok (.iload_n 2, 1) := kz_dr dd_Bk_activate_0 11 rfl
theorem d_Bk_activate_20 : decode prog_1_method_24_code 20 = .ok (.aload_n 0, 1) := kz_dr dd_Bk_activate_0 12 rfl
theorem d_Bk_activate_21 : decode prog_1_method_24_code 21 = .ok (.getfield 66, 3) := kz_dr dd_Bk_activate_0 13 rfl
theorem d_Bk_activate_24 : decode prog_1_method_24_code 24 = .ok (.iconst (-1), 1) := kz_dr dd_Bk_activate_0 14 rfl
theorem d_Bk_activate_25 : decode prog_1_method_24_code 25 = .ok (.invokevirtual 198, 3) := kz_dr dd_Bk_activate_0 15 rfl
theorem d_Bk_activate_28 : decode prog_1_method_24_code 28 = .ok (.return_, 1) := kz_dr dd_Bk_activate_0 16 rfl
def dl_Ba_activate_0 : List (Nat × Instr × Nat) := [(0, .aload_n 0, 1), (1, .getfield 23, 3), (4, .iload_n 1, 1), (5, .iload_n 2, 1), (6, .iastore, 1), (7, .aload_n 0, 1), (8, .getfield 26, 3), (11, .iload_n 1, 1), (12, .iload_n 3, 1), (13, .iastore, 1), (14, .aload_n 0, 1), (15, .getfield 38, 3), (18, .iconst 0, 1), (19, .aload_n 0, 1), (20, .getfield 38, 3), (23, .iconst 1, 1), (24, .iconst 3, 1), (25, .invokestatic 55, 3), (28, .aload_n 0, 1), (29, .getfield 38, 3), (32, .iconst 0, 1), (33, .iload_n 3, 1), (34, .iastore, 1), (35, .return_, 1)]
theorem dd_Ba_activate_0 : dl_Ba_activate_0.all (fun e => decide (decode prog_2_method_6_code e.1 = .ok e.2)) = true := by decide +kernel
theorem d_Ba_activate_0 : decode prog_2_method_6_code 0 = .ok (.aload_n 0, 1) := kz_dr dd_Ba_activate_0 0 rfl
theorem d_Ba_activate_1 : decode prog_2_method_6_code 1 = .ok (.getfield 23, 3) := kz_dr dd_Ba_activate_0 1 rfl
theorem d_Ba_activate_4 : decode prog_2_method_6_code 4 = .ok (.iload_n 1, 1) := kz_dr dd_Ba_activate_0 2 rfl
theorem d_Ba_activate_5 : decode prog_2_method_6_code 5 = .ok (.iload_n 2, 1) := kz_dr dd_Ba_activate_0 3 rfl
theorem d_Ba_activate_6 : decode prog_2_method_6_code 6 = .ok (.iastore, 1) := kz_dr dd_Ba_activate_0 4 rfl
theorem d_Ba_activate_7 : decode prog_2_method_6_code 7 = .ok (.aload_n 0, 1) := kz_dr dd_Ba_activate_0 5 rfl
theorem d_Ba_activate_8 : decode prog_2_method_6_code 8 = .ok (.getfield 26, 3) := kz_dr dd_Ba_activate_0 6 rfl
theorem d_Ba_activate_11 : decode prog_2_method_6_code 11 = .ok (.iload_n 1, 1) := kz_dr dd_Ba_activate_0 7 rfl
theorem d_Ba_activate_12 : decode prog_2_method_6_code 12 = .ok (.iload_n 3, 1) := kz_dr dd_Ba_activate_0 8 rfl
theorem d_Ba_activate_13 : decode prog_2_method_6_code 13 = .ok (.iastore, 1) := kz_dr dd_Ba_activate_0 9 rfl
theorem d_Ba_activate_14 : decode prog_2_method_6_code 14 = .ok (.aload_n 0, 1) := kz_dr dd_Ba_activate_0 10 rfl
theorem d_Ba_activate_15 : decode prog_2_method_6_code 15 = .ok (.getfield 38, 3) := kz_dr dd_Ba_activate_0 11 rfl
theorem d_Ba_activate_18 : decode prog_2_method_6_code 18 = .ok (.iconst 0, 1) := kz_dr dd_Ba_activate_0 12 rfl
theorem d_Ba_activate_19 : decode prog_2_method_6_code 19 = .ok (.aload_n 0, 1) := kz_dr dd_Ba_activate_0 13 rfl
theorem d_Ba_activate_20 : decode prog_2_method_6_code 20 = .ok (.getfield 38, 3) := kz_dr dd_Ba_activate_0 14 rfl
theorem d_Ba_activate_23 : decode prog_2_method_6_code 23 = .ok (.iconst 1, 1) := kz_dr dd_Ba_activate_0 15 rfl
theorem d_Ba_activate_24 : decode prog_2_method_6_code 24 = .ok (.iconst 3, 1) := kz_dr dd_Ba_activate_0 16 rfl
theorem d_Ba_activate_25 : decode prog_2_method_6_code 25 = .ok (.invokestatic 55, 3) := kz_dr dd_Ba_activate_0 17 rfl
theorem d_Ba_activate_28 : decode prog_2_method_6_code 28 = .ok (.aload_n 0, 1) := kz_dr dd_Ba_activate_0 18 rfl
theorem d_Ba_activate_29 : decode prog_2_method_6_code 29 = .ok (.getfield 38, 3) := kz_dr dd_Ba_activate_0 19 rfl
theorem d_Ba_activate_32 : decode prog_2_method_6_code 32 = .ok (.iconst 0, 1) := kz_dr dd_Ba_activate_0 20 rfl
theorem d_Ba_activate_33 : decode prog_2_method_6_code 33 = .ok (.iload_n 3, 1) := kz_dr dd_Ba_activate_0 21 rfl
theorem d_Ba_activate_34 : decode prog_2_method_6_code 34 = .ok (.iastore, 1) := kz_dr dd_Ba_activate_0 22 rfl
theorem d_Ba_activate_35 : decode prog_2_method_6_code 35 = .ok (.return_, 1) := kz_dr dd_Ba_activate_0 23 rfl
def dl_Bk_openRowIsWanted_0 : List (Nat × Instr × Nat) := [(0, .iconst 0, 1), (1, .istore_n 2, 1), (2, .iload_n 2, 1), (3, .aload_n 0, 1), (4, .getfield 56, 3), (7, .invokevirtual 81, 3), (10, .if_icmp .ge 50, 3), (13, .aload_n 0, 1), (14, .getfield 42, 3), (17, .aload_n 0, 1), (18, .getfield 56, 3), (21, .iload_n 2, 1), (22, .invokevirtual 151, 3), (25, .invokevirtual 154, 3), (28, .istore_n 3, 1), (29, .iload_n 3, 1), (30, .invokestatic 232, 3), (33, .iload_n 1, 1), (34, .if_icmp .ne 20, 3), (37, .iload_n 3, 1), (38, .invokestatic 235, 3), (41, .aload_n 0, 1), (42, .getfield 28, 3), (45, .iload_n 1, 1), (46, .invokevirtual 142, 3), (49, .if_icmp .ne 5, 3), (52, .iconst 1, 1), (53, .ireturn, 1), (54, .iinc 2 1, 3), (57, .goto (-55), 3), (60, .iconst 0, 1), (61, .ireturn, 1)]
theorem dd_Bk_openRowIsWanted_0 : dl_Bk_openRowIsWanted_0.all (fun e => decide (decode prog_1_method_34_code e.1 = .ok e.2)) = true := by decide +kernel
theorem d_Bk_openRowIsWanted_0 : decode prog_1_method_34_code 0 = .ok (.iconst 0, 1) := kz_dr dd_Bk_openRowIsWanted_0 0 rfl
theorem d_Bk_openRowIsWanted_1 : decode prog_1_method_34_code 1 = .ok (.istore_n 2, 1) := kz_dr dd_Bk_openRowIsWanted_0 1 rfl
theorem d_Bk_openRowIsWanted_2 : decode prog_1_method_34_code 2 = .ok (.iload_n 2, 1) := kz_dr dd_Bk_openRowIsWanted_0 2 rfl
theorem d_Bk_openRowIsWanted_3 : decode prog_1_method_34_code 3 = .ok (.aload_n 0, 1) := kz_dr dd_Bk_openRowIsWanted_0 3 rfl
theorem d_Bk_openRowIsWanted_4 : decode prog_1_method_34_code 4 = .ok (.getfield 56, 3) := kz_dr dd_Bk_openRowIsWanted_0 4 rfl
theorem d_Bk_openRowIsWanted_7 : decode prog_1_method_34_code 7 = .ok (.invokevirtual 81, 3) := kz_dr dd_Bk_openRowIsWanted_0 5 rfl
theorem d_Bk_openRowIsWanted_10 : decode prog_1_method_34_code 10 = .ok (.if_icmp .ge 50, 3) := kz_dr dd_Bk_openRowIsWanted_0 6 rfl
theorem d_Bk_openRowIsWanted_13 : decode prog_1_method_34_code 13 = .ok (.aload_n 0, 1) := kz_dr dd_Bk_openRowIsWanted_0 7 rfl
theorem d_Bk_openRowIsWanted_14 : decode prog_1_method_34_code 14 = .ok (.getfield 42, 3) := kz_dr dd_Bk_openRowIsWanted_0 8 rfl
theorem d_Bk_openRowIsWanted_17 : decode prog_1_method_34_code 17 = .ok (.aload_n 0, 1) := kz_dr dd_Bk_openRowIsWanted_0 9 rfl
theorem d_Bk_openRowIsWanted_18 : decode prog_1_method_34_code 18 = .ok (.getfield 56, 3) := kz_dr dd_Bk_openRowIsWanted_0 10 rfl
theorem d_Bk_openRowIsWanted_21 : decode prog_1_method_34_code 21 = .ok (.iload_n 2, 1) := kz_dr dd_Bk_openRowIsWanted_0 11 rfl
theorem d_Bk_openRowIsWanted_22 : decode prog_1_method_34_code 22 = .ok (.invokevirtual 151, 3) := kz_dr dd_Bk_openRowIsWanted_0 12 rfl
theorem d_Bk_openRowIsWanted_25 : decode prog_1_method_34_code 25 = .ok (.invokevirtual 154, 3) := kz_dr dd_Bk_openRowIsWanted_0 13 rfl
theorem d_Bk_openRowIsWanted_28 : decode prog_1_method_34_code 28 = .ok (.istore_n 3, 1) := kz_dr dd_Bk_openRowIsWanted_0 14 rfl
theorem d_Bk_openRowIsWanted_29 : decode prog_1_method_34_code 29 = .ok (.iload_n 3, 1) := kz_dr dd_Bk_openRowIsWanted_0 15 rfl
theorem d_Bk_openRowIsWanted_30 : decode prog_1_method_34_code 30 = .ok (.invokestatic 232, 3) := kz_dr dd_Bk_openRowIsWanted_0 16 rfl
theorem d_Bk_openRowIsWanted_33 : decode prog_1_method_34_code 33 = .ok (.iload_n 1, 1) := kz_dr dd_Bk_openRowIsWanted_0 17 rfl
theorem d_Bk_openRowIsWanted_34 : decode prog_1_method_34_code 34 = .ok (.if_icmp .ne 20, 3) := kz_dr dd_Bk_openRowIsWanted_0 18 rfl
theorem d_Bk_openRowIsWanted_37 : decode prog_1_method_34_code 37 = .ok (.iload_n 3, 1) := kz_dr dd_Bk_openRowIsWanted_0 19 rfl
theorem d_Bk_openRowIsWanted_38 : decode prog_1_method_34_code 38 = .ok (.invokestatic 235, 3) := kz_dr dd_Bk_openRowIsWanted_0 20 rfl
theorem d_Bk_openRowIsWanted_41 : decode prog_1_method_34_code 41 = .ok (.aload_n 0, 1) := kz_dr dd_Bk_openRowIsWanted_0 21 rfl
theorem d_Bk_openRowIsWanted_42 : decode prog_1_method_34_code 42 = .ok (.getfield 28, 3) := kz_dr dd_Bk_openRowIsWanted_0 22 rfl
theorem d_Bk_openRowIsWanted_45 : decode prog_1_method_34_code 45 = .ok (.iload_n 1, 1) := kz_dr dd_Bk_openRowIsWanted_0 23 rfl
theorem d_Bk_openRowIsWanted_46 : decode prog_1_method_34_code 46 = .ok (.invokevirtual 142, 3) := kz_dr dd_Bk_openRowIsWanted_0 24 rfl
theorem d_Bk_openRowIsWanted_49 : decode prog_1_method_34_code 49 = .ok (.if_icmp .ne 5, 3) := kz_dr dd_Bk_openRowIsWanted_0 25 rfl
theorem d_Bk_openRowIsWanted_52 : decode prog_1_method_34_code 52 = .ok (.iconst 1, 1) := kz_dr dd_Bk_openRowIsWanted_0 26 rfl
theorem d_Bk_openRowIsWanted_53 : decode prog_1_method_34_code 53 = .ok (.ireturn, 1) := kz_dr dd_Bk_openRowIsWanted_0 27 rfl
theorem d_Bk_openRowIsWanted_54 : decode prog_1_method_34_code 54 = .ok (.iinc 2 1, 3) := kz_dr dd_Bk_openRowIsWanted_0 28 rfl
theorem d_Bk_openRowIsWanted_57 : decode prog_1_method_34_code 57 = .ok (.goto (-55), 3) := kz_dr dd_Bk_openRowIsWanted_0 29 rfl
theorem d_Bk_openRowIsWanted_60 : decode prog_1_method_34_code 60 = .ok (.iconst 0, 1) := kz_dr dd_Bk_openRowIsWanted_0 30 rfl
theorem d_Bk_openRowIsWanted_61 : decode prog_1_method_34_code 61 = .ok (.ireturn, 1) := kz_dr dd_Bk_openRowIsWanted_0 31 rfl
def dl_Ba_openRow_0 : List (Nat × Instr × Nat) := [(0, .aload_n 0, 1), (1, .getfield 23, 3), (4, .iload_n 1, 1), (5, .iaload, 1), (6, .ireturn, 1)]
theorem dd_Ba_openRow_0 : dl_Ba_openRow_0.all (fun e => decide (decode prog_2_method_4_code e.1 = .ok e.2)) = true := by decide +kernel
theorem d_Ba_openRow_0 : decode prog_2_method_4_code 0 = .ok (.aload_n 0, 1) := kz_dr dd_Ba_openRow_0 0 rfl
theorem d_Ba_openRow_1 : decode prog_2_method_4_code 1 = .ok (.getfield 23, 3) := kz_dr dd_Ba_openRow_0 1 rfl
theorem d_Ba_openRow_4 : decode prog_2_method_4_code 4 = .ok (.iload_n 1, 1) := kz_dr dd_Ba_openRow_0 2 rfl
theorem d_Ba_openRow_5 : decode prog_2_method_4_code 5 = .ok (.iaload, 1) := kz_dr dd_Ba_openRow_0 3 rfl
theorem d_Ba_openRow_6 : decode prog_2_method_4_code 6 = .ok (.ireturn, 1) := kz_dr dd_Ba_openRow_0 4 rfl
def dl_Bk_flip_0 : List (Nat × Instr × Nat) := [(0, .iload_n 1, 1), (1, .invokestatic 73, 3), (4, .ifCond .eq 10, 3), (7, .iload_n 2, 1), (8, .invokestatic 115, 3), (11, .ifCond .ne 5, 3), (14, .iconst 0, 1), (15, .ireturn, 1), (16, .aload_n 0, 1), (17, .getfield 35, 3), (20, .iload_n 1, 1), (21, .iload_n 2, 1), (22, .invokevirtual 118, 3), (25, .iconst 1, 1), (26, .ireturn, 1)]
theorem dd_Bk_flip_0 : dl_Bk_flip_0.all (fun e => decide (decode prog_1_method_6_code e.1 = .ok e.2)) = true := by decide +kernel
theorem d_Bk_flip_0 : decode prog_1_method_6_code 0 = .ok (.iload_n 1, 1) := kz_dr dd_Bk_flip_0 0 rfl
theorem d_Bk_flip_1 : decode prog_1_method_6_code 1 = .ok (.invokestatic 73, 3) := kz_dr dd_Bk_flip_0 1 rfl
theorem d_Bk_flip_4 : decode prog_1_method_6_code 4 = .ok (.ifCond .eq 10, 3) := kz_dr dd_Bk_flip_0 2 rfl
theorem d_Bk_flip_7 : decode prog_1_method_6_code 7 = .ok (.iload_n 2, 1) := kz_dr dd_Bk_flip_0 3 rfl
theorem d_Bk_flip_8 : decode prog_1_method_6_code 8 = .ok (.invokestatic 115, 3) := kz_dr dd_Bk_flip_0 4 rfl
theorem d_Bk_flip_11 : decode prog_1_method_6_code 11 = .ok (.ifCond .ne 5, 3) := kz_dr dd_Bk_flip_0 5 rfl
theorem d_Bk_flip_14 : decode prog_1_method_6_code 14 = .ok (.iconst 0, 1) := kz_dr dd_Bk_flip_0 6 rfl
theorem d_Bk_flip_15 : decode prog_1_method_6_code 15 = .ok (.ireturn, 1) := kz_dr dd_Bk_flip_0 7 rfl
theorem d_Bk_flip_16 : decode prog_1_method_6_code 16 = .ok (.aload_n 0, 1) := kz_dr dd_Bk_flip_0 8 rfl
theorem d_Bk_flip_17 : decode prog_1_method_6_code 17 = .ok (.getfield 35, 3) := kz_dr dd_Bk_flip_0 9 rfl
theorem d_Bk_flip_20 : decode prog_1_method_6_code 20 = .ok (.iload_n 1, 1) := kz_dr dd_Bk_flip_0 10 rfl
theorem d_Bk_flip_21 : decode prog_1_method_6_code 21 = .ok (.iload_n 2, 1) := kz_dr dd_Bk_flip_0 11 rfl
theorem d_Bk_flip_22 : decode prog_1_method_6_code 22 = .ok (.invokevirtual 118, 3) := kz_dr dd_Bk_flip_0 12 rfl
theorem d_Bk_flip_25 : decode prog_1_method_6_code 25 = .ok (.iconst 1, 1) := kz_dr dd_Bk_flip_0 13 rfl
theorem d_Bk_flip_26 : decode prog_1_method_6_code 26 = .ok (.ireturn, 1) := kz_dr dd_Bk_flip_0 14 rfl
def dl_Bk_isPlace_0 : List (Nat × Instr × Nat) := [(0, .iload_n 0, 1), (1, .ifCond .lt 13, 3), (4, .iload_n 0, 1), (5, .bipush 72, 2), (7, .if_icmp .ge 7, 3), (10, .iconst 1, 1), (11, .goto 4, 3), (14, .iconst 0, 1), (15, .ireturn, 1)]
theorem dd_Bk_isPlace_0 : dl_Bk_isPlace_0.all (fun e => decide (decode prog_1_method_13_code e.1 = .ok e.2)) = true := by decide +kernel
theorem d_Bk_isPlace_0 : decode prog_1_method_13_code 0 = .ok (.iload_n 0, 1) := kz_dr dd_Bk_isPlace_0 0 rfl
theorem d_Bk_isPlace_1 : decode prog_1_method_13_code 1 = .ok (.ifCond .lt 13, 3) := kz_dr dd_Bk_isPlace_0 1 rfl
theorem d_Bk_isPlace_4 : decode prog_1_method_13_code 4 = .ok (.iload_n 0, 1) := kz_dr dd_Bk_isPlace_0 2 rfl
theorem d_Bk_isPlace_5 : decode prog_1_method_13_code 5 = .ok (.bipush 72, 2) := kz_dr dd_Bk_isPlace_0 3 rfl
theorem d_Bk_isPlace_7 : decode prog_1_method_13_code 7 = .ok (.if_icmp .ge 7, 3) := kz_dr dd_Bk_isPlace_0 4 rfl
theorem d_Bk_isPlace_10 : decode prog_1_method_13_code 10 = .ok (.iconst 1, 1) := kz_dr dd_Bk_isPlace_0 5 rfl
theorem d_Bk_isPlace_11 : decode prog_1_method_13_code 11 = .ok (.goto 4, 3) := kz_dr dd_Bk_isPlace_0 6 rfl
theorem d_Bk_isPlace_14 : decode prog_1_method_13_code 14 = .ok (.iconst 0, 1) := kz_dr dd_Bk_isPlace_0 7 rfl
theorem d_Bk_isPlace_15 : decode prog_1_method_13_code 15 = .ok (.ireturn, 1) := kz_dr dd_Bk_isPlace_0 8 rfl
def dl_Bk_status_0 : List (Nat × Instr × Nat) := [(0, .aload_n 0, 1), (1, .getfield 42, 3), (4, .iload_n 1, 1), (5, .invokevirtual 122, 3), (8, .ifCond .eq 18, 3), (11, .aload_n 0, 1), (12, .getfield 42, 3), (15, .iload_n 1, 1), (16, .aload_n 0, 1), (17, .getfield 66, 3), (20, .invokevirtual 125, 3), (23, .goto 4, 3), (26, .iconst (-1), 1), (27, .ireturn, 1)]
theorem dd_Bk_status_0 : dl_Bk_status_0.all (fun e => decide (decode prog_1_method_7_code e.1 = .ok e.2)) = true := by decide +kernel
theorem d_Bk_status_0 : decode prog_1_method_7_code 0 = .ok (.aload_n 0, 1) := kz_dr dd_Bk_status_0 0 rfl
theorem d_Bk_status_1 : decode prog_1_method_7_code 1 = .ok (.getfield 42, 3) := kz_dr dd_Bk_status_0 1 rfl
theorem d_Bk_status_4 : decode prog_1_method_7_code 4 = .ok (.iload_n 1, 1) := kz_dr dd_Bk_status_0 2 rfl
theorem d_Bk_status_5 : decode prog_1_method_7_code 5 = .ok (.invokevirtual 122, 3) := kz_dr dd_Bk_status_0 3 rfl
theorem d_Bk_status_8 : decode prog_1_method_7_code 8 = .ok (.ifCond .eq 18, 3) := kz_dr dd_Bk_status_0 4 rfl
theorem d_Bk_status_11 : decode prog_1_method_7_code 11 = .ok (.aload_n 0, 1) := kz_dr dd_Bk_status_0 5 rfl
theorem d_Bk_status_12 : decode prog_1_method_7_code 12 = .ok (.getfield 42, 3) := kz_dr dd_Bk_status_0 6 rfl
theorem d_Bk_status_15 : decode prog_1_method_7_code 15 = .ok (.iload_n 1, 1) := kz_dr dd_Bk_status_0 7 rfl
theorem d_Bk_status_16 : decode prog_1_method_7_code 16 = .ok (.aload_n 0, 1) := kz_dr dd_Bk_status_0 8 rfl
theorem d_Bk_status_17 : decode prog_1_method_7_code 17 = .ok (.getfield 66, 3) := kz_dr dd_Bk_status_0 9 rfl
theorem d_Bk_status_20 : decode prog_1_method_7_code 20 = .ok (.invokevirtual 125, 3) := kz_dr dd_Bk_status_0 10 rfl
theorem d_Bk_status_23 : decode prog_1_method_7_code 23 = .ok (.goto 4, 3) := kz_dr dd_Bk_status_0 11 rfl
theorem d_Bk_status_26 : decode prog_1_method_7_code 26 = .ok (.iconst (-1), 1) := kz_dr dd_Bk_status_0 12 rfl
theorem d_Bk_status_27 : decode prog_1_method_7_code 27 = .ok (.ireturn, 1) := kz_dr dd_Bk_status_0 13 rfl
def dl_Re_has_0 : List (Nat × Instr × Nat) := [(0, .iload_n 1, 1), (1, .ifCond .lt 15, 3), (4, .iload_n 1, 1), (5, .aload_n 0, 1), (6, .getfield 32, 3), (9, .if_icmp .ge 7, 3), (12, .iconst 1, 1), (13, .goto 4, 3), (16, .iconst 0, 1), (17, .ireturn, 1)]
theorem dd_Re_has_0 : dl_Re_has_0.all (fun e => decide (decode prog_5_method_4_code e.1 = .ok e.2)) = true := by decide +kernel
theorem d_Re_has_0 : decode prog_5_method_4_code 0 = .ok (.iload_n 1, 1) := kz_dr dd_Re_has_0 0 rfl
theorem d_Re_has_1 : decode prog_5_method_4_code 1 = .ok (.ifCond .lt 15, 3) := kz_dr dd_Re_has_0 1 rfl
theorem d_Re_has_4 : decode prog_5_method_4_code 4 = .ok (.iload_n 1, 1) := kz_dr dd_Re_has_0 2 rfl
theorem d_Re_has_5 : decode prog_5_method_4_code 5 = .ok (.aload_n 0, 1) := kz_dr dd_Re_has_0 3 rfl
theorem d_Re_has_6 : decode prog_5_method_4_code 6 = .ok (.getfield 32, 3) := kz_dr dd_Re_has_0 4 rfl
theorem d_Re_has_9 : decode prog_5_method_4_code 9 = .ok (.if_icmp .ge 7, 3) := kz_dr dd_Re_has_0 5 rfl
theorem d_Re_has_12 : decode prog_5_method_4_code 12 = .ok (.iconst 1, 1) := kz_dr dd_Re_has_0 6 rfl
theorem d_Re_has_13 : decode prog_5_method_4_code 13 = .ok (.goto 4, 3) := kz_dr dd_Re_has_0 7 rfl
theorem d_Re_has_16 : decode prog_5_method_4_code 16 = .ok (.iconst 0, 1) := kz_dr dd_Re_has_0 8 rfl
theorem d_Re_has_17 : decode prog_5_method_4_code 17 = .ok (.ireturn, 1) := kz_dr dd_Re_has_0 9 rfl
def dl_Re_stageOf_0 : List (Nat × Instr × Nat) := [(0, .aload_n 0, 1), (1, .getfield 26, 3), (4, .iload_n 1, 1), (5, .iaload, 1), (6, .ifCond .ne 5, 3), (9, .iconst 0, 1), (10, .ireturn, 1), (11, .iload_n 2, 1), (12, .aload_n 0, 1), (13, .getfield 29, 3), (16, .iload_n 1, 1), (17, .iaload, 1), (18, .if_icmp .le 12, 3), (21, .aload_n 0, 1), (22, .getfield 26, 3), (25, .iload_n 1, 1), (26, .iaload, 1), (27, .goto 4, 3), (30, .iconst 1, 1), (31, .ireturn, 1)]
theorem dd_Re_stageOf_0 : dl_Re_stageOf_0.all (fun e => decide (decode prog_5_method_12_code e.1 = .ok e.2)) = true := by decide +kernel
theorem d_Re_stageOf_0 : decode prog_5_method_12_code 0 = .ok (.aload_n 0, 1) := kz_dr dd_Re_stageOf_0 0 rfl
theorem d_Re_stageOf_1 : decode prog_5_method_12_code 1 = .ok (.getfield 26, 3) := kz_dr dd_Re_stageOf_0 1 rfl
theorem d_Re_stageOf_4 : decode prog_5_method_12_code 4 = .ok (.iload_n 1, 1) := kz_dr dd_Re_stageOf_0 2 rfl
theorem d_Re_stageOf_5 : decode prog_5_method_12_code 5 = .ok (.iaload, 1) := kz_dr dd_Re_stageOf_0 3 rfl
theorem d_Re_stageOf_6 : decode prog_5_method_12_code 6 = .ok (.ifCond .ne 5, 3) := kz_dr dd_Re_stageOf_0 4 rfl
theorem d_Re_stageOf_9 : decode prog_5_method_12_code 9 = .ok (.iconst 0, 1) := kz_dr dd_Re_stageOf_0 5 rfl
theorem d_Re_stageOf_10 : decode prog_5_method_12_code 10 = .ok (.ireturn, 1) := kz_dr dd_Re_stageOf_0 6 rfl
theorem d_Re_stageOf_11 : decode prog_5_method_12_code 11 = .ok (.iload_n 2, 1) := kz_dr dd_Re_stageOf_0 7 rfl
theorem d_Re_stageOf_12 : decode prog_5_method_12_code 12 = .ok (.aload_n 0, 1) := kz_dr dd_Re_stageOf_0 8 rfl
theorem d_Re_stageOf_13 : decode prog_5_method_12_code 13 = .ok (.getfield 29, 3) := kz_dr dd_Re_stageOf_0 9 rfl
theorem d_Re_stageOf_16 : decode prog_5_method_12_code 16 = .ok (.iload_n 1, 1) := kz_dr dd_Re_stageOf_0 10 rfl
theorem d_Re_stageOf_17 : decode prog_5_method_12_code 17 = .ok (.iaload, 1) := kz_dr dd_Re_stageOf_0 11 rfl
theorem d_Re_stageOf_18 : decode prog_5_method_12_code 18 = .ok (.if_icmp .le 12, 3) := kz_dr dd_Re_stageOf_0 12 rfl
theorem d_Re_stageOf_21 : decode prog_5_method_12_code 21 = .ok (.aload_n 0, 1) := kz_dr dd_Re_stageOf_0 13 rfl
theorem d_Re_stageOf_22 : decode prog_5_method_12_code 22 = .ok (.getfield 26, 3) := kz_dr dd_Re_stageOf_0 14 rfl
theorem d_Re_stageOf_25 : decode prog_5_method_12_code 25 = .ok (.iload_n 1, 1) := kz_dr dd_Re_stageOf_0 15 rfl
theorem d_Re_stageOf_26 : decode prog_5_method_12_code 26 = .ok (.iaload, 1) := kz_dr dd_Re_stageOf_0 16 rfl
theorem d_Re_stageOf_27 : decode prog_5_method_12_code 27 = .ok (.goto 4, 3) := kz_dr dd_Re_stageOf_0 17 rfl
theorem d_Re_stageOf_30 : decode prog_5_method_12_code 30 = .ok (.iconst 1, 1) := kz_dr dd_Re_stageOf_0 18 rfl
theorem d_Re_stageOf_31 : decode prog_5_method_12_code 31 = .ok (.ireturn, 1) := kz_dr dd_Re_stageOf_0 19 rfl
def dl_Bk_value_0 : List (Nat × Instr × Nat) := [(0, .aload_n 0, 1), (1, .getfield 42, 3), (4, .iload_n 1, 1), (5, .invokevirtual 122, 3), (8, .ifCond .eq 14, 3), (11, .aload_n 0, 1), (12, .getfield 42, 3), (15, .iload_n 1, 1), (16, .invokevirtual 97, 3), (19, .goto 4, 3), (22, .lconst 0, 1), (23, .lreturn, 1)]
theorem dd_Bk_value_0 : dl_Bk_value_0.all (fun e => decide (decode prog_1_method_8_code e.1 = .ok e.2)) = true := by decide +kernel
theorem d_Bk_value_0 : decode prog_1_method_8_code 0 = .ok (.aload_n 0, 1) := kz_dr dd_Bk_value_0 0 rfl
theorem d_Bk_value_1 : decode prog_1_method_8_code 1 = .ok (.getfield 42, 3) := kz_dr dd_Bk_value_0 1 rfl
theorem d_Bk_value_4 : decode prog_1_method_8_code 4 = .ok (.iload_n 1, 1) := kz_dr dd_Bk_value_0 2 rfl
theorem d_Bk_value_5 : decode prog_1_method_8_code 5 = .ok (.invokevirtual 122, 3) := kz_dr dd_Bk_value_0 3 rfl
theorem d_Bk_value_8 : decode prog_1_method_8_code 8 = .ok (.ifCond .eq 14, 3) := kz_dr dd_Bk_value_0 4 rfl
theorem d_Bk_value_11 : decode prog_1_method_8_code 11 = .ok (.aload_n 0, 1) := kz_dr dd_Bk_value_0 5 rfl
theorem d_Bk_value_12 : decode prog_1_method_8_code 12 = .ok (.getfield 42, 3) := kz_dr dd_Bk_value_0 6 rfl
theorem d_Bk_value_15 : decode prog_1_method_8_code 15 = .ok (.iload_n 1, 1) := kz_dr dd_Bk_value_0 7 rfl
theorem d_Bk_value_16 : decode prog_1_method_8_code 16 = .ok (.invokevirtual 97, 3) := kz_dr dd_Bk_value_0 8 rfl
theorem d_Bk_value_19 : decode prog_1_method_8_code 19 = .ok (.goto 4, 3) := kz_dr dd_Bk_value_0 9 rfl
theorem d_Bk_value_22 : decode prog_1_method_8_code 22 = .ok (.lconst 0, 1) := kz_dr dd_Bk_value_0 10 rfl
theorem d_Bk_value_23 : decode prog_1_method_8_code 23 = .ok (.lreturn, 1) := kz_dr dd_Bk_value_0 11 rfl
def dl_Bk_state_0 : List (Nat × Instr × Nat) := [(0, .iload_n 1, 1), (1, .tableswitch 148 0 13 #[71, 76, 84, 92, 97, 110, 118, 123, 128, 148, 136, 136, 136, 136], 71), (72, .aload_n 0, 1), (73, .getfield 66, 3), (76, .ireturn, 1), (77, .aload_n 0, 1), (78, .getfield 49, 3), (81, .invokevirtual 81, 3), (84, .ireturn, 1), (85, .aload_n 0, 1), (86, .getfield 53, 3), (89, .invokevirtual 81, 3), (92, .ireturn, 1), (93, .aload_n 0, 1), (94, .getfield 128, 3), (97, .ireturn, 1), (98, .aload_n 0, 1), (99, .getfield 131, 3), (102, .ifCond .eq 7, 3), (105, .iconst 1, 1), (106, .goto 4, 3), (109, .iconst 0, 1), (110, .ireturn, 1), (111, .aload_n 0, 1), (112, .getfield 62, 3), (115, .invokevirtual 109, 3), (118, .ireturn, 1), (119, .aload_n 0, 1), (120, .getfield 135, 3), (123, .ireturn, 1), (124, .aload_n 0, 1), (125, .getfield 138, 3), (128, .ireturn, 1), (129, .aload_n 0, 1), (130, .getfield 42, 3), (133, .invokevirtual 141, 3), (136, .ireturn, 1), (137, .aload_n 0, 1), (138, .getfield 28, 3), (141, .iload_n 1, 1), (142, .bipush 10, 2), (144, .isub, 1), (145, .invokevirtual 142, 3), (148, .ireturn, 1), (149, .iconst (-1), 1), (150, .ireturn, 1)]
theorem dd_Bk_state_0 : dl_Bk_state_0.all (fun e => decide (decode prog_1_method_9_code e.1 = .ok e.2)) = true := by decide +kernel
theorem d_Bk_state_0 : decode prog_1_method_9_code 0 = .ok (.iload_n 1, 1) := kz_dr dd_Bk_state_0 0 rfl
theorem d_Bk_state_1 : decode prog_1_method_9_code 1 = .ok (.tableswitch 148 0 13 #[71, 76, 84, 92, 97, 110, 118, 123, 128, 148, 136, 136, 136, 136], 71) := kz_dr dd_Bk_state_0 1 rfl
theorem d_Bk_state_72 : decode prog_1_method_9_code 72 = .ok (.aload_n 0, 1) := kz_dr dd_Bk_state_0 2 rfl
theorem d_Bk_state_73 : decode prog_1_method_9_code 73 = .ok (.getfield 66, 3) := kz_dr dd_Bk_state_0 3 rfl
theorem d_Bk_state_76 : decode prog_1_method_9_code 76 = .ok (.ireturn, 1) := kz_dr dd_Bk_state_0 4 rfl
theorem d_Bk_state_77 : decode prog_1_method_9_code 77 = .ok (.aload_n 0, 1) := kz_dr dd_Bk_state_0 5 rfl
theorem d_Bk_state_78 : decode prog_1_method_9_code 78 = .ok (.getfield 49, 3) := kz_dr dd_Bk_state_0 6 rfl
theorem d_Bk_state_81 : decode prog_1_method_9_code 81 = .ok (.invokevirtual 81, 3) := kz_dr dd_Bk_state_0 7 rfl
theorem d_Bk_state_84 : decode prog_1_method_9_code 84 = .ok (.ireturn, 1) := kz_dr dd_Bk_state_0 8 rfl
theorem d_Bk_state_85 : decode prog_1_method_9_code 85 = .ok (.aload_n 0, 1) := kz_dr dd_Bk_state_0 9 rfl
theorem d_Bk_state_86 : decode prog_1_method_9_code 86 = .ok (.getfield 53, 3) := kz_dr dd_Bk_state_0 10 rfl
theorem d_Bk_state_89 : decode prog_1_method_9_code 89 = .ok (.invokevirtual 81, 3) := kz_dr dd_Bk_state_0 11 rfl
theorem d_Bk_state_92 : decode prog_1_method_9_code 92 = .ok (.ireturn, 1) := kz_dr dd_Bk_state_0 12 rfl
theorem d_Bk_state_93 : decode prog_1_method_9_code 93 = .ok (.aload_n 0, 1) := kz_dr dd_Bk_state_0 13 rfl
theorem d_Bk_state_94 : decode prog_1_method_9_code 94 = .ok (.getfield 128, 3) := kz_dr dd_Bk_state_0 14 rfl
theorem d_Bk_state_97 : decode prog_1_method_9_code 97 = .ok (.ireturn, 1) := kz_dr dd_Bk_state_0 15 rfl
theorem d_Bk_state_98 : decode prog_1_method_9_code 98 = .ok (.aload_n 0, 1) := kz_dr dd_Bk_state_0 16 rfl
theorem d_Bk_state_99 : decode prog_1_method_9_code 99 = .ok (.getfield 131, 3) := kz_dr dd_Bk_state_0 17 rfl
theorem d_Bk_state_102 : decode prog_1_method_9_code 102 = .ok (.ifCond .eq 7, 3) := kz_dr dd_Bk_state_0 18 rfl
theorem d_Bk_state_105 : decode prog_1_method_9_code 105 = .ok (.iconst 1, 1) := kz_dr dd_Bk_state_0 19 rfl
theorem d_Bk_state_106 : decode prog_1_method_9_code 106 = .ok (.goto 4, 3) := kz_dr dd_Bk_state_0 20 rfl
theorem d_Bk_state_109 : decode prog_1_method_9_code 109 = .ok (.iconst 0, 1) := kz_dr dd_Bk_state_0 21 rfl
theorem d_Bk_state_110 : decode prog_1_method_9_code 110 = .ok (.ireturn, 1) := kz_dr dd_Bk_state_0 22 rfl
theorem d_Bk_state_111 : decode prog_1_method_9_code 111 = .ok (.aload_n 0, 1) := kz_dr dd_Bk_state_0 23 rfl
theorem d_Bk_state_112 : decode prog_1_method_9_code 112 = .ok (.getfield 62, 3) := kz_dr dd_Bk_state_0 24 rfl
theorem d_Bk_state_115 : decode prog_1_method_9_code 115 = .ok (.invokevirtual 109, 3) := kz_dr dd_Bk_state_0 25 rfl
theorem d_Bk_state_118 : decode prog_1_method_9_code 118 = .ok (.ireturn, 1) := kz_dr dd_Bk_state_0 26 rfl
theorem d_Bk_state_119 : decode prog_1_method_9_code 119 = .ok (.aload_n 0, 1) := kz_dr dd_Bk_state_0 27 rfl
theorem d_Bk_state_120 : decode prog_1_method_9_code 120 = .ok (.getfield 135, 3) := kz_dr dd_Bk_state_0 28 rfl
theorem d_Bk_state_123 : decode prog_1_method_9_code 123 = .ok (.ireturn, 1) := kz_dr dd_Bk_state_0 29 rfl
theorem d_Bk_state_124 : decode prog_1_method_9_code 124 = .ok (.aload_n 0, 1) := kz_dr dd_Bk_state_0 30 rfl
theorem d_Bk_state_125 : decode prog_1_method_9_code 125 = .ok (.getfield 138, 3) := kz_dr dd_Bk_state_0 31 rfl
theorem d_Bk_state_128 : decode prog_1_method_9_code 128 = .ok (.ireturn, 1) := kz_dr dd_Bk_state_0 32 rfl
theorem d_Bk_state_129 : decode prog_1_method_9_code 129 = .ok (.aload_n 0, 1) := kz_dr dd_Bk_state_0 33 rfl
theorem d_Bk_state_130 : decode prog_1_method_9_code 130 = .ok (.getfield 42, 3) := kz_dr dd_Bk_state_0 34 rfl
theorem d_Bk_state_133 : decode prog_1_method_9_code 133 = .ok (.invokevirtual 141, 3) := kz_dr dd_Bk_state_0 35 rfl
theorem d_Bk_state_136 : decode prog_1_method_9_code 136 = .ok (.ireturn, 1) := kz_dr dd_Bk_state_0 36 rfl
theorem d_Bk_state_137 : decode prog_1_method_9_code 137 = .ok (.aload_n 0, 1) := kz_dr dd_Bk_state_0 37 rfl
theorem d_Bk_state_138 : decode prog_1_method_9_code 138 = .ok (.getfield 28, 3) := kz_dr dd_Bk_state_0 38 rfl
theorem d_Bk_state_141 : decode prog_1_method_9_code 141 = .ok (.iload_n 1, 1) := kz_dr dd_Bk_state_0 39 rfl
theorem d_Bk_state_142 : decode prog_1_method_9_code 142 = .ok (.bipush 10, 2) := kz_dr dd_Bk_state_0 40 rfl
theorem d_Bk_state_144 : decode prog_1_method_9_code 144 = .ok (.isub, 1) := kz_dr dd_Bk_state_0 41 rfl
theorem d_Bk_state_145 : decode prog_1_method_9_code 145 = .ok (.invokevirtual 142, 3) := kz_dr dd_Bk_state_0 42 rfl
theorem d_Bk_state_148 : decode prog_1_method_9_code 148 = .ok (.ireturn, 1) := kz_dr dd_Bk_state_0 43 rfl
theorem d_Bk_state_149 : decode prog_1_method_9_code 149 = .ok (.iconst (-1), 1) := kz_dr dd_Bk_state_0 44 rfl
theorem d_Bk_state_150 : decode prog_1_method_9_code 150 = .ok (.ireturn, 1) := kz_dr dd_Bk_state_0 45 rfl
def dl_Re_count_0 : List (Nat × Instr × Nat) := [(0, .aload_n 0, 1), (1, .getfield 32, 3), (4, .ireturn, 1)]
theorem dd_Re_count_0 : dl_Re_count_0.all (fun e => decide (decode prog_5_method_2_code e.1 = .ok e.2)) = true := by decide +kernel
theorem d_Re_count_0 : decode prog_5_method_2_code 0 = .ok (.aload_n 0, 1) := kz_dr dd_Re_count_0 0 rfl
theorem d_Re_count_1 : decode prog_5_method_2_code 1 = .ok (.getfield 32, 3) := kz_dr dd_Re_count_0 1 rfl
theorem d_Re_count_4 : decode prog_5_method_2_code 4 = .ok (.ireturn, 1) := kz_dr dd_Re_count_0 2 rfl
def dl_Bk_command_0 : List (Nat × Instr × Nat) := [(0, .aload_n 0, 1), (1, .getfield 62, 3), (4, .iload_n 1, 1), (5, .iload_n 2, 1), (6, .invokevirtual 145, 3), (9, .ireturn, 1)]
theorem dd_Bk_command_0 : dl_Bk_command_0.all (fun e => decide (decode prog_1_method_10_code e.1 = .ok e.2)) = true := by decide +kernel
theorem d_Bk_command_0 : decode prog_1_method_10_code 0 = .ok (.aload_n 0, 1) := kz_dr dd_Bk_command_0 0 rfl
theorem d_Bk_command_1 : decode prog_1_method_10_code 1 = .ok (.getfield 62, 3) := kz_dr dd_Bk_command_0 1 rfl
theorem d_Bk_command_4 : decode prog_1_method_10_code 4 = .ok (.iload_n 1, 1) := kz_dr dd_Bk_command_0 2 rfl
theorem d_Bk_command_5 : decode prog_1_method_10_code 5 = .ok (.iload_n 2, 1) := kz_dr dd_Bk_command_0 3 rfl
theorem d_Bk_command_6 : decode prog_1_method_10_code 6 = .ok (.invokevirtual 145, 3) := kz_dr dd_Bk_command_0 4 rfl
theorem d_Bk_command_9 : decode prog_1_method_10_code 9 = .ok (.ireturn, 1) := kz_dr dd_Bk_command_0 5 rfl
def dl_Jo_entry_0 : List (Nat × Instr × Nat) := [(0, .iload_n 1, 1), (1, .ifCond .lt 20, 3), (4, .iload_n 1, 1), (5, .aload_n 0, 1), (6, .getfield 21, 3), (9, .if_icmp .ge 12, 3), (12, .iload_n 2, 1), (13, .ifCond .lt 8, 3), (16, .iload_n 2, 1), (17, .iconst 5, 1), (18, .if_icmp .lt 5, 3), (21, .iconst (-1), 1), (22, .ireturn, 1), (23, .aload_n 0, 1), (24, .getfield 11, 3), (27, .aload_n 0, 1), (28, .getfield 18, 3), (31, .bipush 32, 2), (33, .iadd, 1), (34, .iconst 1, 1), (35, .isub, 1), (36, .iload_n 1, 1), (37, .isub, 1), (38, .bipush 32, 2), (40, .irem, 1), (41, .aaload, 1), (42, .iload_n 2, 1), (43, .iaload, 1), (44, .ireturn, 1)]
theorem dd_Jo_entry_0 : dl_Jo_entry_0.all (fun e => decide (decode prog_3_method_4_code e.1 = .ok e.2)) = true := by decide +kernel
theorem d_Jo_entry_0 : decode prog_3_method_4_code 0 = .ok (.iload_n 1, 1) := kz_dr dd_Jo_entry_0 0 rfl
theorem d_Jo_entry_1 : decode prog_3_method_4_code 1 = .ok (.ifCond .lt 20, 3) := kz_dr dd_Jo_entry_0 1 rfl
theorem d_Jo_entry_4 : decode prog_3_method_4_code 4 = .ok (.iload_n 1, 1) := kz_dr dd_Jo_entry_0 2 rfl
theorem d_Jo_entry_5 : decode prog_3_method_4_code 5 = .ok (.aload_n 0, 1) := kz_dr dd_Jo_entry_0 3 rfl
theorem d_Jo_entry_6 : decode prog_3_method_4_code 6 = .ok (.getfield 21, 3) := kz_dr dd_Jo_entry_0 4 rfl
theorem d_Jo_entry_9 : decode prog_3_method_4_code 9 = .ok (.if_icmp .ge 12, 3) := kz_dr dd_Jo_entry_0 5 rfl
theorem d_Jo_entry_12 : decode prog_3_method_4_code 12 = .ok (.iload_n 2, 1) := kz_dr dd_Jo_entry_0 6 rfl
theorem d_Jo_entry_13 : decode prog_3_method_4_code 13 = .ok (.ifCond .lt 8, 3) := kz_dr dd_Jo_entry_0 7 rfl
theorem d_Jo_entry_16 : decode prog_3_method_4_code 16 = .ok (.iload_n 2, 1) := kz_dr dd_Jo_entry_0 8 rfl
theorem d_Jo_entry_17 : decode prog_3_method_4_code 17 = .ok (.iconst 5, 1) := kz_dr dd_Jo_entry_0 9 rfl
theorem d_Jo_entry_18 : decode prog_3_method_4_code 18 = .ok (.if_icmp .lt 5, 3) := kz_dr dd_Jo_entry_0 10 rfl
theorem d_Jo_entry_21 : decode prog_3_method_4_code 21 = .ok (.iconst (-1), 1) := kz_dr dd_Jo_entry_0 11 rfl
theorem d_Jo_entry_22 : decode prog_3_method_4_code 22 = .ok (.ireturn, 1) := kz_dr dd_Jo_entry_0 12 rfl
theorem d_Jo_entry_23 : decode prog_3_method_4_code 23 = .ok (.aload_n 0, 1) := kz_dr dd_Jo_entry_0 13 rfl
theorem d_Jo_entry_24 : decode prog_3_method_4_code 24 = .ok (.getfield 11, 3) := kz_dr dd_Jo_entry_0 14 rfl
theorem d_Jo_entry_27 : decode prog_3_method_4_code 27 = .ok (.aload_n 0, 1) := kz_dr dd_Jo_entry_0 15 rfl
theorem d_Jo_entry_28 : decode prog_3_method_4_code 28 = .ok (.getfield 18, 3) := kz_dr dd_Jo_entry_0 16 rfl
theorem d_Jo_entry_31 : decode prog_3_method_4_code 31 = .ok (.bipush 32, 2) := kz_dr dd_Jo_entry_0 17 rfl
theorem d_Jo_entry_33 : decode prog_3_method_4_code 33 = .ok (.iadd, 1) := kz_dr dd_Jo_entry_0 18 rfl
theorem d_Jo_entry_34 : decode prog_3_method_4_code 34 = .ok (.iconst 1, 1) := kz_dr dd_Jo_entry_0 19 rfl
theorem d_Jo_entry_35 : decode prog_3_method_4_code 35 = .ok (.isub, 1) := kz_dr dd_Jo_entry_0 20 rfl
theorem d_Jo_entry_36 : decode prog_3_method_4_code 36 = .ok (.iload_n 1, 1) := kz_dr dd_Jo_entry_0 21 rfl
theorem d_Jo_entry_37 : decode prog_3_method_4_code 37 = .ok (.isub, 1) := kz_dr dd_Jo_entry_0 22 rfl
theorem d_Jo_entry_38 : decode prog_3_method_4_code 38 = .ok (.bipush 32, 2) := kz_dr dd_Jo_entry_0 23 rfl
theorem d_Jo_entry_40 : decode prog_3_method_4_code 40 = .ok (.irem, 1) := kz_dr dd_Jo_entry_0 24 rfl
theorem d_Jo_entry_41 : decode prog_3_method_4_code 41 = .ok (.aaload, 1) := kz_dr dd_Jo_entry_0 25 rfl
theorem d_Jo_entry_42 : decode prog_3_method_4_code 42 = .ok (.iload_n 2, 1) := kz_dr dd_Jo_entry_0 26 rfl
theorem d_Jo_entry_43 : decode prog_3_method_4_code 43 = .ok (.iaload, 1) := kz_dr dd_Jo_entry_0 27 rfl
theorem d_Jo_entry_44 : decode prog_3_method_4_code 44 = .ok (.ireturn, 1) := kz_dr dd_Jo_entry_0 28 rfl
def dl_Bk_bit_0 : List (Nat × Instr × Nat) := [(0, .iload_n 1, 1), (1, .invokestatic 73, 3), (4, .ifCond .eq 10, 3), (7, .iload_n 2, 1), (8, .invokestatic 115, 3), (11, .ifCond .ne 5, 3), (14, .iconst (-1), 1), (15, .ireturn, 1), (16, .aload_n 0, 1), (17, .getfield 35, 3), (20, .iload_n 1, 1), (21, .iload_n 2, 1), (22, .invokevirtual 148, 3), (25, .ireturn, 1)]
theorem dd_Bk_bit_0 : dl_Bk_bit_0.all (fun e => decide (decode prog_1_method_11_code e.1 = .ok e.2)) = true := by decide +kernel
theorem d_Bk_bit_0 : decode prog_1_method_11_code 0 = .ok (.iload_n 1, 1) := kz_dr dd_Bk_bit_0 0 rfl
theorem d_Bk_bit_1 : decode prog_1_method_11_code 1 = .ok (.invokestatic 73, 3) := kz_dr dd_Bk_bit_0 1 rfl
theorem d_Bk_bit_4 : decode prog_1_method_11_code 4 = .ok (.ifCond .eq 10, 3) := kz_dr dd_Bk_bit_0 2 rfl
theorem d_Bk_bit_7 : decode prog_1_method_11_code 7 = .ok (.iload_n 2, 1) := kz_dr dd_Bk_bit_0 3 rfl
theorem d_Bk_bit_8 : decode prog_1_method_11_code 8 = .ok (.invokestatic 115, 3) := kz_dr dd_Bk_bit_0 4 rfl
theorem d_Bk_bit_11 : decode prog_1_method_11_code 11 = .ok (.ifCond .ne 5, 3) := kz_dr dd_Bk_bit_0 5 rfl
theorem d_Bk_bit_14 : decode prog_1_method_11_code 14 = .ok (.iconst (-1), 1) := kz_dr dd_Bk_bit_0 6 rfl
theorem d_Bk_bit_15 : decode prog_1_method_11_code 15 = .ok (.ireturn, 1) := kz_dr dd_Bk_bit_0 7 rfl
theorem d_Bk_bit_16 : decode prog_1_method_11_code 16 = .ok (.aload_n 0, 1) := kz_dr dd_Bk_bit_0 8 rfl
theorem d_Bk_bit_17 : decode prog_1_method_11_code 17 = .ok (.getfield 35, 3) := kz_dr dd_Bk_bit_0 9 rfl
theorem d_Bk_bit_20 : decode prog_1_method_11_code 20 = .ok (.iload_n 1, 1) := kz_dr dd_Bk_bit_0 10 rfl
theorem d_Bk_bit_21 : decode prog_1_method_11_code 21 = .ok (.iload_n 2, 1) := kz_dr dd_Bk_bit_0 11 rfl
theorem d_Bk_bit_22 : decode prog_1_method_11_code 22 = .ok (.invokevirtual 148, 3) := kz_dr dd_Bk_bit_0 12 rfl
theorem d_Bk_bit_25 : decode prog_1_method_11_code 25 = .ok (.ireturn, 1) := kz_dr dd_Bk_bit_0 13 rfl
def dl_Mo_init_0 : List (Nat × Instr × Nat) := [(0, .aload_n 0, 1), (1, .invokespecial 1, 3), (4, .aload_n 0, 1), (5, .bipush 14, 2), (7, .newarray .int, 2), (9, .putfield 7, 3), (12, .aload_n 0, 1), (13, .sipush 256, 3), (16, .newarray .long, 2), (18, .putfield 13, 3), (21, .aload_n 0, 1), (22, .sipush 256, 3), (25, .newarray .int, 2), (27, .putfield 17, 3), (30, .aload_n 0, 1), (31, .iconst 4, 1), (32, .newarray .int, 2), (34, .putfield 20, 3), (37, .aload_n 0, 1), (38, .bipush 20, 2), (40, .newarray .int, 2), (42, .putfield 23, 3), (45, .aload_n 0, 1), (46, .iconst 5, 1), (47, .newarray .int, 2), (49, .putfield 26, 3), (52, .aload_n 0, 1), (53, .iconst 4, 1), (54, .newarray .int, 2), (56, .putfield 29, 3), (59, .aload_n 0, 1), (60, .ldc 32, 2), (62, .putfield 33, 3), (65, .aload_n 0, 1), (66, .iconst (-1), 1), (67, .putfield 37, 3), (70, .aload_n 0, 1), (71, .sipush 400, 3), (74, .newarray .boolean, 2), (76, .putfield 40, 3), (79, .aload_n 0, 1), (80, .sipush 400, 3), (83, .newarray .int, 2), (85, .putfield 44, 3), (88, .aload_n 0, 1), (89, .sipush 400, 3), (92, .newarray .int, 2), (94, .putfield 47, 3), (97, .aload_n 0, 1), (98, .sipush 400, 3), (101, .newarray .int, 2), (103, .putfield 50, 3), (106, .aload_n 0, 1), (107, .sipush 400, 3), (110, .newarray .long, 2), (112, .putfield 53, 3), (115, .aload_n 0, 1), (116, .sipush 400, 3), (119, .newarray .int, 2), (121, .putfield 56, 3)]
theorem dd_Mo_init_0 : dl_Mo_init_0.all (fun e => decide (decode prog_8_method_1_code e.1 = .ok e.2)) = true := by decide +kernel
theorem d_Mo_init_0 : decode prog_8_method_1_code 0 = .ok (.aload_n 0, 1) := kz_dr dd_Mo_init_0 0 rfl
theorem d_Mo_init_1 : decode prog_8_method_1_code 1 = .ok (.invokespecial 1, 3) := kz_dr dd_Mo_init_0 1 rfl
theorem d_Mo_init_4 : decode prog_8_method_1_code 4 = .ok (.aload_n 0, 1) := kz_dr dd_Mo_init_0 2 rfl
theorem d_Mo_init_5 : decode prog_8_method_1_code 5 = .ok (.bipush 14, 2) := kz_dr dd_Mo_init_0 3 rfl
theorem d_Mo_init_7 : decode prog_8_method_1_code 7 = .ok (.newarray .int, 2) := kz_dr dd_Mo_init_0 4 rfl
theorem d_Mo_init_9 : decode prog_8_method_1_code 9 = .ok (.putfield 7, 3) := kz_dr dd_Mo_init_0 5 rfl
theorem d_Mo_init_12 : decode prog_8_method_1_code 12 = .ok (.aload_n 0, 1) := kz_dr dd_Mo_init_0 6 rfl
theorem d_Mo_init_13 : decode prog_8_method_1_code 13 = .ok (.sipush 256, 3) := kz_dr dd_Mo_init_0 7 rfl
theorem d_Mo_init_16 : decode prog_8_method_1_code 16 = .ok (.newarray .long, 2) := kz_dr dd_Mo_init_0 8 rfl
theorem d_Mo_init_18 : decode prog_8_method_1_code 18 = .ok (.putfield 13, 3) := kz_dr dd_Mo_init_0 9 rfl
theorem d_Mo_init_21 : decode prog_8_method_1_code 21 = .ok (.aload_n 0, 1) := kz_dr dd_Mo_init_0 10 rfl
theorem d_Mo_init_22 : decode prog_8_method_1_code 22 = .ok (.sipush 256, 3) := kz_dr dd_Mo_init_0 11 rfl
theorem d_Mo_init_25 : decode prog_8_method_1_code 25 = .ok (.newarray .int, 2) := kz_dr dd_Mo_init_0 12 rfl
theorem d_Mo_init_27 : decode prog_8_method_1_code 27 = .ok (.putfield 17, 3) := kz_dr dd_Mo_init_0 13 rfl
theorem d_Mo_init_30 : decode prog_8_method_1_code 30 = .ok (.aload_n 0, 1) := kz_dr dd_Mo_init_0 14 rfl
theorem d_Mo_init_31 : decode prog_8_method_1_code 31 = .ok (.iconst 4, 1) := kz_dr dd_Mo_init_0 15 rfl
theorem d_Mo_init_32 : decode prog_8_method_1_code 32 = .ok (.newarray .int, 2) := kz_dr dd_Mo_init_0 16 rfl
theorem d_Mo_init_34 : decode prog_8_method_1_code 34 = .ok (.putfield 20, 3) := kz_dr dd_Mo_init_0 17 rfl
theorem d_Mo_init_37 : decode prog_8_method_1_code 37 = .ok (.aload_n 0, 1) := kz_dr dd_Mo_init_0 18 rfl
theorem d_Mo_init_38 : decode prog_8_method_1_code 38 = .ok (.bipush 20, 2) := kz_dr dd_Mo_init_0 19 rfl
theorem d_Mo_init_40 : decode prog_8_method_1_code 40 = .ok (.newarray .int, 2) := kz_dr dd_Mo_init_0 20 rfl
theorem d_Mo_init_42 : decode prog_8_method_1_code 42 = .ok (.putfield 23, 3) := kz_dr dd_Mo_init_0 21 rfl
theorem d_Mo_init_45 : decode prog_8_method_1_code 45 = .ok (.aload_n 0, 1) := kz_dr dd_Mo_init_0 22 rfl
theorem d_Mo_init_46 : decode prog_8_method_1_code 46 = .ok (.iconst 5, 1) := kz_dr dd_Mo_init_0 23 rfl
theorem d_Mo_init_47 : decode prog_8_method_1_code 47 = .ok (.newarray .int, 2) := kz_dr dd_Mo_init_0 24 rfl
theorem d_Mo_init_49 : decode prog_8_method_1_code 49 = .ok (.putfield 26, 3) := kz_dr dd_Mo_init_0 25 rfl
theorem d_Mo_init_52 : decode prog_8_method_1_code 52 = .ok (.aload_n 0, 1) := kz_dr dd_Mo_init_0 26 rfl
theorem d_Mo_init_53 : decode prog_8_method_1_code 53 = .ok (.iconst 4, 1) := kz_dr dd_Mo_init_0 27 rfl
theorem d_Mo_init_54 : decode prog_8_method_1_code 54 = .ok (.newarray .int, 2) := kz_dr dd_Mo_init_0 28 rfl
theorem d_Mo_init_56 : decode prog_8_method_1_code 56 = .ok (.putfield 29, 3) := kz_dr dd_Mo_init_0 29 rfl
theorem d_Mo_init_59 : decode prog_8_method_1_code 59 = .ok (.aload_n 0, 1) := kz_dr dd_Mo_init_0 30 rfl
theorem d_Mo_init_60 : decode prog_8_method_1_code 60 = .ok (.ldc 32, 2) := kz_dr dd_Mo_init_0 31 rfl
theorem d_Mo_init_62 : decode prog_8_method_1_code 62 = .ok (.putfield 33, 3) := kz_dr dd_Mo_init_0 32 rfl
theorem d_Mo_init_65 : decode prog_8_method_1_code 65 = .ok (.aload_n 0, 1) := kz_dr dd_Mo_init_0 33 rfl
theorem d_Mo_init_66 : decode prog_8_method_1_code 66 = .ok (.iconst (-1), 1) := kz_dr dd_Mo_init_0 34 rfl
theorem d_Mo_init_67 : decode prog_8_method_1_code 67 = .ok (.putfield 37, 3) := kz_dr dd_Mo_init_0 35 rfl
theorem d_Mo_init_70 : decode prog_8_method_1_code 70 = .ok (.aload_n 0, 1) := kz_dr dd_Mo_init_0 36 rfl
theorem d_Mo_init_71 : decode prog_8_method_1_code 71 = .ok (.sipush 400, 3) := kz_dr dd_Mo_init_0 37 rfl
theorem d_Mo_init_74 : decode prog_8_method_1_code 74 = .ok (.newarray .boolean, 2) := kz_dr dd_Mo_init_0 38 rfl
theorem d_Mo_init_76 : decode prog_8_method_1_code 76 = .ok (.putfield 40, 3) := kz_dr dd_Mo_init_0 39 rfl
theorem d_Mo_init_79 : decode prog_8_method_1_code 79 = .ok (.aload_n 0, 1) := kz_dr dd_Mo_init_0 40 rfl
theorem d_Mo_init_80 : decode prog_8_method_1_code 80 = .ok (.sipush 400, 3) := kz_dr dd_Mo_init_0 41 rfl
theorem d_Mo_init_83 : decode prog_8_method_1_code 83 = .ok (.newarray .int, 2) := kz_dr dd_Mo_init_0 42 rfl
theorem d_Mo_init_85 : decode prog_8_method_1_code 85 = .ok (.putfield 44, 3) := kz_dr dd_Mo_init_0 43 rfl
theorem d_Mo_init_88 : decode prog_8_method_1_code 88 = .ok (.aload_n 0, 1) := kz_dr dd_Mo_init_0 44 rfl
theorem d_Mo_init_89 : decode prog_8_method_1_code 89 = .ok (.sipush 400, 3) := kz_dr dd_Mo_init_0 45 rfl
theorem d_Mo_init_92 : decode prog_8_method_1_code 92 = .ok (.newarray .int, 2) := kz_dr dd_Mo_init_0 46 rfl
theorem d_Mo_init_94 : decode prog_8_method_1_code 94 = .ok (.putfield 47, 3) := kz_dr dd_Mo_init_0 47 rfl
theorem d_Mo_init_97 : decode prog_8_method_1_code 97 = .ok (.aload_n 0, 1) := kz_dr dd_Mo_init_0 48 rfl
theorem d_Mo_init_98 : decode prog_8_method_1_code 98 = .ok (.sipush 400, 3) := kz_dr dd_Mo_init_0 49 rfl
theorem d_Mo_init_101 : decode prog_8_method_1_code 101 = .ok (.newarray .int, 2) := kz_dr dd_Mo_init_0 50 rfl
theorem d_Mo_init_103 : decode prog_8_method_1_code 103 = .ok (.putfield 50, 3) := kz_dr dd_Mo_init_0 51 rfl
theorem d_Mo_init_106 : decode prog_8_method_1_code 106 = .ok (.aload_n 0, 1) := kz_dr dd_Mo_init_0 52 rfl
theorem d_Mo_init_107 : decode prog_8_method_1_code 107 = .ok (.sipush 400, 3) := kz_dr dd_Mo_init_0 53 rfl
theorem d_Mo_init_110 : decode prog_8_method_1_code 110 = .ok (.newarray .long, 2) := kz_dr dd_Mo_init_0 54 rfl
theorem d_Mo_init_112 : decode prog_8_method_1_code 112 = .ok (.putfield 53, 3) := kz_dr dd_Mo_init_0 55 rfl
theorem d_Mo_init_115 : decode prog_8_method_1_code 115 = .ok (.aload_n 0, 1) := kz_dr dd_Mo_init_0 56 rfl
theorem d_Mo_init_116 : decode prog_8_method_1_code 116 = .ok (.sipush 400, 3) := kz_dr dd_Mo_init_0 57 rfl
theorem d_Mo_init_119 : decode prog_8_method_1_code 119 = .ok (.newarray .int, 2) := kz_dr dd_Mo_init_0 58 rfl
theorem d_Mo_init_121 : decode prog_8_method_1_code 121 = .ok (.putfield 56, 3) := kz_dr dd_Mo_init_0 59 rfl
def dl_Mo_init_1 : List (Nat × Instr × Nat) := [(124, .aload_n 0, 1), (125, .sipush 400, 3), (128, .newarray .int, 2), (130, .putfield 59, 3), (133, .aload_n 0, 1), (134, .bipush 16, 2), (136, .newarray .int, 2), (138, .putfield 62, 3), (141, .aload_n 0, 1), (142, .sipush 400, 3), (145, .newarray .int, 2), (147, .putfield 65, 3), (150, .aload_n 0, 1), (151, .bipush 16, 2), (153, .newarray .boolean, 2), (155, .putfield 68, 3), (158, .aload_n 0, 1), (159, .bipush 32, 2), (161, .newarray .int, 2), (163, .putfield 71, 3), (166, .aload_n 0, 1), (167, .bipush 32, 2), (169, .newarray .int, 2), (171, .putfield 74, 3), (174, .aload_n 0, 1), (175, .bipush 32, 2), (177, .newarray .int, 2), (179, .putfield 77, 3), (182, .aload_n 0, 1), (183, .bipush 32, 2), (185, .newarray .int, 2), (187, .putfield 80, 3), (190, .aload_n 0, 1), (191, .bipush 32, 2), (193, .newarray .int, 2), (195, .putfield 83, 3), (198, .aload_n 0, 1), (199, .iload_n 1, 1), (200, .iconst 2, 1), (201, .if_icmp .ge 7, 3), (204, .iconst 2, 1), (205, .goto 15, 3), (208, .iload_n 1, 1), (209, .bipush 8, 2), (211, .if_icmp .le 8, 3), (214, .bipush 8, 2), (216, .goto 4, 3), (219, .iload_n 1, 1), (220, .putfield 86, 3), (223, .aload_n 0, 1), (224, .iload_n 2, 1), (225, .ifCond .ge 7, 3), (228, .iconst 0, 1), (229, .goto 17, 3), (232, .iload_n 2, 1), (233, .sipush 300, 3), (236, .if_icmp .le 9, 3), (239, .sipush 300, 3), (242, .goto 4, 3), (245, .iload_n 2, 1)]
theorem dd_Mo_init_1 : dl_Mo_init_1.all (fun e => decide (decode prog_8_method_1_code e.1 = .ok e.2)) = true := by decide +kernel
theorem d_Mo_init_124 : decode prog_8_method_1_code 124 = .ok (.aload_n 0, 1) := kz_dr dd_Mo_init_1 0 rfl
theorem d_Mo_init_125 : decode prog_8_method_1_code 125 = .ok (.sipush 400, 3) := kz_dr dd_Mo_init_1 1 rfl
theorem d_Mo_init_128 : decode prog_8_method_1_code 128 = .ok (.newarray .int, 2) := kz_dr dd_Mo_init_1 2 rfl
theorem d_Mo_init_130 : decode prog_8_method_1_code 130 = .ok (.putfield 59, 3) := kz_dr dd_Mo_init_1 3 rfl
theorem d_Mo_init_133 : decode prog_8_method_1_code 133 = .ok (.aload_n 0, 1) := kz_dr dd_Mo_init_1 4 rfl
theorem d_Mo_init_134 : decode prog_8_method_1_code 134 = .ok (.bipush 16, 2) := kz_dr dd_Mo_init_1 5 rfl
theorem d_Mo_init_136 : decode prog_8_method_1_code 136 = .ok (.newarray .int, 2) := kz_dr dd_Mo_init_1 6 rfl
theorem d_Mo_init_138 : decode prog_8_method_1_code 138 = .ok (.putfield 62, 3) := kz_dr dd_Mo_init_1 7 rfl
theorem d_Mo_init_141 : decode prog_8_method_1_code 141 = .ok (.aload_n 0, 1) := kz_dr dd_Mo_init_1 8 rfl
theorem d_Mo_init_142 : decode prog_8_method_1_code 142 = .ok (.sipush 400, 3) := kz_dr dd_Mo_init_1 9 rfl
theorem d_Mo_init_145 : decode prog_8_method_1_code 145 = .ok (.newarray .int, 2) := kz_dr dd_Mo_init_1 10 rfl
theorem d_Mo_init_147 : decode prog_8_method_1_code 147 = .ok (.putfield 65, 3) := kz_dr dd_Mo_init_1 11 rfl
theorem d_Mo_init_150 : decode prog_8_method_1_code 150 = .ok (.aload_n 0, 1) := kz_dr dd_Mo_init_1 12 rfl
theorem d_Mo_init_151 : decode prog_8_method_1_code 151 = .ok (.bipush 16, 2) := kz_dr dd_Mo_init_1 13 rfl
theorem d_Mo_init_153 : decode prog_8_method_1_code 153 = .ok (.newarray .boolean, 2) := kz_dr dd_Mo_init_1 14 rfl
theorem d_Mo_init_155 : decode prog_8_method_1_code 155 = .ok (.putfield 68, 3) := kz_dr dd_Mo_init_1 15 rfl
theorem d_Mo_init_158 : decode prog_8_method_1_code 158 = .ok (.aload_n 0, 1) := kz_dr dd_Mo_init_1 16 rfl
theorem d_Mo_init_159 : decode prog_8_method_1_code 159 = .ok (.bipush 32, 2) := kz_dr dd_Mo_init_1 17 rfl
theorem d_Mo_init_161 : decode prog_8_method_1_code 161 = .ok (.newarray .int, 2) := kz_dr dd_Mo_init_1 18 rfl
theorem d_Mo_init_163 : decode prog_8_method_1_code 163 = .ok (.putfield 71, 3) := kz_dr dd_Mo_init_1 19 rfl
theorem d_Mo_init_166 : decode prog_8_method_1_code 166 = .ok (.aload_n 0, 1) := kz_dr dd_Mo_init_1 20 rfl
theorem d_Mo_init_167 : decode prog_8_method_1_code 167 = .ok (.bipush 32, 2) := kz_dr dd_Mo_init_1 21 rfl
theorem d_Mo_init_169 : decode prog_8_method_1_code 169 = .ok (.newarray .int, 2) := kz_dr dd_Mo_init_1 22 rfl
theorem d_Mo_init_171 : decode prog_8_method_1_code 171 = .ok (.putfield 74, 3) := kz_dr dd_Mo_init_1 23 rfl
theorem d_Mo_init_174 : decode prog_8_method_1_code 174 = .ok (.aload_n 0, 1) := kz_dr dd_Mo_init_1 24 rfl
theorem d_Mo_init_175 : decode prog_8_method_1_code 175 = .ok (.bipush 32, 2) := kz_dr dd_Mo_init_1 25 rfl
theorem d_Mo_init_177 : decode prog_8_method_1_code 177 = .ok (.newarray .int, 2) := kz_dr dd_Mo_init_1 26 rfl
theorem d_Mo_init_179 : decode prog_8_method_1_code 179 = .ok (.putfield 77, 3) := kz_dr dd_Mo_init_1 27 rfl
theorem d_Mo_init_182 : decode prog_8_method_1_code 182 = .ok (.aload_n 0, 1) := kz_dr dd_Mo_init_1 28 rfl
theorem d_Mo_init_183 : decode prog_8_method_1_code 183 = .ok (.bipush 32, 2) := kz_dr dd_Mo_init_1 29 rfl
theorem d_Mo_init_185 : decode prog_8_method_1_code 185 = .ok (.newarray .int, 2) := kz_dr dd_Mo_init_1 30 rfl
theorem d_Mo_init_187 : decode prog_8_method_1_code 187 = .ok (.putfield 80, 3) := kz_dr dd_Mo_init_1 31 rfl
theorem d_Mo_init_190 : decode prog_8_method_1_code 190 = .ok (.aload_n 0, 1) := kz_dr dd_Mo_init_1 32 rfl
theorem d_Mo_init_191 : decode prog_8_method_1_code 191 = .ok (.bipush 32, 2) := kz_dr dd_Mo_init_1 33 rfl
theorem d_Mo_init_193 : decode prog_8_method_1_code 193 = .ok (.newarray .int, 2) := kz_dr dd_Mo_init_1 34 rfl
theorem d_Mo_init_195 : decode prog_8_method_1_code 195 = .ok (.putfield 83, 3) := kz_dr dd_Mo_init_1 35 rfl
theorem d_Mo_init_198 : decode prog_8_method_1_code 198 = .ok (.aload_n 0, 1) := kz_dr dd_Mo_init_1 36 rfl
theorem d_Mo_init_199 : decode prog_8_method_1_code 199 = .ok (.iload_n 1, 1) := kz_dr dd_Mo_init_1 37 rfl
theorem d_Mo_init_200 : decode prog_8_method_1_code 200 = .ok (.iconst 2, 1) := kz_dr dd_Mo_init_1 38 rfl
theorem d_Mo_init_201 : decode prog_8_method_1_code 201 = .ok (.if_icmp .ge 7, 3) := kz_dr dd_Mo_init_1 39 rfl
theorem d_Mo_init_204 : decode prog_8_method_1_code 204 = .ok (.iconst 2, 1) := kz_dr dd_Mo_init_1 40 rfl
theorem d_Mo_init_205 : decode prog_8_method_1_code 205 = .ok (.goto 15, 3) := kz_dr dd_Mo_init_1 41 rfl
theorem d_Mo_init_208 : decode prog_8_method_1_code 208 = .ok (.iload_n 1, 1) := kz_dr dd_Mo_init_1 42 rfl
theorem d_Mo_init_209 : decode prog_8_method_1_code 209 = .ok (.bipush 8, 2) := kz_dr dd_Mo_init_1 43 rfl
theorem d_Mo_init_211 : decode prog_8_method_1_code 211 = .ok (.if_icmp .le 8, 3) := kz_dr dd_Mo_init_1 44 rfl
theorem d_Mo_init_214 : decode prog_8_method_1_code 214 = .ok (.bipush 8, 2) := kz_dr dd_Mo_init_1 45 rfl
theorem d_Mo_init_216 : decode prog_8_method_1_code 216 = .ok (.goto 4, 3) := kz_dr dd_Mo_init_1 46 rfl
theorem d_Mo_init_219 : decode prog_8_method_1_code 219 = .ok (.iload_n 1, 1) := kz_dr dd_Mo_init_1 47 rfl
theorem d_Mo_init_220 : decode prog_8_method_1_code 220 = .ok (.putfield 86, 3) := kz_dr dd_Mo_init_1 48 rfl
theorem d_Mo_init_223 : decode prog_8_method_1_code 223 = .ok (.aload_n 0, 1) := kz_dr dd_Mo_init_1 49 rfl
theorem d_Mo_init_224 : decode prog_8_method_1_code 224 = .ok (.iload_n 2, 1) := kz_dr dd_Mo_init_1 50 rfl
theorem d_Mo_init_225 : decode prog_8_method_1_code 225 = .ok (.ifCond .ge 7, 3) := kz_dr dd_Mo_init_1 51 rfl
theorem d_Mo_init_228 : decode prog_8_method_1_code 228 = .ok (.iconst 0, 1) := kz_dr dd_Mo_init_1 52 rfl
theorem d_Mo_init_229 : decode prog_8_method_1_code 229 = .ok (.goto 17, 3) := kz_dr dd_Mo_init_1 53 rfl
theorem d_Mo_init_232 : decode prog_8_method_1_code 232 = .ok (.iload_n 2, 1) := kz_dr dd_Mo_init_1 54 rfl
theorem d_Mo_init_233 : decode prog_8_method_1_code 233 = .ok (.sipush 300, 3) := kz_dr dd_Mo_init_1 55 rfl
theorem d_Mo_init_236 : decode prog_8_method_1_code 236 = .ok (.if_icmp .le 9, 3) := kz_dr dd_Mo_init_1 56 rfl
theorem d_Mo_init_239 : decode prog_8_method_1_code 239 = .ok (.sipush 300, 3) := kz_dr dd_Mo_init_1 57 rfl
theorem d_Mo_init_242 : decode prog_8_method_1_code 242 = .ok (.goto 4, 3) := kz_dr dd_Mo_init_1 58 rfl
theorem d_Mo_init_245 : decode prog_8_method_1_code 245 = .ok (.iload_n 2, 1) := kz_dr dd_Mo_init_1 59 rfl
def dl_Mo_init_2 : List (Nat × Instr × Nat) := [(246, .putfield 89, 3), (249, .iconst 0, 1), (250, .istore_n 3, 1), (251, .iload_n 3, 1), (252, .bipush 14, 2), (254, .if_icmp .ge 19, 3), (257, .aload_n 0, 1), (258, .getfield 7, 3), (261, .iload_n 3, 1), (262, .iload_n 3, 1), (263, .invokestatic 92, 3), (266, .iastore, 1), (267, .iinc 3 1, 3), (270, .goto (-19), 3), (273, .iconst 0, 1), (274, .istore_n 3, 1), (275, .iload_n 3, 1), (276, .iconst 4, 1), (277, .if_icmp .ge 24, 3), (280, .aload_n 0, 1), (281, .getfield 20, 3), (284, .iload_n 3, 1), (285, .iconst (-1), 1), (286, .iastore, 1), (287, .aload_n 0, 1), (288, .getfield 29, 3), (291, .iload_n 3, 1), (292, .ldc 32, 2), (294, .iastore, 1), (295, .iinc 3 1, 3), (298, .goto (-23), 3), (301, .iconst 0, 1), (302, .istore_n 3, 1), (303, .iload_n 3, 1), (304, .bipush 20, 2), (306, .if_icmp .ge 17, 3), (309, .aload_n 0, 1), (310, .getfield 23, 3), (313, .iload_n 3, 1), (314, .ldc 32, 2), (316, .iastore, 1), (317, .iinc 3 1, 3), (320, .goto (-17), 3), (323, .iconst 0, 1), (324, .istore_n 3, 1), (325, .iload_n 3, 1), (326, .iconst 5, 1), (327, .if_icmp .ge 17, 3), (330, .aload_n 0, 1), (331, .getfield 26, 3), (334, .iload_n 3, 1), (335, .ldc 32, 2), (337, .iastore, 1), (338, .iinc 3 1, 3), (341, .goto (-16), 3), (344, .return_, 1)]
theorem dd_Mo_init_2 : dl_Mo_init_2.all (fun e => decide (decode prog_8_method_1_code e.1 = .ok e.2)) = true := by decide +kernel
theorem d_Mo_init_246 : decode prog_8_method_1_code 246 = .ok (.putfield 89, 3) := kz_dr dd_Mo_init_2 0 rfl
theorem d_Mo_init_249 : decode prog_8_method_1_code 249 = .ok (.iconst 0, 1) := kz_dr dd_Mo_init_2 1 rfl
theorem d_Mo_init_250 : decode prog_8_method_1_code 250 = .ok (.istore_n 3, 1) := kz_dr dd_Mo_init_2 2 rfl
theorem d_Mo_init_251 : decode prog_8_method_1_code 251 = .ok (.iload_n 3, 1) := kz_dr dd_Mo_init_2 3 rfl
theorem d_Mo_init_252 : decode prog_8_method_1_code 252 = .ok (.bipush 14, 2) := kz_dr dd_Mo_init_2 4 rfl
theorem d_Mo_init_254 : decode prog_8_method_1_code 254 = .ok (.if_icmp .ge 19, 3) := kz_dr dd_Mo_init_2 5 rfl
theorem d_Mo_init_257 : decode prog_8_method_1_code 257 = .ok (.aload_n 0, 1) := kz_dr dd_Mo_init_2 6 rfl
theorem d_Mo_init_258 : decode prog_8_method_1_code 258 = .ok (.getfield 7, 3) := kz_dr dd_Mo_init_2 7 rfl
theorem d_Mo_init_261 : decode prog_8_method_1_code 261 = .ok (.iload_n 3, 1) := kz_dr dd_Mo_init_2 8 rfl
theorem d_Mo_init_262 : decode prog_8_method_1_code 262 = .ok (.iload_n 3, 1) := kz_dr dd_Mo_init_2 9 rfl
theorem d_Mo_init_263 : decode prog_8_method_1_code 263 = .ok (.invokestatic 92, 3) := kz_dr dd_Mo_init_2 10 rfl
theorem d_Mo_init_266 : decode prog_8_method_1_code 266 = .ok (.iastore, 1) := kz_dr dd_Mo_init_2 11 rfl
theorem d_Mo_init_267 : decode prog_8_method_1_code 267 = .ok (.iinc 3 1, 3) := kz_dr dd_Mo_init_2 12 rfl
theorem d_Mo_init_270 : decode prog_8_method_1_code 270 = .ok (.goto (-19), 3) := kz_dr dd_Mo_init_2 13 rfl
theorem d_Mo_init_273 : decode prog_8_method_1_code 273 = .ok (.iconst 0, 1) := kz_dr dd_Mo_init_2 14 rfl
theorem d_Mo_init_274 : decode prog_8_method_1_code 274 = .ok (.istore_n 3, 1) := kz_dr dd_Mo_init_2 15 rfl
theorem d_Mo_init_275 : decode prog_8_method_1_code 275 = .ok (.iload_n 3, 1) := kz_dr dd_Mo_init_2 16 rfl
theorem d_Mo_init_276 : decode prog_8_method_1_code 276 = .ok (.iconst 4, 1) := kz_dr dd_Mo_init_2 17 rfl
theorem d_Mo_init_277 : decode prog_8_method_1_code 277 = .ok (.if_icmp .ge 24, 3) := kz_dr dd_Mo_init_2 18 rfl
theorem d_Mo_init_280 : decode prog_8_method_1_code 280 = .ok (.aload_n 0, 1) := kz_dr dd_Mo_init_2 19 rfl
theorem d_Mo_init_281 : decode prog_8_method_1_code 281 = .ok (.getfield 20, 3) := kz_dr dd_Mo_init_2 20 rfl
theorem d_Mo_init_284 : decode prog_8_method_1_code 284 = .ok (.iload_n 3, 1) := kz_dr dd_Mo_init_2 21 rfl
theorem d_Mo_init_285 : decode prog_8_method_1_code 285 = .ok (.iconst (-1), 1) := kz_dr dd_Mo_init_2 22 rfl
theorem d_Mo_init_286 : decode prog_8_method_1_code 286 = .ok (.iastore, 1) := kz_dr dd_Mo_init_2 23 rfl
theorem d_Mo_init_287 : decode prog_8_method_1_code 287 = .ok (.aload_n 0, 1) := kz_dr dd_Mo_init_2 24 rfl
theorem d_Mo_init_288 : decode prog_8_method_1_code 288 = .ok (.getfield 29, 3) := kz_dr dd_Mo_init_2 25 rfl
theorem d_Mo_init_291 : decode prog_8_method_1_code 291 = .ok (.iload_n 3, 1) := kz_dr dd_Mo_init_2 26 rfl
theorem d_Mo_init_292 : decode prog_8_method_1_code 292 = .ok (.ldc 32, 2) := kz_dr dd_Mo_init_2 27 rfl
theorem d_Mo_init_294 : decode prog_8_method_1_code 294 = .ok (.iastore, 1) := kz_dr dd_Mo_init_2 28 rfl
theorem d_Mo_init_295 : decode prog_8_method_1_code 295 = .ok (.iinc 3 1, 3) := kz_dr dd_Mo_init_2 29 rfl
theorem d_Mo_init_298 : decode prog_8_method_1_code 298 = .ok (.goto (-23), 3) := kz_dr dd_Mo_init_2 30 rfl
theorem d_Mo_init_301 : decode prog_8_method_1_code 301 = .ok (.iconst 0, 1) := kz_dr dd_Mo_init_2 31 rfl
theorem d_Mo_init_302 : decode prog_8_method_1_code 302 = .ok (.istore_n 3, 1) := kz_dr dd_Mo_init_2 32 rfl
theorem d_Mo_init_303 : decode prog_8_method_1_code 303 = .ok (.iload_n 3, 1) := kz_dr dd_Mo_init_2 33 rfl
theorem d_Mo_init_304 : decode prog_8_method_1_code 304 = .ok (.bipush 20, 2) := kz_dr dd_Mo_init_2 34 rfl
theorem d_Mo_init_306 : decode prog_8_method_1_code 306 = .ok (.if_icmp .ge 17, 3) := kz_dr dd_Mo_init_2 35 rfl
theorem d_Mo_init_309 : decode prog_8_method_1_code 309 = .ok (.aload_n 0, 1) := kz_dr dd_Mo_init_2 36 rfl
theorem d_Mo_init_310 : decode prog_8_method_1_code 310 = .ok (.getfield 23, 3) := kz_dr dd_Mo_init_2 37 rfl
theorem d_Mo_init_313 : decode prog_8_method_1_code 313 = .ok (.iload_n 3, 1) := kz_dr dd_Mo_init_2 38 rfl
theorem d_Mo_init_314 : decode prog_8_method_1_code 314 = .ok (.ldc 32, 2) := kz_dr dd_Mo_init_2 39 rfl
theorem d_Mo_init_316 : decode prog_8_method_1_code 316 = .ok (.iastore, 1) := kz_dr dd_Mo_init_2 40 rfl
theorem d_Mo_init_317 : decode prog_8_method_1_code 317 = .ok (.iinc 3 1, 3) := kz_dr dd_Mo_init_2 41 rfl
theorem d_Mo_init_320 : decode prog_8_method_1_code 320 = .ok (.goto (-17), 3) := kz_dr dd_Mo_init_2 42 rfl
theorem d_Mo_init_323 : decode prog_8_method_1_code 323 = .ok (.iconst 0, 1) := kz_dr dd_Mo_init_2 43 rfl
theorem d_Mo_init_324 : decode prog_8_method_1_code 324 = .ok (.istore_n 3, 1) := kz_dr dd_Mo_init_2 44 rfl
theorem d_Mo_init_325 : decode prog_8_method_1_code 325 = .ok (.iload_n 3, 1) := kz_dr dd_Mo_init_2 45 rfl
theorem d_Mo_init_326 : decode prog_8_method_1_code 326 = .ok (.iconst 5, 1) := kz_dr dd_Mo_init_2 46 rfl
theorem d_Mo_init_327 : decode prog_8_method_1_code 327 = .ok (.if_icmp .ge 17, 3) := kz_dr dd_Mo_init_2 47 rfl
theorem d_Mo_init_330 : decode prog_8_method_1_code 330 = .ok (.aload_n 0, 1) := kz_dr dd_Mo_init_2 48 rfl
theorem d_Mo_init_331 : decode prog_8_method_1_code 331 = .ok (.getfield 26, 3) := kz_dr dd_Mo_init_2 49 rfl
theorem d_Mo_init_334 : decode prog_8_method_1_code 334 = .ok (.iload_n 3, 1) := kz_dr dd_Mo_init_2 50 rfl
theorem d_Mo_init_335 : decode prog_8_method_1_code 335 = .ok (.ldc 32, 2) := kz_dr dd_Mo_init_2 51 rfl
theorem d_Mo_init_337 : decode prog_8_method_1_code 337 = .ok (.iastore, 1) := kz_dr dd_Mo_init_2 52 rfl
theorem d_Mo_init_338 : decode prog_8_method_1_code 338 = .ok (.iinc 3 1, 3) := kz_dr dd_Mo_init_2 53 rfl
theorem d_Mo_init_341 : decode prog_8_method_1_code 341 = .ok (.goto (-16), 3) := kz_dr dd_Mo_init_2 54 rfl
theorem d_Mo_init_344 : decode prog_8_method_1_code 344 = .ok (.return_, 1) := kz_dr dd_Mo_init_2 55 rfl
def dl_Mo_first_0 : List (Nat × Instr × Nat) := [(0, .iload_n 0, 1), (1, .tableswitch 86 2 13 #[63, 66, 69, 71, 74, 76, 86, 86, 78, 86, 80, 83], 63), (64, .bipush 7, 2), (66, .ireturn, 1), (67, .bipush 10, 2), (69, .ireturn, 1), (70, .iconst 2, 1), (71, .ireturn, 1), (72, .bipush 9, 2), (74, .ireturn, 1), (75, .iconst 4, 1), (76, .ireturn, 1), (77, .iconst 4, 1), (78, .ireturn, 1), (79, .iconst 4, 1), (80, .ireturn, 1), (81, .bipush 12, 2), (83, .ireturn, 1), (84, .bipush 120, 2), (86, .ireturn, 1), (87, .iconst 3, 1), (88, .ireturn, 1)]
theorem dd_Mo_first_0 : dl_Mo_first_0.all (fun e => decide (decode prog_8_method_2_code e.1 = .ok e.2)) = true := by decide +kernel
theorem d_Mo_first_0 : decode prog_8_method_2_code 0 = .ok (.iload_n 0, 1) := kz_dr dd_Mo_first_0 0 rfl
theorem d_Mo_first_1 : decode prog_8_method_2_code 1 = .ok (.tableswitch 86 2 13 #[63, 66, 69, 71, 74, 76, 86, 86, 78, 86, 80, 83], 63) := kz_dr dd_Mo_first_0 1 rfl
theorem d_Mo_first_64 : decode prog_8_method_2_code 64 = .ok (.bipush 7, 2) := kz_dr dd_Mo_first_0 2 rfl
theorem d_Mo_first_66 : decode prog_8_method_2_code 66 = .ok (.ireturn, 1) := kz_dr dd_Mo_first_0 3 rfl
theorem d_Mo_first_67 : decode prog_8_method_2_code 67 = .ok (.bipush 10, 2) := kz_dr dd_Mo_first_0 4 rfl
theorem d_Mo_first_69 : decode prog_8_method_2_code 69 = .ok (.ireturn, 1) := kz_dr dd_Mo_first_0 5 rfl
theorem d_Mo_first_70 : decode prog_8_method_2_code 70 = .ok (.iconst 2, 1) := kz_dr dd_Mo_first_0 6 rfl
theorem d_Mo_first_71 : decode prog_8_method_2_code 71 = .ok (.ireturn, 1) := kz_dr dd_Mo_first_0 7 rfl
theorem d_Mo_first_72 : decode prog_8_method_2_code 72 = .ok (.bipush 9, 2) := kz_dr dd_Mo_first_0 8 rfl
theorem d_Mo_first_74 : decode prog_8_method_2_code 74 = .ok (.ireturn, 1) := kz_dr dd_Mo_first_0 9 rfl
theorem d_Mo_first_75 : decode prog_8_method_2_code 75 = .ok (.iconst 4, 1) := kz_dr dd_Mo_first_0 10 rfl
theorem d_Mo_first_76 : decode prog_8_method_2_code 76 = .ok (.ireturn, 1) := kz_dr dd_Mo_first_0 11 rfl
theorem d_Mo_first_77 : decode prog_8_method_2_code 77 = .ok (.iconst 4, 1) := kz_dr dd_Mo_first_0 12 rfl
theorem d_Mo_first_78 : decode prog_8_method_2_code 78 = .ok (.ireturn, 1) := kz_dr dd_Mo_first_0 13 rfl
theorem d_Mo_first_79 : decode prog_8_method_2_code 79 = .ok (.iconst 4, 1) := kz_dr dd_Mo_first_0 14 rfl
theorem d_Mo_first_80 : decode prog_8_method_2_code 80 = .ok (.ireturn, 1) := kz_dr dd_Mo_first_0 15 rfl
theorem d_Mo_first_81 : decode prog_8_method_2_code 81 = .ok (.bipush 12, 2) := kz_dr dd_Mo_first_0 16 rfl
theorem d_Mo_first_83 : decode prog_8_method_2_code 83 = .ok (.ireturn, 1) := kz_dr dd_Mo_first_0 17 rfl
theorem d_Mo_first_84 : decode prog_8_method_2_code 84 = .ok (.bipush 120, 2) := kz_dr dd_Mo_first_0 18 rfl
theorem d_Mo_first_86 : decode prog_8_method_2_code 86 = .ok (.ireturn, 1) := kz_dr dd_Mo_first_0 19 rfl
theorem d_Mo_first_87 : decode prog_8_method_2_code 87 = .ok (.iconst 3, 1) := kz_dr dd_Mo_first_0 20 rfl
theorem d_Mo_first_88 : decode prog_8_method_2_code 88 = .ok (.ireturn, 1) := kz_dr dd_Mo_first_0 21 rfl
def dl_Mo_timing_0 : List (Nat × Instr × Nat) := [(0, .aload_n 0, 1), (1, .getfield 96, 3), (4, .ifCond .gt 13, 3), (7, .iload_n 1, 1), (8, .ifCond .lt 9, 3), (11, .iload_n 1, 1), (12, .bipush 13, 2), (14, .if_icmp .le 5, 3), (17, .iconst 0, 1), (18, .ireturn, 1), (19, .iload_n 1, 1), (20, .bipush 13, 2), (22, .if_icmp .ne 24, 3), (25, .iload_n 2, 1), (26, .bipush 60, 2), (28, .if_icmp .lt 14, 3), (31, .iload_n 2, 1), (32, .sipush 400, 3), (35, .if_icmp .gt 7, 3), (38, .iconst 1, 1), (39, .goto 23, 3), (42, .iconst 0, 1), (43, .goto 19, 3), (46, .iload_n 2, 1), (47, .iconst 1, 1), (48, .if_icmp .lt 13, 3), (51, .iload_n 2, 1), (52, .bipush 30, 2), (54, .if_icmp .gt 7, 3), (57, .iconst 1, 1), (58, .goto 4, 3), (61, .iconst 0, 1), (62, .istore_n 3, 1), (63, .iload_n 3, 1), (64, .ifCond .eq 10, 3), (67, .aload_n 0, 1), (68, .getfield 7, 3), (71, .iload_n 1, 1), (72, .iload_n 2, 1), (73, .iastore, 1), (74, .iload_n 3, 1), (75, .ireturn, 1)]
theorem dd_Mo_timing_0 : dl_Mo_timing_0.all (fun e => decide (decode prog_8_method_3_code e.1 = .ok e.2)) = true := by decide +kernel
theorem d_Mo_timing_0 : decode prog_8_method_3_code 0 = .ok (.aload_n 0, 1) := kz_dr dd_Mo_timing_0 0 rfl
theorem d_Mo_timing_1 : decode prog_8_method_3_code 1 = .ok (.getfield 96, 3) := kz_dr dd_Mo_timing_0 1 rfl
theorem d_Mo_timing_4 : decode prog_8_method_3_code 4 = .ok (.ifCond .gt 13, 3) := kz_dr dd_Mo_timing_0 2 rfl
theorem d_Mo_timing_7 : decode prog_8_method_3_code 7 = .ok (.iload_n 1, 1) := kz_dr dd_Mo_timing_0 3 rfl
theorem d_Mo_timing_8 : decode prog_8_method_3_code 8 = .ok (.ifCond .lt 9, 3) := kz_dr dd_Mo_timing_0 4 rfl
theorem d_Mo_timing_11 : decode prog_8_method_3_code 11 = .ok (.iload_n 1, 1) := kz_dr dd_Mo_timing_0 5 rfl
theorem d_Mo_timing_12 : decode prog_8_method_3_code 12 = .ok (.bipush 13, 2) := kz_dr dd_Mo_timing_0 6 rfl
theorem d_Mo_timing_14 : decode prog_8_method_3_code 14 = .ok (.if_icmp .le 5, 3) := kz_dr dd_Mo_timing_0 7 rfl
theorem d_Mo_timing_17 : decode prog_8_method_3_code 17 = .ok (.iconst 0, 1) := kz_dr dd_Mo_timing_0 8 rfl
theorem d_Mo_timing_18 : decode prog_8_method_3_code 18 = .ok (.ireturn, 1) := kz_dr dd_Mo_timing_0 9 rfl
theorem d_Mo_timing_19 : decode prog_8_method_3_code 19 = .ok (.iload_n 1, 1) := kz_dr dd_Mo_timing_0 10 rfl
theorem d_Mo_timing_20 : decode prog_8_method_3_code 20 = .ok (.bipush 13, 2) := kz_dr dd_Mo_timing_0 11 rfl
theorem d_Mo_timing_22 : decode prog_8_method_3_code 22 = .ok (.if_icmp .ne 24, 3) := kz_dr dd_Mo_timing_0 12 rfl
theorem d_Mo_timing_25 : decode prog_8_method_3_code 25 = .ok (.iload_n 2, 1) := kz_dr dd_Mo_timing_0 13 rfl
theorem d_Mo_timing_26 : decode prog_8_method_3_code 26 = .ok (.bipush 60, 2) := kz_dr dd_Mo_timing_0 14 rfl
theorem d_Mo_timing_28 : decode prog_8_method_3_code 28 = .ok (.if_icmp .lt 14, 3) := kz_dr dd_Mo_timing_0 15 rfl
theorem d_Mo_timing_31 : decode prog_8_method_3_code 31 = .ok (.iload_n 2, 1) := kz_dr dd_Mo_timing_0 16 rfl
theorem d_Mo_timing_32 : decode prog_8_method_3_code 32 = .ok (.sipush 400, 3) := kz_dr dd_Mo_timing_0 17 rfl
theorem d_Mo_timing_35 : decode prog_8_method_3_code 35 = .ok (.if_icmp .gt 7, 3) := kz_dr dd_Mo_timing_0 18 rfl
theorem d_Mo_timing_38 : decode prog_8_method_3_code 38 = .ok (.iconst 1, 1) := kz_dr dd_Mo_timing_0 19 rfl
theorem d_Mo_timing_39 : decode prog_8_method_3_code 39 = .ok (.goto 23, 3) := kz_dr dd_Mo_timing_0 20 rfl
theorem d_Mo_timing_42 : decode prog_8_method_3_code 42 = .ok (.iconst 0, 1) := kz_dr dd_Mo_timing_0 21 rfl
theorem d_Mo_timing_43 : decode prog_8_method_3_code 43 = .ok (.goto 19, 3) := kz_dr dd_Mo_timing_0 22 rfl
theorem d_Mo_timing_46 : decode prog_8_method_3_code 46 = .ok (.iload_n 2, 1) := kz_dr dd_Mo_timing_0 23 rfl
theorem d_Mo_timing_47 : decode prog_8_method_3_code 47 = .ok (.iconst 1, 1) := kz_dr dd_Mo_timing_0 24 rfl
theorem d_Mo_timing_48 : decode prog_8_method_3_code 48 = .ok (.if_icmp .lt 13, 3) := kz_dr dd_Mo_timing_0 25 rfl
theorem d_Mo_timing_51 : decode prog_8_method_3_code 51 = .ok (.iload_n 2, 1) := kz_dr dd_Mo_timing_0 26 rfl
theorem d_Mo_timing_52 : decode prog_8_method_3_code 52 = .ok (.bipush 30, 2) := kz_dr dd_Mo_timing_0 27 rfl
theorem d_Mo_timing_54 : decode prog_8_method_3_code 54 = .ok (.if_icmp .gt 7, 3) := kz_dr dd_Mo_timing_0 28 rfl
theorem d_Mo_timing_57 : decode prog_8_method_3_code 57 = .ok (.iconst 1, 1) := kz_dr dd_Mo_timing_0 29 rfl
theorem d_Mo_timing_58 : decode prog_8_method_3_code 58 = .ok (.goto 4, 3) := kz_dr dd_Mo_timing_0 30 rfl
theorem d_Mo_timing_61 : decode prog_8_method_3_code 61 = .ok (.iconst 0, 1) := kz_dr dd_Mo_timing_0 31 rfl
theorem d_Mo_timing_62 : decode prog_8_method_3_code 62 = .ok (.istore_n 3, 1) := kz_dr dd_Mo_timing_0 32 rfl
theorem d_Mo_timing_63 : decode prog_8_method_3_code 63 = .ok (.iload_n 3, 1) := kz_dr dd_Mo_timing_0 33 rfl
theorem d_Mo_timing_64 : decode prog_8_method_3_code 64 = .ok (.ifCond .eq 10, 3) := kz_dr dd_Mo_timing_0 34 rfl
theorem d_Mo_timing_67 : decode prog_8_method_3_code 67 = .ok (.aload_n 0, 1) := kz_dr dd_Mo_timing_0 35 rfl
theorem d_Mo_timing_68 : decode prog_8_method_3_code 68 = .ok (.getfield 7, 3) := kz_dr dd_Mo_timing_0 36 rfl
theorem d_Mo_timing_71 : decode prog_8_method_3_code 71 = .ok (.iload_n 1, 1) := kz_dr dd_Mo_timing_0 37 rfl
theorem d_Mo_timing_72 : decode prog_8_method_3_code 72 = .ok (.iload_n 2, 1) := kz_dr dd_Mo_timing_0 38 rfl
theorem d_Mo_timing_73 : decode prog_8_method_3_code 73 = .ok (.iastore, 1) := kz_dr dd_Mo_timing_0 39 rfl
theorem d_Mo_timing_74 : decode prog_8_method_3_code 74 = .ok (.iload_n 3, 1) := kz_dr dd_Mo_timing_0 40 rfl
theorem d_Mo_timing_75 : decode prog_8_method_3_code 75 = .ok (.ireturn, 1) := kz_dr dd_Mo_timing_0 41 rfl
