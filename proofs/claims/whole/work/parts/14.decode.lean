/-! decode rows, by program (wip/whole/names.py) -/
def dl_Mo_bankAt_0 : List (Nat × Instr × Nat) := [(0, .iload_n 0, 1), (1, .iconst 3, 1), (2, .ishr, 1), (3, .iconst 3, 1), (4, .iand, 1), (5, .ireturn, 1)]
theorem dd_Mo_bankAt_0 : dl_Mo_bankAt_0.all (fun e => decide (decode prog_8_method_17_code e.1 = .ok e.2)) = true := by decide +kernel
theorem d_Mo_bankAt_0 : decode prog_8_method_17_code 0 = .ok (.iload_n 0, 1) := kz_dr dd_Mo_bankAt_0 0 rfl
theorem d_Mo_bankAt_1 : decode prog_8_method_17_code 1 = .ok (.iconst 3, 1) := kz_dr dd_Mo_bankAt_0 1 rfl
theorem d_Mo_bankAt_2 : decode prog_8_method_17_code 2 = .ok (.ishr, 1) := kz_dr dd_Mo_bankAt_0 2 rfl
theorem d_Mo_bankAt_3 : decode prog_8_method_17_code 3 = .ok (.iconst 3, 1) := kz_dr dd_Mo_bankAt_0 3 rfl
theorem d_Mo_bankAt_4 : decode prog_8_method_17_code 4 = .ok (.iand, 1) := kz_dr dd_Mo_bankAt_0 4 rfl
theorem d_Mo_bankAt_5 : decode prog_8_method_17_code 5 = .ok (.ireturn, 1) := kz_dr dd_Mo_bankAt_0 5 rfl
def dl_Mo_rowAt_0 : List (Nat × Instr × Nat) := [(0, .iload_n 0, 1), (1, .iconst 5, 1), (2, .ishr, 1), (3, .ireturn, 1)]
theorem dd_Mo_rowAt_0 : dl_Mo_rowAt_0.all (fun e => decide (decode prog_8_method_18_code e.1 = .ok e.2)) = true := by decide +kernel
theorem d_Mo_rowAt_0 : decode prog_8_method_18_code 0 = .ok (.iload_n 0, 1) := kz_dr dd_Mo_rowAt_0 0 rfl
theorem d_Mo_rowAt_1 : decode prog_8_method_18_code 1 = .ok (.iconst 5, 1) := kz_dr dd_Mo_rowAt_0 1 rfl
theorem d_Mo_rowAt_2 : decode prog_8_method_18_code 2 = .ok (.ishr, 1) := kz_dr dd_Mo_rowAt_0 2 rfl
theorem d_Mo_rowAt_3 : decode prog_8_method_18_code 3 = .ok (.ireturn, 1) := kz_dr dd_Mo_rowAt_0 3 rfl
def dl_Mo_mayMove_0 : List (Nat × Instr × Nat) := [(0, .aload_n 0, 1), (1, .aload_n 0, 1), (2, .getfield 23, 3), (5, .iconst 5, 1), (6, .iload_n 1, 1), (7, .imul, 1), (8, .iconst 0, 1), (9, .iadd, 1), (10, .iaload, 1), (11, .aload_n 0, 1), (12, .getfield 7, 3), (15, .iconst 0, 1), (16, .iaload, 1), (17, .invokevirtual 153, 3), (20, .ifCond .eq 47, 3), (23, .aload_n 0, 1), (24, .aload_n 0, 1), (25, .getfield 26, 3), (28, .iconst 2, 1), (29, .iaload, 1), (30, .aload_n 0, 1), (31, .getfield 7, 3), (34, .bipush 6, 2), (36, .iaload, 1), (37, .invokevirtual 153, 3), (40, .ifCond .eq 27, 3), (43, .aload_n 0, 1), (44, .aload_n 0, 1), (45, .getfield 26, 3), (48, .iconst 3, 1), (49, .iaload, 1), (50, .aload_n 0, 1), (51, .getfield 7, 3), (54, .bipush 6, 2), (56, .iaload, 1), (57, .invokevirtual 153, 3), (60, .ifCond .eq 7, 3), (63, .iconst 1, 1), (64, .goto 4, 3), (67, .iconst 0, 1), (68, .istore_n 3, 1), (69, .iload_n 2, 1), (70, .ifCond .eq 28, 3), (73, .iload_n 3, 1), (74, .ifCond .eq 22, 3), (77, .aload_n 0, 1), (78, .iconst 3, 1), (79, .aload_n 0, 1), (80, .getfield 7, 3), (83, .bipush 11, 2), (85, .iaload, 1), (86, .invokevirtual 157, 3), (89, .ifCond .eq 7, 3), (92, .iconst 1, 1), (93, .goto 4, 3), (96, .iconst 0, 1), (97, .ireturn, 1), (98, .iload_n 3, 1), (99, .ifCond .eq 52, 3), (102, .aload_n 0, 1)]
theorem dd_Mo_mayMove_0 : dl_Mo_mayMove_0.all (fun e => decide (decode prog_8_method_24_code e.1 = .ok e.2)) = true := by decide +kernel
theorem d_Mo_mayMove_0 : decode prog_8_method_24_code 0 = .ok (.aload_n 0, 1) := kz_dr dd_Mo_mayMove_0 0 rfl
theorem d_Mo_mayMove_1 : decode prog_8_method_24_code 1 = .ok (.aload_n 0, 1) := kz_dr dd_Mo_mayMove_0 1 rfl
theorem d_Mo_mayMove_2 : decode prog_8_method_24_code 2 = .ok (.getfield 23, 3) := kz_dr dd_Mo_mayMove_0 2 rfl
theorem d_Mo_mayMove_5 : decode prog_8_method_24_code 5 = .ok (.iconst 5, 1) := kz_dr dd_Mo_mayMove_0 3 rfl
theorem d_Mo_mayMove_6 : decode prog_8_method_24_code 6 = .ok (.iload_n 1, 1) := kz_dr dd_Mo_mayMove_0 4 rfl
theorem d_Mo_mayMove_7 : decode prog_8_method_24_code 7 = .ok (.imul, 1) := kz_dr dd_Mo_mayMove_0 5 rfl
theorem d_Mo_mayMove_8 : decode prog_8_method_24_code 8 = .ok (.iconst 0, 1) := kz_dr dd_Mo_mayMove_0 6 rfl
theorem d_Mo_mayMove_9 : decode prog_8_method_24_code 9 = .ok (.iadd, 1) := kz_dr dd_Mo_mayMove_0 7 rfl
theorem d_Mo_mayMove_10 : decode prog_8_method_24_code 10 = .ok (.iaload, 1) := kz_dr dd_Mo_mayMove_0 8 rfl
theorem d_Mo_mayMove_11 : decode prog_8_method_24_code 11 = .ok (.aload_n 0, 1) := kz_dr dd_Mo_mayMove_0 9 rfl
theorem d_Mo_mayMove_12 : decode prog_8_method_24_code 12 = .ok (.getfield 7, 3) := kz_dr dd_Mo_mayMove_0 10 rfl
theorem d_Mo_mayMove_15 : decode prog_8_method_24_code 15 = .ok (.iconst 0, 1) := kz_dr dd_Mo_mayMove_0 11 rfl
theorem d_Mo_mayMove_16 : decode prog_8_method_24_code 16 = .ok (.iaload, 1) := kz_dr dd_Mo_mayMove_0 12 rfl
theorem d_Mo_mayMove_17 : decode prog_8_method_24_code 17 = .ok (.invokevirtual 153, 3) := kz_dr dd_Mo_mayMove_0 13 rfl
theorem d_Mo_mayMove_20 : decode prog_8_method_24_code 20 = .ok (.ifCond .eq 47, 3) := kz_dr dd_Mo_mayMove_0 14 rfl
theorem d_Mo_mayMove_23 : decode prog_8_method_24_code 23 = .ok (.aload_n 0, 1) := kz_dr dd_Mo_mayMove_0 15 rfl
theorem d_Mo_mayMove_24 : decode prog_8_method_24_code 24 = .ok (.aload_n 0, 1) := kz_dr dd_Mo_mayMove_0 16 rfl
theorem d_Mo_mayMove_25 : decode prog_8_method_24_code 25 = .ok (.getfield 26, 3) := kz_dr dd_Mo_mayMove_0 17 rfl
theorem d_Mo_mayMove_28 : decode prog_8_method_24_code 28 = .ok (.iconst 2, 1) := kz_dr dd_Mo_mayMove_0 18 rfl
theorem d_Mo_mayMove_29 : decode prog_8_method_24_code 29 = .ok (.iaload, 1) := kz_dr dd_Mo_mayMove_0 19 rfl
theorem d_Mo_mayMove_30 : decode prog_8_method_24_code 30 = .ok (.aload_n 0, 1) := kz_dr dd_Mo_mayMove_0 20 rfl
theorem d_Mo_mayMove_31 : decode prog_8_method_24_code 31 = .ok (.getfield 7, 3) := kz_dr dd_Mo_mayMove_0 21 rfl
theorem d_Mo_mayMove_34 : decode prog_8_method_24_code 34 = .ok (.bipush 6, 2) := kz_dr dd_Mo_mayMove_0 22 rfl
theorem d_Mo_mayMove_36 : decode prog_8_method_24_code 36 = .ok (.iaload, 1) := kz_dr dd_Mo_mayMove_0 23 rfl
theorem d_Mo_mayMove_37 : decode prog_8_method_24_code 37 = .ok (.invokevirtual 153, 3) := kz_dr dd_Mo_mayMove_0 24 rfl
theorem d_Mo_mayMove_40 : decode prog_8_method_24_code 40 = .ok (.ifCond .eq 27, 3) := kz_dr dd_Mo_mayMove_0 25 rfl
theorem d_Mo_mayMove_43 : decode prog_8_method_24_code 43 = .ok (.aload_n 0, 1) := kz_dr dd_Mo_mayMove_0 26 rfl
theorem d_Mo_mayMove_44 : decode prog_8_method_24_code 44 = .ok (.aload_n 0, 1) := kz_dr dd_Mo_mayMove_0 27 rfl
theorem d_Mo_mayMove_45 : decode prog_8_method_24_code 45 = .ok (.getfield 26, 3) := kz_dr dd_Mo_mayMove_0 28 rfl
theorem d_Mo_mayMove_48 : decode prog_8_method_24_code 48 = .ok (.iconst 3, 1) := kz_dr dd_Mo_mayMove_0 29 rfl
theorem d_Mo_mayMove_49 : decode prog_8_method_24_code 49 = .ok (.iaload, 1) := kz_dr dd_Mo_mayMove_0 30 rfl
theorem d_Mo_mayMove_50 : decode prog_8_method_24_code 50 = .ok (.aload_n 0, 1) := kz_dr dd_Mo_mayMove_0 31 rfl
theorem d_Mo_mayMove_51 : decode prog_8_method_24_code 51 = .ok (.getfield 7, 3) := kz_dr dd_Mo_mayMove_0 32 rfl
theorem d_Mo_mayMove_54 : decode prog_8_method_24_code 54 = .ok (.bipush 6, 2) := kz_dr dd_Mo_mayMove_0 33 rfl
theorem d_Mo_mayMove_56 : decode prog_8_method_24_code 56 = .ok (.iaload, 1) := kz_dr dd_Mo_mayMove_0 34 rfl
theorem d_Mo_mayMove_57 : decode prog_8_method_24_code 57 = .ok (.invokevirtual 153, 3) := kz_dr dd_Mo_mayMove_0 35 rfl
theorem d_Mo_mayMove_60 : decode prog_8_method_24_code 60 = .ok (.ifCond .eq 7, 3) := kz_dr dd_Mo_mayMove_0 36 rfl
theorem d_Mo_mayMove_63 : decode prog_8_method_24_code 63 = .ok (.iconst 1, 1) := kz_dr dd_Mo_mayMove_0 37 rfl
theorem d_Mo_mayMove_64 : decode prog_8_method_24_code 64 = .ok (.goto 4, 3) := kz_dr dd_Mo_mayMove_0 38 rfl
theorem d_Mo_mayMove_67 : decode prog_8_method_24_code 67 = .ok (.iconst 0, 1) := kz_dr dd_Mo_mayMove_0 39 rfl
theorem d_Mo_mayMove_68 : decode prog_8_method_24_code 68 = .ok (.istore_n 3, 1) := kz_dr dd_Mo_mayMove_0 40 rfl
theorem d_Mo_mayMove_69 : decode prog_8_method_24_code 69 = .ok (.iload_n 2, 1) := kz_dr dd_Mo_mayMove_0 41 rfl
theorem d_Mo_mayMove_70 : decode prog_8_method_24_code 70 = .ok (.ifCond .eq 28, 3) := kz_dr dd_Mo_mayMove_0 42 rfl
theorem d_Mo_mayMove_73 : decode prog_8_method_24_code 73 = .ok (.iload_n 3, 1) := kz_dr dd_Mo_mayMove_0 43 rfl
theorem d_Mo_mayMove_74 : decode prog_8_method_24_code 74 = .ok (.ifCond .eq 22, 3) := kz_dr dd_Mo_mayMove_0 44 rfl
theorem d_Mo_mayMove_77 : decode prog_8_method_24_code 77 = .ok (.aload_n 0, 1) := kz_dr dd_Mo_mayMove_0 45 rfl
theorem d_Mo_mayMove_78 : decode prog_8_method_24_code 78 = .ok (.iconst 3, 1) := kz_dr dd_Mo_mayMove_0 46 rfl
theorem d_Mo_mayMove_79 : decode prog_8_method_24_code 79 = .ok (.aload_n 0, 1) := kz_dr dd_Mo_mayMove_0 47 rfl
theorem d_Mo_mayMove_80 : decode prog_8_method_24_code 80 = .ok (.getfield 7, 3) := kz_dr dd_Mo_mayMove_0 48 rfl
theorem d_Mo_mayMove_83 : decode prog_8_method_24_code 83 = .ok (.bipush 11, 2) := kz_dr dd_Mo_mayMove_0 49 rfl
theorem d_Mo_mayMove_85 : decode prog_8_method_24_code 85 = .ok (.iaload, 1) := kz_dr dd_Mo_mayMove_0 50 rfl
theorem d_Mo_mayMove_86 : decode prog_8_method_24_code 86 = .ok (.invokevirtual 157, 3) := kz_dr dd_Mo_mayMove_0 51 rfl
theorem d_Mo_mayMove_89 : decode prog_8_method_24_code 89 = .ok (.ifCond .eq 7, 3) := kz_dr dd_Mo_mayMove_0 52 rfl
theorem d_Mo_mayMove_92 : decode prog_8_method_24_code 92 = .ok (.iconst 1, 1) := kz_dr dd_Mo_mayMove_0 53 rfl
theorem d_Mo_mayMove_93 : decode prog_8_method_24_code 93 = .ok (.goto 4, 3) := kz_dr dd_Mo_mayMove_0 54 rfl
theorem d_Mo_mayMove_96 : decode prog_8_method_24_code 96 = .ok (.iconst 0, 1) := kz_dr dd_Mo_mayMove_0 55 rfl
theorem d_Mo_mayMove_97 : decode prog_8_method_24_code 97 = .ok (.ireturn, 1) := kz_dr dd_Mo_mayMove_0 56 rfl
theorem d_Mo_mayMove_98 : decode prog_8_method_24_code 98 = .ok (.iload_n 3, 1) := kz_dr dd_Mo_mayMove_0 57 rfl
theorem d_Mo_mayMove_99 : decode prog_8_method_24_code 99 = .ok (.ifCond .eq 52, 3) := kz_dr dd_Mo_mayMove_0 58 rfl
theorem d_Mo_mayMove_102 : decode prog_8_method_24_code 102 = .ok (.aload_n 0, 1) := kz_dr dd_Mo_mayMove_0 59 rfl
def dl_Mo_mayMove_1 : List (Nat × Instr × Nat) := [(103, .aload_n 0, 1), (104, .getfield 26, 3), (107, .iconst 3, 1), (108, .iaload, 1), (109, .aload_n 0, 1), (110, .getfield 7, 3), (113, .bipush 11, 2), (115, .iaload, 1), (116, .iconst 4, 1), (117, .iadd, 1), (118, .aload_n 0, 1), (119, .getfield 7, 3), (122, .bipush 8, 2), (124, .iaload, 1), (125, .iadd, 1), (126, .invokevirtual 153, 3), (129, .ifCond .eq 22, 3), (132, .aload_n 0, 1), (133, .iconst 2, 1), (134, .aload_n 0, 1), (135, .getfield 7, 3), (138, .bipush 10, 2), (140, .iaload, 1), (141, .invokevirtual 157, 3), (144, .ifCond .eq 7, 3), (147, .iconst 1, 1), (148, .goto 4, 3), (151, .iconst 0, 1), (152, .ireturn, 1)]
theorem dd_Mo_mayMove_1 : dl_Mo_mayMove_1.all (fun e => decide (decode prog_8_method_24_code e.1 = .ok e.2)) = true := by decide +kernel
theorem d_Mo_mayMove_103 : decode prog_8_method_24_code 103 = .ok (.aload_n 0, 1) := kz_dr dd_Mo_mayMove_1 0 rfl
theorem d_Mo_mayMove_104 : decode prog_8_method_24_code 104 = .ok (.getfield 26, 3) := kz_dr dd_Mo_mayMove_1 1 rfl
theorem d_Mo_mayMove_107 : decode prog_8_method_24_code 107 = .ok (.iconst 3, 1) := kz_dr dd_Mo_mayMove_1 2 rfl
theorem d_Mo_mayMove_108 : decode prog_8_method_24_code 108 = .ok (.iaload, 1) := kz_dr dd_Mo_mayMove_1 3 rfl
theorem d_Mo_mayMove_109 : decode prog_8_method_24_code 109 = .ok (.aload_n 0, 1) := kz_dr dd_Mo_mayMove_1 4 rfl
theorem d_Mo_mayMove_110 : decode prog_8_method_24_code 110 = .ok (.getfield 7, 3) := kz_dr dd_Mo_mayMove_1 5 rfl
theorem d_Mo_mayMove_113 : decode prog_8_method_24_code 113 = .ok (.bipush 11, 2) := kz_dr dd_Mo_mayMove_1 6 rfl
theorem d_Mo_mayMove_115 : decode prog_8_method_24_code 115 = .ok (.iaload, 1) := kz_dr dd_Mo_mayMove_1 7 rfl
theorem d_Mo_mayMove_116 : decode prog_8_method_24_code 116 = .ok (.iconst 4, 1) := kz_dr dd_Mo_mayMove_1 8 rfl
theorem d_Mo_mayMove_117 : decode prog_8_method_24_code 117 = .ok (.iadd, 1) := kz_dr dd_Mo_mayMove_1 9 rfl
theorem d_Mo_mayMove_118 : decode prog_8_method_24_code 118 = .ok (.aload_n 0, 1) := kz_dr dd_Mo_mayMove_1 10 rfl
theorem d_Mo_mayMove_119 : decode prog_8_method_24_code 119 = .ok (.getfield 7, 3) := kz_dr dd_Mo_mayMove_1 11 rfl
theorem d_Mo_mayMove_122 : decode prog_8_method_24_code 122 = .ok (.bipush 8, 2) := kz_dr dd_Mo_mayMove_1 12 rfl
theorem d_Mo_mayMove_124 : decode prog_8_method_24_code 124 = .ok (.iaload, 1) := kz_dr dd_Mo_mayMove_1 13 rfl
theorem d_Mo_mayMove_125 : decode prog_8_method_24_code 125 = .ok (.iadd, 1) := kz_dr dd_Mo_mayMove_1 14 rfl
theorem d_Mo_mayMove_126 : decode prog_8_method_24_code 126 = .ok (.invokevirtual 153, 3) := kz_dr dd_Mo_mayMove_1 15 rfl
theorem d_Mo_mayMove_129 : decode prog_8_method_24_code 129 = .ok (.ifCond .eq 22, 3) := kz_dr dd_Mo_mayMove_1 16 rfl
theorem d_Mo_mayMove_132 : decode prog_8_method_24_code 132 = .ok (.aload_n 0, 1) := kz_dr dd_Mo_mayMove_1 17 rfl
theorem d_Mo_mayMove_133 : decode prog_8_method_24_code 133 = .ok (.iconst 2, 1) := kz_dr dd_Mo_mayMove_1 18 rfl
theorem d_Mo_mayMove_134 : decode prog_8_method_24_code 134 = .ok (.aload_n 0, 1) := kz_dr dd_Mo_mayMove_1 19 rfl
theorem d_Mo_mayMove_135 : decode prog_8_method_24_code 135 = .ok (.getfield 7, 3) := kz_dr dd_Mo_mayMove_1 20 rfl
theorem d_Mo_mayMove_138 : decode prog_8_method_24_code 138 = .ok (.bipush 10, 2) := kz_dr dd_Mo_mayMove_1 21 rfl
theorem d_Mo_mayMove_140 : decode prog_8_method_24_code 140 = .ok (.iaload, 1) := kz_dr dd_Mo_mayMove_1 22 rfl
theorem d_Mo_mayMove_141 : decode prog_8_method_24_code 141 = .ok (.invokevirtual 157, 3) := kz_dr dd_Mo_mayMove_1 23 rfl
theorem d_Mo_mayMove_144 : decode prog_8_method_24_code 144 = .ok (.ifCond .eq 7, 3) := kz_dr dd_Mo_mayMove_1 24 rfl
theorem d_Mo_mayMove_147 : decode prog_8_method_24_code 147 = .ok (.iconst 1, 1) := kz_dr dd_Mo_mayMove_1 25 rfl
theorem d_Mo_mayMove_148 : decode prog_8_method_24_code 148 = .ok (.goto 4, 3) := kz_dr dd_Mo_mayMove_1 26 rfl
theorem d_Mo_mayMove_151 : decode prog_8_method_24_code 151 = .ok (.iconst 0, 1) := kz_dr dd_Mo_mayMove_1 27 rfl
theorem d_Mo_mayMove_152 : decode prog_8_method_24_code 152 = .ok (.ireturn, 1) := kz_dr dd_Mo_mayMove_1 28 rfl
def dl_Mo_isBusFree_0 : List (Nat × Instr × Nat) := [(0, .aload_n 0, 1), (1, .getfield 96, 3), (4, .iload_n 2, 1), (5, .iadd, 1), (6, .aload_n 0, 1), (7, .getfield 33, 3), (10, .aload_n 0, 1), (11, .getfield 37, 3), (14, .iconst (-1), 1), (15, .if_icmp .eq 15, 3), (18, .aload_n 0, 1), (19, .getfield 37, 3), (22, .iload_n 1, 1), (23, .if_icmp .eq 7, 3), (26, .iconst 1, 1), (27, .goto 4, 3), (30, .iconst 0, 1), (31, .iadd, 1), (32, .if_icmp .lt 7, 3), (35, .iconst 1, 1), (36, .goto 4, 3), (39, .iconst 0, 1), (40, .ireturn, 1)]
theorem dd_Mo_isBusFree_0 : dl_Mo_isBusFree_0.all (fun e => decide (decode prog_8_method_21_code e.1 = .ok e.2)) = true := by decide +kernel
theorem d_Mo_isBusFree_0 : decode prog_8_method_21_code 0 = .ok (.aload_n 0, 1) := kz_dr dd_Mo_isBusFree_0 0 rfl
theorem d_Mo_isBusFree_1 : decode prog_8_method_21_code 1 = .ok (.getfield 96, 3) := kz_dr dd_Mo_isBusFree_0 1 rfl
theorem d_Mo_isBusFree_4 : decode prog_8_method_21_code 4 = .ok (.iload_n 2, 1) := kz_dr dd_Mo_isBusFree_0 2 rfl
theorem d_Mo_isBusFree_5 : decode prog_8_method_21_code 5 = .ok (.iadd, 1) := kz_dr dd_Mo_isBusFree_0 3 rfl
theorem d_Mo_isBusFree_6 : decode prog_8_method_21_code 6 = .ok (.aload_n 0, 1) := kz_dr dd_Mo_isBusFree_0 4 rfl
theorem d_Mo_isBusFree_7 : decode prog_8_method_21_code 7 = .ok (.getfield 33, 3) := kz_dr dd_Mo_isBusFree_0 5 rfl
theorem d_Mo_isBusFree_10 : decode prog_8_method_21_code 10 = .ok (.aload_n 0, 1) := kz_dr dd_Mo_isBusFree_0 6 rfl
theorem d_Mo_isBusFree_11 : decode prog_8_method_21_code 11 = .ok (.getfield 37, 3) := kz_dr dd_Mo_isBusFree_0 7 rfl
theorem d_Mo_isBusFree_14 : decode prog_8_method_21_code 14 = .ok (.iconst (-1), 1) := kz_dr dd_Mo_isBusFree_0 8 rfl
theorem d_Mo_isBusFree_15 : decode prog_8_method_21_code 15 = .ok (.if_icmp .eq 15, 3) := kz_dr dd_Mo_isBusFree_0 9 rfl
theorem d_Mo_isBusFree_18 : decode prog_8_method_21_code 18 = .ok (.aload_n 0, 1) := kz_dr dd_Mo_isBusFree_0 10 rfl
theorem d_Mo_isBusFree_19 : decode prog_8_method_21_code 19 = .ok (.getfield 37, 3) := kz_dr dd_Mo_isBusFree_0 11 rfl
theorem d_Mo_isBusFree_22 : decode prog_8_method_21_code 22 = .ok (.iload_n 1, 1) := kz_dr dd_Mo_isBusFree_0 12 rfl
theorem d_Mo_isBusFree_23 : decode prog_8_method_21_code 23 = .ok (.if_icmp .eq 7, 3) := kz_dr dd_Mo_isBusFree_0 13 rfl
theorem d_Mo_isBusFree_26 : decode prog_8_method_21_code 26 = .ok (.iconst 1, 1) := kz_dr dd_Mo_isBusFree_0 14 rfl
theorem d_Mo_isBusFree_27 : decode prog_8_method_21_code 27 = .ok (.goto 4, 3) := kz_dr dd_Mo_isBusFree_0 15 rfl
theorem d_Mo_isBusFree_30 : decode prog_8_method_21_code 30 = .ok (.iconst 0, 1) := kz_dr dd_Mo_isBusFree_0 16 rfl
theorem d_Mo_isBusFree_31 : decode prog_8_method_21_code 31 = .ok (.iadd, 1) := kz_dr dd_Mo_isBusFree_0 17 rfl
theorem d_Mo_isBusFree_32 : decode prog_8_method_21_code 32 = .ok (.if_icmp .lt 7, 3) := kz_dr dd_Mo_isBusFree_0 18 rfl
theorem d_Mo_isBusFree_35 : decode prog_8_method_21_code 35 = .ok (.iconst 1, 1) := kz_dr dd_Mo_isBusFree_0 19 rfl
theorem d_Mo_isBusFree_36 : decode prog_8_method_21_code 36 = .ok (.goto 4, 3) := kz_dr dd_Mo_isBusFree_0 20 rfl
theorem d_Mo_isBusFree_39 : decode prog_8_method_21_code 39 = .ok (.iconst 0, 1) := kz_dr dd_Mo_isBusFree_0 21 rfl
theorem d_Mo_isBusFree_40 : decode prog_8_method_21_code 40 = .ok (.ireturn, 1) := kz_dr dd_Mo_isBusFree_0 22 rfl
def dl_Mo_move_0 : List (Nat × Instr × Nat) := [(0, .aload_n 0, 1), (1, .getfield 62, 3), (4, .iload_n 1, 1), (5, .iaload, 1), (6, .istore_n 2, 1), (7, .aload_n 0, 1), (8, .getfield 44, 3), (11, .iload_n 2, 1), (12, .iaload, 1), (13, .istore_n 3, 1), (14, .aload_n 0, 1), (15, .getfield 40, 3), (18, .iload_n 2, 1), (19, .baload, 1), (20, .ifCond .eq 7, 3), (23, .iconst 3, 1), (24, .goto 4, 3), (27, .iconst 2, 1), (28, .istore 4, 2), (30, .aload_n 0, 1), (31, .iload 4, 2), (33, .iload_n 3, 1), (34, .invokestatic 167, 3), (37, .iload_n 3, 1), (38, .bipush 7, 2), (40, .iand, 1), (41, .iload_n 2, 1), (42, .invokevirtual 163, 3), (45, .aload_n 0, 1), (46, .aload_n 0, 1), (47, .getfield 96, 3), (50, .aload_n 0, 1), (51, .getfield 7, 3), (54, .iload 4, 2), (56, .iconst 3, 1), (57, .if_icmp .ne 8, 3), (60, .bipush 11, 2), (62, .goto 5, 3), (65, .bipush 10, 2), (67, .iaload, 1), (68, .iadd, 1), (69, .iconst 4, 1), (70, .iadd, 1), (71, .putfield 33, 3), (74, .aload_n 0, 1), (75, .iload 4, 2), (77, .putfield 37, 3), (80, .aload_n 0, 1), (81, .iload_n 1, 1), (82, .invokevirtual 170, 3), (85, .iload 4, 2), (87, .iconst 3, 1), (88, .if_icmp .ne 22, 3), (91, .aload_n 0, 1), (92, .iload_n 3, 1), (93, .aload_n 0, 1), (94, .getfield 53, 3), (97, .iload_n 2, 1), (98, .laload, 1), (99, .invokevirtual 173, 3)]
theorem dd_Mo_move_0 : dl_Mo_move_0.all (fun e => decide (decode prog_8_method_29_code e.1 = .ok e.2)) = true := by decide +kernel
theorem d_Mo_move_0 : decode prog_8_method_29_code 0 = .ok (.aload_n 0, 1) := kz_dr dd_Mo_move_0 0 rfl
theorem d_Mo_move_1 : decode prog_8_method_29_code 1 = .ok (.getfield 62, 3) := kz_dr dd_Mo_move_0 1 rfl
theorem d_Mo_move_4 : decode prog_8_method_29_code 4 = .ok (.iload_n 1, 1) := kz_dr dd_Mo_move_0 2 rfl
theorem d_Mo_move_5 : decode prog_8_method_29_code 5 = .ok (.iaload, 1) := kz_dr dd_Mo_move_0 3 rfl
theorem d_Mo_move_6 : decode prog_8_method_29_code 6 = .ok (.istore_n 2, 1) := kz_dr dd_Mo_move_0 4 rfl
theorem d_Mo_move_7 : decode prog_8_method_29_code 7 = .ok (.aload_n 0, 1) := kz_dr dd_Mo_move_0 5 rfl
theorem d_Mo_move_8 : decode prog_8_method_29_code 8 = .ok (.getfield 44, 3) := kz_dr dd_Mo_move_0 6 rfl
theorem d_Mo_move_11 : decode prog_8_method_29_code 11 = .ok (.iload_n 2, 1) := kz_dr dd_Mo_move_0 7 rfl
theorem d_Mo_move_12 : decode prog_8_method_29_code 12 = .ok (.iaload, 1) := kz_dr dd_Mo_move_0 8 rfl
theorem d_Mo_move_13 : decode prog_8_method_29_code 13 = .ok (.istore_n 3, 1) := kz_dr dd_Mo_move_0 9 rfl
theorem d_Mo_move_14 : decode prog_8_method_29_code 14 = .ok (.aload_n 0, 1) := kz_dr dd_Mo_move_0 10 rfl
theorem d_Mo_move_15 : decode prog_8_method_29_code 15 = .ok (.getfield 40, 3) := kz_dr dd_Mo_move_0 11 rfl
theorem d_Mo_move_18 : decode prog_8_method_29_code 18 = .ok (.iload_n 2, 1) := kz_dr dd_Mo_move_0 12 rfl
theorem d_Mo_move_19 : decode prog_8_method_29_code 19 = .ok (.baload, 1) := kz_dr dd_Mo_move_0 13 rfl
theorem d_Mo_move_20 : decode prog_8_method_29_code 20 = .ok (.ifCond .eq 7, 3) := kz_dr dd_Mo_move_0 14 rfl
theorem d_Mo_move_23 : decode prog_8_method_29_code 23 = .ok (.iconst 3, 1) := kz_dr dd_Mo_move_0 15 rfl
theorem d_Mo_move_24 : decode prog_8_method_29_code 24 = .ok (.goto 4, 3) := kz_dr dd_Mo_move_0 16 rfl
theorem d_Mo_move_27 : decode prog_8_method_29_code 27 = .ok (.iconst 2, 1) := kz_dr dd_Mo_move_0 17 rfl
theorem d_Mo_move_28 : decode prog_8_method_29_code 28 = .ok (.istore 4, 2) := kz_dr dd_Mo_move_0 18 rfl
theorem d_Mo_move_30 : decode prog_8_method_29_code 30 = .ok (.aload_n 0, 1) := kz_dr dd_Mo_move_0 19 rfl
theorem d_Mo_move_31 : decode prog_8_method_29_code 31 = .ok (.iload 4, 2) := kz_dr dd_Mo_move_0 20 rfl
theorem d_Mo_move_33 : decode prog_8_method_29_code 33 = .ok (.iload_n 3, 1) := kz_dr dd_Mo_move_0 21 rfl
theorem d_Mo_move_34 : decode prog_8_method_29_code 34 = .ok (.invokestatic 167, 3) := kz_dr dd_Mo_move_0 22 rfl
theorem d_Mo_move_37 : decode prog_8_method_29_code 37 = .ok (.iload_n 3, 1) := kz_dr dd_Mo_move_0 23 rfl
theorem d_Mo_move_38 : decode prog_8_method_29_code 38 = .ok (.bipush 7, 2) := kz_dr dd_Mo_move_0 24 rfl
theorem d_Mo_move_40 : decode prog_8_method_29_code 40 = .ok (.iand, 1) := kz_dr dd_Mo_move_0 25 rfl
theorem d_Mo_move_41 : decode prog_8_method_29_code 41 = .ok (.iload_n 2, 1) := kz_dr dd_Mo_move_0 26 rfl
theorem d_Mo_move_42 : decode prog_8_method_29_code 42 = .ok (.invokevirtual 163, 3) := kz_dr dd_Mo_move_0 27 rfl
theorem d_Mo_move_45 : decode prog_8_method_29_code 45 = .ok (.aload_n 0, 1) := kz_dr dd_Mo_move_0 28 rfl
theorem d_Mo_move_46 : decode prog_8_method_29_code 46 = .ok (.aload_n 0, 1) := kz_dr dd_Mo_move_0 29 rfl
theorem d_Mo_move_47 : decode prog_8_method_29_code 47 = .ok (.getfield 96, 3) := kz_dr dd_Mo_move_0 30 rfl
theorem d_Mo_move_50 : decode prog_8_method_29_code 50 = .ok (.aload_n 0, 1) := kz_dr dd_Mo_move_0 31 rfl
theorem d_Mo_move_51 : decode prog_8_method_29_code 51 = .ok (.getfield 7, 3) := kz_dr dd_Mo_move_0 32 rfl
theorem d_Mo_move_54 : decode prog_8_method_29_code 54 = .ok (.iload 4, 2) := kz_dr dd_Mo_move_0 33 rfl
theorem d_Mo_move_56 : decode prog_8_method_29_code 56 = .ok (.iconst 3, 1) := kz_dr dd_Mo_move_0 34 rfl
theorem d_Mo_move_57 : decode prog_8_method_29_code 57 = .ok (.if_icmp .ne 8, 3) := kz_dr dd_Mo_move_0 35 rfl
theorem d_Mo_move_60 : decode prog_8_method_29_code 60 = .ok (.bipush 11, 2) := kz_dr dd_Mo_move_0 36 rfl
theorem d_Mo_move_62 : decode prog_8_method_29_code 62 = .ok (.goto 5, 3) := kz_dr dd_Mo_move_0 37 rfl
theorem d_Mo_move_65 : decode prog_8_method_29_code 65 = .ok (.bipush 10, 2) := kz_dr dd_Mo_move_0 38 rfl
theorem d_Mo_move_67 : decode prog_8_method_29_code 67 = .ok (.iaload, 1) := kz_dr dd_Mo_move_0 39 rfl
theorem d_Mo_move_68 : decode prog_8_method_29_code 68 = .ok (.iadd, 1) := kz_dr dd_Mo_move_0 40 rfl
theorem d_Mo_move_69 : decode prog_8_method_29_code 69 = .ok (.iconst 4, 1) := kz_dr dd_Mo_move_0 41 rfl
theorem d_Mo_move_70 : decode prog_8_method_29_code 70 = .ok (.iadd, 1) := kz_dr dd_Mo_move_0 42 rfl
theorem d_Mo_move_71 : decode prog_8_method_29_code 71 = .ok (.putfield 33, 3) := kz_dr dd_Mo_move_0 43 rfl
theorem d_Mo_move_74 : decode prog_8_method_29_code 74 = .ok (.aload_n 0, 1) := kz_dr dd_Mo_move_0 44 rfl
theorem d_Mo_move_75 : decode prog_8_method_29_code 75 = .ok (.iload 4, 2) := kz_dr dd_Mo_move_0 45 rfl
theorem d_Mo_move_77 : decode prog_8_method_29_code 77 = .ok (.putfield 37, 3) := kz_dr dd_Mo_move_0 46 rfl
theorem d_Mo_move_80 : decode prog_8_method_29_code 80 = .ok (.aload_n 0, 1) := kz_dr dd_Mo_move_0 47 rfl
theorem d_Mo_move_81 : decode prog_8_method_29_code 81 = .ok (.iload_n 1, 1) := kz_dr dd_Mo_move_0 48 rfl
theorem d_Mo_move_82 : decode prog_8_method_29_code 82 = .ok (.invokevirtual 170, 3) := kz_dr dd_Mo_move_0 49 rfl
theorem d_Mo_move_85 : decode prog_8_method_29_code 85 = .ok (.iload 4, 2) := kz_dr dd_Mo_move_0 50 rfl
theorem d_Mo_move_87 : decode prog_8_method_29_code 87 = .ok (.iconst 3, 1) := kz_dr dd_Mo_move_0 51 rfl
theorem d_Mo_move_88 : decode prog_8_method_29_code 88 = .ok (.if_icmp .ne 22, 3) := kz_dr dd_Mo_move_0 52 rfl
theorem d_Mo_move_91 : decode prog_8_method_29_code 91 = .ok (.aload_n 0, 1) := kz_dr dd_Mo_move_0 53 rfl
theorem d_Mo_move_92 : decode prog_8_method_29_code 92 = .ok (.iload_n 3, 1) := kz_dr dd_Mo_move_0 54 rfl
theorem d_Mo_move_93 : decode prog_8_method_29_code 93 = .ok (.aload_n 0, 1) := kz_dr dd_Mo_move_0 55 rfl
theorem d_Mo_move_94 : decode prog_8_method_29_code 94 = .ok (.getfield 53, 3) := kz_dr dd_Mo_move_0 56 rfl
theorem d_Mo_move_97 : decode prog_8_method_29_code 97 = .ok (.iload_n 2, 1) := kz_dr dd_Mo_move_0 57 rfl
theorem d_Mo_move_98 : decode prog_8_method_29_code 98 = .ok (.laload, 1) := kz_dr dd_Mo_move_0 58 rfl
theorem d_Mo_move_99 : decode prog_8_method_29_code 99 = .ok (.invokevirtual 173, 3) := kz_dr dd_Mo_move_0 59 rfl
def dl_Mo_move_1 : List (Nat × Instr × Nat) := [(102, .aload_n 0, 1), (103, .getfield 50, 3), (106, .iload_n 2, 1), (107, .iconst 2, 1), (108, .iastore, 1), (109, .return_, 1), (110, .aload_n 0, 1), (111, .iload_n 3, 1), (112, .invokevirtual 124, 3), (115, .aload_n 0, 1), (116, .getfield 53, 3), (119, .iload_n 2, 1), (120, .aload_n 0, 1), (121, .getfield 117, 3), (124, .lastore, 1), (125, .aload_n 0, 1), (126, .getfield 50, 3), (129, .iload_n 2, 1), (130, .iconst 1, 1), (131, .iastore, 1), (132, .aload_n 0, 1), (133, .getfield 59, 3), (136, .iload_n 2, 1), (137, .aload_n 0, 1), (138, .getfield 114, 3), (141, .iastore, 1), (142, .aload_n 0, 1), (143, .getfield 56, 3), (146, .iload_n 2, 1), (147, .aload_n 0, 1), (148, .getfield 33, 3), (151, .iastore, 1), (152, .aload_n 0, 1), (153, .getfield 65, 3), (156, .aload_n 0, 1), (157, .getfield 177, 3), (160, .iload_n 2, 1), (161, .iastore, 1), (162, .aload_n 0, 1), (163, .dup, 1), (164, .getfield 177, 3), (167, .iconst 1, 1), (168, .iadd, 1), (169, .putfield 177, 3), (172, .return_, 1)]
theorem dd_Mo_move_1 : dl_Mo_move_1.all (fun e => decide (decode prog_8_method_29_code e.1 = .ok e.2)) = true := by decide +kernel
theorem d_Mo_move_102 : decode prog_8_method_29_code 102 = .ok (.aload_n 0, 1) := kz_dr dd_Mo_move_1 0 rfl
theorem d_Mo_move_103 : decode prog_8_method_29_code 103 = .ok (.getfield 50, 3) := kz_dr dd_Mo_move_1 1 rfl
theorem d_Mo_move_106 : decode prog_8_method_29_code 106 = .ok (.iload_n 2, 1) := kz_dr dd_Mo_move_1 2 rfl
theorem d_Mo_move_107 : decode prog_8_method_29_code 107 = .ok (.iconst 2, 1) := kz_dr dd_Mo_move_1 3 rfl
theorem d_Mo_move_108 : decode prog_8_method_29_code 108 = .ok (.iastore, 1) := kz_dr dd_Mo_move_1 4 rfl
theorem d_Mo_move_109 : decode prog_8_method_29_code 109 = .ok (.return_, 1) := kz_dr dd_Mo_move_1 5 rfl
theorem d_Mo_move_110 : decode prog_8_method_29_code 110 = .ok (.aload_n 0, 1) := kz_dr dd_Mo_move_1 6 rfl
theorem d_Mo_move_111 : decode prog_8_method_29_code 111 = .ok (.iload_n 3, 1) := kz_dr dd_Mo_move_1 7 rfl
theorem d_Mo_move_112 : decode prog_8_method_29_code 112 = .ok (.invokevirtual 124, 3) := kz_dr dd_Mo_move_1 8 rfl
theorem d_Mo_move_115 : decode prog_8_method_29_code 115 = .ok (.aload_n 0, 1) := kz_dr dd_Mo_move_1 9 rfl
theorem d_Mo_move_116 : decode prog_8_method_29_code 116 = .ok (.getfield 53, 3) := kz_dr dd_Mo_move_1 10 rfl
theorem d_Mo_move_119 : decode prog_8_method_29_code 119 = .ok (.iload_n 2, 1) := kz_dr dd_Mo_move_1 11 rfl
theorem d_Mo_move_120 : decode prog_8_method_29_code 120 = .ok (.aload_n 0, 1) := kz_dr dd_Mo_move_1 12 rfl
theorem d_Mo_move_121 : decode prog_8_method_29_code 121 = .ok (.getfield 117, 3) := kz_dr dd_Mo_move_1 13 rfl
theorem d_Mo_move_124 : decode prog_8_method_29_code 124 = .ok (.lastore, 1) := kz_dr dd_Mo_move_1 14 rfl
theorem d_Mo_move_125 : decode prog_8_method_29_code 125 = .ok (.aload_n 0, 1) := kz_dr dd_Mo_move_1 15 rfl
theorem d_Mo_move_126 : decode prog_8_method_29_code 126 = .ok (.getfield 50, 3) := kz_dr dd_Mo_move_1 16 rfl
theorem d_Mo_move_129 : decode prog_8_method_29_code 129 = .ok (.iload_n 2, 1) := kz_dr dd_Mo_move_1 17 rfl
theorem d_Mo_move_130 : decode prog_8_method_29_code 130 = .ok (.iconst 1, 1) := kz_dr dd_Mo_move_1 18 rfl
theorem d_Mo_move_131 : decode prog_8_method_29_code 131 = .ok (.iastore, 1) := kz_dr dd_Mo_move_1 19 rfl
theorem d_Mo_move_132 : decode prog_8_method_29_code 132 = .ok (.aload_n 0, 1) := kz_dr dd_Mo_move_1 20 rfl
theorem d_Mo_move_133 : decode prog_8_method_29_code 133 = .ok (.getfield 59, 3) := kz_dr dd_Mo_move_1 21 rfl
theorem d_Mo_move_136 : decode prog_8_method_29_code 136 = .ok (.iload_n 2, 1) := kz_dr dd_Mo_move_1 22 rfl
theorem d_Mo_move_137 : decode prog_8_method_29_code 137 = .ok (.aload_n 0, 1) := kz_dr dd_Mo_move_1 23 rfl
theorem d_Mo_move_138 : decode prog_8_method_29_code 138 = .ok (.getfield 114, 3) := kz_dr dd_Mo_move_1 24 rfl
theorem d_Mo_move_141 : decode prog_8_method_29_code 141 = .ok (.iastore, 1) := kz_dr dd_Mo_move_1 25 rfl
theorem d_Mo_move_142 : decode prog_8_method_29_code 142 = .ok (.aload_n 0, 1) := kz_dr dd_Mo_move_1 26 rfl
theorem d_Mo_move_143 : decode prog_8_method_29_code 143 = .ok (.getfield 56, 3) := kz_dr dd_Mo_move_1 27 rfl
theorem d_Mo_move_146 : decode prog_8_method_29_code 146 = .ok (.iload_n 2, 1) := kz_dr dd_Mo_move_1 28 rfl
theorem d_Mo_move_147 : decode prog_8_method_29_code 147 = .ok (.aload_n 0, 1) := kz_dr dd_Mo_move_1 29 rfl
theorem d_Mo_move_148 : decode prog_8_method_29_code 148 = .ok (.getfield 33, 3) := kz_dr dd_Mo_move_1 30 rfl
theorem d_Mo_move_151 : decode prog_8_method_29_code 151 = .ok (.iastore, 1) := kz_dr dd_Mo_move_1 31 rfl
theorem d_Mo_move_152 : decode prog_8_method_29_code 152 = .ok (.aload_n 0, 1) := kz_dr dd_Mo_move_1 32 rfl
theorem d_Mo_move_153 : decode prog_8_method_29_code 153 = .ok (.getfield 65, 3) := kz_dr dd_Mo_move_1 33 rfl
theorem d_Mo_move_156 : decode prog_8_method_29_code 156 = .ok (.aload_n 0, 1) := kz_dr dd_Mo_move_1 34 rfl
theorem d_Mo_move_157 : decode prog_8_method_29_code 157 = .ok (.getfield 177, 3) := kz_dr dd_Mo_move_1 35 rfl
theorem d_Mo_move_160 : decode prog_8_method_29_code 160 = .ok (.iload_n 2, 1) := kz_dr dd_Mo_move_1 36 rfl
theorem d_Mo_move_161 : decode prog_8_method_29_code 161 = .ok (.iastore, 1) := kz_dr dd_Mo_move_1 37 rfl
theorem d_Mo_move_162 : decode prog_8_method_29_code 162 = .ok (.aload_n 0, 1) := kz_dr dd_Mo_move_1 38 rfl
theorem d_Mo_move_163 : decode prog_8_method_29_code 163 = .ok (.dup, 1) := kz_dr dd_Mo_move_1 39 rfl
theorem d_Mo_move_164 : decode prog_8_method_29_code 164 = .ok (.getfield 177, 3) := kz_dr dd_Mo_move_1 40 rfl
theorem d_Mo_move_167 : decode prog_8_method_29_code 167 = .ok (.iconst 1, 1) := kz_dr dd_Mo_move_1 41 rfl
theorem d_Mo_move_168 : decode prog_8_method_29_code 168 = .ok (.iadd, 1) := kz_dr dd_Mo_move_1 42 rfl
theorem d_Mo_move_169 : decode prog_8_method_29_code 169 = .ok (.putfield 177, 3) := kz_dr dd_Mo_move_1 43 rfl
theorem d_Mo_move_172 : decode prog_8_method_29_code 172 = .ok (.return_, 1) := kz_dr dd_Mo_move_1 44 rfl
def dl_Mo_leave_0 : List (Nat × Instr × Nat) := [(0, .aload_n 0, 1), (1, .getfield 62, 3), (4, .iload_n 1, 1), (5, .iaload, 1), (6, .istore_n 2, 1), (7, .aload_n 0, 1), (8, .getfield 40, 3), (11, .iload_n 2, 1), (12, .baload, 1), (13, .ifCond .eq 16, 3), (16, .aload_n 0, 1), (17, .dup, 1), (18, .getfield 137, 3), (21, .iconst 1, 1), (22, .isub, 1), (23, .putfield 137, 3), (26, .goto 13, 3), (29, .aload_n 0, 1), (30, .dup, 1), (31, .getfield 140, 3), (34, .iconst 1, 1), (35, .isub, 1), (36, .putfield 140, 3), (39, .aload_n 0, 1), (40, .dup, 1), (41, .getfield 134, 3), (44, .iconst 1, 1), (45, .isub, 1), (46, .putfield 134, 3), (49, .iload_n 1, 1), (50, .istore_n 3, 1), (51, .iload_n 3, 1), (52, .aload_n 0, 1), (53, .getfield 134, 3), (56, .if_icmp .ge 23, 3), (59, .aload_n 0, 1), (60, .getfield 62, 3), (63, .iload_n 3, 1), (64, .aload_n 0, 1), (65, .getfield 62, 3), (68, .iload_n 3, 1), (69, .iconst 1, 1), (70, .iadd, 1), (71, .iaload, 1), (72, .iastore, 1), (73, .iinc 3 1, 3), (76, .goto (-25), 3), (79, .return_, 1)]
theorem dd_Mo_leave_0 : dl_Mo_leave_0.all (fun e => decide (decode prog_8_method_19_code e.1 = .ok e.2)) = true := by decide +kernel
theorem d_Mo_leave_0 : decode prog_8_method_19_code 0 = .ok (.aload_n 0, 1) := kz_dr dd_Mo_leave_0 0 rfl
theorem d_Mo_leave_1 : decode prog_8_method_19_code 1 = .ok (.getfield 62, 3) := kz_dr dd_Mo_leave_0 1 rfl
theorem d_Mo_leave_4 : decode prog_8_method_19_code 4 = .ok (.iload_n 1, 1) := kz_dr dd_Mo_leave_0 2 rfl
theorem d_Mo_leave_5 : decode prog_8_method_19_code 5 = .ok (.iaload, 1) := kz_dr dd_Mo_leave_0 3 rfl
theorem d_Mo_leave_6 : decode prog_8_method_19_code 6 = .ok (.istore_n 2, 1) := kz_dr dd_Mo_leave_0 4 rfl
theorem d_Mo_leave_7 : decode prog_8_method_19_code 7 = .ok (.aload_n 0, 1) := kz_dr dd_Mo_leave_0 5 rfl
theorem d_Mo_leave_8 : decode prog_8_method_19_code 8 = .ok (.getfield 40, 3) := kz_dr dd_Mo_leave_0 6 rfl
theorem d_Mo_leave_11 : decode prog_8_method_19_code 11 = .ok (.iload_n 2, 1) := kz_dr dd_Mo_leave_0 7 rfl
theorem d_Mo_leave_12 : decode prog_8_method_19_code 12 = .ok (.baload, 1) := kz_dr dd_Mo_leave_0 8 rfl
theorem d_Mo_leave_13 : decode prog_8_method_19_code 13 = .ok (.ifCond .eq 16, 3) := kz_dr dd_Mo_leave_0 9 rfl
theorem d_Mo_leave_16 : decode prog_8_method_19_code 16 = .ok (.aload_n 0, 1) := kz_dr dd_Mo_leave_0 10 rfl
theorem d_Mo_leave_17 : decode prog_8_method_19_code 17 = .ok (.dup, 1) := kz_dr dd_Mo_leave_0 11 rfl
theorem d_Mo_leave_18 : decode prog_8_method_19_code 18 = .ok (.getfield 137, 3) := kz_dr dd_Mo_leave_0 12 rfl
theorem d_Mo_leave_21 : decode prog_8_method_19_code 21 = .ok (.iconst 1, 1) := kz_dr dd_Mo_leave_0 13 rfl
theorem d_Mo_leave_22 : decode prog_8_method_19_code 22 = .ok (.isub, 1) := kz_dr dd_Mo_leave_0 14 rfl
theorem d_Mo_leave_23 : decode prog_8_method_19_code 23 = .ok (.putfield 137, 3) := kz_dr dd_Mo_leave_0 15 rfl
theorem d_Mo_leave_26 : decode prog_8_method_19_code 26 = .ok (.goto 13, 3) := kz_dr dd_Mo_leave_0 16 rfl
theorem d_Mo_leave_29 : decode prog_8_method_19_code 29 = .ok (.aload_n 0, 1) := kz_dr dd_Mo_leave_0 17 rfl
theorem d_Mo_leave_30 : decode prog_8_method_19_code 30 = .ok (.dup, 1) := kz_dr dd_Mo_leave_0 18 rfl
theorem d_Mo_leave_31 : decode prog_8_method_19_code 31 = .ok (.getfield 140, 3) := kz_dr dd_Mo_leave_0 19 rfl
theorem d_Mo_leave_34 : decode prog_8_method_19_code 34 = .ok (.iconst 1, 1) := kz_dr dd_Mo_leave_0 20 rfl
theorem d_Mo_leave_35 : decode prog_8_method_19_code 35 = .ok (.isub, 1) := kz_dr dd_Mo_leave_0 21 rfl
theorem d_Mo_leave_36 : decode prog_8_method_19_code 36 = .ok (.putfield 140, 3) := kz_dr dd_Mo_leave_0 22 rfl
theorem d_Mo_leave_39 : decode prog_8_method_19_code 39 = .ok (.aload_n 0, 1) := kz_dr dd_Mo_leave_0 23 rfl
theorem d_Mo_leave_40 : decode prog_8_method_19_code 40 = .ok (.dup, 1) := kz_dr dd_Mo_leave_0 24 rfl
theorem d_Mo_leave_41 : decode prog_8_method_19_code 41 = .ok (.getfield 134, 3) := kz_dr dd_Mo_leave_0 25 rfl
theorem d_Mo_leave_44 : decode prog_8_method_19_code 44 = .ok (.iconst 1, 1) := kz_dr dd_Mo_leave_0 26 rfl
theorem d_Mo_leave_45 : decode prog_8_method_19_code 45 = .ok (.isub, 1) := kz_dr dd_Mo_leave_0 27 rfl
theorem d_Mo_leave_46 : decode prog_8_method_19_code 46 = .ok (.putfield 134, 3) := kz_dr dd_Mo_leave_0 28 rfl
theorem d_Mo_leave_49 : decode prog_8_method_19_code 49 = .ok (.iload_n 1, 1) := kz_dr dd_Mo_leave_0 29 rfl
theorem d_Mo_leave_50 : decode prog_8_method_19_code 50 = .ok (.istore_n 3, 1) := kz_dr dd_Mo_leave_0 30 rfl
theorem d_Mo_leave_51 : decode prog_8_method_19_code 51 = .ok (.iload_n 3, 1) := kz_dr dd_Mo_leave_0 31 rfl
theorem d_Mo_leave_52 : decode prog_8_method_19_code 52 = .ok (.aload_n 0, 1) := kz_dr dd_Mo_leave_0 32 rfl
theorem d_Mo_leave_53 : decode prog_8_method_19_code 53 = .ok (.getfield 134, 3) := kz_dr dd_Mo_leave_0 33 rfl
theorem d_Mo_leave_56 : decode prog_8_method_19_code 56 = .ok (.if_icmp .ge 23, 3) := kz_dr dd_Mo_leave_0 34 rfl
theorem d_Mo_leave_59 : decode prog_8_method_19_code 59 = .ok (.aload_n 0, 1) := kz_dr dd_Mo_leave_0 35 rfl
theorem d_Mo_leave_60 : decode prog_8_method_19_code 60 = .ok (.getfield 62, 3) := kz_dr dd_Mo_leave_0 36 rfl
theorem d_Mo_leave_63 : decode prog_8_method_19_code 63 = .ok (.iload_n 3, 1) := kz_dr dd_Mo_leave_0 37 rfl
theorem d_Mo_leave_64 : decode prog_8_method_19_code 64 = .ok (.aload_n 0, 1) := kz_dr dd_Mo_leave_0 38 rfl
theorem d_Mo_leave_65 : decode prog_8_method_19_code 65 = .ok (.getfield 62, 3) := kz_dr dd_Mo_leave_0 39 rfl
theorem d_Mo_leave_68 : decode prog_8_method_19_code 68 = .ok (.iload_n 3, 1) := kz_dr dd_Mo_leave_0 40 rfl
theorem d_Mo_leave_69 : decode prog_8_method_19_code 69 = .ok (.iconst 1, 1) := kz_dr dd_Mo_leave_0 41 rfl
theorem d_Mo_leave_70 : decode prog_8_method_19_code 70 = .ok (.iadd, 1) := kz_dr dd_Mo_leave_0 42 rfl
theorem d_Mo_leave_71 : decode prog_8_method_19_code 71 = .ok (.iaload, 1) := kz_dr dd_Mo_leave_0 43 rfl
theorem d_Mo_leave_72 : decode prog_8_method_19_code 72 = .ok (.iastore, 1) := kz_dr dd_Mo_leave_0 44 rfl
theorem d_Mo_leave_73 : decode prog_8_method_19_code 73 = .ok (.iinc 3 1, 3) := kz_dr dd_Mo_leave_0 45 rfl
theorem d_Mo_leave_76 : decode prog_8_method_19_code 76 = .ok (.goto (-25), 3) := kz_dr dd_Mo_leave_0 46 rfl
theorem d_Mo_leave_79 : decode prog_8_method_19_code 79 = .ok (.return_, 1) := kz_dr dd_Mo_leave_0 47 rfl
def dl_Mo_store_0 : List (Nat × Instr × Nat) := [(0, .aload_n 0, 1), (1, .getfield 13, 3), (4, .iload_n 1, 1), (5, .lconst 0, 1), (6, .lastore, 1), (7, .aload_n 0, 1), (8, .getfield 17, 3), (11, .iload_n 1, 1), (12, .iconst 0, 1), (13, .iastore, 1), (14, .iconst 0, 1), (15, .istore 4, 2), (17, .iconst 0, 1), (18, .istore 5, 2), (20, .iconst 0, 1), (21, .istore 6, 2), (23, .iconst 3, 1), (24, .istore 7, 2), (26, .iload 7, 2), (28, .bipush 72, 2), (30, .if_icmp .ge 48, 3), (33, .iload 7, 2), (35, .invokestatic 99, 3), (38, .ifCond .ne 34, 3), (41, .lload_n 2, 1), (42, .iload 5, 2), (44, .lshr, 1), (45, .lconst 1, 1), (46, .land, 1), (47, .lconst 1, 1), (48, .lcmp, 1), (49, .ifCond .ne 20, 3), (52, .aload_n 0, 1), (53, .iload_n 1, 1), (54, .iload 7, 2), (56, .invokevirtual 103, 3), (59, .iload 4, 2), (61, .iload 7, 2), (63, .ixor, 1), (64, .istore 4, 2), (66, .iinc 6 1, 3), (69, .iinc 5 1, 3), (72, .iinc 7 1, 3), (75, .goto (-49), 3), (78, .iconst 1, 1), (79, .istore 7, 2), (81, .iload 7, 2), (83, .bipush 72, 2), (85, .if_icmp .ge 30, 3), (88, .iload 4, 2), (90, .iload 7, 2), (92, .iand, 1), (93, .ifCond .eq 13, 3), (96, .aload_n 0, 1), (97, .iload_n 1, 1), (98, .iload 7, 2), (100, .invokevirtual 103, 3), (103, .iinc 6 1, 3), (106, .iconst 2, 1), (107, .iload 7, 2)]
theorem dd_Mo_store_0 : dl_Mo_store_0.all (fun e => decide (decode prog_8_method_7_code e.1 = .ok e.2)) = true := by decide +kernel
theorem d_Mo_store_0 : decode prog_8_method_7_code 0 = .ok (.aload_n 0, 1) := kz_dr dd_Mo_store_0 0 rfl
theorem d_Mo_store_1 : decode prog_8_method_7_code 1 = .ok (.getfield 13, 3) := kz_dr dd_Mo_store_0 1 rfl
theorem d_Mo_store_4 : decode prog_8_method_7_code 4 = .ok (.iload_n 1, 1) := kz_dr dd_Mo_store_0 2 rfl
theorem d_Mo_store_5 : decode prog_8_method_7_code 5 = .ok (.lconst 0, 1) := kz_dr dd_Mo_store_0 3 rfl
theorem d_Mo_store_6 : decode prog_8_method_7_code 6 = .ok (.lastore, 1) := kz_dr dd_Mo_store_0 4 rfl
theorem d_Mo_store_7 : decode prog_8_method_7_code 7 = .ok (.aload_n 0, 1) := kz_dr dd_Mo_store_0 5 rfl
theorem d_Mo_store_8 : decode prog_8_method_7_code 8 = .ok (.getfield 17, 3) := kz_dr dd_Mo_store_0 6 rfl
theorem d_Mo_store_11 : decode prog_8_method_7_code 11 = .ok (.iload_n 1, 1) := kz_dr dd_Mo_store_0 7 rfl
theorem d_Mo_store_12 : decode prog_8_method_7_code 12 = .ok (.iconst 0, 1) := kz_dr dd_Mo_store_0 8 rfl
theorem d_Mo_store_13 : decode prog_8_method_7_code 13 = .ok (.iastore, 1) := kz_dr dd_Mo_store_0 9 rfl
theorem d_Mo_store_14 : decode prog_8_method_7_code 14 = .ok (.iconst 0, 1) := kz_dr dd_Mo_store_0 10 rfl
theorem d_Mo_store_15 : decode prog_8_method_7_code 15 = .ok (.istore 4, 2) := kz_dr dd_Mo_store_0 11 rfl
theorem d_Mo_store_17 : decode prog_8_method_7_code 17 = .ok (.iconst 0, 1) := kz_dr dd_Mo_store_0 12 rfl
theorem d_Mo_store_18 : decode prog_8_method_7_code 18 = .ok (.istore 5, 2) := kz_dr dd_Mo_store_0 13 rfl
theorem d_Mo_store_20 : decode prog_8_method_7_code 20 = .ok (.iconst 0, 1) := kz_dr dd_Mo_store_0 14 rfl
theorem d_Mo_store_21 : decode prog_8_method_7_code 21 = .ok (.istore 6, 2) := kz_dr dd_Mo_store_0 15 rfl
theorem d_Mo_store_23 : decode prog_8_method_7_code 23 = .ok (.iconst 3, 1) := kz_dr dd_Mo_store_0 16 rfl
theorem d_Mo_store_24 : decode prog_8_method_7_code 24 = .ok (.istore 7, 2) := kz_dr dd_Mo_store_0 17 rfl
theorem d_Mo_store_26 : decode prog_8_method_7_code 26 = .ok (.iload 7, 2) := kz_dr dd_Mo_store_0 18 rfl
theorem d_Mo_store_28 : decode prog_8_method_7_code 28 = .ok (.bipush 72, 2) := kz_dr dd_Mo_store_0 19 rfl
theorem d_Mo_store_30 : decode prog_8_method_7_code 30 = .ok (.if_icmp .ge 48, 3) := kz_dr dd_Mo_store_0 20 rfl
theorem d_Mo_store_33 : decode prog_8_method_7_code 33 = .ok (.iload 7, 2) := kz_dr dd_Mo_store_0 21 rfl
theorem d_Mo_store_35 : decode prog_8_method_7_code 35 = .ok (.invokestatic 99, 3) := kz_dr dd_Mo_store_0 22 rfl
theorem d_Mo_store_38 : decode prog_8_method_7_code 38 = .ok (.ifCond .ne 34, 3) := kz_dr dd_Mo_store_0 23 rfl
theorem d_Mo_store_41 : decode prog_8_method_7_code 41 = .ok (.lload_n 2, 1) := kz_dr dd_Mo_store_0 24 rfl
theorem d_Mo_store_42 : decode prog_8_method_7_code 42 = .ok (.iload 5, 2) := kz_dr dd_Mo_store_0 25 rfl
theorem d_Mo_store_44 : decode prog_8_method_7_code 44 = .ok (.lshr, 1) := kz_dr dd_Mo_store_0 26 rfl
theorem d_Mo_store_45 : decode prog_8_method_7_code 45 = .ok (.lconst 1, 1) := kz_dr dd_Mo_store_0 27 rfl
theorem d_Mo_store_46 : decode prog_8_method_7_code 46 = .ok (.land, 1) := kz_dr dd_Mo_store_0 28 rfl
theorem d_Mo_store_47 : decode prog_8_method_7_code 47 = .ok (.lconst 1, 1) := kz_dr dd_Mo_store_0 29 rfl
theorem d_Mo_store_48 : decode prog_8_method_7_code 48 = .ok (.lcmp, 1) := kz_dr dd_Mo_store_0 30 rfl
theorem d_Mo_store_49 : decode prog_8_method_7_code 49 = .ok (.ifCond .ne 20, 3) := kz_dr dd_Mo_store_0 31 rfl
theorem d_Mo_store_52 : decode prog_8_method_7_code 52 = .ok (.aload_n 0, 1) := kz_dr dd_Mo_store_0 32 rfl
theorem d_Mo_store_53 : decode prog_8_method_7_code 53 = .ok (.iload_n 1, 1) := kz_dr dd_Mo_store_0 33 rfl
theorem d_Mo_store_54 : decode prog_8_method_7_code 54 = .ok (.iload 7, 2) := kz_dr dd_Mo_store_0 34 rfl
theorem d_Mo_store_56 : decode prog_8_method_7_code 56 = .ok (.invokevirtual 103, 3) := kz_dr dd_Mo_store_0 35 rfl
theorem d_Mo_store_59 : decode prog_8_method_7_code 59 = .ok (.iload 4, 2) := kz_dr dd_Mo_store_0 36 rfl
theorem d_Mo_store_61 : decode prog_8_method_7_code 61 = .ok (.iload 7, 2) := kz_dr dd_Mo_store_0 37 rfl
theorem d_Mo_store_63 : decode prog_8_method_7_code 63 = .ok (.ixor, 1) := kz_dr dd_Mo_store_0 38 rfl
theorem d_Mo_store_64 : decode prog_8_method_7_code 64 = .ok (.istore 4, 2) := kz_dr dd_Mo_store_0 39 rfl
theorem d_Mo_store_66 : decode prog_8_method_7_code 66 = .ok (.iinc 6 1, 3) := kz_dr dd_Mo_store_0 40 rfl
theorem d_Mo_store_69 : decode prog_8_method_7_code 69 = .ok (.iinc 5 1, 3) := kz_dr dd_Mo_store_0 41 rfl
theorem d_Mo_store_72 : decode prog_8_method_7_code 72 = .ok (.iinc 7 1, 3) := kz_dr dd_Mo_store_0 42 rfl
theorem d_Mo_store_75 : decode prog_8_method_7_code 75 = .ok (.goto (-49), 3) := kz_dr dd_Mo_store_0 43 rfl
theorem d_Mo_store_78 : decode prog_8_method_7_code 78 = .ok (.iconst 1, 1) := kz_dr dd_Mo_store_0 44 rfl
theorem d_Mo_store_79 : decode prog_8_method_7_code 79 = .ok (.istore 7, 2) := kz_dr dd_Mo_store_0 45 rfl
theorem d_Mo_store_81 : decode prog_8_method_7_code 81 = .ok (.iload 7, 2) := kz_dr dd_Mo_store_0 46 rfl
theorem d_Mo_store_83 : decode prog_8_method_7_code 83 = .ok (.bipush 72, 2) := kz_dr dd_Mo_store_0 47 rfl
theorem d_Mo_store_85 : decode prog_8_method_7_code 85 = .ok (.if_icmp .ge 30, 3) := kz_dr dd_Mo_store_0 48 rfl
theorem d_Mo_store_88 : decode prog_8_method_7_code 88 = .ok (.iload 4, 2) := kz_dr dd_Mo_store_0 49 rfl
theorem d_Mo_store_90 : decode prog_8_method_7_code 90 = .ok (.iload 7, 2) := kz_dr dd_Mo_store_0 50 rfl
theorem d_Mo_store_92 : decode prog_8_method_7_code 92 = .ok (.iand, 1) := kz_dr dd_Mo_store_0 51 rfl
theorem d_Mo_store_93 : decode prog_8_method_7_code 93 = .ok (.ifCond .eq 13, 3) := kz_dr dd_Mo_store_0 52 rfl
theorem d_Mo_store_96 : decode prog_8_method_7_code 96 = .ok (.aload_n 0, 1) := kz_dr dd_Mo_store_0 53 rfl
theorem d_Mo_store_97 : decode prog_8_method_7_code 97 = .ok (.iload_n 1, 1) := kz_dr dd_Mo_store_0 54 rfl
theorem d_Mo_store_98 : decode prog_8_method_7_code 98 = .ok (.iload 7, 2) := kz_dr dd_Mo_store_0 55 rfl
theorem d_Mo_store_100 : decode prog_8_method_7_code 100 = .ok (.invokevirtual 103, 3) := kz_dr dd_Mo_store_0 56 rfl
theorem d_Mo_store_103 : decode prog_8_method_7_code 103 = .ok (.iinc 6 1, 3) := kz_dr dd_Mo_store_0 57 rfl
theorem d_Mo_store_106 : decode prog_8_method_7_code 106 = .ok (.iconst 2, 1) := kz_dr dd_Mo_store_0 58 rfl
theorem d_Mo_store_107 : decode prog_8_method_7_code 107 = .ok (.iload 7, 2) := kz_dr dd_Mo_store_0 59 rfl
def dl_Mo_store_1 : List (Nat × Instr × Nat) := [(109, .imul, 1), (110, .istore 7, 2), (112, .goto (-31), 3), (115, .iload 6, 2), (117, .iconst 2, 1), (118, .irem, 1), (119, .iconst 1, 1), (120, .if_icmp .ne 9, 3), (123, .aload_n 0, 1), (124, .iload_n 1, 1), (125, .iconst 0, 1), (126, .invokevirtual 103, 3), (129, .return_, 1)]
theorem dd_Mo_store_1 : dl_Mo_store_1.all (fun e => decide (decode prog_8_method_7_code e.1 = .ok e.2)) = true := by decide +kernel
theorem d_Mo_store_109 : decode prog_8_method_7_code 109 = .ok (.imul, 1) := kz_dr dd_Mo_store_1 0 rfl
theorem d_Mo_store_110 : decode prog_8_method_7_code 110 = .ok (.istore 7, 2) := kz_dr dd_Mo_store_1 1 rfl
theorem d_Mo_store_112 : decode prog_8_method_7_code 112 = .ok (.goto (-31), 3) := kz_dr dd_Mo_store_1 2 rfl
theorem d_Mo_store_115 : decode prog_8_method_7_code 115 = .ok (.iload 6, 2) := kz_dr dd_Mo_store_1 3 rfl
theorem d_Mo_store_117 : decode prog_8_method_7_code 117 = .ok (.iconst 2, 1) := kz_dr dd_Mo_store_1 4 rfl
theorem d_Mo_store_118 : decode prog_8_method_7_code 118 = .ok (.irem, 1) := kz_dr dd_Mo_store_1 5 rfl
theorem d_Mo_store_119 : decode prog_8_method_7_code 119 = .ok (.iconst 1, 1) := kz_dr dd_Mo_store_1 6 rfl
theorem d_Mo_store_120 : decode prog_8_method_7_code 120 = .ok (.if_icmp .ne 9, 3) := kz_dr dd_Mo_store_1 7 rfl
theorem d_Mo_store_123 : decode prog_8_method_7_code 123 = .ok (.aload_n 0, 1) := kz_dr dd_Mo_store_1 8 rfl
theorem d_Mo_store_124 : decode prog_8_method_7_code 124 = .ok (.iload_n 1, 1) := kz_dr dd_Mo_store_1 9 rfl
theorem d_Mo_store_125 : decode prog_8_method_7_code 125 = .ok (.iconst 0, 1) := kz_dr dd_Mo_store_1 10 rfl
theorem d_Mo_store_126 : decode prog_8_method_7_code 126 = .ok (.invokevirtual 103, 3) := kz_dr dd_Mo_store_1 11 rfl
theorem d_Mo_store_129 : decode prog_8_method_7_code 129 = .ok (.return_, 1) := kz_dr dd_Mo_store_1 12 rfl
def dl_Mo_mayActivate_0 : List (Nat × Instr × Nat) := [(0, .aload_n 0, 1), (1, .getfield 20, 3), (4, .iload_n 1, 1), (5, .iaload, 1), (6, .iconst (-1), 1), (7, .if_icmp .ne 53, 3), (10, .aload_n 0, 1), (11, .aload_n 0, 1), (12, .getfield 23, 3), (15, .iconst 5, 1), (16, .iload_n 1, 1), (17, .imul, 1), (18, .iconst 1, 1), (19, .iadd, 1), (20, .iaload, 1), (21, .aload_n 0, 1), (22, .getfield 7, 3), (25, .iconst 1, 1), (26, .iaload, 1), (27, .invokevirtual 153, 3), (30, .ifCond .eq 30, 3), (33, .aload_n 0, 1), (34, .aload_n 0, 1), (35, .getfield 23, 3), (38, .iconst 5, 1), (39, .iload_n 1, 1), (40, .imul, 1), (41, .iconst 0, 1), (42, .iadd, 1), (43, .iaload, 1), (44, .aload_n 0, 1), (45, .getfield 7, 3), (48, .iconst 3, 1), (49, .iaload, 1), (50, .invokevirtual 153, 3), (53, .ifCond .eq 7, 3), (56, .iconst 1, 1), (57, .goto 4, 3), (60, .iconst 0, 1), (61, .istore_n 2, 1), (62, .iload_n 2, 1), (63, .ifCond .eq 65, 3), (66, .aload_n 0, 1), (67, .aload_n 0, 1), (68, .getfield 26, 3), (71, .iconst 0, 1), (72, .iaload, 1), (73, .aload_n 0, 1), (74, .getfield 7, 3), (77, .iconst 4, 1), (78, .iaload, 1), (79, .invokevirtual 153, 3), (82, .ifCond .eq 46, 3), (85, .aload_n 0, 1), (86, .aload_n 0, 1), (87, .getfield 29, 3), (90, .iconst 0, 1), (91, .iaload, 1), (92, .aload_n 0, 1), (93, .getfield 7, 3)]
theorem dd_Mo_mayActivate_0 : dl_Mo_mayActivate_0.all (fun e => decide (decode prog_8_method_22_code e.1 = .ok e.2)) = true := by decide +kernel
theorem d_Mo_mayActivate_0 : decode prog_8_method_22_code 0 = .ok (.aload_n 0, 1) := kz_dr dd_Mo_mayActivate_0 0 rfl
theorem d_Mo_mayActivate_1 : decode prog_8_method_22_code 1 = .ok (.getfield 20, 3) := kz_dr dd_Mo_mayActivate_0 1 rfl
theorem d_Mo_mayActivate_4 : decode prog_8_method_22_code 4 = .ok (.iload_n 1, 1) := kz_dr dd_Mo_mayActivate_0 2 rfl
theorem d_Mo_mayActivate_5 : decode prog_8_method_22_code 5 = .ok (.iaload, 1) := kz_dr dd_Mo_mayActivate_0 3 rfl
theorem d_Mo_mayActivate_6 : decode prog_8_method_22_code 6 = .ok (.iconst (-1), 1) := kz_dr dd_Mo_mayActivate_0 4 rfl
theorem d_Mo_mayActivate_7 : decode prog_8_method_22_code 7 = .ok (.if_icmp .ne 53, 3) := kz_dr dd_Mo_mayActivate_0 5 rfl
theorem d_Mo_mayActivate_10 : decode prog_8_method_22_code 10 = .ok (.aload_n 0, 1) := kz_dr dd_Mo_mayActivate_0 6 rfl
theorem d_Mo_mayActivate_11 : decode prog_8_method_22_code 11 = .ok (.aload_n 0, 1) := kz_dr dd_Mo_mayActivate_0 7 rfl
theorem d_Mo_mayActivate_12 : decode prog_8_method_22_code 12 = .ok (.getfield 23, 3) := kz_dr dd_Mo_mayActivate_0 8 rfl
theorem d_Mo_mayActivate_15 : decode prog_8_method_22_code 15 = .ok (.iconst 5, 1) := kz_dr dd_Mo_mayActivate_0 9 rfl
theorem d_Mo_mayActivate_16 : decode prog_8_method_22_code 16 = .ok (.iload_n 1, 1) := kz_dr dd_Mo_mayActivate_0 10 rfl
theorem d_Mo_mayActivate_17 : decode prog_8_method_22_code 17 = .ok (.imul, 1) := kz_dr dd_Mo_mayActivate_0 11 rfl
theorem d_Mo_mayActivate_18 : decode prog_8_method_22_code 18 = .ok (.iconst 1, 1) := kz_dr dd_Mo_mayActivate_0 12 rfl
theorem d_Mo_mayActivate_19 : decode prog_8_method_22_code 19 = .ok (.iadd, 1) := kz_dr dd_Mo_mayActivate_0 13 rfl
theorem d_Mo_mayActivate_20 : decode prog_8_method_22_code 20 = .ok (.iaload, 1) := kz_dr dd_Mo_mayActivate_0 14 rfl
theorem d_Mo_mayActivate_21 : decode prog_8_method_22_code 21 = .ok (.aload_n 0, 1) := kz_dr dd_Mo_mayActivate_0 15 rfl
theorem d_Mo_mayActivate_22 : decode prog_8_method_22_code 22 = .ok (.getfield 7, 3) := kz_dr dd_Mo_mayActivate_0 16 rfl
theorem d_Mo_mayActivate_25 : decode prog_8_method_22_code 25 = .ok (.iconst 1, 1) := kz_dr dd_Mo_mayActivate_0 17 rfl
theorem d_Mo_mayActivate_26 : decode prog_8_method_22_code 26 = .ok (.iaload, 1) := kz_dr dd_Mo_mayActivate_0 18 rfl
theorem d_Mo_mayActivate_27 : decode prog_8_method_22_code 27 = .ok (.invokevirtual 153, 3) := kz_dr dd_Mo_mayActivate_0 19 rfl
theorem d_Mo_mayActivate_30 : decode prog_8_method_22_code 30 = .ok (.ifCond .eq 30, 3) := kz_dr dd_Mo_mayActivate_0 20 rfl
theorem d_Mo_mayActivate_33 : decode prog_8_method_22_code 33 = .ok (.aload_n 0, 1) := kz_dr dd_Mo_mayActivate_0 21 rfl
theorem d_Mo_mayActivate_34 : decode prog_8_method_22_code 34 = .ok (.aload_n 0, 1) := kz_dr dd_Mo_mayActivate_0 22 rfl
theorem d_Mo_mayActivate_35 : decode prog_8_method_22_code 35 = .ok (.getfield 23, 3) := kz_dr dd_Mo_mayActivate_0 23 rfl
theorem d_Mo_mayActivate_38 : decode prog_8_method_22_code 38 = .ok (.iconst 5, 1) := kz_dr dd_Mo_mayActivate_0 24 rfl
theorem d_Mo_mayActivate_39 : decode prog_8_method_22_code 39 = .ok (.iload_n 1, 1) := kz_dr dd_Mo_mayActivate_0 25 rfl
theorem d_Mo_mayActivate_40 : decode prog_8_method_22_code 40 = .ok (.imul, 1) := kz_dr dd_Mo_mayActivate_0 26 rfl
theorem d_Mo_mayActivate_41 : decode prog_8_method_22_code 41 = .ok (.iconst 0, 1) := kz_dr dd_Mo_mayActivate_0 27 rfl
theorem d_Mo_mayActivate_42 : decode prog_8_method_22_code 42 = .ok (.iadd, 1) := kz_dr dd_Mo_mayActivate_0 28 rfl
theorem d_Mo_mayActivate_43 : decode prog_8_method_22_code 43 = .ok (.iaload, 1) := kz_dr dd_Mo_mayActivate_0 29 rfl
theorem d_Mo_mayActivate_44 : decode prog_8_method_22_code 44 = .ok (.aload_n 0, 1) := kz_dr dd_Mo_mayActivate_0 30 rfl
theorem d_Mo_mayActivate_45 : decode prog_8_method_22_code 45 = .ok (.getfield 7, 3) := kz_dr dd_Mo_mayActivate_0 31 rfl
theorem d_Mo_mayActivate_48 : decode prog_8_method_22_code 48 = .ok (.iconst 3, 1) := kz_dr dd_Mo_mayActivate_0 32 rfl
theorem d_Mo_mayActivate_49 : decode prog_8_method_22_code 49 = .ok (.iaload, 1) := kz_dr dd_Mo_mayActivate_0 33 rfl
theorem d_Mo_mayActivate_50 : decode prog_8_method_22_code 50 = .ok (.invokevirtual 153, 3) := kz_dr dd_Mo_mayActivate_0 34 rfl
theorem d_Mo_mayActivate_53 : decode prog_8_method_22_code 53 = .ok (.ifCond .eq 7, 3) := kz_dr dd_Mo_mayActivate_0 35 rfl
theorem d_Mo_mayActivate_56 : decode prog_8_method_22_code 56 = .ok (.iconst 1, 1) := kz_dr dd_Mo_mayActivate_0 36 rfl
theorem d_Mo_mayActivate_57 : decode prog_8_method_22_code 57 = .ok (.goto 4, 3) := kz_dr dd_Mo_mayActivate_0 37 rfl
theorem d_Mo_mayActivate_60 : decode prog_8_method_22_code 60 = .ok (.iconst 0, 1) := kz_dr dd_Mo_mayActivate_0 38 rfl
theorem d_Mo_mayActivate_61 : decode prog_8_method_22_code 61 = .ok (.istore_n 2, 1) := kz_dr dd_Mo_mayActivate_0 39 rfl
theorem d_Mo_mayActivate_62 : decode prog_8_method_22_code 62 = .ok (.iload_n 2, 1) := kz_dr dd_Mo_mayActivate_0 40 rfl
theorem d_Mo_mayActivate_63 : decode prog_8_method_22_code 63 = .ok (.ifCond .eq 65, 3) := kz_dr dd_Mo_mayActivate_0 41 rfl
theorem d_Mo_mayActivate_66 : decode prog_8_method_22_code 66 = .ok (.aload_n 0, 1) := kz_dr dd_Mo_mayActivate_0 42 rfl
theorem d_Mo_mayActivate_67 : decode prog_8_method_22_code 67 = .ok (.aload_n 0, 1) := kz_dr dd_Mo_mayActivate_0 43 rfl
theorem d_Mo_mayActivate_68 : decode prog_8_method_22_code 68 = .ok (.getfield 26, 3) := kz_dr dd_Mo_mayActivate_0 44 rfl
theorem d_Mo_mayActivate_71 : decode prog_8_method_22_code 71 = .ok (.iconst 0, 1) := kz_dr dd_Mo_mayActivate_0 45 rfl
theorem d_Mo_mayActivate_72 : decode prog_8_method_22_code 72 = .ok (.iaload, 1) := kz_dr dd_Mo_mayActivate_0 46 rfl
theorem d_Mo_mayActivate_73 : decode prog_8_method_22_code 73 = .ok (.aload_n 0, 1) := kz_dr dd_Mo_mayActivate_0 47 rfl
theorem d_Mo_mayActivate_74 : decode prog_8_method_22_code 74 = .ok (.getfield 7, 3) := kz_dr dd_Mo_mayActivate_0 48 rfl
theorem d_Mo_mayActivate_77 : decode prog_8_method_22_code 77 = .ok (.iconst 4, 1) := kz_dr dd_Mo_mayActivate_0 49 rfl
theorem d_Mo_mayActivate_78 : decode prog_8_method_22_code 78 = .ok (.iaload, 1) := kz_dr dd_Mo_mayActivate_0 50 rfl
theorem d_Mo_mayActivate_79 : decode prog_8_method_22_code 79 = .ok (.invokevirtual 153, 3) := kz_dr dd_Mo_mayActivate_0 51 rfl
theorem d_Mo_mayActivate_82 : decode prog_8_method_22_code 82 = .ok (.ifCond .eq 46, 3) := kz_dr dd_Mo_mayActivate_0 52 rfl
theorem d_Mo_mayActivate_85 : decode prog_8_method_22_code 85 = .ok (.aload_n 0, 1) := kz_dr dd_Mo_mayActivate_0 53 rfl
theorem d_Mo_mayActivate_86 : decode prog_8_method_22_code 86 = .ok (.aload_n 0, 1) := kz_dr dd_Mo_mayActivate_0 54 rfl
theorem d_Mo_mayActivate_87 : decode prog_8_method_22_code 87 = .ok (.getfield 29, 3) := kz_dr dd_Mo_mayActivate_0 55 rfl
theorem d_Mo_mayActivate_90 : decode prog_8_method_22_code 90 = .ok (.iconst 0, 1) := kz_dr dd_Mo_mayActivate_0 56 rfl
theorem d_Mo_mayActivate_91 : decode prog_8_method_22_code 91 = .ok (.iaload, 1) := kz_dr dd_Mo_mayActivate_0 57 rfl
theorem d_Mo_mayActivate_92 : decode prog_8_method_22_code 92 = .ok (.aload_n 0, 1) := kz_dr dd_Mo_mayActivate_0 58 rfl
theorem d_Mo_mayActivate_93 : decode prog_8_method_22_code 93 = .ok (.getfield 7, 3) := kz_dr dd_Mo_mayActivate_0 59 rfl
def dl_Mo_mayActivate_1 : List (Nat × Instr × Nat) := [(96, .iconst 5, 1), (97, .iaload, 1), (98, .invokevirtual 153, 3), (101, .ifCond .eq 27, 3), (104, .aload_n 0, 1), (105, .aload_n 0, 1), (106, .getfield 26, 3), (109, .iconst 4, 1), (110, .iaload, 1), (111, .aload_n 0, 1), (112, .getfield 7, 3), (115, .bipush 12, 2), (117, .iaload, 1), (118, .invokevirtual 153, 3), (121, .ifCond .eq 7, 3), (124, .iconst 1, 1), (125, .goto 4, 3), (128, .iconst 0, 1), (129, .ireturn, 1)]
theorem dd_Mo_mayActivate_1 : dl_Mo_mayActivate_1.all (fun e => decide (decode prog_8_method_22_code e.1 = .ok e.2)) = true := by decide +kernel
theorem d_Mo_mayActivate_96 : decode prog_8_method_22_code 96 = .ok (.iconst 5, 1) := kz_dr dd_Mo_mayActivate_1 0 rfl
theorem d_Mo_mayActivate_97 : decode prog_8_method_22_code 97 = .ok (.iaload, 1) := kz_dr dd_Mo_mayActivate_1 1 rfl
theorem d_Mo_mayActivate_98 : decode prog_8_method_22_code 98 = .ok (.invokevirtual 153, 3) := kz_dr dd_Mo_mayActivate_1 2 rfl
theorem d_Mo_mayActivate_101 : decode prog_8_method_22_code 101 = .ok (.ifCond .eq 27, 3) := kz_dr dd_Mo_mayActivate_1 3 rfl
theorem d_Mo_mayActivate_104 : decode prog_8_method_22_code 104 = .ok (.aload_n 0, 1) := kz_dr dd_Mo_mayActivate_1 4 rfl
theorem d_Mo_mayActivate_105 : decode prog_8_method_22_code 105 = .ok (.aload_n 0, 1) := kz_dr dd_Mo_mayActivate_1 5 rfl
theorem d_Mo_mayActivate_106 : decode prog_8_method_22_code 106 = .ok (.getfield 26, 3) := kz_dr dd_Mo_mayActivate_1 6 rfl
theorem d_Mo_mayActivate_109 : decode prog_8_method_22_code 109 = .ok (.iconst 4, 1) := kz_dr dd_Mo_mayActivate_1 7 rfl
theorem d_Mo_mayActivate_110 : decode prog_8_method_22_code 110 = .ok (.iaload, 1) := kz_dr dd_Mo_mayActivate_1 8 rfl
theorem d_Mo_mayActivate_111 : decode prog_8_method_22_code 111 = .ok (.aload_n 0, 1) := kz_dr dd_Mo_mayActivate_1 9 rfl
theorem d_Mo_mayActivate_112 : decode prog_8_method_22_code 112 = .ok (.getfield 7, 3) := kz_dr dd_Mo_mayActivate_1 10 rfl
theorem d_Mo_mayActivate_115 : decode prog_8_method_22_code 115 = .ok (.bipush 12, 2) := kz_dr dd_Mo_mayActivate_1 11 rfl
theorem d_Mo_mayActivate_117 : decode prog_8_method_22_code 117 = .ok (.iaload, 1) := kz_dr dd_Mo_mayActivate_1 12 rfl
theorem d_Mo_mayActivate_118 : decode prog_8_method_22_code 118 = .ok (.invokevirtual 153, 3) := kz_dr dd_Mo_mayActivate_1 13 rfl
theorem d_Mo_mayActivate_121 : decode prog_8_method_22_code 121 = .ok (.ifCond .eq 7, 3) := kz_dr dd_Mo_mayActivate_1 14 rfl
theorem d_Mo_mayActivate_124 : decode prog_8_method_22_code 124 = .ok (.iconst 1, 1) := kz_dr dd_Mo_mayActivate_1 15 rfl
theorem d_Mo_mayActivate_125 : decode prog_8_method_22_code 125 = .ok (.goto 4, 3) := kz_dr dd_Mo_mayActivate_1 16 rfl
theorem d_Mo_mayActivate_128 : decode prog_8_method_22_code 128 = .ok (.iconst 0, 1) := kz_dr dd_Mo_mayActivate_1 17 rfl
theorem d_Mo_mayActivate_129 : decode prog_8_method_22_code 129 = .ok (.ireturn, 1) := kz_dr dd_Mo_mayActivate_1 18 rfl
def dl_Mo_isWanted_0 : List (Nat × Instr × Nat) := [(0, .iconst 0, 1), (1, .istore_n 2, 1), (2, .iconst 0, 1), (3, .istore_n 3, 1), (4, .iload_n 3, 1), (5, .aload_n 0, 1), (6, .getfield 134, 3), (9, .if_icmp .ge 69, 3), (12, .iload_n 2, 1), (13, .ifCond .ne 53, 3), (16, .aload_n 0, 1), (17, .getfield 68, 3), (20, .iload_n 3, 1), (21, .baload, 1), (22, .ifCond .eq 48, 3), (25, .aload_n 0, 1), (26, .getfield 44, 3), (29, .aload_n 0, 1), (30, .getfield 62, 3), (33, .iload_n 3, 1), (34, .iaload, 1), (35, .iaload, 1), (36, .invokestatic 167, 3), (39, .iload_n 1, 1), (40, .if_icmp .ne 30, 3), (43, .aload_n 0, 1), (44, .getfield 44, 3), (47, .aload_n 0, 1), (48, .getfield 62, 3), (51, .iload_n 3, 1), (52, .iaload, 1), (53, .iaload, 1), (54, .invokestatic 203, 3), (57, .aload_n 0, 1), (58, .getfield 20, 3), (61, .iload_n 1, 1), (62, .iaload, 1), (63, .if_icmp .ne 7, 3), (66, .iconst 1, 1), (67, .goto 4, 3), (70, .iconst 0, 1), (71, .istore_n 2, 1), (72, .iinc 3 1, 3), (75, .goto (-71), 3), (78, .iload_n 2, 1), (79, .ireturn, 1)]
theorem dd_Mo_isWanted_0 : dl_Mo_isWanted_0.all (fun e => decide (decode prog_8_method_35_code e.1 = .ok e.2)) = true := by decide +kernel
theorem d_Mo_isWanted_0 : decode prog_8_method_35_code 0 = .ok (.iconst 0, 1) := kz_dr dd_Mo_isWanted_0 0 rfl
theorem d_Mo_isWanted_1 : decode prog_8_method_35_code 1 = .ok (.istore_n 2, 1) := kz_dr dd_Mo_isWanted_0 1 rfl
theorem d_Mo_isWanted_2 : decode prog_8_method_35_code 2 = .ok (.iconst 0, 1) := kz_dr dd_Mo_isWanted_0 2 rfl
theorem d_Mo_isWanted_3 : decode prog_8_method_35_code 3 = .ok (.istore_n 3, 1) := kz_dr dd_Mo_isWanted_0 3 rfl
theorem d_Mo_isWanted_4 : decode prog_8_method_35_code 4 = .ok (.iload_n 3, 1) := kz_dr dd_Mo_isWanted_0 4 rfl
theorem d_Mo_isWanted_5 : decode prog_8_method_35_code 5 = .ok (.aload_n 0, 1) := kz_dr dd_Mo_isWanted_0 5 rfl
theorem d_Mo_isWanted_6 : decode prog_8_method_35_code 6 = .ok (.getfield 134, 3) := kz_dr dd_Mo_isWanted_0 6 rfl
theorem d_Mo_isWanted_9 : decode prog_8_method_35_code 9 = .ok (.if_icmp .ge 69, 3) := kz_dr dd_Mo_isWanted_0 7 rfl
theorem d_Mo_isWanted_12 : decode prog_8_method_35_code 12 = .ok (.iload_n 2, 1) := kz_dr dd_Mo_isWanted_0 8 rfl
theorem d_Mo_isWanted_13 : decode prog_8_method_35_code 13 = .ok (.ifCond .ne 53, 3) := kz_dr dd_Mo_isWanted_0 9 rfl
theorem d_Mo_isWanted_16 : decode prog_8_method_35_code 16 = .ok (.aload_n 0, 1) := kz_dr dd_Mo_isWanted_0 10 rfl
theorem d_Mo_isWanted_17 : decode prog_8_method_35_code 17 = .ok (.getfield 68, 3) := kz_dr dd_Mo_isWanted_0 11 rfl
theorem d_Mo_isWanted_20 : decode prog_8_method_35_code 20 = .ok (.iload_n 3, 1) := kz_dr dd_Mo_isWanted_0 12 rfl
theorem d_Mo_isWanted_21 : decode prog_8_method_35_code 21 = .ok (.baload, 1) := kz_dr dd_Mo_isWanted_0 13 rfl
theorem d_Mo_isWanted_22 : decode prog_8_method_35_code 22 = .ok (.ifCond .eq 48, 3) := kz_dr dd_Mo_isWanted_0 14 rfl
theorem d_Mo_isWanted_25 : decode prog_8_method_35_code 25 = .ok (.aload_n 0, 1) := kz_dr dd_Mo_isWanted_0 15 rfl
theorem d_Mo_isWanted_26 : decode prog_8_method_35_code 26 = .ok (.getfield 44, 3) := kz_dr dd_Mo_isWanted_0 16 rfl
theorem d_Mo_isWanted_29 : decode prog_8_method_35_code 29 = .ok (.aload_n 0, 1) := kz_dr dd_Mo_isWanted_0 17 rfl
theorem d_Mo_isWanted_30 : decode prog_8_method_35_code 30 = .ok (.getfield 62, 3) := kz_dr dd_Mo_isWanted_0 18 rfl
theorem d_Mo_isWanted_33 : decode prog_8_method_35_code 33 = .ok (.iload_n 3, 1) := kz_dr dd_Mo_isWanted_0 19 rfl
theorem d_Mo_isWanted_34 : decode prog_8_method_35_code 34 = .ok (.iaload, 1) := kz_dr dd_Mo_isWanted_0 20 rfl
theorem d_Mo_isWanted_35 : decode prog_8_method_35_code 35 = .ok (.iaload, 1) := kz_dr dd_Mo_isWanted_0 21 rfl
theorem d_Mo_isWanted_36 : decode prog_8_method_35_code 36 = .ok (.invokestatic 167, 3) := kz_dr dd_Mo_isWanted_0 22 rfl
theorem d_Mo_isWanted_39 : decode prog_8_method_35_code 39 = .ok (.iload_n 1, 1) := kz_dr dd_Mo_isWanted_0 23 rfl
theorem d_Mo_isWanted_40 : decode prog_8_method_35_code 40 = .ok (.if_icmp .ne 30, 3) := kz_dr dd_Mo_isWanted_0 24 rfl
theorem d_Mo_isWanted_43 : decode prog_8_method_35_code 43 = .ok (.aload_n 0, 1) := kz_dr dd_Mo_isWanted_0 25 rfl
theorem d_Mo_isWanted_44 : decode prog_8_method_35_code 44 = .ok (.getfield 44, 3) := kz_dr dd_Mo_isWanted_0 26 rfl
theorem d_Mo_isWanted_47 : decode prog_8_method_35_code 47 = .ok (.aload_n 0, 1) := kz_dr dd_Mo_isWanted_0 27 rfl
theorem d_Mo_isWanted_48 : decode prog_8_method_35_code 48 = .ok (.getfield 62, 3) := kz_dr dd_Mo_isWanted_0 28 rfl
theorem d_Mo_isWanted_51 : decode prog_8_method_35_code 51 = .ok (.iload_n 3, 1) := kz_dr dd_Mo_isWanted_0 29 rfl
theorem d_Mo_isWanted_52 : decode prog_8_method_35_code 52 = .ok (.iaload, 1) := kz_dr dd_Mo_isWanted_0 30 rfl
theorem d_Mo_isWanted_53 : decode prog_8_method_35_code 53 = .ok (.iaload, 1) := kz_dr dd_Mo_isWanted_0 31 rfl
theorem d_Mo_isWanted_54 : decode prog_8_method_35_code 54 = .ok (.invokestatic 203, 3) := kz_dr dd_Mo_isWanted_0 32 rfl
theorem d_Mo_isWanted_57 : decode prog_8_method_35_code 57 = .ok (.aload_n 0, 1) := kz_dr dd_Mo_isWanted_0 33 rfl
theorem d_Mo_isWanted_58 : decode prog_8_method_35_code 58 = .ok (.getfield 20, 3) := kz_dr dd_Mo_isWanted_0 34 rfl
theorem d_Mo_isWanted_61 : decode prog_8_method_35_code 61 = .ok (.iload_n 1, 1) := kz_dr dd_Mo_isWanted_0 35 rfl
theorem d_Mo_isWanted_62 : decode prog_8_method_35_code 62 = .ok (.iaload, 1) := kz_dr dd_Mo_isWanted_0 36 rfl
theorem d_Mo_isWanted_63 : decode prog_8_method_35_code 63 = .ok (.if_icmp .ne 7, 3) := kz_dr dd_Mo_isWanted_0 37 rfl
theorem d_Mo_isWanted_66 : decode prog_8_method_35_code 66 = .ok (.iconst 1, 1) := kz_dr dd_Mo_isWanted_0 38 rfl
theorem d_Mo_isWanted_67 : decode prog_8_method_35_code 67 = .ok (.goto 4, 3) := kz_dr dd_Mo_isWanted_0 39 rfl
theorem d_Mo_isWanted_70 : decode prog_8_method_35_code 70 = .ok (.iconst 0, 1) := kz_dr dd_Mo_isWanted_0 40 rfl
theorem d_Mo_isWanted_71 : decode prog_8_method_35_code 71 = .ok (.istore_n 2, 1) := kz_dr dd_Mo_isWanted_0 41 rfl
theorem d_Mo_isWanted_72 : decode prog_8_method_35_code 72 = .ok (.iinc 3 1, 3) := kz_dr dd_Mo_isWanted_0 42 rfl
theorem d_Mo_isWanted_75 : decode prog_8_method_35_code 75 = .ok (.goto (-71), 3) := kz_dr dd_Mo_isWanted_0 43 rfl
theorem d_Mo_isWanted_78 : decode prog_8_method_35_code 78 = .ok (.iload_n 2, 1) := kz_dr dd_Mo_isWanted_0 44 rfl
theorem d_Mo_isWanted_79 : decode prog_8_method_35_code 79 = .ok (.ireturn, 1) := kz_dr dd_Mo_isWanted_0 45 rfl
def dl_Mo_activate_0 : List (Nat × Instr × Nat) := [(0, .aload_n 0, 1), (1, .iconst 0, 1), (2, .iload_n 1, 1), (3, .iload_n 2, 1), (4, .iconst (-1), 1), (5, .invokevirtual 163, 3), (8, .aload_n 0, 1), (9, .getfield 20, 3), (12, .iload_n 1, 1), (13, .iload_n 2, 1), (14, .iastore, 1), (15, .iconst 0, 1), (16, .istore_n 3, 1), (17, .iload_n 3, 1), (18, .iconst 3, 1), (19, .if_icmp .ge 23, 3), (22, .aload_n 0, 1), (23, .getfield 29, 3), (26, .iload_n 3, 1), (27, .aload_n 0, 1), (28, .getfield 29, 3), (31, .iload_n 3, 1), (32, .iconst 1, 1), (33, .iadd, 1), (34, .iaload, 1), (35, .iastore, 1), (36, .iinc 3 1, 3), (39, .goto (-22), 3), (42, .aload_n 0, 1), (43, .getfield 29, 3), (46, .iconst 3, 1), (47, .aload_n 0, 1), (48, .getfield 96, 3), (51, .iastore, 1), (52, .return_, 1)]
theorem dd_Mo_activate_0 : dl_Mo_activate_0.all (fun e => decide (decode prog_8_method_27_code e.1 = .ok e.2)) = true := by decide +kernel
theorem d_Mo_activate_0 : decode prog_8_method_27_code 0 = .ok (.aload_n 0, 1) := kz_dr dd_Mo_activate_0 0 rfl
theorem d_Mo_activate_1 : decode prog_8_method_27_code 1 = .ok (.iconst 0, 1) := kz_dr dd_Mo_activate_0 1 rfl
theorem d_Mo_activate_2 : decode prog_8_method_27_code 2 = .ok (.iload_n 1, 1) := kz_dr dd_Mo_activate_0 2 rfl
theorem d_Mo_activate_3 : decode prog_8_method_27_code 3 = .ok (.iload_n 2, 1) := kz_dr dd_Mo_activate_0 3 rfl
theorem d_Mo_activate_4 : decode prog_8_method_27_code 4 = .ok (.iconst (-1), 1) := kz_dr dd_Mo_activate_0 4 rfl
theorem d_Mo_activate_5 : decode prog_8_method_27_code 5 = .ok (.invokevirtual 163, 3) := kz_dr dd_Mo_activate_0 5 rfl
theorem d_Mo_activate_8 : decode prog_8_method_27_code 8 = .ok (.aload_n 0, 1) := kz_dr dd_Mo_activate_0 6 rfl
theorem d_Mo_activate_9 : decode prog_8_method_27_code 9 = .ok (.getfield 20, 3) := kz_dr dd_Mo_activate_0 7 rfl
theorem d_Mo_activate_12 : decode prog_8_method_27_code 12 = .ok (.iload_n 1, 1) := kz_dr dd_Mo_activate_0 8 rfl
theorem d_Mo_activate_13 : decode prog_8_method_27_code 13 = .ok (.iload_n 2, 1) := kz_dr dd_Mo_activate_0 9 rfl
theorem d_Mo_activate_14 : decode prog_8_method_27_code 14 = .ok (.iastore, 1) := kz_dr dd_Mo_activate_0 10 rfl
theorem d_Mo_activate_15 : decode prog_8_method_27_code 15 = .ok (.iconst 0, 1) := kz_dr dd_Mo_activate_0 11 rfl
theorem d_Mo_activate_16 : decode prog_8_method_27_code 16 = .ok (.istore_n 3, 1) := kz_dr dd_Mo_activate_0 12 rfl
theorem d_Mo_activate_17 : decode prog_8_method_27_code 17 = .ok (.iload_n 3, 1) := kz_dr dd_Mo_activate_0 13 rfl
theorem d_Mo_activate_18 : decode prog_8_method_27_code 18 = .ok (.iconst 3, 1) := kz_dr dd_Mo_activate_0 14 rfl
theorem d_Mo_activate_19 : decode prog_8_method_27_code 19 = .ok (.if_icmp .ge 23, 3) := kz_dr dd_Mo_activate_0 15 rfl
theorem d_Mo_activate_22 : decode prog_8_method_27_code 22 = .ok (.aload_n 0, 1) := kz_dr dd_Mo_activate_0 16 rfl
theorem d_Mo_activate_23 : decode prog_8_method_27_code 23 = .ok (.getfield 29, 3) := kz_dr dd_Mo_activate_0 17 rfl
theorem d_Mo_activate_26 : decode prog_8_method_27_code 26 = .ok (.iload_n 3, 1) := kz_dr dd_Mo_activate_0 18 rfl
theorem d_Mo_activate_27 : decode prog_8_method_27_code 27 = .ok (.aload_n 0, 1) := kz_dr dd_Mo_activate_0 19 rfl
theorem d_Mo_activate_28 : decode prog_8_method_27_code 28 = .ok (.getfield 29, 3) := kz_dr dd_Mo_activate_0 20 rfl
theorem d_Mo_activate_31 : decode prog_8_method_27_code 31 = .ok (.iload_n 3, 1) := kz_dr dd_Mo_activate_0 21 rfl
theorem d_Mo_activate_32 : decode prog_8_method_27_code 32 = .ok (.iconst 1, 1) := kz_dr dd_Mo_activate_0 22 rfl
theorem d_Mo_activate_33 : decode prog_8_method_27_code 33 = .ok (.iadd, 1) := kz_dr dd_Mo_activate_0 23 rfl
theorem d_Mo_activate_34 : decode prog_8_method_27_code 34 = .ok (.iaload, 1) := kz_dr dd_Mo_activate_0 24 rfl
theorem d_Mo_activate_35 : decode prog_8_method_27_code 35 = .ok (.iastore, 1) := kz_dr dd_Mo_activate_0 25 rfl
theorem d_Mo_activate_36 : decode prog_8_method_27_code 36 = .ok (.iinc 3 1, 3) := kz_dr dd_Mo_activate_0 26 rfl
theorem d_Mo_activate_39 : decode prog_8_method_27_code 39 = .ok (.goto (-22), 3) := kz_dr dd_Mo_activate_0 27 rfl
theorem d_Mo_activate_42 : decode prog_8_method_27_code 42 = .ok (.aload_n 0, 1) := kz_dr dd_Mo_activate_0 28 rfl
theorem d_Mo_activate_43 : decode prog_8_method_27_code 43 = .ok (.getfield 29, 3) := kz_dr dd_Mo_activate_0 29 rfl
theorem d_Mo_activate_46 : decode prog_8_method_27_code 46 = .ok (.iconst 3, 1) := kz_dr dd_Mo_activate_0 30 rfl
theorem d_Mo_activate_47 : decode prog_8_method_27_code 47 = .ok (.aload_n 0, 1) := kz_dr dd_Mo_activate_0 31 rfl
theorem d_Mo_activate_48 : decode prog_8_method_27_code 48 = .ok (.getfield 96, 3) := kz_dr dd_Mo_activate_0 32 rfl
theorem d_Mo_activate_51 : decode prog_8_method_27_code 51 = .ok (.iastore, 1) := kz_dr dd_Mo_activate_0 33 rfl
theorem d_Mo_activate_52 : decode prog_8_method_27_code 52 = .ok (.return_, 1) := kz_dr dd_Mo_activate_0 34 rfl
def dl_Mo_status_0 : List (Nat × Instr × Nat) := [(0, .iload_n 1, 1), (1, .ifCond .lt 11, 3), (4, .iload_n 1, 1), (5, .aload_n 0, 1), (6, .getfield 131, 3), (9, .if_icmp .lt 7, 3), (12, .iconst (-1), 1), (13, .goto 9, 3), (16, .aload_n 0, 1), (17, .getfield 50, 3), (20, .iload_n 1, 1), (21, .iaload, 1), (22, .ireturn, 1)]
theorem dd_Mo_status_0 : dl_Mo_status_0.all (fun e => decide (decode prog_8_method_41_code e.1 = .ok e.2)) = true := by decide +kernel
theorem d_Mo_status_0 : decode prog_8_method_41_code 0 = .ok (.iload_n 1, 1) := kz_dr dd_Mo_status_0 0 rfl
theorem d_Mo_status_1 : decode prog_8_method_41_code 1 = .ok (.ifCond .lt 11, 3) := kz_dr dd_Mo_status_0 1 rfl
theorem d_Mo_status_4 : decode prog_8_method_41_code 4 = .ok (.iload_n 1, 1) := kz_dr dd_Mo_status_0 2 rfl
theorem d_Mo_status_5 : decode prog_8_method_41_code 5 = .ok (.aload_n 0, 1) := kz_dr dd_Mo_status_0 3 rfl
theorem d_Mo_status_6 : decode prog_8_method_41_code 6 = .ok (.getfield 131, 3) := kz_dr dd_Mo_status_0 4 rfl
theorem d_Mo_status_9 : decode prog_8_method_41_code 9 = .ok (.if_icmp .lt 7, 3) := kz_dr dd_Mo_status_0 5 rfl
theorem d_Mo_status_12 : decode prog_8_method_41_code 12 = .ok (.iconst (-1), 1) := kz_dr dd_Mo_status_0 6 rfl
theorem d_Mo_status_13 : decode prog_8_method_41_code 13 = .ok (.goto 9, 3) := kz_dr dd_Mo_status_0 7 rfl
theorem d_Mo_status_16 : decode prog_8_method_41_code 16 = .ok (.aload_n 0, 1) := kz_dr dd_Mo_status_0 8 rfl
theorem d_Mo_status_17 : decode prog_8_method_41_code 17 = .ok (.getfield 50, 3) := kz_dr dd_Mo_status_0 9 rfl
theorem d_Mo_status_20 : decode prog_8_method_41_code 20 = .ok (.iload_n 1, 1) := kz_dr dd_Mo_status_0 10 rfl
theorem d_Mo_status_21 : decode prog_8_method_41_code 21 = .ok (.iaload, 1) := kz_dr dd_Mo_status_0 11 rfl
theorem d_Mo_status_22 : decode prog_8_method_41_code 22 = .ok (.ireturn, 1) := kz_dr dd_Mo_status_0 12 rfl
def dl_Mo_value_0 : List (Nat × Instr × Nat) := [(0, .iload_n 1, 1), (1, .ifCond .lt 11, 3), (4, .iload_n 1, 1), (5, .aload_n 0, 1), (6, .getfield 131, 3), (9, .if_icmp .lt 7, 3), (12, .lconst 0, 1), (13, .goto 9, 3), (16, .aload_n 0, 1), (17, .getfield 53, 3), (20, .iload_n 1, 1), (21, .laload, 1), (22, .lreturn, 1)]
theorem dd_Mo_value_0 : dl_Mo_value_0.all (fun e => decide (decode prog_8_method_42_code e.1 = .ok e.2)) = true := by decide +kernel
theorem d_Mo_value_0 : decode prog_8_method_42_code 0 = .ok (.iload_n 1, 1) := kz_dr dd_Mo_value_0 0 rfl
theorem d_Mo_value_1 : decode prog_8_method_42_code 1 = .ok (.ifCond .lt 11, 3) := kz_dr dd_Mo_value_0 1 rfl
theorem d_Mo_value_4 : decode prog_8_method_42_code 4 = .ok (.iload_n 1, 1) := kz_dr dd_Mo_value_0 2 rfl
theorem d_Mo_value_5 : decode prog_8_method_42_code 5 = .ok (.aload_n 0, 1) := kz_dr dd_Mo_value_0 3 rfl
theorem d_Mo_value_6 : decode prog_8_method_42_code 6 = .ok (.getfield 131, 3) := kz_dr dd_Mo_value_0 4 rfl
theorem d_Mo_value_9 : decode prog_8_method_42_code 9 = .ok (.if_icmp .lt 7, 3) := kz_dr dd_Mo_value_0 5 rfl
theorem d_Mo_value_12 : decode prog_8_method_42_code 12 = .ok (.lconst 0, 1) := kz_dr dd_Mo_value_0 6 rfl
theorem d_Mo_value_13 : decode prog_8_method_42_code 13 = .ok (.goto 9, 3) := kz_dr dd_Mo_value_0 7 rfl
theorem d_Mo_value_16 : decode prog_8_method_42_code 16 = .ok (.aload_n 0, 1) := kz_dr dd_Mo_value_0 8 rfl
theorem d_Mo_value_17 : decode prog_8_method_42_code 17 = .ok (.getfield 53, 3) := kz_dr dd_Mo_value_0 9 rfl
theorem d_Mo_value_20 : decode prog_8_method_42_code 20 = .ok (.iload_n 1, 1) := kz_dr dd_Mo_value_0 10 rfl
theorem d_Mo_value_21 : decode prog_8_method_42_code 21 = .ok (.laload, 1) := kz_dr dd_Mo_value_0 11 rfl
theorem d_Mo_value_22 : decode prog_8_method_42_code 22 = .ok (.lreturn, 1) := kz_dr dd_Mo_value_0 12 rfl
def dl_Mo_state_0 : List (Nat × Instr × Nat) := [(0, .iload_n 1, 1), (1, .bipush 10, 2), (3, .if_icmp .lt 19, 3), (6, .iload_n 1, 1), (7, .bipush 13, 2), (9, .if_icmp .gt 13, 3), (12, .aload_n 0, 1), (13, .getfield 20, 3), (16, .iload_n 1, 1), (17, .bipush 10, 2), (19, .isub, 1), (20, .iaload, 1), (21, .ireturn, 1), (22, .iload_n 1, 1), (23, .tableswitch 102 0 8 #[49, 54, 59, 64, 69, 82, 87, 92, 97], 49), (72, .aload_n 0, 1), (73, .getfield 96, 3), (76, .ireturn, 1), (77, .aload_n 0, 1), (78, .getfield 140, 3), (81, .ireturn, 1), (82, .aload_n 0, 1), (83, .getfield 137, 3), (86, .ireturn, 1), (87, .aload_n 0, 1), (88, .getfield 187, 3), (91, .ireturn, 1), (92, .aload_n 0, 1), (93, .getfield 206, 3), (96, .ifCond .eq 7, 3), (99, .iconst 1, 1), (100, .goto 4, 3), (103, .iconst 0, 1), (104, .ireturn, 1), (105, .aload_n 0, 1), (106, .getfield 160, 3), (109, .ireturn, 1), (110, .aload_n 0, 1), (111, .getfield 128, 3), (114, .ireturn, 1), (115, .aload_n 0, 1), (116, .getfield 121, 3), (119, .ireturn, 1), (120, .aload_n 0, 1), (121, .getfield 131, 3), (124, .ireturn, 1), (125, .iconst (-1), 1), (126, .ireturn, 1)]
theorem dd_Mo_state_0 : dl_Mo_state_0.all (fun e => decide (decode prog_8_method_43_code e.1 = .ok e.2)) = true := by decide +kernel
theorem d_Mo_state_0 : decode prog_8_method_43_code 0 = .ok (.iload_n 1, 1) := kz_dr dd_Mo_state_0 0 rfl
theorem d_Mo_state_1 : decode prog_8_method_43_code 1 = .ok (.bipush 10, 2) := kz_dr dd_Mo_state_0 1 rfl
theorem d_Mo_state_3 : decode prog_8_method_43_code 3 = .ok (.if_icmp .lt 19, 3) := kz_dr dd_Mo_state_0 2 rfl
theorem d_Mo_state_6 : decode prog_8_method_43_code 6 = .ok (.iload_n 1, 1) := kz_dr dd_Mo_state_0 3 rfl
theorem d_Mo_state_7 : decode prog_8_method_43_code 7 = .ok (.bipush 13, 2) := kz_dr dd_Mo_state_0 4 rfl
theorem d_Mo_state_9 : decode prog_8_method_43_code 9 = .ok (.if_icmp .gt 13, 3) := kz_dr dd_Mo_state_0 5 rfl
theorem d_Mo_state_12 : decode prog_8_method_43_code 12 = .ok (.aload_n 0, 1) := kz_dr dd_Mo_state_0 6 rfl
theorem d_Mo_state_13 : decode prog_8_method_43_code 13 = .ok (.getfield 20, 3) := kz_dr dd_Mo_state_0 7 rfl
theorem d_Mo_state_16 : decode prog_8_method_43_code 16 = .ok (.iload_n 1, 1) := kz_dr dd_Mo_state_0 8 rfl
theorem d_Mo_state_17 : decode prog_8_method_43_code 17 = .ok (.bipush 10, 2) := kz_dr dd_Mo_state_0 9 rfl
theorem d_Mo_state_19 : decode prog_8_method_43_code 19 = .ok (.isub, 1) := kz_dr dd_Mo_state_0 10 rfl
theorem d_Mo_state_20 : decode prog_8_method_43_code 20 = .ok (.iaload, 1) := kz_dr dd_Mo_state_0 11 rfl
theorem d_Mo_state_21 : decode prog_8_method_43_code 21 = .ok (.ireturn, 1) := kz_dr dd_Mo_state_0 12 rfl
theorem d_Mo_state_22 : decode prog_8_method_43_code 22 = .ok (.iload_n 1, 1) := kz_dr dd_Mo_state_0 13 rfl
theorem d_Mo_state_23 : decode prog_8_method_43_code 23 = .ok (.tableswitch 102 0 8 #[49, 54, 59, 64, 69, 82, 87, 92, 97], 49) := kz_dr dd_Mo_state_0 14 rfl
theorem d_Mo_state_72 : decode prog_8_method_43_code 72 = .ok (.aload_n 0, 1) := kz_dr dd_Mo_state_0 15 rfl
theorem d_Mo_state_73 : decode prog_8_method_43_code 73 = .ok (.getfield 96, 3) := kz_dr dd_Mo_state_0 16 rfl
theorem d_Mo_state_76 : decode prog_8_method_43_code 76 = .ok (.ireturn, 1) := kz_dr dd_Mo_state_0 17 rfl
theorem d_Mo_state_77 : decode prog_8_method_43_code 77 = .ok (.aload_n 0, 1) := kz_dr dd_Mo_state_0 18 rfl
theorem d_Mo_state_78 : decode prog_8_method_43_code 78 = .ok (.getfield 140, 3) := kz_dr dd_Mo_state_0 19 rfl
theorem d_Mo_state_81 : decode prog_8_method_43_code 81 = .ok (.ireturn, 1) := kz_dr dd_Mo_state_0 20 rfl
theorem d_Mo_state_82 : decode prog_8_method_43_code 82 = .ok (.aload_n 0, 1) := kz_dr dd_Mo_state_0 21 rfl
theorem d_Mo_state_83 : decode prog_8_method_43_code 83 = .ok (.getfield 137, 3) := kz_dr dd_Mo_state_0 22 rfl
theorem d_Mo_state_86 : decode prog_8_method_43_code 86 = .ok (.ireturn, 1) := kz_dr dd_Mo_state_0 23 rfl
theorem d_Mo_state_87 : decode prog_8_method_43_code 87 = .ok (.aload_n 0, 1) := kz_dr dd_Mo_state_0 24 rfl
theorem d_Mo_state_88 : decode prog_8_method_43_code 88 = .ok (.getfield 187, 3) := kz_dr dd_Mo_state_0 25 rfl
theorem d_Mo_state_91 : decode prog_8_method_43_code 91 = .ok (.ireturn, 1) := kz_dr dd_Mo_state_0 26 rfl
theorem d_Mo_state_92 : decode prog_8_method_43_code 92 = .ok (.aload_n 0, 1) := kz_dr dd_Mo_state_0 27 rfl
theorem d_Mo_state_93 : decode prog_8_method_43_code 93 = .ok (.getfield 206, 3) := kz_dr dd_Mo_state_0 28 rfl
theorem d_Mo_state_96 : decode prog_8_method_43_code 96 = .ok (.ifCond .eq 7, 3) := kz_dr dd_Mo_state_0 29 rfl
theorem d_Mo_state_99 : decode prog_8_method_43_code 99 = .ok (.iconst 1, 1) := kz_dr dd_Mo_state_0 30 rfl
theorem d_Mo_state_100 : decode prog_8_method_43_code 100 = .ok (.goto 4, 3) := kz_dr dd_Mo_state_0 31 rfl
theorem d_Mo_state_103 : decode prog_8_method_43_code 103 = .ok (.iconst 0, 1) := kz_dr dd_Mo_state_0 32 rfl
theorem d_Mo_state_104 : decode prog_8_method_43_code 104 = .ok (.ireturn, 1) := kz_dr dd_Mo_state_0 33 rfl
theorem d_Mo_state_105 : decode prog_8_method_43_code 105 = .ok (.aload_n 0, 1) := kz_dr dd_Mo_state_0 34 rfl
theorem d_Mo_state_106 : decode prog_8_method_43_code 106 = .ok (.getfield 160, 3) := kz_dr dd_Mo_state_0 35 rfl
theorem d_Mo_state_109 : decode prog_8_method_43_code 109 = .ok (.ireturn, 1) := kz_dr dd_Mo_state_0 36 rfl
theorem d_Mo_state_110 : decode prog_8_method_43_code 110 = .ok (.aload_n 0, 1) := kz_dr dd_Mo_state_0 37 rfl
theorem d_Mo_state_111 : decode prog_8_method_43_code 111 = .ok (.getfield 128, 3) := kz_dr dd_Mo_state_0 38 rfl
theorem d_Mo_state_114 : decode prog_8_method_43_code 114 = .ok (.ireturn, 1) := kz_dr dd_Mo_state_0 39 rfl
theorem d_Mo_state_115 : decode prog_8_method_43_code 115 = .ok (.aload_n 0, 1) := kz_dr dd_Mo_state_0 40 rfl
theorem d_Mo_state_116 : decode prog_8_method_43_code 116 = .ok (.getfield 121, 3) := kz_dr dd_Mo_state_0 41 rfl
theorem d_Mo_state_119 : decode prog_8_method_43_code 119 = .ok (.ireturn, 1) := kz_dr dd_Mo_state_0 42 rfl
theorem d_Mo_state_120 : decode prog_8_method_43_code 120 = .ok (.aload_n 0, 1) := kz_dr dd_Mo_state_0 43 rfl
theorem d_Mo_state_121 : decode prog_8_method_43_code 121 = .ok (.getfield 131, 3) := kz_dr dd_Mo_state_0 44 rfl
theorem d_Mo_state_124 : decode prog_8_method_43_code 124 = .ok (.ireturn, 1) := kz_dr dd_Mo_state_0 45 rfl
theorem d_Mo_state_125 : decode prog_8_method_43_code 125 = .ok (.iconst (-1), 1) := kz_dr dd_Mo_state_0 46 rfl
theorem d_Mo_state_126 : decode prog_8_method_43_code 126 = .ok (.ireturn, 1) := kz_dr dd_Mo_state_0 47 rfl
def dl_Mo_command_0 : List (Nat × Instr × Nat) := [(0, .iload_n 1, 1), (1, .ifCond .lt 17, 3), (4, .iload_n 1, 1), (5, .bipush 31, 2), (7, .if_icmp .gt 11, 3), (10, .iload_n 1, 1), (11, .aload_n 0, 1), (12, .getfield 160, 3), (15, .if_icmp .lt 5, 3), (18, .iconst (-1), 1), (19, .ireturn, 1), (20, .aload_n 0, 1), (21, .getfield 160, 3), (24, .iconst 1, 1), (25, .isub, 1), (26, .iload_n 1, 1), (27, .isub, 1), (28, .bipush 32, 2), (30, .irem, 1), (31, .istore_n 3, 1), (32, .iload_n 2, 1), (33, .tableswitch 70 0 4 #[35, 42, 49, 56, 63], 35), (68, .aload_n 0, 1), (69, .getfield 71, 3), (72, .iload_n 3, 1), (73, .iaload, 1), (74, .ireturn, 1), (75, .aload_n 0, 1), (76, .getfield 74, 3), (79, .iload_n 3, 1), (80, .iaload, 1), (81, .ireturn, 1), (82, .aload_n 0, 1), (83, .getfield 77, 3), (86, .iload_n 3, 1), (87, .iaload, 1), (88, .ireturn, 1), (89, .aload_n 0, 1), (90, .getfield 80, 3), (93, .iload_n 3, 1), (94, .iaload, 1), (95, .ireturn, 1), (96, .aload_n 0, 1), (97, .getfield 83, 3), (100, .iload_n 3, 1), (101, .iaload, 1), (102, .ireturn, 1), (103, .iconst (-1), 1), (104, .ireturn, 1)]
theorem dd_Mo_command_0 : dl_Mo_command_0.all (fun e => decide (decode prog_8_method_44_code e.1 = .ok e.2)) = true := by decide +kernel
theorem d_Mo_command_0 : decode prog_8_method_44_code 0 = .ok (.iload_n 1, 1) := kz_dr dd_Mo_command_0 0 rfl
theorem d_Mo_command_1 : decode prog_8_method_44_code 1 = .ok (.ifCond .lt 17, 3) := kz_dr dd_Mo_command_0 1 rfl
theorem d_Mo_command_4 : decode prog_8_method_44_code 4 = .ok (.iload_n 1, 1) := kz_dr dd_Mo_command_0 2 rfl
theorem d_Mo_command_5 : decode prog_8_method_44_code 5 = .ok (.bipush 31, 2) := kz_dr dd_Mo_command_0 3 rfl
theorem d_Mo_command_7 : decode prog_8_method_44_code 7 = .ok (.if_icmp .gt 11, 3) := kz_dr dd_Mo_command_0 4 rfl
theorem d_Mo_command_10 : decode prog_8_method_44_code 10 = .ok (.iload_n 1, 1) := kz_dr dd_Mo_command_0 5 rfl
theorem d_Mo_command_11 : decode prog_8_method_44_code 11 = .ok (.aload_n 0, 1) := kz_dr dd_Mo_command_0 6 rfl
theorem d_Mo_command_12 : decode prog_8_method_44_code 12 = .ok (.getfield 160, 3) := kz_dr dd_Mo_command_0 7 rfl
theorem d_Mo_command_15 : decode prog_8_method_44_code 15 = .ok (.if_icmp .lt 5, 3) := kz_dr dd_Mo_command_0 8 rfl
theorem d_Mo_command_18 : decode prog_8_method_44_code 18 = .ok (.iconst (-1), 1) := kz_dr dd_Mo_command_0 9 rfl
theorem d_Mo_command_19 : decode prog_8_method_44_code 19 = .ok (.ireturn, 1) := kz_dr dd_Mo_command_0 10 rfl
theorem d_Mo_command_20 : decode prog_8_method_44_code 20 = .ok (.aload_n 0, 1) := kz_dr dd_Mo_command_0 11 rfl
theorem d_Mo_command_21 : decode prog_8_method_44_code 21 = .ok (.getfield 160, 3) := kz_dr dd_Mo_command_0 12 rfl
theorem d_Mo_command_24 : decode prog_8_method_44_code 24 = .ok (.iconst 1, 1) := kz_dr dd_Mo_command_0 13 rfl
theorem d_Mo_command_25 : decode prog_8_method_44_code 25 = .ok (.isub, 1) := kz_dr dd_Mo_command_0 14 rfl
theorem d_Mo_command_26 : decode prog_8_method_44_code 26 = .ok (.iload_n 1, 1) := kz_dr dd_Mo_command_0 15 rfl
theorem d_Mo_command_27 : decode prog_8_method_44_code 27 = .ok (.isub, 1) := kz_dr dd_Mo_command_0 16 rfl
theorem d_Mo_command_28 : decode prog_8_method_44_code 28 = .ok (.bipush 32, 2) := kz_dr dd_Mo_command_0 17 rfl
theorem d_Mo_command_30 : decode prog_8_method_44_code 30 = .ok (.irem, 1) := kz_dr dd_Mo_command_0 18 rfl
theorem d_Mo_command_31 : decode prog_8_method_44_code 31 = .ok (.istore_n 3, 1) := kz_dr dd_Mo_command_0 19 rfl
theorem d_Mo_command_32 : decode prog_8_method_44_code 32 = .ok (.iload_n 2, 1) := kz_dr dd_Mo_command_0 20 rfl
theorem d_Mo_command_33 : decode prog_8_method_44_code 33 = .ok (.tableswitch 70 0 4 #[35, 42, 49, 56, 63], 35) := kz_dr dd_Mo_command_0 21 rfl
theorem d_Mo_command_68 : decode prog_8_method_44_code 68 = .ok (.aload_n 0, 1) := kz_dr dd_Mo_command_0 22 rfl
theorem d_Mo_command_69 : decode prog_8_method_44_code 69 = .ok (.getfield 71, 3) := kz_dr dd_Mo_command_0 23 rfl
theorem d_Mo_command_72 : decode prog_8_method_44_code 72 = .ok (.iload_n 3, 1) := kz_dr dd_Mo_command_0 24 rfl
theorem d_Mo_command_73 : decode prog_8_method_44_code 73 = .ok (.iaload, 1) := kz_dr dd_Mo_command_0 25 rfl
theorem d_Mo_command_74 : decode prog_8_method_44_code 74 = .ok (.ireturn, 1) := kz_dr dd_Mo_command_0 26 rfl
theorem d_Mo_command_75 : decode prog_8_method_44_code 75 = .ok (.aload_n 0, 1) := kz_dr dd_Mo_command_0 27 rfl
theorem d_Mo_command_76 : decode prog_8_method_44_code 76 = .ok (.getfield 74, 3) := kz_dr dd_Mo_command_0 28 rfl
theorem d_Mo_command_79 : decode prog_8_method_44_code 79 = .ok (.iload_n 3, 1) := kz_dr dd_Mo_command_0 29 rfl
theorem d_Mo_command_80 : decode prog_8_method_44_code 80 = .ok (.iaload, 1) := kz_dr dd_Mo_command_0 30 rfl
theorem d_Mo_command_81 : decode prog_8_method_44_code 81 = .ok (.ireturn, 1) := kz_dr dd_Mo_command_0 31 rfl
theorem d_Mo_command_82 : decode prog_8_method_44_code 82 = .ok (.aload_n 0, 1) := kz_dr dd_Mo_command_0 32 rfl
theorem d_Mo_command_83 : decode prog_8_method_44_code 83 = .ok (.getfield 77, 3) := kz_dr dd_Mo_command_0 33 rfl
theorem d_Mo_command_86 : decode prog_8_method_44_code 86 = .ok (.iload_n 3, 1) := kz_dr dd_Mo_command_0 34 rfl
theorem d_Mo_command_87 : decode prog_8_method_44_code 87 = .ok (.iaload, 1) := kz_dr dd_Mo_command_0 35 rfl
theorem d_Mo_command_88 : decode prog_8_method_44_code 88 = .ok (.ireturn, 1) := kz_dr dd_Mo_command_0 36 rfl
theorem d_Mo_command_89 : decode prog_8_method_44_code 89 = .ok (.aload_n 0, 1) := kz_dr dd_Mo_command_0 37 rfl
theorem d_Mo_command_90 : decode prog_8_method_44_code 90 = .ok (.getfield 80, 3) := kz_dr dd_Mo_command_0 38 rfl
theorem d_Mo_command_93 : decode prog_8_method_44_code 93 = .ok (.iload_n 3, 1) := kz_dr dd_Mo_command_0 39 rfl
theorem d_Mo_command_94 : decode prog_8_method_44_code 94 = .ok (.iaload, 1) := kz_dr dd_Mo_command_0 40 rfl
theorem d_Mo_command_95 : decode prog_8_method_44_code 95 = .ok (.ireturn, 1) := kz_dr dd_Mo_command_0 41 rfl
theorem d_Mo_command_96 : decode prog_8_method_44_code 96 = .ok (.aload_n 0, 1) := kz_dr dd_Mo_command_0 42 rfl
theorem d_Mo_command_97 : decode prog_8_method_44_code 97 = .ok (.getfield 83, 3) := kz_dr dd_Mo_command_0 43 rfl
theorem d_Mo_command_100 : decode prog_8_method_44_code 100 = .ok (.iload_n 3, 1) := kz_dr dd_Mo_command_0 44 rfl
theorem d_Mo_command_101 : decode prog_8_method_44_code 101 = .ok (.iaload, 1) := kz_dr dd_Mo_command_0 45 rfl
theorem d_Mo_command_102 : decode prog_8_method_44_code 102 = .ok (.ireturn, 1) := kz_dr dd_Mo_command_0 46 rfl
theorem d_Mo_command_103 : decode prog_8_method_44_code 103 = .ok (.iconst (-1), 1) := kz_dr dd_Mo_command_0 47 rfl
theorem d_Mo_command_104 : decode prog_8_method_44_code 104 = .ok (.ireturn, 1) := kz_dr dd_Mo_command_0 48 rfl
