/-! decode rows, by program (wip/whole/names.py) -/
theorem kz_dr {cc : ByteArray} {l : List (Nat × Instr × Nat)} (h : l.all (fun e => decide (decode cc e.1 = .ok e.2)) = true) (i : Nat) {pc : Nat} {ins : Instr} {n : Nat} (hi : l[i]? = some (pc, ins, n)) : decode cc pc = .ok (ins, n) := by
  have h1 := List.all_eq_true.mp h (pc, ins, n) (List.mem_of_getElem? hi)
  simpa using h1
def dl_Bk_init_0 : List (Nat × Instr × Nat) := [(0, .aload_n 0, 1), (1, .invokespecial 3, 3), (4, .aload_n 0, 1), (5, .iconst 2, 1), (6, .bipush 8, 2), (8, .iload_n 1, 1), (9, .invokestatic 9, 3), (12, .invokestatic 15, 3), (15, .putfield 18, 3), (18, .aload_n 0, 1), (19, .iconst 0, 1), (20, .sipush 300, 3), (23, .iload_n 2, 1), (24, .invokestatic 9, 3), (27, .invokestatic 15, 3), (30, .putfield 22, 3), (33, .aload_n 0, 1), (34, .new 25, 3), (37, .dup, 1), (38, .invokespecial 27, 3), (41, .putfield 28, 3), (44, .aload_n 0, 1), (45, .new 32, 3), (48, .dup, 1), (49, .invokespecial 34, 3), (52, .putfield 35, 3), (55, .aload_n 0, 1), (56, .new 39, 3), (59, .dup, 1), (60, .invokespecial 41, 3), (63, .putfield 42, 3), (66, .aload_n 0, 1), (67, .new 46, 3), (70, .dup, 1), (71, .invokespecial 48, 3), (74, .putfield 49, 3), (77, .aload_n 0, 1), (78, .new 46, 3), (81, .dup, 1), (82, .invokespecial 48, 3), (85, .putfield 53, 3), (88, .aload_n 0, 1), (89, .new 46, 3), (92, .dup, 1), (93, .invokespecial 48, 3), (96, .putfield 56, 3), (99, .aload_n 0, 1), (100, .new 59, 3), (103, .dup, 1), (104, .invokespecial 61, 3), (107, .putfield 62, 3), (110, .return_, 1)]
theorem dd_Bk_init_0 : dl_Bk_init_0.all (fun e => decide (decode prog_1_method_1_code e.1 = .ok e.2)) = true := by decide +kernel
theorem d_Bk_init_0 : decode prog_1_method_1_code 0 = .ok (.aload_n 0, 1) := kz_dr dd_Bk_init_0 0 rfl
theorem d_Bk_init_1 : decode prog_1_method_1_code 1 = .ok (.invokespecial 3, 3) := kz_dr dd_Bk_init_0 1 rfl
theorem d_Bk_init_4 : decode prog_1_method_1_code 4 = .ok (.aload_n 0, 1) := kz_dr dd_Bk_init_0 2 rfl
theorem d_Bk_init_5 : decode prog_1_method_1_code 5 = .ok (.iconst 2, 1) := kz_dr dd_Bk_init_0 3 rfl
theorem d_Bk_init_6 : decode prog_1_method_1_code 6 = .ok (.bipush 8, 2) := kz_dr dd_Bk_init_0 4 rfl
theorem d_Bk_init_8 : decode prog_1_method_1_code 8 = .ok (.iload_n 1, 1) := kz_dr dd_Bk_init_0 5 rfl
theorem d_Bk_init_9 : decode prog_1_method_1_code 9 = .ok (.invokestatic 9, 3) := kz_dr dd_Bk_init_0 6 rfl
theorem d_Bk_init_12 : decode prog_1_method_1_code 12 = .ok (.invokestatic 15, 3) := kz_dr dd_Bk_init_0 7 rfl
theorem d_Bk_init_15 : decode prog_1_method_1_code 15 = .ok (.putfield 18, 3) := kz_dr dd_Bk_init_0 8 rfl
theorem d_Bk_init_18 : decode prog_1_method_1_code 18 = .ok (.aload_n 0, 1) := kz_dr dd_Bk_init_0 9 rfl
theorem d_Bk_init_19 : decode prog_1_method_1_code 19 = .ok (.iconst 0, 1) := kz_dr dd_Bk_init_0 10 rfl
theorem d_Bk_init_20 : decode prog_1_method_1_code 20 = .ok (.sipush 300, 3) := kz_dr dd_Bk_init_0 11 rfl
theorem d_Bk_init_23 : decode prog_1_method_1_code 23 = .ok (.iload_n 2, 1) := kz_dr dd_Bk_init_0 12 rfl
theorem d_Bk_init_24 : decode prog_1_method_1_code 24 = .ok (.invokestatic 9, 3) := kz_dr dd_Bk_init_0 13 rfl
theorem d_Bk_init_27 : decode prog_1_method_1_code 27 = .ok (.invokestatic 15, 3) := kz_dr dd_Bk_init_0 14 rfl
theorem d_Bk_init_30 : decode prog_1_method_1_code 30 = .ok (.putfield 22, 3) := kz_dr dd_Bk_init_0 15 rfl
theorem d_Bk_init_33 : decode prog_1_method_1_code 33 = .ok (.aload_n 0, 1) := kz_dr dd_Bk_init_0 16 rfl
theorem d_Bk_init_34 : decode prog_1_method_1_code 34 = .ok (.new 25, 3) := kz_dr dd_Bk_init_0 17 rfl
theorem d_Bk_init_37 : decode prog_1_method_1_code 37 = .ok (.dup, 1) := kz_dr dd_Bk_init_0 18 rfl
theorem d_Bk_init_38 : decode prog_1_method_1_code 38 = .ok (.invokespecial 27, 3) := kz_dr dd_Bk_init_0 19 rfl
theorem d_Bk_init_41 : decode prog_1_method_1_code 41 = .ok (.putfield 28, 3) := kz_dr dd_Bk_init_0 20 rfl
theorem d_Bk_init_44 : decode prog_1_method_1_code 44 = .ok (.aload_n 0, 1) := kz_dr dd_Bk_init_0 21 rfl
theorem d_Bk_init_45 : decode prog_1_method_1_code 45 = .ok (.new 32, 3) := kz_dr dd_Bk_init_0 22 rfl
theorem d_Bk_init_48 : decode prog_1_method_1_code 48 = .ok (.dup, 1) := kz_dr dd_Bk_init_0 23 rfl
theorem d_Bk_init_49 : decode prog_1_method_1_code 49 = .ok (.invokespecial 34, 3) := kz_dr dd_Bk_init_0 24 rfl
theorem d_Bk_init_52 : decode prog_1_method_1_code 52 = .ok (.putfield 35, 3) := kz_dr dd_Bk_init_0 25 rfl
theorem d_Bk_init_55 : decode prog_1_method_1_code 55 = .ok (.aload_n 0, 1) := kz_dr dd_Bk_init_0 26 rfl
theorem d_Bk_init_56 : decode prog_1_method_1_code 56 = .ok (.new 39, 3) := kz_dr dd_Bk_init_0 27 rfl
theorem d_Bk_init_59 : decode prog_1_method_1_code 59 = .ok (.dup, 1) := kz_dr dd_Bk_init_0 28 rfl
theorem d_Bk_init_60 : decode prog_1_method_1_code 60 = .ok (.invokespecial 41, 3) := kz_dr dd_Bk_init_0 29 rfl
theorem d_Bk_init_63 : decode prog_1_method_1_code 63 = .ok (.putfield 42, 3) := kz_dr dd_Bk_init_0 30 rfl
theorem d_Bk_init_66 : decode prog_1_method_1_code 66 = .ok (.aload_n 0, 1) := kz_dr dd_Bk_init_0 31 rfl
theorem d_Bk_init_67 : decode prog_1_method_1_code 67 = .ok (.new 46, 3) := kz_dr dd_Bk_init_0 32 rfl
theorem d_Bk_init_70 : decode prog_1_method_1_code 70 = .ok (.dup, 1) := kz_dr dd_Bk_init_0 33 rfl
theorem d_Bk_init_71 : decode prog_1_method_1_code 71 = .ok (.invokespecial 48, 3) := kz_dr dd_Bk_init_0 34 rfl
theorem d_Bk_init_74 : decode prog_1_method_1_code 74 = .ok (.putfield 49, 3) := kz_dr dd_Bk_init_0 35 rfl
theorem d_Bk_init_77 : decode prog_1_method_1_code 77 = .ok (.aload_n 0, 1) := kz_dr dd_Bk_init_0 36 rfl
theorem d_Bk_init_78 : decode prog_1_method_1_code 78 = .ok (.new 46, 3) := kz_dr dd_Bk_init_0 37 rfl
theorem d_Bk_init_81 : decode prog_1_method_1_code 81 = .ok (.dup, 1) := kz_dr dd_Bk_init_0 38 rfl
theorem d_Bk_init_82 : decode prog_1_method_1_code 82 = .ok (.invokespecial 48, 3) := kz_dr dd_Bk_init_0 39 rfl
theorem d_Bk_init_85 : decode prog_1_method_1_code 85 = .ok (.putfield 53, 3) := kz_dr dd_Bk_init_0 40 rfl
theorem d_Bk_init_88 : decode prog_1_method_1_code 88 = .ok (.aload_n 0, 1) := kz_dr dd_Bk_init_0 41 rfl
theorem d_Bk_init_89 : decode prog_1_method_1_code 89 = .ok (.new 46, 3) := kz_dr dd_Bk_init_0 42 rfl
theorem d_Bk_init_92 : decode prog_1_method_1_code 92 = .ok (.dup, 1) := kz_dr dd_Bk_init_0 43 rfl
theorem d_Bk_init_93 : decode prog_1_method_1_code 93 = .ok (.invokespecial 48, 3) := kz_dr dd_Bk_init_0 44 rfl
theorem d_Bk_init_96 : decode prog_1_method_1_code 96 = .ok (.putfield 56, 3) := kz_dr dd_Bk_init_0 45 rfl
theorem d_Bk_init_99 : decode prog_1_method_1_code 99 = .ok (.aload_n 0, 1) := kz_dr dd_Bk_init_0 46 rfl
theorem d_Bk_init_100 : decode prog_1_method_1_code 100 = .ok (.new 59, 3) := kz_dr dd_Bk_init_0 47 rfl
theorem d_Bk_init_103 : decode prog_1_method_1_code 103 = .ok (.dup, 1) := kz_dr dd_Bk_init_0 48 rfl
theorem d_Bk_init_104 : decode prog_1_method_1_code 104 = .ok (.invokespecial 61, 3) := kz_dr dd_Bk_init_0 49 rfl
theorem d_Bk_init_107 : decode prog_1_method_1_code 107 = .ok (.putfield 62, 3) := kz_dr dd_Bk_init_0 50 rfl
theorem d_Bk_init_110 : decode prog_1_method_1_code 110 = .ok (.return_, 1) := kz_dr dd_Bk_init_0 51 rfl
def dl_Ba_init_0 : List (Nat × Instr × Nat) := [(0, .aload_n 0, 1), (1, .invokespecial 3, 3), (4, .aload_n 0, 1), (5, .getstatic 9, 3), (8, .invokevirtual 13, 3), (11, .checkcast 14, 3), (14, .putfield 18, 3), (17, .aload_n 0, 1), (18, .iconst 4, 1), (19, .newarray .int, 2), (21, .putfield 23, 3), (24, .aload_n 0, 1), (25, .iconst 4, 1), (26, .newarray .int, 2), (28, .putfield 26, 3), (31, .aload_n 0, 1), (32, .iconst 4, 1), (33, .newarray .int, 2), (35, .putfield 29, 3), (38, .aload_n 0, 1), (39, .iconst 4, 1), (40, .newarray .int, 2), (42, .putfield 32, 3), (45, .aload_n 0, 1), (46, .iconst 4, 1), (47, .newarray .int, 2), (49, .putfield 35, 3), (52, .aload_n 0, 1), (53, .iconst 4, 1), (54, .newarray .int, 2), (56, .putfield 38, 3), (59, .aload_n 0, 1), (60, .ldc 41, 2), (62, .putfield 42, 3), (65, .aload_n 0, 1), (66, .ldc 41, 2), (68, .putfield 46, 3), (71, .aload_n 0, 1), (72, .ldc 41, 2), (74, .putfield 49, 3), (77, .aload_n 0, 1), (78, .ldc 41, 2), (80, .putfield 52, 3), (83, .iconst 0, 1), (84, .istore_n 1, 1), (85, .iload_n 1, 1), (86, .iconst 4, 1), (87, .if_icmp .ge 48, 3), (90, .aload_n 0, 1), (91, .getfield 23, 3), (94, .iload_n 1, 1), (95, .iconst (-1), 1), (96, .iastore, 1), (97, .aload_n 0, 1), (98, .getfield 26, 3), (101, .iload_n 1, 1), (102, .ldc 41, 2), (104, .iastore, 1), (105, .aload_n 0, 1), (106, .getfield 29, 3)]
theorem dd_Ba_init_0 : dl_Ba_init_0.all (fun e => decide (decode prog_2_method_1_code e.1 = .ok e.2)) = true := by decide +kernel
theorem d_Ba_init_0 : decode prog_2_method_1_code 0 = .ok (.aload_n 0, 1) := kz_dr dd_Ba_init_0 0 rfl
theorem d_Ba_init_1 : decode prog_2_method_1_code 1 = .ok (.invokespecial 3, 3) := kz_dr dd_Ba_init_0 1 rfl
theorem d_Ba_init_4 : decode prog_2_method_1_code 4 = .ok (.aload_n 0, 1) := kz_dr dd_Ba_init_0 2 rfl
theorem d_Ba_init_5 : decode prog_2_method_1_code 5 = .ok (.getstatic 9, 3) := kz_dr dd_Ba_init_0 3 rfl
theorem d_Ba_init_8 : decode prog_2_method_1_code 8 = .ok (.invokevirtual 13, 3) := kz_dr dd_Ba_init_0 4 rfl
theorem d_Ba_init_11 : decode prog_2_method_1_code 11 = .ok (.checkcast 14, 3) := kz_dr dd_Ba_init_0 5 rfl
theorem d_Ba_init_14 : decode prog_2_method_1_code 14 = .ok (.putfield 18, 3) := kz_dr dd_Ba_init_0 6 rfl
theorem d_Ba_init_17 : decode prog_2_method_1_code 17 = .ok (.aload_n 0, 1) := kz_dr dd_Ba_init_0 7 rfl
theorem d_Ba_init_18 : decode prog_2_method_1_code 18 = .ok (.iconst 4, 1) := kz_dr dd_Ba_init_0 8 rfl
theorem d_Ba_init_19 : decode prog_2_method_1_code 19 = .ok (.newarray .int, 2) := kz_dr dd_Ba_init_0 9 rfl
theorem d_Ba_init_21 : decode prog_2_method_1_code 21 = .ok (.putfield 23, 3) := kz_dr dd_Ba_init_0 10 rfl
theorem d_Ba_init_24 : decode prog_2_method_1_code 24 = .ok (.aload_n 0, 1) := kz_dr dd_Ba_init_0 11 rfl
theorem d_Ba_init_25 : decode prog_2_method_1_code 25 = .ok (.iconst 4, 1) := kz_dr dd_Ba_init_0 12 rfl
theorem d_Ba_init_26 : decode prog_2_method_1_code 26 = .ok (.newarray .int, 2) := kz_dr dd_Ba_init_0 13 rfl
theorem d_Ba_init_28 : decode prog_2_method_1_code 28 = .ok (.putfield 26, 3) := kz_dr dd_Ba_init_0 14 rfl
theorem d_Ba_init_31 : decode prog_2_method_1_code 31 = .ok (.aload_n 0, 1) := kz_dr dd_Ba_init_0 15 rfl
theorem d_Ba_init_32 : decode prog_2_method_1_code 32 = .ok (.iconst 4, 1) := kz_dr dd_Ba_init_0 16 rfl
theorem d_Ba_init_33 : decode prog_2_method_1_code 33 = .ok (.newarray .int, 2) := kz_dr dd_Ba_init_0 17 rfl
theorem d_Ba_init_35 : decode prog_2_method_1_code 35 = .ok (.putfield 29, 3) := kz_dr dd_Ba_init_0 18 rfl
theorem d_Ba_init_38 : decode prog_2_method_1_code 38 = .ok (.aload_n 0, 1) := kz_dr dd_Ba_init_0 19 rfl
theorem d_Ba_init_39 : decode prog_2_method_1_code 39 = .ok (.iconst 4, 1) := kz_dr dd_Ba_init_0 20 rfl
theorem d_Ba_init_40 : decode prog_2_method_1_code 40 = .ok (.newarray .int, 2) := kz_dr dd_Ba_init_0 21 rfl
theorem d_Ba_init_42 : decode prog_2_method_1_code 42 = .ok (.putfield 32, 3) := kz_dr dd_Ba_init_0 22 rfl
theorem d_Ba_init_45 : decode prog_2_method_1_code 45 = .ok (.aload_n 0, 1) := kz_dr dd_Ba_init_0 23 rfl
theorem d_Ba_init_46 : decode prog_2_method_1_code 46 = .ok (.iconst 4, 1) := kz_dr dd_Ba_init_0 24 rfl
theorem d_Ba_init_47 : decode prog_2_method_1_code 47 = .ok (.newarray .int, 2) := kz_dr dd_Ba_init_0 25 rfl
theorem d_Ba_init_49 : decode prog_2_method_1_code 49 = .ok (.putfield 35, 3) := kz_dr dd_Ba_init_0 26 rfl
theorem d_Ba_init_52 : decode prog_2_method_1_code 52 = .ok (.aload_n 0, 1) := kz_dr dd_Ba_init_0 27 rfl
theorem d_Ba_init_53 : decode prog_2_method_1_code 53 = .ok (.iconst 4, 1) := kz_dr dd_Ba_init_0 28 rfl
theorem d_Ba_init_54 : decode prog_2_method_1_code 54 = .ok (.newarray .int, 2) := kz_dr dd_Ba_init_0 29 rfl
theorem d_Ba_init_56 : decode prog_2_method_1_code 56 = .ok (.putfield 38, 3) := kz_dr dd_Ba_init_0 30 rfl
theorem d_Ba_init_59 : decode prog_2_method_1_code 59 = .ok (.aload_n 0, 1) := kz_dr dd_Ba_init_0 31 rfl
theorem d_Ba_init_60 : decode prog_2_method_1_code 60 = .ok (.ldc 41, 2) := kz_dr dd_Ba_init_0 32 rfl
theorem d_Ba_init_62 : decode prog_2_method_1_code 62 = .ok (.putfield 42, 3) := kz_dr dd_Ba_init_0 33 rfl
theorem d_Ba_init_65 : decode prog_2_method_1_code 65 = .ok (.aload_n 0, 1) := kz_dr dd_Ba_init_0 34 rfl
theorem d_Ba_init_66 : decode prog_2_method_1_code 66 = .ok (.ldc 41, 2) := kz_dr dd_Ba_init_0 35 rfl
theorem d_Ba_init_68 : decode prog_2_method_1_code 68 = .ok (.putfield 46, 3) := kz_dr dd_Ba_init_0 36 rfl
theorem d_Ba_init_71 : decode prog_2_method_1_code 71 = .ok (.aload_n 0, 1) := kz_dr dd_Ba_init_0 37 rfl
theorem d_Ba_init_72 : decode prog_2_method_1_code 72 = .ok (.ldc 41, 2) := kz_dr dd_Ba_init_0 38 rfl
theorem d_Ba_init_74 : decode prog_2_method_1_code 74 = .ok (.putfield 49, 3) := kz_dr dd_Ba_init_0 39 rfl
theorem d_Ba_init_77 : decode prog_2_method_1_code 77 = .ok (.aload_n 0, 1) := kz_dr dd_Ba_init_0 40 rfl
theorem d_Ba_init_78 : decode prog_2_method_1_code 78 = .ok (.ldc 41, 2) := kz_dr dd_Ba_init_0 41 rfl
theorem d_Ba_init_80 : decode prog_2_method_1_code 80 = .ok (.putfield 52, 3) := kz_dr dd_Ba_init_0 42 rfl
theorem d_Ba_init_83 : decode prog_2_method_1_code 83 = .ok (.iconst 0, 1) := kz_dr dd_Ba_init_0 43 rfl
theorem d_Ba_init_84 : decode prog_2_method_1_code 84 = .ok (.istore_n 1, 1) := kz_dr dd_Ba_init_0 44 rfl
theorem d_Ba_init_85 : decode prog_2_method_1_code 85 = .ok (.iload_n 1, 1) := kz_dr dd_Ba_init_0 45 rfl
theorem d_Ba_init_86 : decode prog_2_method_1_code 86 = .ok (.iconst 4, 1) := kz_dr dd_Ba_init_0 46 rfl
theorem d_Ba_init_87 : decode prog_2_method_1_code 87 = .ok (.if_icmp .ge 48, 3) := kz_dr dd_Ba_init_0 47 rfl
theorem d_Ba_init_90 : decode prog_2_method_1_code 90 = .ok (.aload_n 0, 1) := kz_dr dd_Ba_init_0 48 rfl
theorem d_Ba_init_91 : decode prog_2_method_1_code 91 = .ok (.getfield 23, 3) := kz_dr dd_Ba_init_0 49 rfl
theorem d_Ba_init_94 : decode prog_2_method_1_code 94 = .ok (.iload_n 1, 1) := kz_dr dd_Ba_init_0 50 rfl
theorem d_Ba_init_95 : decode prog_2_method_1_code 95 = .ok (.iconst (-1), 1) := kz_dr dd_Ba_init_0 51 rfl
theorem d_Ba_init_96 : decode prog_2_method_1_code 96 = .ok (.iastore, 1) := kz_dr dd_Ba_init_0 52 rfl
theorem d_Ba_init_97 : decode prog_2_method_1_code 97 = .ok (.aload_n 0, 1) := kz_dr dd_Ba_init_0 53 rfl
theorem d_Ba_init_98 : decode prog_2_method_1_code 98 = .ok (.getfield 26, 3) := kz_dr dd_Ba_init_0 54 rfl
theorem d_Ba_init_101 : decode prog_2_method_1_code 101 = .ok (.iload_n 1, 1) := kz_dr dd_Ba_init_0 55 rfl
theorem d_Ba_init_102 : decode prog_2_method_1_code 102 = .ok (.ldc 41, 2) := kz_dr dd_Ba_init_0 56 rfl
theorem d_Ba_init_104 : decode prog_2_method_1_code 104 = .ok (.iastore, 1) := kz_dr dd_Ba_init_0 57 rfl
theorem d_Ba_init_105 : decode prog_2_method_1_code 105 = .ok (.aload_n 0, 1) := kz_dr dd_Ba_init_0 58 rfl
theorem d_Ba_init_106 : decode prog_2_method_1_code 106 = .ok (.getfield 29, 3) := kz_dr dd_Ba_init_0 59 rfl
def dl_Ba_init_1 : List (Nat × Instr × Nat) := [(109, .iload_n 1, 1), (110, .ldc 41, 2), (112, .iastore, 1), (113, .aload_n 0, 1), (114, .getfield 32, 3), (117, .iload_n 1, 1), (118, .ldc 41, 2), (120, .iastore, 1), (121, .aload_n 0, 1), (122, .getfield 35, 3), (125, .iload_n 1, 1), (126, .ldc 41, 2), (128, .iastore, 1), (129, .iinc 1 1, 3), (132, .goto (-47), 3), (135, .iconst 0, 1), (136, .istore_n 1, 1), (137, .iload_n 1, 1), (138, .iconst 4, 1), (139, .if_icmp .ge 17, 3), (142, .aload_n 0, 1), (143, .getfield 38, 3), (146, .iload_n 1, 1), (147, .ldc 41, 2), (149, .iastore, 1), (150, .iinc 1 1, 3), (153, .goto (-16), 3), (156, .return_, 1)]
theorem dd_Ba_init_1 : dl_Ba_init_1.all (fun e => decide (decode prog_2_method_1_code e.1 = .ok e.2)) = true := by decide +kernel
theorem d_Ba_init_109 : decode prog_2_method_1_code 109 = .ok (.iload_n 1, 1) := kz_dr dd_Ba_init_1 0 rfl
theorem d_Ba_init_110 : decode prog_2_method_1_code 110 = .ok (.ldc 41, 2) := kz_dr dd_Ba_init_1 1 rfl
theorem d_Ba_init_112 : decode prog_2_method_1_code 112 = .ok (.iastore, 1) := kz_dr dd_Ba_init_1 2 rfl
theorem d_Ba_init_113 : decode prog_2_method_1_code 113 = .ok (.aload_n 0, 1) := kz_dr dd_Ba_init_1 3 rfl
theorem d_Ba_init_114 : decode prog_2_method_1_code 114 = .ok (.getfield 32, 3) := kz_dr dd_Ba_init_1 4 rfl
theorem d_Ba_init_117 : decode prog_2_method_1_code 117 = .ok (.iload_n 1, 1) := kz_dr dd_Ba_init_1 5 rfl
theorem d_Ba_init_118 : decode prog_2_method_1_code 118 = .ok (.ldc 41, 2) := kz_dr dd_Ba_init_1 6 rfl
theorem d_Ba_init_120 : decode prog_2_method_1_code 120 = .ok (.iastore, 1) := kz_dr dd_Ba_init_1 7 rfl
theorem d_Ba_init_121 : decode prog_2_method_1_code 121 = .ok (.aload_n 0, 1) := kz_dr dd_Ba_init_1 8 rfl
theorem d_Ba_init_122 : decode prog_2_method_1_code 122 = .ok (.getfield 35, 3) := kz_dr dd_Ba_init_1 9 rfl
theorem d_Ba_init_125 : decode prog_2_method_1_code 125 = .ok (.iload_n 1, 1) := kz_dr dd_Ba_init_1 10 rfl
theorem d_Ba_init_126 : decode prog_2_method_1_code 126 = .ok (.ldc 41, 2) := kz_dr dd_Ba_init_1 11 rfl
theorem d_Ba_init_128 : decode prog_2_method_1_code 128 = .ok (.iastore, 1) := kz_dr dd_Ba_init_1 12 rfl
theorem d_Ba_init_129 : decode prog_2_method_1_code 129 = .ok (.iinc 1 1, 3) := kz_dr dd_Ba_init_1 13 rfl
theorem d_Ba_init_132 : decode prog_2_method_1_code 132 = .ok (.goto (-47), 3) := kz_dr dd_Ba_init_1 14 rfl
theorem d_Ba_init_135 : decode prog_2_method_1_code 135 = .ok (.iconst 0, 1) := kz_dr dd_Ba_init_1 15 rfl
theorem d_Ba_init_136 : decode prog_2_method_1_code 136 = .ok (.istore_n 1, 1) := kz_dr dd_Ba_init_1 16 rfl
theorem d_Ba_init_137 : decode prog_2_method_1_code 137 = .ok (.iload_n 1, 1) := kz_dr dd_Ba_init_1 17 rfl
theorem d_Ba_init_138 : decode prog_2_method_1_code 138 = .ok (.iconst 4, 1) := kz_dr dd_Ba_init_1 18 rfl
theorem d_Ba_init_139 : decode prog_2_method_1_code 139 = .ok (.if_icmp .ge 17, 3) := kz_dr dd_Ba_init_1 19 rfl
theorem d_Ba_init_142 : decode prog_2_method_1_code 142 = .ok (.aload_n 0, 1) := kz_dr dd_Ba_init_1 20 rfl
theorem d_Ba_init_143 : decode prog_2_method_1_code 143 = .ok (.getfield 38, 3) := kz_dr dd_Ba_init_1 21 rfl
theorem d_Ba_init_146 : decode prog_2_method_1_code 146 = .ok (.iload_n 1, 1) := kz_dr dd_Ba_init_1 22 rfl
theorem d_Ba_init_147 : decode prog_2_method_1_code 147 = .ok (.ldc 41, 2) := kz_dr dd_Ba_init_1 23 rfl
theorem d_Ba_init_149 : decode prog_2_method_1_code 149 = .ok (.iastore, 1) := kz_dr dd_Ba_init_1 24 rfl
theorem d_Ba_init_150 : decode prog_2_method_1_code 150 = .ok (.iinc 1 1, 3) := kz_dr dd_Ba_init_1 25 rfl
theorem d_Ba_init_153 : decode prog_2_method_1_code 153 = .ok (.goto (-16), 3) := kz_dr dd_Ba_init_1 26 rfl
theorem d_Ba_init_156 : decode prog_2_method_1_code 156 = .ok (.return_, 1) := kz_dr dd_Ba_init_1 27 rfl
def dl_St_init_0 : List (Nat × Instr × Nat) := [(0, .aload_n 0, 1), (1, .invokespecial 3, 3), (4, .aload_n 0, 1), (5, .sipush 256, 3), (8, .newarray .long, 2), (10, .putfield 9, 3), (13, .aload_n 0, 1), (14, .sipush 256, 3), (17, .newarray .int, 2), (19, .putfield 15, 3), (22, .return_, 1)]
theorem dd_St_init_0 : dl_St_init_0.all (fun e => decide (decode prog_6_method_1_code e.1 = .ok e.2)) = true := by decide +kernel
theorem d_St_init_0 : decode prog_6_method_1_code 0 = .ok (.aload_n 0, 1) := kz_dr dd_St_init_0 0 rfl
theorem d_St_init_1 : decode prog_6_method_1_code 1 = .ok (.invokespecial 3, 3) := kz_dr dd_St_init_0 1 rfl
theorem d_St_init_4 : decode prog_6_method_1_code 4 = .ok (.aload_n 0, 1) := kz_dr dd_St_init_0 2 rfl
theorem d_St_init_5 : decode prog_6_method_1_code 5 = .ok (.sipush 256, 3) := kz_dr dd_St_init_0 3 rfl
theorem d_St_init_8 : decode prog_6_method_1_code 8 = .ok (.newarray .long, 2) := kz_dr dd_St_init_0 4 rfl
theorem d_St_init_10 : decode prog_6_method_1_code 10 = .ok (.putfield 9, 3) := kz_dr dd_St_init_0 5 rfl
theorem d_St_init_13 : decode prog_6_method_1_code 13 = .ok (.aload_n 0, 1) := kz_dr dd_St_init_0 6 rfl
theorem d_St_init_14 : decode prog_6_method_1_code 14 = .ok (.sipush 256, 3) := kz_dr dd_St_init_0 7 rfl
theorem d_St_init_17 : decode prog_6_method_1_code 17 = .ok (.newarray .int, 2) := kz_dr dd_St_init_0 8 rfl
theorem d_St_init_19 : decode prog_6_method_1_code 19 = .ok (.putfield 15, 3) := kz_dr dd_St_init_0 9 rfl
theorem d_St_init_22 : decode prog_6_method_1_code 22 = .ok (.return_, 1) := kz_dr dd_St_init_0 10 rfl
def dl_Re_init_0 : List (Nat × Instr × Nat) := [(0, .aload_n 0, 1), (1, .invokespecial 3, 3), (4, .aload_n 0, 1), (5, .sipush 400, 3), (8, .newarray .int, 2), (10, .putfield 9, 3), (13, .aload_n 0, 1), (14, .sipush 400, 3), (17, .newarray .boolean, 2), (19, .putfield 15, 3), (22, .aload_n 0, 1), (23, .sipush 400, 3), (26, .newarray .int, 2), (28, .putfield 19, 3), (31, .aload_n 0, 1), (32, .sipush 400, 3), (35, .newarray .long, 2), (37, .putfield 22, 3), (40, .aload_n 0, 1), (41, .sipush 400, 3), (44, .newarray .int, 2), (46, .putfield 26, 3), (49, .aload_n 0, 1), (50, .sipush 400, 3), (53, .newarray .int, 2), (55, .putfield 29, 3), (58, .return_, 1)]
theorem dd_Re_init_0 : dl_Re_init_0.all (fun e => decide (decode prog_5_method_1_code e.1 = .ok e.2)) = true := by decide +kernel
theorem d_Re_init_0 : decode prog_5_method_1_code 0 = .ok (.aload_n 0, 1) := kz_dr dd_Re_init_0 0 rfl
theorem d_Re_init_1 : decode prog_5_method_1_code 1 = .ok (.invokespecial 3, 3) := kz_dr dd_Re_init_0 1 rfl
theorem d_Re_init_4 : decode prog_5_method_1_code 4 = .ok (.aload_n 0, 1) := kz_dr dd_Re_init_0 2 rfl
theorem d_Re_init_5 : decode prog_5_method_1_code 5 = .ok (.sipush 400, 3) := kz_dr dd_Re_init_0 3 rfl
theorem d_Re_init_8 : decode prog_5_method_1_code 8 = .ok (.newarray .int, 2) := kz_dr dd_Re_init_0 4 rfl
theorem d_Re_init_10 : decode prog_5_method_1_code 10 = .ok (.putfield 9, 3) := kz_dr dd_Re_init_0 5 rfl
theorem d_Re_init_13 : decode prog_5_method_1_code 13 = .ok (.aload_n 0, 1) := kz_dr dd_Re_init_0 6 rfl
theorem d_Re_init_14 : decode prog_5_method_1_code 14 = .ok (.sipush 400, 3) := kz_dr dd_Re_init_0 7 rfl
theorem d_Re_init_17 : decode prog_5_method_1_code 17 = .ok (.newarray .boolean, 2) := kz_dr dd_Re_init_0 8 rfl
theorem d_Re_init_19 : decode prog_5_method_1_code 19 = .ok (.putfield 15, 3) := kz_dr dd_Re_init_0 9 rfl
theorem d_Re_init_22 : decode prog_5_method_1_code 22 = .ok (.aload_n 0, 1) := kz_dr dd_Re_init_0 10 rfl
theorem d_Re_init_23 : decode prog_5_method_1_code 23 = .ok (.sipush 400, 3) := kz_dr dd_Re_init_0 11 rfl
theorem d_Re_init_26 : decode prog_5_method_1_code 26 = .ok (.newarray .int, 2) := kz_dr dd_Re_init_0 12 rfl
theorem d_Re_init_28 : decode prog_5_method_1_code 28 = .ok (.putfield 19, 3) := kz_dr dd_Re_init_0 13 rfl
theorem d_Re_init_31 : decode prog_5_method_1_code 31 = .ok (.aload_n 0, 1) := kz_dr dd_Re_init_0 14 rfl
theorem d_Re_init_32 : decode prog_5_method_1_code 32 = .ok (.sipush 400, 3) := kz_dr dd_Re_init_0 15 rfl
theorem d_Re_init_35 : decode prog_5_method_1_code 35 = .ok (.newarray .long, 2) := kz_dr dd_Re_init_0 16 rfl
theorem d_Re_init_37 : decode prog_5_method_1_code 37 = .ok (.putfield 22, 3) := kz_dr dd_Re_init_0 17 rfl
theorem d_Re_init_40 : decode prog_5_method_1_code 40 = .ok (.aload_n 0, 1) := kz_dr dd_Re_init_0 18 rfl
theorem d_Re_init_41 : decode prog_5_method_1_code 41 = .ok (.sipush 400, 3) := kz_dr dd_Re_init_0 19 rfl
theorem d_Re_init_44 : decode prog_5_method_1_code 44 = .ok (.newarray .int, 2) := kz_dr dd_Re_init_0 20 rfl
theorem d_Re_init_46 : decode prog_5_method_1_code 46 = .ok (.putfield 26, 3) := kz_dr dd_Re_init_0 21 rfl
theorem d_Re_init_49 : decode prog_5_method_1_code 49 = .ok (.aload_n 0, 1) := kz_dr dd_Re_init_0 22 rfl
theorem d_Re_init_50 : decode prog_5_method_1_code 50 = .ok (.sipush 400, 3) := kz_dr dd_Re_init_0 23 rfl
theorem d_Re_init_53 : decode prog_5_method_1_code 53 = .ok (.newarray .int, 2) := kz_dr dd_Re_init_0 24 rfl
theorem d_Re_init_55 : decode prog_5_method_1_code 55 = .ok (.putfield 29, 3) := kz_dr dd_Re_init_0 25 rfl
theorem d_Re_init_58 : decode prog_5_method_1_code 58 = .ok (.return_, 1) := kz_dr dd_Re_init_0 26 rfl
def dl_Li_init_0 : List (Nat × Instr × Nat) := [(0, .aload_n 0, 1), (1, .invokespecial 3, 3), (4, .aload_n 0, 1), (5, .bipush 8, 2), (7, .newarray .int, 2), (9, .putfield 9, 3), (12, .return_, 1)]
theorem dd_Li_init_0 : dl_Li_init_0.all (fun e => decide (decode prog_4_method_1_code e.1 = .ok e.2)) = true := by decide +kernel
theorem d_Li_init_0 : decode prog_4_method_1_code 0 = .ok (.aload_n 0, 1) := kz_dr dd_Li_init_0 0 rfl
theorem d_Li_init_1 : decode prog_4_method_1_code 1 = .ok (.invokespecial 3, 3) := kz_dr dd_Li_init_0 1 rfl
theorem d_Li_init_4 : decode prog_4_method_1_code 4 = .ok (.aload_n 0, 1) := kz_dr dd_Li_init_0 2 rfl
theorem d_Li_init_5 : decode prog_4_method_1_code 5 = .ok (.bipush 8, 2) := kz_dr dd_Li_init_0 3 rfl
theorem d_Li_init_7 : decode prog_4_method_1_code 7 = .ok (.newarray .int, 2) := kz_dr dd_Li_init_0 4 rfl
theorem d_Li_init_9 : decode prog_4_method_1_code 9 = .ok (.putfield 9, 3) := kz_dr dd_Li_init_0 5 rfl
theorem d_Li_init_12 : decode prog_4_method_1_code 12 = .ok (.return_, 1) := kz_dr dd_Li_init_0 6 rfl
def dl_Jo_init_0 : List (Nat × Instr × Nat) := [(0, .aload_n 0, 1), (1, .invokespecial 1, 3), (4, .aload_n 0, 1), (5, .bipush 32, 2), (7, .iconst 5, 1), (8, .multianewarray 9 2, 4), (12, .putfield 11, 3), (15, .return_, 1)]
theorem dd_Jo_init_0 : dl_Jo_init_0.all (fun e => decide (decode prog_3_method_1_code e.1 = .ok e.2)) = true := by decide +kernel
theorem d_Jo_init_0 : decode prog_3_method_1_code 0 = .ok (.aload_n 0, 1) := kz_dr dd_Jo_init_0 0 rfl
theorem d_Jo_init_1 : decode prog_3_method_1_code 1 = .ok (.invokespecial 1, 3) := kz_dr dd_Jo_init_0 1 rfl
theorem d_Jo_init_4 : decode prog_3_method_1_code 4 = .ok (.aload_n 0, 1) := kz_dr dd_Jo_init_0 2 rfl
theorem d_Jo_init_5 : decode prog_3_method_1_code 5 = .ok (.bipush 32, 2) := kz_dr dd_Jo_init_0 3 rfl
theorem d_Jo_init_7 : decode prog_3_method_1_code 7 = .ok (.iconst 5, 1) := kz_dr dd_Jo_init_0 4 rfl
theorem d_Jo_init_8 : decode prog_3_method_1_code 8 = .ok (.multianewarray 9 2, 4) := kz_dr dd_Jo_init_0 5 rfl
theorem d_Jo_init_12 : decode prog_3_method_1_code 12 = .ok (.putfield 11, 3) := kz_dr dd_Jo_init_0 6 rfl
theorem d_Jo_init_15 : decode prog_3_method_1_code 15 = .ok (.return_, 1) := kz_dr dd_Jo_init_0 7 rfl
def dl_Bk_timing_0 : List (Nat × Instr × Nat) := [(0, .aload_n 0, 1), (1, .getfield 66, 3), (4, .ifCond .ne 19, 3), (7, .aload_n 0, 1), (8, .getfield 28, 3), (11, .iload_n 1, 1), (12, .iload_n 2, 1), (13, .invokevirtual 69, 3), (16, .ifCond .eq 7, 3), (19, .iconst 1, 1), (20, .goto 4, 3), (23, .iconst 0, 1), (24, .ireturn, 1)]
theorem dd_Bk_timing_0 : dl_Bk_timing_0.all (fun e => decide (decode prog_1_method_2_code e.1 = .ok e.2)) = true := by decide +kernel
theorem d_Bk_timing_0 : decode prog_1_method_2_code 0 = .ok (.aload_n 0, 1) := kz_dr dd_Bk_timing_0 0 rfl
theorem d_Bk_timing_1 : decode prog_1_method_2_code 1 = .ok (.getfield 66, 3) := kz_dr dd_Bk_timing_0 1 rfl
theorem d_Bk_timing_4 : decode prog_1_method_2_code 4 = .ok (.ifCond .ne 19, 3) := kz_dr dd_Bk_timing_0 2 rfl
theorem d_Bk_timing_7 : decode prog_1_method_2_code 7 = .ok (.aload_n 0, 1) := kz_dr dd_Bk_timing_0 3 rfl
theorem d_Bk_timing_8 : decode prog_1_method_2_code 8 = .ok (.getfield 28, 3) := kz_dr dd_Bk_timing_0 4 rfl
theorem d_Bk_timing_11 : decode prog_1_method_2_code 11 = .ok (.iload_n 1, 1) := kz_dr dd_Bk_timing_0 5 rfl
theorem d_Bk_timing_12 : decode prog_1_method_2_code 12 = .ok (.iload_n 2, 1) := kz_dr dd_Bk_timing_0 6 rfl
theorem d_Bk_timing_13 : decode prog_1_method_2_code 13 = .ok (.invokevirtual 69, 3) := kz_dr dd_Bk_timing_0 7 rfl
theorem d_Bk_timing_16 : decode prog_1_method_2_code 16 = .ok (.ifCond .eq 7, 3) := kz_dr dd_Bk_timing_0 8 rfl
theorem d_Bk_timing_19 : decode prog_1_method_2_code 19 = .ok (.iconst 1, 1) := kz_dr dd_Bk_timing_0 9 rfl
theorem d_Bk_timing_20 : decode prog_1_method_2_code 20 = .ok (.goto 4, 3) := kz_dr dd_Bk_timing_0 10 rfl
theorem d_Bk_timing_23 : decode prog_1_method_2_code 23 = .ok (.iconst 0, 1) := kz_dr dd_Bk_timing_0 11 rfl
theorem d_Bk_timing_24 : decode prog_1_method_2_code 24 = .ok (.ireturn, 1) := kz_dr dd_Bk_timing_0 12 rfl
def dl_Ba_setTiming_0 : List (Nat × Instr × Nat) := [(0, .iload_n 1, 1), (1, .ifCond .lt 12, 3), (4, .iload_n 1, 1), (5, .aload_n 0, 1), (6, .getfield 18, 3), (9, .arraylength, 1), (10, .if_icmp .lt 5, 3), (13, .iconst 0, 1), (14, .ireturn, 1), (15, .iload_n 1, 1), (16, .bipush 13, 2), (18, .if_icmp .ne 8, 3), (21, .bipush 60, 2), (23, .goto 4, 3), (26, .iconst 1, 1), (27, .istore_n 3, 1), (28, .iload_n 1, 1), (29, .bipush 13, 2), (31, .if_icmp .ne 9, 3), (34, .sipush 400, 3), (37, .goto 5, 3), (40, .bipush 30, 2), (42, .istore 4, 2), (44, .iload_n 2, 1), (45, .iload_n 3, 1), (46, .if_icmp .lt 9, 3), (49, .iload_n 2, 1), (50, .iload 4, 2), (52, .if_icmp .le 5, 3), (55, .iconst 0, 1), (56, .ireturn, 1), (57, .aload_n 0, 1), (58, .getfield 18, 3), (61, .iload_n 1, 1), (62, .iload_n 2, 1), (63, .iastore, 1), (64, .iconst 1, 1), (65, .ireturn, 1)]
theorem dd_Ba_setTiming_0 : dl_Ba_setTiming_0.all (fun e => decide (decode prog_2_method_2_code e.1 = .ok e.2)) = true := by decide +kernel
theorem d_Ba_setTiming_0 : decode prog_2_method_2_code 0 = .ok (.iload_n 1, 1) := kz_dr dd_Ba_setTiming_0 0 rfl
theorem d_Ba_setTiming_1 : decode prog_2_method_2_code 1 = .ok (.ifCond .lt 12, 3) := kz_dr dd_Ba_setTiming_0 1 rfl
theorem d_Ba_setTiming_4 : decode prog_2_method_2_code 4 = .ok (.iload_n 1, 1) := kz_dr dd_Ba_setTiming_0 2 rfl
theorem d_Ba_setTiming_5 : decode prog_2_method_2_code 5 = .ok (.aload_n 0, 1) := kz_dr dd_Ba_setTiming_0 3 rfl
theorem d_Ba_setTiming_6 : decode prog_2_method_2_code 6 = .ok (.getfield 18, 3) := kz_dr dd_Ba_setTiming_0 4 rfl
theorem d_Ba_setTiming_9 : decode prog_2_method_2_code 9 = .ok (.arraylength, 1) := kz_dr dd_Ba_setTiming_0 5 rfl
theorem d_Ba_setTiming_10 : decode prog_2_method_2_code 10 = .ok (.if_icmp .lt 5, 3) := kz_dr dd_Ba_setTiming_0 6 rfl
theorem d_Ba_setTiming_13 : decode prog_2_method_2_code 13 = .ok (.iconst 0, 1) := kz_dr dd_Ba_setTiming_0 7 rfl
theorem d_Ba_setTiming_14 : decode prog_2_method_2_code 14 = .ok (.ireturn, 1) := kz_dr dd_Ba_setTiming_0 8 rfl
theorem d_Ba_setTiming_15 : decode prog_2_method_2_code 15 = .ok (.iload_n 1, 1) := kz_dr dd_Ba_setTiming_0 9 rfl
theorem d_Ba_setTiming_16 : decode prog_2_method_2_code 16 = .ok (.bipush 13, 2) := kz_dr dd_Ba_setTiming_0 10 rfl
theorem d_Ba_setTiming_18 : decode prog_2_method_2_code 18 = .ok (.if_icmp .ne 8, 3) := kz_dr dd_Ba_setTiming_0 11 rfl
theorem d_Ba_setTiming_21 : decode prog_2_method_2_code 21 = .ok (.bipush 60, 2) := kz_dr dd_Ba_setTiming_0 12 rfl
theorem d_Ba_setTiming_23 : decode prog_2_method_2_code 23 = .ok (.goto 4, 3) := kz_dr dd_Ba_setTiming_0 13 rfl
theorem d_Ba_setTiming_26 : decode prog_2_method_2_code 26 = .ok (.iconst 1, 1) := kz_dr dd_Ba_setTiming_0 14 rfl
theorem d_Ba_setTiming_27 : decode prog_2_method_2_code 27 = .ok (.istore_n 3, 1) := kz_dr dd_Ba_setTiming_0 15 rfl
theorem d_Ba_setTiming_28 : decode prog_2_method_2_code 28 = .ok (.iload_n 1, 1) := kz_dr dd_Ba_setTiming_0 16 rfl
theorem d_Ba_setTiming_29 : decode prog_2_method_2_code 29 = .ok (.bipush 13, 2) := kz_dr dd_Ba_setTiming_0 17 rfl
theorem d_Ba_setTiming_31 : decode prog_2_method_2_code 31 = .ok (.if_icmp .ne 9, 3) := kz_dr dd_Ba_setTiming_0 18 rfl
theorem d_Ba_setTiming_34 : decode prog_2_method_2_code 34 = .ok (.sipush 400, 3) := kz_dr dd_Ba_setTiming_0 19 rfl
theorem d_Ba_setTiming_37 : decode prog_2_method_2_code 37 = .ok (.goto 5, 3) := kz_dr dd_Ba_setTiming_0 20 rfl
theorem d_Ba_setTiming_40 : decode prog_2_method_2_code 40 = .ok (.bipush 30, 2) := kz_dr dd_Ba_setTiming_0 21 rfl
theorem d_Ba_setTiming_42 : decode prog_2_method_2_code 42 = .ok (.istore 4, 2) := kz_dr dd_Ba_setTiming_0 22 rfl
theorem d_Ba_setTiming_44 : decode prog_2_method_2_code 44 = .ok (.iload_n 2, 1) := kz_dr dd_Ba_setTiming_0 23 rfl
theorem d_Ba_setTiming_45 : decode prog_2_method_2_code 45 = .ok (.iload_n 3, 1) := kz_dr dd_Ba_setTiming_0 24 rfl
theorem d_Ba_setTiming_46 : decode prog_2_method_2_code 46 = .ok (.if_icmp .lt 9, 3) := kz_dr dd_Ba_setTiming_0 25 rfl
theorem d_Ba_setTiming_49 : decode prog_2_method_2_code 49 = .ok (.iload_n 2, 1) := kz_dr dd_Ba_setTiming_0 26 rfl
theorem d_Ba_setTiming_50 : decode prog_2_method_2_code 50 = .ok (.iload 4, 2) := kz_dr dd_Ba_setTiming_0 27 rfl
theorem d_Ba_setTiming_52 : decode prog_2_method_2_code 52 = .ok (.if_icmp .le 5, 3) := kz_dr dd_Ba_setTiming_0 28 rfl
theorem d_Ba_setTiming_55 : decode prog_2_method_2_code 55 = .ok (.iconst 0, 1) := kz_dr dd_Ba_setTiming_0 29 rfl
theorem d_Ba_setTiming_56 : decode prog_2_method_2_code 56 = .ok (.ireturn, 1) := kz_dr dd_Ba_setTiming_0 30 rfl
theorem d_Ba_setTiming_57 : decode prog_2_method_2_code 57 = .ok (.aload_n 0, 1) := kz_dr dd_Ba_setTiming_0 31 rfl
theorem d_Ba_setTiming_58 : decode prog_2_method_2_code 58 = .ok (.getfield 18, 3) := kz_dr dd_Ba_setTiming_0 32 rfl
theorem d_Ba_setTiming_61 : decode prog_2_method_2_code 61 = .ok (.iload_n 1, 1) := kz_dr dd_Ba_setTiming_0 33 rfl
theorem d_Ba_setTiming_62 : decode prog_2_method_2_code 62 = .ok (.iload_n 2, 1) := kz_dr dd_Ba_setTiming_0 34 rfl
theorem d_Ba_setTiming_63 : decode prog_2_method_2_code 63 = .ok (.iastore, 1) := kz_dr dd_Ba_setTiming_0 35 rfl
theorem d_Ba_setTiming_64 : decode prog_2_method_2_code 64 = .ok (.iconst 1, 1) := kz_dr dd_Ba_setTiming_0 36 rfl
theorem d_Ba_setTiming_65 : decode prog_2_method_2_code 65 = .ok (.ireturn, 1) := kz_dr dd_Ba_setTiming_0 37 rfl
def dl_Bk_read_0 : List (Nat × Instr × Nat) := [(0, .iload_n 1, 1), (1, .invokestatic 73, 3), (4, .ifCond .ne 5, 3), (7, .iconst (-1), 1), (8, .ireturn, 1), (9, .aload_n 0, 1), (10, .iload_n 1, 1), (11, .invokevirtual 77, 3), (14, .istore_n 2, 1), (15, .iload_n 2, 1), (16, .iconst (-1), 1), (17, .if_icmp .ne 20, 3), (20, .aload_n 0, 1), (21, .getfield 49, 3), (24, .invokevirtual 81, 3), (27, .aload_n 0, 1), (28, .getfield 18, 3), (31, .if_icmp .lt 6, 3), (34, .bipush (-2), 2), (36, .ireturn, 1), (37, .aload_n 0, 1), (38, .getfield 42, 3), (41, .invokevirtual 85, 3), (44, .ifCond .eq 6, 3), (47, .bipush (-3), 2), (49, .ireturn, 1), (50, .aload_n 0, 1), (51, .getfield 42, 3), (54, .iload_n 1, 1), (55, .iconst 0, 1), (56, .aload_n 0, 1), (57, .getfield 66, 3), (60, .invokevirtual 89, 3), (63, .istore_n 3, 1), (64, .iload_n 2, 1), (65, .iconst (-1), 1), (66, .if_icmp .ne 14, 3), (69, .aload_n 0, 1), (70, .getfield 49, 3), (73, .iload_n 3, 1), (74, .invokevirtual 93, 3), (77, .goto 21, 3), (80, .aload_n 0, 1), (81, .getfield 42, 3), (84, .iload_n 3, 1), (85, .aload_n 0, 1), (86, .getfield 42, 3), (89, .iload_n 2, 1), (90, .invokevirtual 97, 3), (93, .iconst 2, 1), (94, .iconst (-1), 1), (95, .invokevirtual 101, 3), (98, .iload_n 3, 1), (99, .ireturn, 1)]
theorem dd_Bk_read_0 : dl_Bk_read_0.all (fun e => decide (decode prog_1_method_3_code e.1 = .ok e.2)) = true := by decide +kernel
theorem d_Bk_read_0 : decode prog_1_method_3_code 0 = .ok (.iload_n 1, 1) := kz_dr dd_Bk_read_0 0 rfl
theorem d_Bk_read_1 : decode prog_1_method_3_code 1 = .ok (.invokestatic 73, 3) := kz_dr dd_Bk_read_0 1 rfl
theorem d_Bk_read_4 : decode prog_1_method_3_code 4 = .ok (.ifCond .ne 5, 3) := kz_dr dd_Bk_read_0 2 rfl
theorem d_Bk_read_7 : decode prog_1_method_3_code 7 = .ok (.iconst (-1), 1) := kz_dr dd_Bk_read_0 3 rfl
theorem d_Bk_read_8 : decode prog_1_method_3_code 8 = .ok (.ireturn, 1) := kz_dr dd_Bk_read_0 4 rfl
theorem d_Bk_read_9 : decode prog_1_method_3_code 9 = .ok (.aload_n 0, 1) := kz_dr dd_Bk_read_0 5 rfl
theorem d_Bk_read_10 : decode prog_1_method_3_code 10 = .ok (.iload_n 1, 1) := kz_dr dd_Bk_read_0 6 rfl
theorem d_Bk_read_11 : decode prog_1_method_3_code 11 = .ok (.invokevirtual 77, 3) := kz_dr dd_Bk_read_0 7 rfl
theorem d_Bk_read_14 : decode prog_1_method_3_code 14 = .ok (.istore_n 2, 1) := kz_dr dd_Bk_read_0 8 rfl
theorem d_Bk_read_15 : decode prog_1_method_3_code 15 = .ok (.iload_n 2, 1) := kz_dr dd_Bk_read_0 9 rfl
theorem d_Bk_read_16 : decode prog_1_method_3_code 16 = .ok (.iconst (-1), 1) := kz_dr dd_Bk_read_0 10 rfl
theorem d_Bk_read_17 : decode prog_1_method_3_code 17 = .ok (.if_icmp .ne 20, 3) := kz_dr dd_Bk_read_0 11 rfl
theorem d_Bk_read_20 : decode prog_1_method_3_code 20 = .ok (.aload_n 0, 1) := kz_dr dd_Bk_read_0 12 rfl
theorem d_Bk_read_21 : decode prog_1_method_3_code 21 = .ok (.getfield 49, 3) := kz_dr dd_Bk_read_0 13 rfl
theorem d_Bk_read_24 : decode prog_1_method_3_code 24 = .ok (.invokevirtual 81, 3) := kz_dr dd_Bk_read_0 14 rfl
theorem d_Bk_read_27 : decode prog_1_method_3_code 27 = .ok (.aload_n 0, 1) := kz_dr dd_Bk_read_0 15 rfl
theorem d_Bk_read_28 : decode prog_1_method_3_code 28 = .ok (.getfield 18, 3) := kz_dr dd_Bk_read_0 16 rfl
theorem d_Bk_read_31 : decode prog_1_method_3_code 31 = .ok (.if_icmp .lt 6, 3) := kz_dr dd_Bk_read_0 17 rfl
theorem d_Bk_read_34 : decode prog_1_method_3_code 34 = .ok (.bipush (-2), 2) := kz_dr dd_Bk_read_0 18 rfl
theorem d_Bk_read_36 : decode prog_1_method_3_code 36 = .ok (.ireturn, 1) := kz_dr dd_Bk_read_0 19 rfl
theorem d_Bk_read_37 : decode prog_1_method_3_code 37 = .ok (.aload_n 0, 1) := kz_dr dd_Bk_read_0 20 rfl
theorem d_Bk_read_38 : decode prog_1_method_3_code 38 = .ok (.getfield 42, 3) := kz_dr dd_Bk_read_0 21 rfl
theorem d_Bk_read_41 : decode prog_1_method_3_code 41 = .ok (.invokevirtual 85, 3) := kz_dr dd_Bk_read_0 22 rfl
theorem d_Bk_read_44 : decode prog_1_method_3_code 44 = .ok (.ifCond .eq 6, 3) := kz_dr dd_Bk_read_0 23 rfl
theorem d_Bk_read_47 : decode prog_1_method_3_code 47 = .ok (.bipush (-3), 2) := kz_dr dd_Bk_read_0 24 rfl
theorem d_Bk_read_49 : decode prog_1_method_3_code 49 = .ok (.ireturn, 1) := kz_dr dd_Bk_read_0 25 rfl
theorem d_Bk_read_50 : decode prog_1_method_3_code 50 = .ok (.aload_n 0, 1) := kz_dr dd_Bk_read_0 26 rfl
theorem d_Bk_read_51 : decode prog_1_method_3_code 51 = .ok (.getfield 42, 3) := kz_dr dd_Bk_read_0 27 rfl
theorem d_Bk_read_54 : decode prog_1_method_3_code 54 = .ok (.iload_n 1, 1) := kz_dr dd_Bk_read_0 28 rfl
theorem d_Bk_read_55 : decode prog_1_method_3_code 55 = .ok (.iconst 0, 1) := kz_dr dd_Bk_read_0 29 rfl
theorem d_Bk_read_56 : decode prog_1_method_3_code 56 = .ok (.aload_n 0, 1) := kz_dr dd_Bk_read_0 30 rfl
theorem d_Bk_read_57 : decode prog_1_method_3_code 57 = .ok (.getfield 66, 3) := kz_dr dd_Bk_read_0 31 rfl
theorem d_Bk_read_60 : decode prog_1_method_3_code 60 = .ok (.invokevirtual 89, 3) := kz_dr dd_Bk_read_0 32 rfl
theorem d_Bk_read_63 : decode prog_1_method_3_code 63 = .ok (.istore_n 3, 1) := kz_dr dd_Bk_read_0 33 rfl
theorem d_Bk_read_64 : decode prog_1_method_3_code 64 = .ok (.iload_n 2, 1) := kz_dr dd_Bk_read_0 34 rfl
theorem d_Bk_read_65 : decode prog_1_method_3_code 65 = .ok (.iconst (-1), 1) := kz_dr dd_Bk_read_0 35 rfl
theorem d_Bk_read_66 : decode prog_1_method_3_code 66 = .ok (.if_icmp .ne 14, 3) := kz_dr dd_Bk_read_0 36 rfl
theorem d_Bk_read_69 : decode prog_1_method_3_code 69 = .ok (.aload_n 0, 1) := kz_dr dd_Bk_read_0 37 rfl
theorem d_Bk_read_70 : decode prog_1_method_3_code 70 = .ok (.getfield 49, 3) := kz_dr dd_Bk_read_0 38 rfl
theorem d_Bk_read_73 : decode prog_1_method_3_code 73 = .ok (.iload_n 3, 1) := kz_dr dd_Bk_read_0 39 rfl
theorem d_Bk_read_74 : decode prog_1_method_3_code 74 = .ok (.invokevirtual 93, 3) := kz_dr dd_Bk_read_0 40 rfl
theorem d_Bk_read_77 : decode prog_1_method_3_code 77 = .ok (.goto 21, 3) := kz_dr dd_Bk_read_0 41 rfl
theorem d_Bk_read_80 : decode prog_1_method_3_code 80 = .ok (.aload_n 0, 1) := kz_dr dd_Bk_read_0 42 rfl
theorem d_Bk_read_81 : decode prog_1_method_3_code 81 = .ok (.getfield 42, 3) := kz_dr dd_Bk_read_0 43 rfl
theorem d_Bk_read_84 : decode prog_1_method_3_code 84 = .ok (.iload_n 3, 1) := kz_dr dd_Bk_read_0 44 rfl
theorem d_Bk_read_85 : decode prog_1_method_3_code 85 = .ok (.aload_n 0, 1) := kz_dr dd_Bk_read_0 45 rfl
theorem d_Bk_read_86 : decode prog_1_method_3_code 86 = .ok (.getfield 42, 3) := kz_dr dd_Bk_read_0 46 rfl
theorem d_Bk_read_89 : decode prog_1_method_3_code 89 = .ok (.iload_n 2, 1) := kz_dr dd_Bk_read_0 47 rfl
theorem d_Bk_read_90 : decode prog_1_method_3_code 90 = .ok (.invokevirtual 97, 3) := kz_dr dd_Bk_read_0 48 rfl
theorem d_Bk_read_93 : decode prog_1_method_3_code 93 = .ok (.iconst 2, 1) := kz_dr dd_Bk_read_0 49 rfl
theorem d_Bk_read_94 : decode prog_1_method_3_code 94 = .ok (.iconst (-1), 1) := kz_dr dd_Bk_read_0 50 rfl
theorem d_Bk_read_95 : decode prog_1_method_3_code 95 = .ok (.invokevirtual 101, 3) := kz_dr dd_Bk_read_0 51 rfl
theorem d_Bk_read_98 : decode prog_1_method_3_code 98 = .ok (.iload_n 3, 1) := kz_dr dd_Bk_read_0 52 rfl
theorem d_Bk_read_99 : decode prog_1_method_3_code 99 = .ok (.ireturn, 1) := kz_dr dd_Bk_read_0 53 rfl
def dl_Bk_isAddress_0 : List (Nat × Instr × Nat) := [(0, .iload_n 0, 1), (1, .ifCond .lt 14, 3), (4, .iload_n 0, 1), (5, .sipush 256, 3), (8, .if_icmp .ge 7, 3), (11, .iconst 1, 1), (12, .goto 4, 3), (15, .iconst 0, 1), (16, .ireturn, 1)]
theorem dd_Bk_isAddress_0 : dl_Bk_isAddress_0.all (fun e => decide (decode prog_1_method_12_code e.1 = .ok e.2)) = true := by decide +kernel
theorem d_Bk_isAddress_0 : decode prog_1_method_12_code 0 = .ok (.iload_n 0, 1) := kz_dr dd_Bk_isAddress_0 0 rfl
theorem d_Bk_isAddress_1 : decode prog_1_method_12_code 1 = .ok (.ifCond .lt 14, 3) := kz_dr dd_Bk_isAddress_0 1 rfl
theorem d_Bk_isAddress_4 : decode prog_1_method_12_code 4 = .ok (.iload_n 0, 1) := kz_dr dd_Bk_isAddress_0 2 rfl
theorem d_Bk_isAddress_5 : decode prog_1_method_12_code 5 = .ok (.sipush 256, 3) := kz_dr dd_Bk_isAddress_0 3 rfl
theorem d_Bk_isAddress_8 : decode prog_1_method_12_code 8 = .ok (.if_icmp .ge 7, 3) := kz_dr dd_Bk_isAddress_0 4 rfl
theorem d_Bk_isAddress_11 : decode prog_1_method_12_code 11 = .ok (.iconst 1, 1) := kz_dr dd_Bk_isAddress_0 5 rfl
theorem d_Bk_isAddress_12 : decode prog_1_method_12_code 12 = .ok (.goto 4, 3) := kz_dr dd_Bk_isAddress_0 6 rfl
theorem d_Bk_isAddress_15 : decode prog_1_method_12_code 15 = .ok (.iconst 0, 1) := kz_dr dd_Bk_isAddress_0 7 rfl
theorem d_Bk_isAddress_16 : decode prog_1_method_12_code 16 = .ok (.ireturn, 1) := kz_dr dd_Bk_isAddress_0 8 rfl
def dl_Bk_latestWritingOf_0 : List (Nat × Instr × Nat) := [(0, .aload_n 0, 1), (1, .getfield 53, 3), (4, .invokevirtual 81, 3), (7, .iconst 1, 1), (8, .isub, 1), (9, .istore_n 2, 1), (10, .iload_n 2, 1), (11, .ifCond .lt 37, 3), (14, .aload_n 0, 1), (15, .getfield 42, 3), (18, .aload_n 0, 1), (19, .getfield 53, 3), (22, .iload_n 2, 1), (23, .invokevirtual 151, 3), (26, .invokevirtual 154, 3), (29, .iload_n 1, 1), (30, .if_icmp .ne 12, 3), (33, .aload_n 0, 1), (34, .getfield 53, 3), (37, .iload_n 2, 1), (38, .invokevirtual 151, 3), (41, .ireturn, 1), (42, .iinc 2 (-1), 3), (45, .goto (-35), 3), (48, .iconst (-1), 1), (49, .ireturn, 1)]
theorem dd_Bk_latestWritingOf_0 : dl_Bk_latestWritingOf_0.all (fun e => decide (decode prog_1_method_17_code e.1 = .ok e.2)) = true := by decide +kernel
theorem d_Bk_latestWritingOf_0 : decode prog_1_method_17_code 0 = .ok (.aload_n 0, 1) := kz_dr dd_Bk_latestWritingOf_0 0 rfl
theorem d_Bk_latestWritingOf_1 : decode prog_1_method_17_code 1 = .ok (.getfield 53, 3) := kz_dr dd_Bk_latestWritingOf_0 1 rfl
theorem d_Bk_latestWritingOf_4 : decode prog_1_method_17_code 4 = .ok (.invokevirtual 81, 3) := kz_dr dd_Bk_latestWritingOf_0 2 rfl
theorem d_Bk_latestWritingOf_7 : decode prog_1_method_17_code 7 = .ok (.iconst 1, 1) := kz_dr dd_Bk_latestWritingOf_0 3 rfl
theorem d_Bk_latestWritingOf_8 : decode prog_1_method_17_code 8 = .ok (.isub, 1) := kz_dr dd_Bk_latestWritingOf_0 4 rfl
theorem d_Bk_latestWritingOf_9 : decode prog_1_method_17_code 9 = .ok (.istore_n 2, 1) := kz_dr dd_Bk_latestWritingOf_0 5 rfl
theorem d_Bk_latestWritingOf_10 : decode prog_1_method_17_code 10 = .ok (.iload_n 2, 1) := kz_dr dd_Bk_latestWritingOf_0 6 rfl
theorem d_Bk_latestWritingOf_11 : decode prog_1_method_17_code 11 = .ok (.ifCond .lt 37, 3) := kz_dr dd_Bk_latestWritingOf_0 7 rfl
theorem d_Bk_latestWritingOf_14 : decode prog_1_method_17_code 14 = .ok (.aload_n 0, 1) := kz_dr dd_Bk_latestWritingOf_0 8 rfl
theorem d_Bk_latestWritingOf_15 : decode prog_1_method_17_code 15 = .ok (.getfield 42, 3) := kz_dr dd_Bk_latestWritingOf_0 9 rfl
theorem d_Bk_latestWritingOf_18 : decode prog_1_method_17_code 18 = .ok (.aload_n 0, 1) := kz_dr dd_Bk_latestWritingOf_0 10 rfl
theorem d_Bk_latestWritingOf_19 : decode prog_1_method_17_code 19 = .ok (.getfield 53, 3) := kz_dr dd_Bk_latestWritingOf_0 11 rfl
theorem d_Bk_latestWritingOf_22 : decode prog_1_method_17_code 22 = .ok (.iload_n 2, 1) := kz_dr dd_Bk_latestWritingOf_0 12 rfl
theorem d_Bk_latestWritingOf_23 : decode prog_1_method_17_code 23 = .ok (.invokevirtual 151, 3) := kz_dr dd_Bk_latestWritingOf_0 13 rfl
theorem d_Bk_latestWritingOf_26 : decode prog_1_method_17_code 26 = .ok (.invokevirtual 154, 3) := kz_dr dd_Bk_latestWritingOf_0 14 rfl
theorem d_Bk_latestWritingOf_29 : decode prog_1_method_17_code 29 = .ok (.iload_n 1, 1) := kz_dr dd_Bk_latestWritingOf_0 15 rfl
theorem d_Bk_latestWritingOf_30 : decode prog_1_method_17_code 30 = .ok (.if_icmp .ne 12, 3) := kz_dr dd_Bk_latestWritingOf_0 16 rfl
theorem d_Bk_latestWritingOf_33 : decode prog_1_method_17_code 33 = .ok (.aload_n 0, 1) := kz_dr dd_Bk_latestWritingOf_0 17 rfl
theorem d_Bk_latestWritingOf_34 : decode prog_1_method_17_code 34 = .ok (.getfield 53, 3) := kz_dr dd_Bk_latestWritingOf_0 18 rfl
theorem d_Bk_latestWritingOf_37 : decode prog_1_method_17_code 37 = .ok (.iload_n 2, 1) := kz_dr dd_Bk_latestWritingOf_0 19 rfl
theorem d_Bk_latestWritingOf_38 : decode prog_1_method_17_code 38 = .ok (.invokevirtual 151, 3) := kz_dr dd_Bk_latestWritingOf_0 20 rfl
theorem d_Bk_latestWritingOf_41 : decode prog_1_method_17_code 41 = .ok (.ireturn, 1) := kz_dr dd_Bk_latestWritingOf_0 21 rfl
theorem d_Bk_latestWritingOf_42 : decode prog_1_method_17_code 42 = .ok (.iinc 2 (-1), 3) := kz_dr dd_Bk_latestWritingOf_0 22 rfl
theorem d_Bk_latestWritingOf_45 : decode prog_1_method_17_code 45 = .ok (.goto (-35), 3) := kz_dr dd_Bk_latestWritingOf_0 23 rfl
theorem d_Bk_latestWritingOf_48 : decode prog_1_method_17_code 48 = .ok (.iconst (-1), 1) := kz_dr dd_Bk_latestWritingOf_0 24 rfl
theorem d_Bk_latestWritingOf_49 : decode prog_1_method_17_code 49 = .ok (.ireturn, 1) := kz_dr dd_Bk_latestWritingOf_0 25 rfl
def dl_Li_size_0 : List (Nat × Instr × Nat) := [(0, .aload_n 0, 1), (1, .getfield 15, 3), (4, .ireturn, 1)]
theorem dd_Li_size_0 : dl_Li_size_0.all (fun e => decide (decode prog_4_method_2_code e.1 = .ok e.2)) = true := by decide +kernel
theorem d_Li_size_0 : decode prog_4_method_2_code 0 = .ok (.aload_n 0, 1) := kz_dr dd_Li_size_0 0 rfl
theorem d_Li_size_1 : decode prog_4_method_2_code 1 = .ok (.getfield 15, 3) := kz_dr dd_Li_size_0 1 rfl
theorem d_Li_size_4 : decode prog_4_method_2_code 4 = .ok (.ireturn, 1) := kz_dr dd_Li_size_0 2 rfl
def dl_Li_at_0 : List (Nat × Instr × Nat) := [(0, .aload_n 0, 1), (1, .getfield 9, 3), (4, .iload_n 1, 1), (5, .iaload, 1), (6, .ireturn, 1)]
theorem dd_Li_at_0 : dl_Li_at_0.all (fun e => decide (decode prog_4_method_3_code e.1 = .ok e.2)) = true := by decide +kernel
theorem d_Li_at_0 : decode prog_4_method_3_code 0 = .ok (.aload_n 0, 1) := kz_dr dd_Li_at_0 0 rfl
theorem d_Li_at_1 : decode prog_4_method_3_code 1 = .ok (.getfield 9, 3) := kz_dr dd_Li_at_0 1 rfl
theorem d_Li_at_4 : decode prog_4_method_3_code 4 = .ok (.iload_n 1, 1) := kz_dr dd_Li_at_0 2 rfl
theorem d_Li_at_5 : decode prog_4_method_3_code 5 = .ok (.iaload, 1) := kz_dr dd_Li_at_0 3 rfl
theorem d_Li_at_6 : decode prog_4_method_3_code 6 = .ok (.ireturn, 1) := kz_dr dd_Li_at_0 4 rfl
def dl_Re_addressOf_0 : List (Nat × Instr × Nat) := [(0, .aload_n 0, 1), (1, .getfield 9, 3), (4, .iload_n 1, 1), (5, .iaload, 1), (6, .ireturn, 1)]
theorem dd_Re_addressOf_0 : dl_Re_addressOf_0.all (fun e => decide (decode prog_5_method_8_code e.1 = .ok e.2)) = true := by decide +kernel
theorem d_Re_addressOf_0 : decode prog_5_method_8_code 0 = .ok (.aload_n 0, 1) := kz_dr dd_Re_addressOf_0 0 rfl
theorem d_Re_addressOf_1 : decode prog_5_method_8_code 1 = .ok (.getfield 9, 3) := kz_dr dd_Re_addressOf_0 1 rfl
theorem d_Re_addressOf_4 : decode prog_5_method_8_code 4 = .ok (.iload_n 1, 1) := kz_dr dd_Re_addressOf_0 2 rfl
theorem d_Re_addressOf_5 : decode prog_5_method_8_code 5 = .ok (.iaload, 1) := kz_dr dd_Re_addressOf_0 3 rfl
theorem d_Re_addressOf_6 : decode prog_5_method_8_code 6 = .ok (.ireturn, 1) := kz_dr dd_Re_addressOf_0 4 rfl
def dl_Re_areOut_0 : List (Nat × Instr × Nat) := [(0, .aload_n 0, 1), (1, .getfield 32, 3), (4, .sipush 400, 3), (7, .if_icmp .lt 7, 3), (10, .iconst 1, 1), (11, .goto 4, 3), (14, .iconst 0, 1), (15, .ireturn, 1)]
theorem dd_Re_areOut_0 : dl_Re_areOut_0.all (fun e => decide (decode prog_5_method_3_code e.1 = .ok e.2)) = true := by decide +kernel
theorem d_Re_areOut_0 : decode prog_5_method_3_code 0 = .ok (.aload_n 0, 1) := kz_dr dd_Re_areOut_0 0 rfl
theorem d_Re_areOut_1 : decode prog_5_method_3_code 1 = .ok (.getfield 32, 3) := kz_dr dd_Re_areOut_0 1 rfl
theorem d_Re_areOut_4 : decode prog_5_method_3_code 4 = .ok (.sipush 400, 3) := kz_dr dd_Re_areOut_0 2 rfl
theorem d_Re_areOut_7 : decode prog_5_method_3_code 7 = .ok (.if_icmp .lt 7, 3) := kz_dr dd_Re_areOut_0 3 rfl
theorem d_Re_areOut_10 : decode prog_5_method_3_code 10 = .ok (.iconst 1, 1) := kz_dr dd_Re_areOut_0 4 rfl
theorem d_Re_areOut_11 : decode prog_5_method_3_code 11 = .ok (.goto 4, 3) := kz_dr dd_Re_areOut_0 5 rfl
theorem d_Re_areOut_14 : decode prog_5_method_3_code 14 = .ok (.iconst 0, 1) := kz_dr dd_Re_areOut_0 6 rfl
theorem d_Re_areOut_15 : decode prog_5_method_3_code 15 = .ok (.ireturn, 1) := kz_dr dd_Re_areOut_0 7 rfl
def dl_Re_take_0 : List (Nat × Instr × Nat) := [(0, .aload_n 0, 1), (1, .getfield 32, 3), (4, .istore 4, 2), (6, .aload_n 0, 1), (7, .getfield 9, 3), (10, .iload 4, 2), (12, .iload_n 1, 1), (13, .iastore, 1), (14, .aload_n 0, 1), (15, .getfield 15, 3), (18, .iload 4, 2), (20, .iload_n 2, 1), (21, .bastore, 1), (22, .aload_n 0, 1), (23, .getfield 19, 3), (26, .iload 4, 2), (28, .iload_n 3, 1), (29, .iastore, 1), (30, .aload_n 0, 1), (31, .dup, 1), (32, .getfield 32, 3), (35, .iconst 1, 1), (36, .iadd, 1), (37, .putfield 32, 3), (40, .iload 4, 2), (42, .ireturn, 1)]
theorem dd_Re_take_0 : dl_Re_take_0.all (fun e => decide (decode prog_5_method_5_code e.1 = .ok e.2)) = true := by decide +kernel
theorem d_Re_take_0 : decode prog_5_method_5_code 0 = .ok (.aload_n 0, 1) := kz_dr dd_Re_take_0 0 rfl
theorem d_Re_take_1 : decode prog_5_method_5_code 1 = .ok (.getfield 32, 3) := kz_dr dd_Re_take_0 1 rfl
theorem d_Re_take_4 : decode prog_5_method_5_code 4 = .ok (.istore 4, 2) := kz_dr dd_Re_take_0 2 rfl
theorem d_Re_take_6 : decode prog_5_method_5_code 6 = .ok (.aload_n 0, 1) := kz_dr dd_Re_take_0 3 rfl
theorem d_Re_take_7 : decode prog_5_method_5_code 7 = .ok (.getfield 9, 3) := kz_dr dd_Re_take_0 4 rfl
theorem d_Re_take_10 : decode prog_5_method_5_code 10 = .ok (.iload 4, 2) := kz_dr dd_Re_take_0 5 rfl
theorem d_Re_take_12 : decode prog_5_method_5_code 12 = .ok (.iload_n 1, 1) := kz_dr dd_Re_take_0 6 rfl
theorem d_Re_take_13 : decode prog_5_method_5_code 13 = .ok (.iastore, 1) := kz_dr dd_Re_take_0 7 rfl
theorem d_Re_take_14 : decode prog_5_method_5_code 14 = .ok (.aload_n 0, 1) := kz_dr dd_Re_take_0 8 rfl
theorem d_Re_take_15 : decode prog_5_method_5_code 15 = .ok (.getfield 15, 3) := kz_dr dd_Re_take_0 9 rfl
theorem d_Re_take_18 : decode prog_5_method_5_code 18 = .ok (.iload 4, 2) := kz_dr dd_Re_take_0 10 rfl
theorem d_Re_take_20 : decode prog_5_method_5_code 20 = .ok (.iload_n 2, 1) := kz_dr dd_Re_take_0 11 rfl
theorem d_Re_take_21 : decode prog_5_method_5_code 21 = .ok (.bastore, 1) := kz_dr dd_Re_take_0 12 rfl
theorem d_Re_take_22 : decode prog_5_method_5_code 22 = .ok (.aload_n 0, 1) := kz_dr dd_Re_take_0 13 rfl
theorem d_Re_take_23 : decode prog_5_method_5_code 23 = .ok (.getfield 19, 3) := kz_dr dd_Re_take_0 14 rfl
theorem d_Re_take_26 : decode prog_5_method_5_code 26 = .ok (.iload 4, 2) := kz_dr dd_Re_take_0 15 rfl
theorem d_Re_take_28 : decode prog_5_method_5_code 28 = .ok (.iload_n 3, 1) := kz_dr dd_Re_take_0 16 rfl
theorem d_Re_take_29 : decode prog_5_method_5_code 29 = .ok (.iastore, 1) := kz_dr dd_Re_take_0 17 rfl
theorem d_Re_take_30 : decode prog_5_method_5_code 30 = .ok (.aload_n 0, 1) := kz_dr dd_Re_take_0 18 rfl
theorem d_Re_take_31 : decode prog_5_method_5_code 31 = .ok (.dup, 1) := kz_dr dd_Re_take_0 19 rfl
theorem d_Re_take_32 : decode prog_5_method_5_code 32 = .ok (.getfield 32, 3) := kz_dr dd_Re_take_0 20 rfl
theorem d_Re_take_35 : decode prog_5_method_5_code 35 = .ok (.iconst 1, 1) := kz_dr dd_Re_take_0 21 rfl
theorem d_Re_take_36 : decode prog_5_method_5_code 36 = .ok (.iadd, 1) := kz_dr dd_Re_take_0 22 rfl
theorem d_Re_take_37 : decode prog_5_method_5_code 37 = .ok (.putfield 32, 3) := kz_dr dd_Re_take_0 23 rfl
theorem d_Re_take_40 : decode prog_5_method_5_code 40 = .ok (.iload 4, 2) := kz_dr dd_Re_take_0 24 rfl
theorem d_Re_take_42 : decode prog_5_method_5_code 42 = .ok (.ireturn, 1) := kz_dr dd_Re_take_0 25 rfl
def dl_Li_append_0 : List (Nat × Instr × Nat) := [(0, .aload_n 0, 1), (1, .getfield 15, 3), (4, .aload_n 0, 1), (5, .getfield 9, 3), (8, .arraylength, 1), (9, .if_icmp .ge 23, 3), (12, .aload_n 0, 1), (13, .getfield 9, 3), (16, .aload_n 0, 1), (17, .getfield 15, 3), (20, .iload_n 1, 1), (21, .iastore, 1), (22, .aload_n 0, 1), (23, .dup, 1), (24, .getfield 15, 3), (27, .iconst 1, 1), (28, .iadd, 1), (29, .putfield 15, 3), (32, .return_, 1)]
theorem dd_Li_append_0 : dl_Li_append_0.all (fun e => decide (decode prog_4_method_4_code e.1 = .ok e.2)) = true := by decide +kernel
theorem d_Li_append_0 : decode prog_4_method_4_code 0 = .ok (.aload_n 0, 1) := kz_dr dd_Li_append_0 0 rfl
theorem d_Li_append_1 : decode prog_4_method_4_code 1 = .ok (.getfield 15, 3) := kz_dr dd_Li_append_0 1 rfl
theorem d_Li_append_4 : decode prog_4_method_4_code 4 = .ok (.aload_n 0, 1) := kz_dr dd_Li_append_0 2 rfl
theorem d_Li_append_5 : decode prog_4_method_4_code 5 = .ok (.getfield 9, 3) := kz_dr dd_Li_append_0 3 rfl
theorem d_Li_append_8 : decode prog_4_method_4_code 8 = .ok (.arraylength, 1) := kz_dr dd_Li_append_0 4 rfl
theorem d_Li_append_9 : decode prog_4_method_4_code 9 = .ok (.if_icmp .ge 23, 3) := kz_dr dd_Li_append_0 5 rfl
theorem d_Li_append_12 : decode prog_4_method_4_code 12 = .ok (.aload_n 0, 1) := kz_dr dd_Li_append_0 6 rfl
theorem d_Li_append_13 : decode prog_4_method_4_code 13 = .ok (.getfield 9, 3) := kz_dr dd_Li_append_0 7 rfl
theorem d_Li_append_16 : decode prog_4_method_4_code 16 = .ok (.aload_n 0, 1) := kz_dr dd_Li_append_0 8 rfl
theorem d_Li_append_17 : decode prog_4_method_4_code 17 = .ok (.getfield 15, 3) := kz_dr dd_Li_append_0 9 rfl
theorem d_Li_append_20 : decode prog_4_method_4_code 20 = .ok (.iload_n 1, 1) := kz_dr dd_Li_append_0 10 rfl
theorem d_Li_append_21 : decode prog_4_method_4_code 21 = .ok (.iastore, 1) := kz_dr dd_Li_append_0 11 rfl
theorem d_Li_append_22 : decode prog_4_method_4_code 22 = .ok (.aload_n 0, 1) := kz_dr dd_Li_append_0 12 rfl
theorem d_Li_append_23 : decode prog_4_method_4_code 23 = .ok (.dup, 1) := kz_dr dd_Li_append_0 13 rfl
theorem d_Li_append_24 : decode prog_4_method_4_code 24 = .ok (.getfield 15, 3) := kz_dr dd_Li_append_0 14 rfl
theorem d_Li_append_27 : decode prog_4_method_4_code 27 = .ok (.iconst 1, 1) := kz_dr dd_Li_append_0 15 rfl
theorem d_Li_append_28 : decode prog_4_method_4_code 28 = .ok (.iadd, 1) := kz_dr dd_Li_append_0 16 rfl
theorem d_Li_append_29 : decode prog_4_method_4_code 29 = .ok (.putfield 15, 3) := kz_dr dd_Li_append_0 17 rfl
theorem d_Li_append_32 : decode prog_4_method_4_code 32 = .ok (.return_, 1) := kz_dr dd_Li_append_0 18 rfl
def dl_Re_wordOf_0 : List (Nat × Instr × Nat) := [(0, .aload_n 0, 1), (1, .getfield 22, 3), (4, .iload_n 1, 1), (5, .laload, 1), (6, .lreturn, 1)]
theorem dd_Re_wordOf_0 : dl_Re_wordOf_0.all (fun e => decide (decode prog_5_method_11_code e.1 = .ok e.2)) = true := by decide +kernel
theorem d_Re_wordOf_0 : decode prog_5_method_11_code 0 = .ok (.aload_n 0, 1) := kz_dr dd_Re_wordOf_0 0 rfl
theorem d_Re_wordOf_1 : decode prog_5_method_11_code 1 = .ok (.getfield 22, 3) := kz_dr dd_Re_wordOf_0 1 rfl
theorem d_Re_wordOf_4 : decode prog_5_method_11_code 4 = .ok (.iload_n 1, 1) := kz_dr dd_Re_wordOf_0 2 rfl
theorem d_Re_wordOf_5 : decode prog_5_method_11_code 5 = .ok (.laload, 1) := kz_dr dd_Re_wordOf_0 3 rfl
theorem d_Re_wordOf_6 : decode prog_5_method_11_code 6 = .ok (.lreturn, 1) := kz_dr dd_Re_wordOf_0 4 rfl
def dl_Re_finish_0 : List (Nat × Instr × Nat) := [(0, .aload_n 0, 1), (1, .getfield 22, 3), (4, .iload_n 1, 1), (5, .lload_n 2, 1), (6, .lastore, 1), (7, .aload_n 0, 1), (8, .getfield 26, 3), (11, .iload_n 1, 1), (12, .iload 4, 2), (14, .iastore, 1), (15, .aload_n 0, 1), (16, .getfield 29, 3), (19, .iload_n 1, 1), (20, .iload 5, 2), (22, .iastore, 1), (23, .return_, 1)]
theorem dd_Re_finish_0 : dl_Re_finish_0.all (fun e => decide (decode prog_5_method_7_code e.1 = .ok e.2)) = true := by decide +kernel
theorem d_Re_finish_0 : decode prog_5_method_7_code 0 = .ok (.aload_n 0, 1) := kz_dr dd_Re_finish_0 0 rfl
theorem d_Re_finish_1 : decode prog_5_method_7_code 1 = .ok (.getfield 22, 3) := kz_dr dd_Re_finish_0 1 rfl
theorem d_Re_finish_4 : decode prog_5_method_7_code 4 = .ok (.iload_n 1, 1) := kz_dr dd_Re_finish_0 2 rfl
theorem d_Re_finish_5 : decode prog_5_method_7_code 5 = .ok (.lload_n 2, 1) := kz_dr dd_Re_finish_0 3 rfl
theorem d_Re_finish_6 : decode prog_5_method_7_code 6 = .ok (.lastore, 1) := kz_dr dd_Re_finish_0 4 rfl
theorem d_Re_finish_7 : decode prog_5_method_7_code 7 = .ok (.aload_n 0, 1) := kz_dr dd_Re_finish_0 5 rfl
theorem d_Re_finish_8 : decode prog_5_method_7_code 8 = .ok (.getfield 26, 3) := kz_dr dd_Re_finish_0 6 rfl
theorem d_Re_finish_11 : decode prog_5_method_7_code 11 = .ok (.iload_n 1, 1) := kz_dr dd_Re_finish_0 7 rfl
theorem d_Re_finish_12 : decode prog_5_method_7_code 12 = .ok (.iload 4, 2) := kz_dr dd_Re_finish_0 8 rfl
theorem d_Re_finish_14 : decode prog_5_method_7_code 14 = .ok (.iastore, 1) := kz_dr dd_Re_finish_0 9 rfl
theorem d_Re_finish_15 : decode prog_5_method_7_code 15 = .ok (.aload_n 0, 1) := kz_dr dd_Re_finish_0 10 rfl
theorem d_Re_finish_16 : decode prog_5_method_7_code 16 = .ok (.getfield 29, 3) := kz_dr dd_Re_finish_0 11 rfl
theorem d_Re_finish_19 : decode prog_5_method_7_code 19 = .ok (.iload_n 1, 1) := kz_dr dd_Re_finish_0 12 rfl
theorem d_Re_finish_20 : decode prog_5_method_7_code 20 = .ok (.iload 5, 2) := kz_dr dd_Re_finish_0 13 rfl
theorem d_Re_finish_22 : decode prog_5_method_7_code 22 = .ok (.iastore, 1) := kz_dr dd_Re_finish_0 14 rfl
theorem d_Re_finish_23 : decode prog_5_method_7_code 23 = .ok (.return_, 1) := kz_dr dd_Re_finish_0 15 rfl
def dl_Bk_write_0 : List (Nat × Instr × Nat) := [(0, .iload_n 1, 1), (1, .invokestatic 73, 3), (4, .ifCond .ne 5, 3), (7, .iconst (-1), 1), (8, .ireturn, 1), (9, .aload_n 0, 1), (10, .getfield 53, 3), (13, .invokevirtual 81, 3), (16, .aload_n 0, 1), (17, .getfield 18, 3), (20, .if_icmp .lt 6, 3), (23, .bipush (-2), 2), (25, .ireturn, 1), (26, .aload_n 0, 1), (27, .getfield 42, 3), (30, .invokevirtual 85, 3), (33, .ifCond .eq 6, 3), (36, .bipush (-3), 2), (38, .ireturn, 1), (39, .aload_n 0, 1), (40, .getfield 42, 3), (43, .iload_n 1, 1), (44, .iconst 1, 1), (45, .aload_n 0, 1), (46, .getfield 66, 3), (49, .invokevirtual 89, 3), (52, .istore 4, 2), (54, .aload_n 0, 1), (55, .getfield 42, 3), (58, .iload 4, 2), (60, .lload_n 2, 1), (61, .invokevirtual 105, 3), (64, .aload_n 0, 1), (65, .getfield 53, 3), (68, .iload 4, 2), (70, .invokevirtual 93, 3), (73, .iload 4, 2), (75, .ireturn, 1)]
theorem dd_Bk_write_0 : dl_Bk_write_0.all (fun e => decide (decode prog_1_method_4_code e.1 = .ok e.2)) = true := by decide +kernel
theorem d_Bk_write_0 : decode prog_1_method_4_code 0 = .ok (.iload_n 1, 1) := kz_dr dd_Bk_write_0 0 rfl
theorem d_Bk_write_1 : decode prog_1_method_4_code 1 = .ok (.invokestatic 73, 3) := kz_dr dd_Bk_write_0 1 rfl
theorem d_Bk_write_4 : decode prog_1_method_4_code 4 = .ok (.ifCond .ne 5, 3) := kz_dr dd_Bk_write_0 2 rfl
theorem d_Bk_write_7 : decode prog_1_method_4_code 7 = .ok (.iconst (-1), 1) := kz_dr dd_Bk_write_0 3 rfl
theorem d_Bk_write_8 : decode prog_1_method_4_code 8 = .ok (.ireturn, 1) := kz_dr dd_Bk_write_0 4 rfl
theorem d_Bk_write_9 : decode prog_1_method_4_code 9 = .ok (.aload_n 0, 1) := kz_dr dd_Bk_write_0 5 rfl
theorem d_Bk_write_10 : decode prog_1_method_4_code 10 = .ok (.getfield 53, 3) := kz_dr dd_Bk_write_0 6 rfl
theorem d_Bk_write_13 : decode prog_1_method_4_code 13 = .ok (.invokevirtual 81, 3) := kz_dr dd_Bk_write_0 7 rfl
theorem d_Bk_write_16 : decode prog_1_method_4_code 16 = .ok (.aload_n 0, 1) := kz_dr dd_Bk_write_0 8 rfl
theorem d_Bk_write_17 : decode prog_1_method_4_code 17 = .ok (.getfield 18, 3) := kz_dr dd_Bk_write_0 9 rfl
theorem d_Bk_write_20 : decode prog_1_method_4_code 20 = .ok (.if_icmp .lt 6, 3) := kz_dr dd_Bk_write_0 10 rfl
theorem d_Bk_write_23 : decode prog_1_method_4_code 23 = .ok (.bipush (-2), 2) := kz_dr dd_Bk_write_0 11 rfl
theorem d_Bk_write_25 : decode prog_1_method_4_code 25 = .ok (.ireturn, 1) := kz_dr dd_Bk_write_0 12 rfl
theorem d_Bk_write_26 : decode prog_1_method_4_code 26 = .ok (.aload_n 0, 1) := kz_dr dd_Bk_write_0 13 rfl
theorem d_Bk_write_27 : decode prog_1_method_4_code 27 = .ok (.getfield 42, 3) := kz_dr dd_Bk_write_0 14 rfl
theorem d_Bk_write_30 : decode prog_1_method_4_code 30 = .ok (.invokevirtual 85, 3) := kz_dr dd_Bk_write_0 15 rfl
theorem d_Bk_write_33 : decode prog_1_method_4_code 33 = .ok (.ifCond .eq 6, 3) := kz_dr dd_Bk_write_0 16 rfl
theorem d_Bk_write_36 : decode prog_1_method_4_code 36 = .ok (.bipush (-3), 2) := kz_dr dd_Bk_write_0 17 rfl
theorem d_Bk_write_38 : decode prog_1_method_4_code 38 = .ok (.ireturn, 1) := kz_dr dd_Bk_write_0 18 rfl
theorem d_Bk_write_39 : decode prog_1_method_4_code 39 = .ok (.aload_n 0, 1) := kz_dr dd_Bk_write_0 19 rfl
theorem d_Bk_write_40 : decode prog_1_method_4_code 40 = .ok (.getfield 42, 3) := kz_dr dd_Bk_write_0 20 rfl
theorem d_Bk_write_43 : decode prog_1_method_4_code 43 = .ok (.iload_n 1, 1) := kz_dr dd_Bk_write_0 21 rfl
theorem d_Bk_write_44 : decode prog_1_method_4_code 44 = .ok (.iconst 1, 1) := kz_dr dd_Bk_write_0 22 rfl
theorem d_Bk_write_45 : decode prog_1_method_4_code 45 = .ok (.aload_n 0, 1) := kz_dr dd_Bk_write_0 23 rfl
theorem d_Bk_write_46 : decode prog_1_method_4_code 46 = .ok (.getfield 66, 3) := kz_dr dd_Bk_write_0 24 rfl
theorem d_Bk_write_49 : decode prog_1_method_4_code 49 = .ok (.invokevirtual 89, 3) := kz_dr dd_Bk_write_0 25 rfl
theorem d_Bk_write_52 : decode prog_1_method_4_code 52 = .ok (.istore 4, 2) := kz_dr dd_Bk_write_0 26 rfl
theorem d_Bk_write_54 : decode prog_1_method_4_code 54 = .ok (.aload_n 0, 1) := kz_dr dd_Bk_write_0 27 rfl
theorem d_Bk_write_55 : decode prog_1_method_4_code 55 = .ok (.getfield 42, 3) := kz_dr dd_Bk_write_0 28 rfl
theorem d_Bk_write_58 : decode prog_1_method_4_code 58 = .ok (.iload 4, 2) := kz_dr dd_Bk_write_0 29 rfl
theorem d_Bk_write_60 : decode prog_1_method_4_code 60 = .ok (.lload_n 2, 1) := kz_dr dd_Bk_write_0 30 rfl
theorem d_Bk_write_61 : decode prog_1_method_4_code 61 = .ok (.invokevirtual 105, 3) := kz_dr dd_Bk_write_0 31 rfl
theorem d_Bk_write_64 : decode prog_1_method_4_code 64 = .ok (.aload_n 0, 1) := kz_dr dd_Bk_write_0 32 rfl
theorem d_Bk_write_65 : decode prog_1_method_4_code 65 = .ok (.getfield 53, 3) := kz_dr dd_Bk_write_0 33 rfl
theorem d_Bk_write_68 : decode prog_1_method_4_code 68 = .ok (.iload 4, 2) := kz_dr dd_Bk_write_0 34 rfl
theorem d_Bk_write_70 : decode prog_1_method_4_code 70 = .ok (.invokevirtual 93, 3) := kz_dr dd_Bk_write_0 35 rfl
theorem d_Bk_write_73 : decode prog_1_method_4_code 73 = .ok (.iload 4, 2) := kz_dr dd_Bk_write_0 36 rfl
theorem d_Bk_write_75 : decode prog_1_method_4_code 75 = .ok (.ireturn, 1) := kz_dr dd_Bk_write_0 37 rfl
def dl_Re_setWord_0 : List (Nat × Instr × Nat) := [(0, .aload_n 0, 1), (1, .getfield 22, 3), (4, .iload_n 1, 1), (5, .lload_n 2, 1), (6, .lastore, 1), (7, .return_, 1)]
theorem dd_Re_setWord_0 : dl_Re_setWord_0.all (fun e => decide (decode prog_5_method_6_code e.1 = .ok e.2)) = true := by decide +kernel
theorem d_Re_setWord_0 : decode prog_5_method_6_code 0 = .ok (.aload_n 0, 1) := kz_dr dd_Re_setWord_0 0 rfl
theorem d_Re_setWord_1 : decode prog_5_method_6_code 1 = .ok (.getfield 22, 3) := kz_dr dd_Re_setWord_0 1 rfl
theorem d_Re_setWord_4 : decode prog_5_method_6_code 4 = .ok (.iload_n 1, 1) := kz_dr dd_Re_setWord_0 2 rfl
theorem d_Re_setWord_5 : decode prog_5_method_6_code 5 = .ok (.lload_n 2, 1) := kz_dr dd_Re_setWord_0 3 rfl
theorem d_Re_setWord_6 : decode prog_5_method_6_code 6 = .ok (.lastore, 1) := kz_dr dd_Re_setWord_0 4 rfl
theorem d_Re_setWord_7 : decode prog_5_method_6_code 7 = .ok (.return_, 1) := kz_dr dd_Re_setWord_0 5 rfl
def dl_Bk_cycles_0 : List (Nat × Instr × Nat) := [(0, .iload_n 1, 1), (1, .ifCond .lt 10, 3), (4, .iload_n 1, 1), (5, .sipush 300, 3), (8, .if_icmp .le 5, 3), (11, .iconst (-1), 1), (12, .ireturn, 1), (13, .aload_n 0, 1), (14, .getfield 62, 3), (17, .invokevirtual 109, 3), (20, .istore_n 2, 1), (21, .iconst 0, 1), (22, .istore_n 3, 1), (23, .iload_n 3, 1), (24, .iload_n 1, 1), (25, .if_icmp .ge 13, 3), (28, .aload_n 0, 1), (29, .invokevirtual 112, 3), (32, .iinc 3 1, 3), (35, .goto (-12), 3), (38, .aload_n 0, 1), (39, .getfield 62, 3), (42, .invokevirtual 109, 3), (45, .iload_n 2, 1), (46, .isub, 1), (47, .ireturn, 1)]
theorem dd_Bk_cycles_0 : dl_Bk_cycles_0.all (fun e => decide (decode prog_1_method_5_code e.1 = .ok e.2)) = true := by decide +kernel
theorem d_Bk_cycles_0 : decode prog_1_method_5_code 0 = .ok (.iload_n 1, 1) := kz_dr dd_Bk_cycles_0 0 rfl
theorem d_Bk_cycles_1 : decode prog_1_method_5_code 1 = .ok (.ifCond .lt 10, 3) := kz_dr dd_Bk_cycles_0 1 rfl
theorem d_Bk_cycles_4 : decode prog_1_method_5_code 4 = .ok (.iload_n 1, 1) := kz_dr dd_Bk_cycles_0 2 rfl
theorem d_Bk_cycles_5 : decode prog_1_method_5_code 5 = .ok (.sipush 300, 3) := kz_dr dd_Bk_cycles_0 3 rfl
theorem d_Bk_cycles_8 : decode prog_1_method_5_code 8 = .ok (.if_icmp .le 5, 3) := kz_dr dd_Bk_cycles_0 4 rfl
theorem d_Bk_cycles_11 : decode prog_1_method_5_code 11 = .ok (.iconst (-1), 1) := kz_dr dd_Bk_cycles_0 5 rfl
theorem d_Bk_cycles_12 : decode prog_1_method_5_code 12 = .ok (.ireturn, 1) := kz_dr dd_Bk_cycles_0 6 rfl
theorem d_Bk_cycles_13 : decode prog_1_method_5_code 13 = .ok (.aload_n 0, 1) := kz_dr dd_Bk_cycles_0 7 rfl
theorem d_Bk_cycles_14 : decode prog_1_method_5_code 14 = .ok (.getfield 62, 3) := kz_dr dd_Bk_cycles_0 8 rfl
theorem d_Bk_cycles_17 : decode prog_1_method_5_code 17 = .ok (.invokevirtual 109, 3) := kz_dr dd_Bk_cycles_0 9 rfl
theorem d_Bk_cycles_20 : decode prog_1_method_5_code 20 = .ok (.istore_n 2, 1) := kz_dr dd_Bk_cycles_0 10 rfl
theorem d_Bk_cycles_21 : decode prog_1_method_5_code 21 = .ok (.iconst 0, 1) := kz_dr dd_Bk_cycles_0 11 rfl
theorem d_Bk_cycles_22 : decode prog_1_method_5_code 22 = .ok (.istore_n 3, 1) := kz_dr dd_Bk_cycles_0 12 rfl
theorem d_Bk_cycles_23 : decode prog_1_method_5_code 23 = .ok (.iload_n 3, 1) := kz_dr dd_Bk_cycles_0 13 rfl
theorem d_Bk_cycles_24 : decode prog_1_method_5_code 24 = .ok (.iload_n 1, 1) := kz_dr dd_Bk_cycles_0 14 rfl
theorem d_Bk_cycles_25 : decode prog_1_method_5_code 25 = .ok (.if_icmp .ge 13, 3) := kz_dr dd_Bk_cycles_0 15 rfl
theorem d_Bk_cycles_28 : decode prog_1_method_5_code 28 = .ok (.aload_n 0, 1) := kz_dr dd_Bk_cycles_0 16 rfl
theorem d_Bk_cycles_29 : decode prog_1_method_5_code 29 = .ok (.invokevirtual 112, 3) := kz_dr dd_Bk_cycles_0 17 rfl
theorem d_Bk_cycles_32 : decode prog_1_method_5_code 32 = .ok (.iinc 3 1, 3) := kz_dr dd_Bk_cycles_0 18 rfl
theorem d_Bk_cycles_35 : decode prog_1_method_5_code 35 = .ok (.goto (-12), 3) := kz_dr dd_Bk_cycles_0 19 rfl
theorem d_Bk_cycles_38 : decode prog_1_method_5_code 38 = .ok (.aload_n 0, 1) := kz_dr dd_Bk_cycles_0 20 rfl
theorem d_Bk_cycles_39 : decode prog_1_method_5_code 39 = .ok (.getfield 62, 3) := kz_dr dd_Bk_cycles_0 21 rfl
theorem d_Bk_cycles_42 : decode prog_1_method_5_code 42 = .ok (.invokevirtual 109, 3) := kz_dr dd_Bk_cycles_0 22 rfl
theorem d_Bk_cycles_45 : decode prog_1_method_5_code 45 = .ok (.iload_n 2, 1) := kz_dr dd_Bk_cycles_0 23 rfl
theorem d_Bk_cycles_46 : decode prog_1_method_5_code 46 = .ok (.isub, 1) := kz_dr dd_Bk_cycles_0 24 rfl
theorem d_Bk_cycles_47 : decode prog_1_method_5_code 47 = .ok (.ireturn, 1) := kz_dr dd_Bk_cycles_0 25 rfl
def dl_Jo_count_0 : List (Nat × Instr × Nat) := [(0, .aload_n 0, 1), (1, .getfield 14, 3), (4, .ireturn, 1)]
theorem dd_Jo_count_0 : dl_Jo_count_0.all (fun e => decide (decode prog_3_method_2_code e.1 = .ok e.2)) = true := by decide +kernel
theorem d_Jo_count_0 : decode prog_3_method_2_code 0 = .ok (.aload_n 0, 1) := kz_dr dd_Jo_count_0 0 rfl
theorem d_Jo_count_1 : decode prog_3_method_2_code 1 = .ok (.getfield 14, 3) := kz_dr dd_Jo_count_0 1 rfl
theorem d_Jo_count_4 : decode prog_3_method_2_code 4 = .ok (.ireturn, 1) := kz_dr dd_Jo_count_0 2 rfl
def dl_Bk_passCycle_0 : List (Nat × Instr × Nat) := [(0, .aload_n 0, 1), (1, .invokevirtual 157, 3), (4, .aload_n 0, 1), (5, .invokevirtual 160, 3), (8, .ifCond .eq 10, 3), (11, .aload_n 0, 1), (12, .invokevirtual 163, 3), (15, .goto 22, 3), (18, .aload_n 0, 1), (19, .invokevirtual 166, 3), (22, .aload_n 0, 1), (23, .invokevirtual 169, 3), (26, .aload_n 0, 1), (27, .invokevirtual 172, 3), (30, .ifCond .ne 7, 3), (33, .aload_n 0, 1), (34, .invokevirtual 175, 3), (37, .aload_n 0, 1), (38, .dup, 1), (39, .getfield 66, 3), (42, .iconst 1, 1), (43, .iadd, 1), (44, .putfield 66, 3), (47, .return_, 1)]
theorem dd_Bk_passCycle_0 : dl_Bk_passCycle_0.all (fun e => decide (decode prog_1_method_18_code e.1 = .ok e.2)) = true := by decide +kernel
theorem d_Bk_passCycle_0 : decode prog_1_method_18_code 0 = .ok (.aload_n 0, 1) := kz_dr dd_Bk_passCycle_0 0 rfl
theorem d_Bk_passCycle_1 : decode prog_1_method_18_code 1 = .ok (.invokevirtual 157, 3) := kz_dr dd_Bk_passCycle_0 1 rfl
theorem d_Bk_passCycle_4 : decode prog_1_method_18_code 4 = .ok (.aload_n 0, 1) := kz_dr dd_Bk_passCycle_0 2 rfl
theorem d_Bk_passCycle_5 : decode prog_1_method_18_code 5 = .ok (.invokevirtual 160, 3) := kz_dr dd_Bk_passCycle_0 3 rfl
theorem d_Bk_passCycle_8 : decode prog_1_method_18_code 8 = .ok (.ifCond .eq 10, 3) := kz_dr dd_Bk_passCycle_0 4 rfl
theorem d_Bk_passCycle_11 : decode prog_1_method_18_code 11 = .ok (.aload_n 0, 1) := kz_dr dd_Bk_passCycle_0 5 rfl
theorem d_Bk_passCycle_12 : decode prog_1_method_18_code 12 = .ok (.invokevirtual 163, 3) := kz_dr dd_Bk_passCycle_0 6 rfl
theorem d_Bk_passCycle_15 : decode prog_1_method_18_code 15 = .ok (.goto 22, 3) := kz_dr dd_Bk_passCycle_0 7 rfl
theorem d_Bk_passCycle_18 : decode prog_1_method_18_code 18 = .ok (.aload_n 0, 1) := kz_dr dd_Bk_passCycle_0 8 rfl
theorem d_Bk_passCycle_19 : decode prog_1_method_18_code 19 = .ok (.invokevirtual 166, 3) := kz_dr dd_Bk_passCycle_0 9 rfl
theorem d_Bk_passCycle_22 : decode prog_1_method_18_code 22 = .ok (.aload_n 0, 1) := kz_dr dd_Bk_passCycle_0 10 rfl
theorem d_Bk_passCycle_23 : decode prog_1_method_18_code 23 = .ok (.invokevirtual 169, 3) := kz_dr dd_Bk_passCycle_0 11 rfl
theorem d_Bk_passCycle_26 : decode prog_1_method_18_code 26 = .ok (.aload_n 0, 1) := kz_dr dd_Bk_passCycle_0 12 rfl
theorem d_Bk_passCycle_27 : decode prog_1_method_18_code 27 = .ok (.invokevirtual 172, 3) := kz_dr dd_Bk_passCycle_0 13 rfl
theorem d_Bk_passCycle_30 : decode prog_1_method_18_code 30 = .ok (.ifCond .ne 7, 3) := kz_dr dd_Bk_passCycle_0 14 rfl
theorem d_Bk_passCycle_33 : decode prog_1_method_18_code 33 = .ok (.aload_n 0, 1) := kz_dr dd_Bk_passCycle_0 15 rfl
theorem d_Bk_passCycle_34 : decode prog_1_method_18_code 34 = .ok (.invokevirtual 175, 3) := kz_dr dd_Bk_passCycle_0 16 rfl
theorem d_Bk_passCycle_37 : decode prog_1_method_18_code 37 = .ok (.aload_n 0, 1) := kz_dr dd_Bk_passCycle_0 17 rfl
theorem d_Bk_passCycle_38 : decode prog_1_method_18_code 38 = .ok (.dup, 1) := kz_dr dd_Bk_passCycle_0 18 rfl
theorem d_Bk_passCycle_39 : decode prog_1_method_18_code 39 = .ok (.getfield 66, 3) := kz_dr dd_Bk_passCycle_0 19 rfl
theorem d_Bk_passCycle_42 : decode prog_1_method_18_code 42 = .ok (.iconst 1, 1) := kz_dr dd_Bk_passCycle_0 20 rfl
theorem d_Bk_passCycle_43 : decode prog_1_method_18_code 43 = .ok (.iadd, 1) := kz_dr dd_Bk_passCycle_0 21 rfl
theorem d_Bk_passCycle_44 : decode prog_1_method_18_code 44 = .ok (.putfield 66, 3) := kz_dr dd_Bk_passCycle_0 22 rfl
theorem d_Bk_passCycle_47 : decode prog_1_method_18_code 47 = .ok (.return_, 1) := kz_dr dd_Bk_passCycle_0 23 rfl
def dl_Bk_oweRefreshInTime_0 : List (Nat × Instr × Nat) := [(0, .aload_n 0, 1), (1, .getfield 178, 3), (4, .aload_n 0, 1), (5, .getfield 28, 3), (8, .invokevirtual 181, 3), (11, .if_icmp .lt 18, 3), (14, .aload_n 0, 1), (15, .dup, 1), (16, .getfield 128, 3), (19, .iconst 1, 1), (20, .iadd, 1), (21, .putfield 128, 3), (24, .aload_n 0, 1), (25, .iconst 0, 1), (26, .putfield 178, 3), (29, .aload_n 0, 1), (30, .dup, 1), (31, .getfield 178, 3), (34, .iconst 1, 1), (35, .iadd, 1), (36, .putfield 178, 3), (39, .return_, 1)]
theorem dd_Bk_oweRefreshInTime_0 : dl_Bk_oweRefreshInTime_0.all (fun e => decide (decode prog_1_method_19_code e.1 = .ok e.2)) = true := by decide +kernel
theorem d_Bk_oweRefreshInTime_0 : decode prog_1_method_19_code 0 = .ok (.aload_n 0, 1) := kz_dr dd_Bk_oweRefreshInTime_0 0 rfl
theorem d_Bk_oweRefreshInTime_1 : decode prog_1_method_19_code 1 = .ok (.getfield 178, 3) := kz_dr dd_Bk_oweRefreshInTime_0 1 rfl
theorem d_Bk_oweRefreshInTime_4 : decode prog_1_method_19_code 4 = .ok (.aload_n 0, 1) := kz_dr dd_Bk_oweRefreshInTime_0 2 rfl
theorem d_Bk_oweRefreshInTime_5 : decode prog_1_method_19_code 5 = .ok (.getfield 28, 3) := kz_dr dd_Bk_oweRefreshInTime_0 3 rfl
theorem d_Bk_oweRefreshInTime_8 : decode prog_1_method_19_code 8 = .ok (.invokevirtual 181, 3) := kz_dr dd_Bk_oweRefreshInTime_0 4 rfl
theorem d_Bk_oweRefreshInTime_11 : decode prog_1_method_19_code 11 = .ok (.if_icmp .lt 18, 3) := kz_dr dd_Bk_oweRefreshInTime_0 5 rfl
theorem d_Bk_oweRefreshInTime_14 : decode prog_1_method_19_code 14 = .ok (.aload_n 0, 1) := kz_dr dd_Bk_oweRefreshInTime_0 6 rfl
theorem d_Bk_oweRefreshInTime_15 : decode prog_1_method_19_code 15 = .ok (.dup, 1) := kz_dr dd_Bk_oweRefreshInTime_0 7 rfl
theorem d_Bk_oweRefreshInTime_16 : decode prog_1_method_19_code 16 = .ok (.getfield 128, 3) := kz_dr dd_Bk_oweRefreshInTime_0 8 rfl
theorem d_Bk_oweRefreshInTime_19 : decode prog_1_method_19_code 19 = .ok (.iconst 1, 1) := kz_dr dd_Bk_oweRefreshInTime_0 9 rfl
theorem d_Bk_oweRefreshInTime_20 : decode prog_1_method_19_code 20 = .ok (.iadd, 1) := kz_dr dd_Bk_oweRefreshInTime_0 10 rfl
theorem d_Bk_oweRefreshInTime_21 : decode prog_1_method_19_code 21 = .ok (.putfield 128, 3) := kz_dr dd_Bk_oweRefreshInTime_0 11 rfl
theorem d_Bk_oweRefreshInTime_24 : decode prog_1_method_19_code 24 = .ok (.aload_n 0, 1) := kz_dr dd_Bk_oweRefreshInTime_0 12 rfl
theorem d_Bk_oweRefreshInTime_25 : decode prog_1_method_19_code 25 = .ok (.iconst 0, 1) := kz_dr dd_Bk_oweRefreshInTime_0 13 rfl
theorem d_Bk_oweRefreshInTime_26 : decode prog_1_method_19_code 26 = .ok (.putfield 178, 3) := kz_dr dd_Bk_oweRefreshInTime_0 14 rfl
theorem d_Bk_oweRefreshInTime_29 : decode prog_1_method_19_code 29 = .ok (.aload_n 0, 1) := kz_dr dd_Bk_oweRefreshInTime_0 15 rfl
theorem d_Bk_oweRefreshInTime_30 : decode prog_1_method_19_code 30 = .ok (.dup, 1) := kz_dr dd_Bk_oweRefreshInTime_0 16 rfl
theorem d_Bk_oweRefreshInTime_31 : decode prog_1_method_19_code 31 = .ok (.getfield 178, 3) := kz_dr dd_Bk_oweRefreshInTime_0 17 rfl
theorem d_Bk_oweRefreshInTime_34 : decode prog_1_method_19_code 34 = .ok (.iconst 1, 1) := kz_dr dd_Bk_oweRefreshInTime_0 18 rfl
theorem d_Bk_oweRefreshInTime_35 : decode prog_1_method_19_code 35 = .ok (.iadd, 1) := kz_dr dd_Bk_oweRefreshInTime_0 19 rfl
theorem d_Bk_oweRefreshInTime_36 : decode prog_1_method_19_code 36 = .ok (.putfield 178, 3) := kz_dr dd_Bk_oweRefreshInTime_0 20 rfl
theorem d_Bk_oweRefreshInTime_39 : decode prog_1_method_19_code 39 = .ok (.return_, 1) := kz_dr dd_Bk_oweRefreshInTime_0 21 rfl
def dl_Ba_refreshInterval_0 : List (Nat × Instr × Nat) := [(0, .aload_n 0, 1), (1, .getfield 18, 3), (4, .bipush 13, 2), (6, .iaload, 1), (7, .ireturn, 1)]
theorem dd_Ba_refreshInterval_0 : dl_Ba_refreshInterval_0.all (fun e => decide (decode prog_2_method_3_code e.1 = .ok e.2)) = true := by decide +kernel
theorem d_Ba_refreshInterval_0 : decode prog_2_method_3_code 0 = .ok (.aload_n 0, 1) := kz_dr dd_Ba_refreshInterval_0 0 rfl
theorem d_Ba_refreshInterval_1 : decode prog_2_method_3_code 1 = .ok (.getfield 18, 3) := kz_dr dd_Ba_refreshInterval_0 1 rfl
theorem d_Ba_refreshInterval_4 : decode prog_2_method_3_code 4 = .ok (.bipush 13, 2) := kz_dr dd_Ba_refreshInterval_0 2 rfl
theorem d_Ba_refreshInterval_6 : decode prog_2_method_3_code 6 = .ok (.iaload, 1) := kz_dr dd_Ba_refreshInterval_0 3 rfl
theorem d_Ba_refreshInterval_7 : decode prog_2_method_3_code 7 = .ok (.ireturn, 1) := kz_dr dd_Ba_refreshInterval_0 4 rfl
def dl_Bk_refreshGoesFirst_0 : List (Nat × Instr × Nat) := [(0, .aload_n 0, 1), (1, .getfield 49, 3), (4, .invokevirtual 81, 3), (7, .ifCond .ne 17, 3), (10, .aload_n 0, 1), (11, .getfield 53, 3), (14, .invokevirtual 81, 3), (17, .ifCond .ne 7, 3), (20, .iconst 1, 1), (21, .goto 4, 3), (24, .iconst 0, 1), (25, .istore_n 1, 1), (26, .aload_n 0, 1), (27, .getfield 128, 3), (30, .bipush 6, 2), (32, .if_icmp .ge 15, 3), (35, .aload_n 0, 1), (36, .getfield 128, 3), (39, .iconst 1, 1), (40, .if_icmp .lt 11, 3), (43, .iload_n 1, 1), (44, .ifCond .eq 7, 3), (47, .iconst 1, 1), (48, .goto 4, 3), (51, .iconst 0, 1), (52, .ireturn, 1)]
theorem dd_Bk_refreshGoesFirst_0 : dl_Bk_refreshGoesFirst_0.all (fun e => decide (decode prog_1_method_20_code e.1 = .ok e.2)) = true := by decide +kernel
theorem d_Bk_refreshGoesFirst_0 : decode prog_1_method_20_code 0 = .ok (.aload_n 0, 1) := kz_dr dd_Bk_refreshGoesFirst_0 0 rfl
theorem d_Bk_refreshGoesFirst_1 : decode prog_1_method_20_code 1 = .ok (.getfield 49, 3) := kz_dr dd_Bk_refreshGoesFirst_0 1 rfl
theorem d_Bk_refreshGoesFirst_4 : decode prog_1_method_20_code 4 = .ok (.invokevirtual 81, 3) := kz_dr dd_Bk_refreshGoesFirst_0 2 rfl
theorem d_Bk_refreshGoesFirst_7 : decode prog_1_method_20_code 7 = .ok (.ifCond .ne 17, 3) := kz_dr dd_Bk_refreshGoesFirst_0 3 rfl
theorem d_Bk_refreshGoesFirst_10 : decode prog_1_method_20_code 10 = .ok (.aload_n 0, 1) := kz_dr dd_Bk_refreshGoesFirst_0 4 rfl
theorem d_Bk_refreshGoesFirst_11 : decode prog_1_method_20_code 11 = .ok (.getfield 53, 3) := kz_dr dd_Bk_refreshGoesFirst_0 5 rfl
theorem d_Bk_refreshGoesFirst_14 : decode prog_1_method_20_code 14 = .ok (.invokevirtual 81, 3) := kz_dr dd_Bk_refreshGoesFirst_0 6 rfl
theorem d_Bk_refreshGoesFirst_17 : decode prog_1_method_20_code 17 = .ok (.ifCond .ne 7, 3) := kz_dr dd_Bk_refreshGoesFirst_0 7 rfl
theorem d_Bk_refreshGoesFirst_20 : decode prog_1_method_20_code 20 = .ok (.iconst 1, 1) := kz_dr dd_Bk_refreshGoesFirst_0 8 rfl
theorem d_Bk_refreshGoesFirst_21 : decode prog_1_method_20_code 21 = .ok (.goto 4, 3) := kz_dr dd_Bk_refreshGoesFirst_0 9 rfl
theorem d_Bk_refreshGoesFirst_24 : decode prog_1_method_20_code 24 = .ok (.iconst 0, 1) := kz_dr dd_Bk_refreshGoesFirst_0 10 rfl
theorem d_Bk_refreshGoesFirst_25 : decode prog_1_method_20_code 25 = .ok (.istore_n 1, 1) := kz_dr dd_Bk_refreshGoesFirst_0 11 rfl
theorem d_Bk_refreshGoesFirst_26 : decode prog_1_method_20_code 26 = .ok (.aload_n 0, 1) := kz_dr dd_Bk_refreshGoesFirst_0 12 rfl
theorem d_Bk_refreshGoesFirst_27 : decode prog_1_method_20_code 27 = .ok (.getfield 128, 3) := kz_dr dd_Bk_refreshGoesFirst_0 13 rfl
theorem d_Bk_refreshGoesFirst_30 : decode prog_1_method_20_code 30 = .ok (.bipush 6, 2) := kz_dr dd_Bk_refreshGoesFirst_0 14 rfl
theorem d_Bk_refreshGoesFirst_32 : decode prog_1_method_20_code 32 = .ok (.if_icmp .ge 15, 3) := kz_dr dd_Bk_refreshGoesFirst_0 15 rfl
theorem d_Bk_refreshGoesFirst_35 : decode prog_1_method_20_code 35 = .ok (.aload_n 0, 1) := kz_dr dd_Bk_refreshGoesFirst_0 16 rfl
theorem d_Bk_refreshGoesFirst_36 : decode prog_1_method_20_code 36 = .ok (.getfield 128, 3) := kz_dr dd_Bk_refreshGoesFirst_0 17 rfl
theorem d_Bk_refreshGoesFirst_39 : decode prog_1_method_20_code 39 = .ok (.iconst 1, 1) := kz_dr dd_Bk_refreshGoesFirst_0 18 rfl
theorem d_Bk_refreshGoesFirst_40 : decode prog_1_method_20_code 40 = .ok (.if_icmp .lt 11, 3) := kz_dr dd_Bk_refreshGoesFirst_0 19 rfl
theorem d_Bk_refreshGoesFirst_43 : decode prog_1_method_20_code 43 = .ok (.iload_n 1, 1) := kz_dr dd_Bk_refreshGoesFirst_0 20 rfl
theorem d_Bk_refreshGoesFirst_44 : decode prog_1_method_20_code 44 = .ok (.ifCond .eq 7, 3) := kz_dr dd_Bk_refreshGoesFirst_0 21 rfl
theorem d_Bk_refreshGoesFirst_47 : decode prog_1_method_20_code 47 = .ok (.iconst 1, 1) := kz_dr dd_Bk_refreshGoesFirst_0 22 rfl
theorem d_Bk_refreshGoesFirst_48 : decode prog_1_method_20_code 48 = .ok (.goto 4, 3) := kz_dr dd_Bk_refreshGoesFirst_0 23 rfl
theorem d_Bk_refreshGoesFirst_51 : decode prog_1_method_20_code 51 = .ok (.iconst 0, 1) := kz_dr dd_Bk_refreshGoesFirst_0 24 rfl
theorem d_Bk_refreshGoesFirst_52 : decode prog_1_method_20_code 52 = .ok (.ireturn, 1) := kz_dr dd_Bk_refreshGoesFirst_0 25 rfl
def dl_Bk_refreshOrClose_0 : List (Nat × Instr × Nat) := [(0, .aload_n 0, 1), (1, .getfield 28, 3), (4, .aload_n 0, 1), (5, .getfield 66, 3), (8, .invokevirtual 184, 3), (11, .ifCond .eq 8, 3), (14, .aload_n 0, 1), (15, .invokevirtual 187, 3), (18, .return_, 1), (19, .iconst 0, 1), (20, .istore_n 1, 1), (21, .iload_n 1, 1), (22, .iconst 4, 1), (23, .if_icmp .ge 30, 3), (26, .aload_n 0, 1), (27, .getfield 28, 3), (30, .iload_n 1, 1), (31, .aload_n 0, 1), (32, .getfield 66, 3), (35, .invokevirtual 190, 3), (38, .ifCond .eq 9, 3), (41, .aload_n 0, 1), (42, .iload_n 1, 1), (43, .invokevirtual 193, 3), (46, .return_, 1), (47, .iinc 1 1, 3), (50, .goto (-29), 3), (53, .return_, 1)]
theorem dd_Bk_refreshOrClose_0 : dl_Bk_refreshOrClose_0.all (fun e => decide (decode prog_1_method_21_code e.1 = .ok e.2)) = true := by decide +kernel
theorem d_Bk_refreshOrClose_0 : decode prog_1_method_21_code 0 = .ok (.aload_n 0, 1) := kz_dr dd_Bk_refreshOrClose_0 0 rfl
theorem d_Bk_refreshOrClose_1 : decode prog_1_method_21_code 1 = .ok (.getfield 28, 3) := kz_dr dd_Bk_refreshOrClose_0 1 rfl
theorem d_Bk_refreshOrClose_4 : decode prog_1_method_21_code 4 = .ok (.aload_n 0, 1) := kz_dr dd_Bk_refreshOrClose_0 2 rfl
theorem d_Bk_refreshOrClose_5 : decode prog_1_method_21_code 5 = .ok (.getfield 66, 3) := kz_dr dd_Bk_refreshOrClose_0 3 rfl
theorem d_Bk_refreshOrClose_8 : decode prog_1_method_21_code 8 = .ok (.invokevirtual 184, 3) := kz_dr dd_Bk_refreshOrClose_0 4 rfl
theorem d_Bk_refreshOrClose_11 : decode prog_1_method_21_code 11 = .ok (.ifCond .eq 8, 3) := kz_dr dd_Bk_refreshOrClose_0 5 rfl
theorem d_Bk_refreshOrClose_14 : decode prog_1_method_21_code 14 = .ok (.aload_n 0, 1) := kz_dr dd_Bk_refreshOrClose_0 6 rfl
theorem d_Bk_refreshOrClose_15 : decode prog_1_method_21_code 15 = .ok (.invokevirtual 187, 3) := kz_dr dd_Bk_refreshOrClose_0 7 rfl
theorem d_Bk_refreshOrClose_18 : decode prog_1_method_21_code 18 = .ok (.return_, 1) := kz_dr dd_Bk_refreshOrClose_0 8 rfl
theorem d_Bk_refreshOrClose_19 : decode prog_1_method_21_code 19 = .ok (.iconst 0, 1) := kz_dr dd_Bk_refreshOrClose_0 9 rfl
theorem d_Bk_refreshOrClose_20 : decode prog_1_method_21_code 20 = .ok (.istore_n 1, 1) := kz_dr dd_Bk_refreshOrClose_0 10 rfl
theorem d_Bk_refreshOrClose_21 : decode prog_1_method_21_code 21 = .ok (.iload_n 1, 1) := kz_dr dd_Bk_refreshOrClose_0 11 rfl
theorem d_Bk_refreshOrClose_22 : decode prog_1_method_21_code 22 = .ok (.iconst 4, 1) := kz_dr dd_Bk_refreshOrClose_0 12 rfl
theorem d_Bk_refreshOrClose_23 : decode prog_1_method_21_code 23 = .ok (.if_icmp .ge 30, 3) := kz_dr dd_Bk_refreshOrClose_0 13 rfl
theorem d_Bk_refreshOrClose_26 : decode prog_1_method_21_code 26 = .ok (.aload_n 0, 1) := kz_dr dd_Bk_refreshOrClose_0 14 rfl
theorem d_Bk_refreshOrClose_27 : decode prog_1_method_21_code 27 = .ok (.getfield 28, 3) := kz_dr dd_Bk_refreshOrClose_0 15 rfl
theorem d_Bk_refreshOrClose_30 : decode prog_1_method_21_code 30 = .ok (.iload_n 1, 1) := kz_dr dd_Bk_refreshOrClose_0 16 rfl
theorem d_Bk_refreshOrClose_31 : decode prog_1_method_21_code 31 = .ok (.aload_n 0, 1) := kz_dr dd_Bk_refreshOrClose_0 17 rfl
theorem d_Bk_refreshOrClose_32 : decode prog_1_method_21_code 32 = .ok (.getfield 66, 3) := kz_dr dd_Bk_refreshOrClose_0 18 rfl
theorem d_Bk_refreshOrClose_35 : decode prog_1_method_21_code 35 = .ok (.invokevirtual 190, 3) := kz_dr dd_Bk_refreshOrClose_0 19 rfl
theorem d_Bk_refreshOrClose_38 : decode prog_1_method_21_code 38 = .ok (.ifCond .eq 9, 3) := kz_dr dd_Bk_refreshOrClose_0 20 rfl
theorem d_Bk_refreshOrClose_41 : decode prog_1_method_21_code 41 = .ok (.aload_n 0, 1) := kz_dr dd_Bk_refreshOrClose_0 21 rfl
theorem d_Bk_refreshOrClose_42 : decode prog_1_method_21_code 42 = .ok (.iload_n 1, 1) := kz_dr dd_Bk_refreshOrClose_0 22 rfl
theorem d_Bk_refreshOrClose_43 : decode prog_1_method_21_code 43 = .ok (.invokevirtual 193, 3) := kz_dr dd_Bk_refreshOrClose_0 23 rfl
theorem d_Bk_refreshOrClose_46 : decode prog_1_method_21_code 46 = .ok (.return_, 1) := kz_dr dd_Bk_refreshOrClose_0 24 rfl
theorem d_Bk_refreshOrClose_47 : decode prog_1_method_21_code 47 = .ok (.iinc 1 1, 3) := kz_dr dd_Bk_refreshOrClose_0 25 rfl
theorem d_Bk_refreshOrClose_50 : decode prog_1_method_21_code 50 = .ok (.goto (-29), 3) := kz_dr dd_Bk_refreshOrClose_0 26 rfl
theorem d_Bk_refreshOrClose_53 : decode prog_1_method_21_code 53 = .ok (.return_, 1) := kz_dr dd_Bk_refreshOrClose_0 27 rfl
def dl_Ba_mayRefresh_0 : List (Nat × Instr × Nat) := [(0, .iconst 0, 1), (1, .istore_n 2, 1), (2, .iload_n 2, 1), (3, .iconst 4, 1), (4, .if_icmp .ge 38, 3), (7, .aload_n 0, 1), (8, .getfield 23, 3), (11, .iload_n 2, 1), (12, .iaload, 1), (13, .iconst (-1), 1), (14, .if_icmp .ne 20, 3), (17, .iload_n 1, 1), (18, .aload_n 0, 1), (19, .getfield 29, 3), (22, .iload_n 2, 1), (23, .iaload, 1), (24, .isub, 1), (25, .aload_n 0, 1), (26, .getfield 18, 3), (29, .iconst 1, 1), (30, .iaload, 1), (31, .if_icmp .ge 5, 3), (34, .iconst 0, 1), (35, .ireturn, 1), (36, .iinc 2 1, 3), (39, .goto (-37), 3), (42, .iload_n 1, 1), (43, .aload_n 0, 1), (44, .getfield 49, 3), (47, .isub, 1), (48, .aload_n 0, 1), (49, .getfield 18, 3), (52, .bipush 12, 2), (54, .iaload, 1), (55, .if_icmp .lt 7, 3), (58, .iconst 1, 1), (59, .goto 4, 3), (62, .iconst 0, 1), (63, .ireturn, 1)]
theorem dd_Ba_mayRefresh_0 : dl_Ba_mayRefresh_0.all (fun e => decide (decode prog_2_method_14_code e.1 = .ok e.2)) = true := by decide +kernel
theorem d_Ba_mayRefresh_0 : decode prog_2_method_14_code 0 = .ok (.iconst 0, 1) := kz_dr dd_Ba_mayRefresh_0 0 rfl
theorem d_Ba_mayRefresh_1 : decode prog_2_method_14_code 1 = .ok (.istore_n 2, 1) := kz_dr dd_Ba_mayRefresh_0 1 rfl
theorem d_Ba_mayRefresh_2 : decode prog_2_method_14_code 2 = .ok (.iload_n 2, 1) := kz_dr dd_Ba_mayRefresh_0 2 rfl
theorem d_Ba_mayRefresh_3 : decode prog_2_method_14_code 3 = .ok (.iconst 4, 1) := kz_dr dd_Ba_mayRefresh_0 3 rfl
theorem d_Ba_mayRefresh_4 : decode prog_2_method_14_code 4 = .ok (.if_icmp .ge 38, 3) := kz_dr dd_Ba_mayRefresh_0 4 rfl
theorem d_Ba_mayRefresh_7 : decode prog_2_method_14_code 7 = .ok (.aload_n 0, 1) := kz_dr dd_Ba_mayRefresh_0 5 rfl
theorem d_Ba_mayRefresh_8 : decode prog_2_method_14_code 8 = .ok (.getfield 23, 3) := kz_dr dd_Ba_mayRefresh_0 6 rfl
theorem d_Ba_mayRefresh_11 : decode prog_2_method_14_code 11 = .ok (.iload_n 2, 1) := kz_dr dd_Ba_mayRefresh_0 7 rfl
theorem d_Ba_mayRefresh_12 : decode prog_2_method_14_code 12 = .ok (.iaload, 1) := kz_dr dd_Ba_mayRefresh_0 8 rfl
theorem d_Ba_mayRefresh_13 : decode prog_2_method_14_code 13 = .ok (.iconst (-1), 1) := kz_dr dd_Ba_mayRefresh_0 9 rfl
theorem d_Ba_mayRefresh_14 : decode prog_2_method_14_code 14 = .ok (.if_icmp .ne 20, 3) := kz_dr dd_Ba_mayRefresh_0 10 rfl
theorem d_Ba_mayRefresh_17 : decode prog_2_method_14_code 17 = .ok (.iload_n 1, 1) := kz_dr dd_Ba_mayRefresh_0 11 rfl
theorem d_Ba_mayRefresh_18 : decode prog_2_method_14_code 18 = .ok (.aload_n 0, 1) := kz_dr dd_Ba_mayRefresh_0 12 rfl
theorem d_Ba_mayRefresh_19 : decode prog_2_method_14_code 19 = .ok (.getfield 29, 3) := kz_dr dd_Ba_mayRefresh_0 13 rfl
theorem d_Ba_mayRefresh_22 : decode prog_2_method_14_code 22 = .ok (.iload_n 2, 1) := kz_dr dd_Ba_mayRefresh_0 14 rfl
theorem d_Ba_mayRefresh_23 : decode prog_2_method_14_code 23 = .ok (.iaload, 1) := kz_dr dd_Ba_mayRefresh_0 15 rfl
theorem d_Ba_mayRefresh_24 : decode prog_2_method_14_code 24 = .ok (.isub, 1) := kz_dr dd_Ba_mayRefresh_0 16 rfl
theorem d_Ba_mayRefresh_25 : decode prog_2_method_14_code 25 = .ok (.aload_n 0, 1) := kz_dr dd_Ba_mayRefresh_0 17 rfl
theorem d_Ba_mayRefresh_26 : decode prog_2_method_14_code 26 = .ok (.getfield 18, 3) := kz_dr dd_Ba_mayRefresh_0 18 rfl
theorem d_Ba_mayRefresh_29 : decode prog_2_method_14_code 29 = .ok (.iconst 1, 1) := kz_dr dd_Ba_mayRefresh_0 19 rfl
theorem d_Ba_mayRefresh_30 : decode prog_2_method_14_code 30 = .ok (.iaload, 1) := kz_dr dd_Ba_mayRefresh_0 20 rfl
theorem d_Ba_mayRefresh_31 : decode prog_2_method_14_code 31 = .ok (.if_icmp .ge 5, 3) := kz_dr dd_Ba_mayRefresh_0 21 rfl
theorem d_Ba_mayRefresh_34 : decode prog_2_method_14_code 34 = .ok (.iconst 0, 1) := kz_dr dd_Ba_mayRefresh_0 22 rfl
theorem d_Ba_mayRefresh_35 : decode prog_2_method_14_code 35 = .ok (.ireturn, 1) := kz_dr dd_Ba_mayRefresh_0 23 rfl
theorem d_Ba_mayRefresh_36 : decode prog_2_method_14_code 36 = .ok (.iinc 2 1, 3) := kz_dr dd_Ba_mayRefresh_0 24 rfl
theorem d_Ba_mayRefresh_39 : decode prog_2_method_14_code 39 = .ok (.goto (-37), 3) := kz_dr dd_Ba_mayRefresh_0 25 rfl
theorem d_Ba_mayRefresh_42 : decode prog_2_method_14_code 42 = .ok (.iload_n 1, 1) := kz_dr dd_Ba_mayRefresh_0 26 rfl
theorem d_Ba_mayRefresh_43 : decode prog_2_method_14_code 43 = .ok (.aload_n 0, 1) := kz_dr dd_Ba_mayRefresh_0 27 rfl
theorem d_Ba_mayRefresh_44 : decode prog_2_method_14_code 44 = .ok (.getfield 49, 3) := kz_dr dd_Ba_mayRefresh_0 28 rfl
theorem d_Ba_mayRefresh_47 : decode prog_2_method_14_code 47 = .ok (.isub, 1) := kz_dr dd_Ba_mayRefresh_0 29 rfl
theorem d_Ba_mayRefresh_48 : decode prog_2_method_14_code 48 = .ok (.aload_n 0, 1) := kz_dr dd_Ba_mayRefresh_0 30 rfl
theorem d_Ba_mayRefresh_49 : decode prog_2_method_14_code 49 = .ok (.getfield 18, 3) := kz_dr dd_Ba_mayRefresh_0 31 rfl
theorem d_Ba_mayRefresh_52 : decode prog_2_method_14_code 52 = .ok (.bipush 12, 2) := kz_dr dd_Ba_mayRefresh_0 32 rfl
theorem d_Ba_mayRefresh_54 : decode prog_2_method_14_code 54 = .ok (.iaload, 1) := kz_dr dd_Ba_mayRefresh_0 33 rfl
theorem d_Ba_mayRefresh_55 : decode prog_2_method_14_code 55 = .ok (.if_icmp .lt 7, 3) := kz_dr dd_Ba_mayRefresh_0 34 rfl
theorem d_Ba_mayRefresh_58 : decode prog_2_method_14_code 58 = .ok (.iconst 1, 1) := kz_dr dd_Ba_mayRefresh_0 35 rfl
theorem d_Ba_mayRefresh_59 : decode prog_2_method_14_code 59 = .ok (.goto 4, 3) := kz_dr dd_Ba_mayRefresh_0 36 rfl
theorem d_Ba_mayRefresh_62 : decode prog_2_method_14_code 62 = .ok (.iconst 0, 1) := kz_dr dd_Ba_mayRefresh_0 37 rfl
theorem d_Ba_mayRefresh_63 : decode prog_2_method_14_code 63 = .ok (.ireturn, 1) := kz_dr dd_Ba_mayRefresh_0 38 rfl
def dl_Bk_refresh_0 : List (Nat × Instr × Nat) := [(0, .aload_n 0, 1), (1, .getfield 28, 3), (4, .aload_n 0, 1), (5, .getfield 66, 3), (8, .invokevirtual 196, 3), (11, .aload_n 0, 1), (12, .getfield 62, 3), (15, .iconst 4, 1), (16, .iconst (-1), 1), (17, .iconst (-1), 1), (18, .aload_n 0, 1), (19, .getfield 66, 3), (22, .iconst (-1), 1), (23, .invokevirtual 198, 3), (26, .aload_n 0, 1), (27, .dup, 1), (28, .getfield 128, 3), (31, .iconst 1, 1), (32, .isub, 1), (33, .putfield 128, 3), (36, .iconst 0, 1), (37, .istore_n 1, 1), (38, .iload_n 1, 1), (39, .iconst 2, 1), (40, .if_icmp .ge 47, 3), (43, .aload_n 0, 1), (44, .getfield 35, 3), (47, .aload_n 0, 1), (48, .getfield 138, 3), (51, .invokevirtual 202, 3), (54, .ifCond .eq 13, 3), (57, .aload_n 0, 1), (58, .dup, 1), (59, .getfield 135, 3), (62, .iconst 1, 1), (63, .iadd, 1), (64, .putfield 135, 3), (67, .aload_n 0, 1), (68, .aload_n 0, 1), (69, .getfield 138, 3), (72, .iconst 1, 1), (73, .iadd, 1), (74, .sipush 256, 3), (77, .irem, 1), (78, .putfield 138, 3), (81, .iinc 1 1, 3), (84, .goto (-46), 3), (87, .return_, 1)]
theorem dd_Bk_refresh_0 : dl_Bk_refresh_0.all (fun e => decide (decode prog_1_method_22_code e.1 = .ok e.2)) = true := by decide +kernel
theorem d_Bk_refresh_0 : decode prog_1_method_22_code 0 = .ok (.aload_n 0, 1) := kz_dr dd_Bk_refresh_0 0 rfl
theorem d_Bk_refresh_1 : decode prog_1_method_22_code 1 = .ok (.getfield 28, 3) := kz_dr dd_Bk_refresh_0 1 rfl
theorem d_Bk_refresh_4 : decode prog_1_method_22_code 4 = .ok (.aload_n 0, 1) := kz_dr dd_Bk_refresh_0 2 rfl
theorem d_Bk_refresh_5 : decode prog_1_method_22_code 5 = .ok (.getfield 66, 3) := kz_dr dd_Bk_refresh_0 3 rfl
theorem d_Bk_refresh_8 : decode prog_1_method_22_code 8 = .ok (.invokevirtual 196, 3) := kz_dr dd_Bk_refresh_0 4 rfl
theorem d_Bk_refresh_11 : decode prog_1_method_22_code 11 = .ok (.aload_n 0, 1) := kz_dr dd_Bk_refresh_0 5 rfl
theorem d_Bk_refresh_12 : decode prog_1_method_22_code 12 = .ok (.getfield 62, 3) := kz_dr dd_Bk_refresh_0 6 rfl
theorem d_Bk_refresh_15 : decode prog_1_method_22_code 15 = .ok (.iconst 4, 1) := kz_dr dd_Bk_refresh_0 7 rfl
theorem d_Bk_refresh_16 : decode prog_1_method_22_code 16 = .ok (.iconst (-1), 1) := kz_dr dd_Bk_refresh_0 8 rfl
theorem d_Bk_refresh_17 : decode prog_1_method_22_code 17 = .ok (.iconst (-1), 1) := kz_dr dd_Bk_refresh_0 9 rfl
theorem d_Bk_refresh_18 : decode prog_1_method_22_code 18 = .ok (.aload_n 0, 1) := kz_dr dd_Bk_refresh_0 10 rfl
theorem d_Bk_refresh_19 : decode prog_1_method_22_code 19 = .ok (.getfield 66, 3) := kz_dr dd_Bk_refresh_0 11 rfl
theorem d_Bk_refresh_22 : decode prog_1_method_22_code 22 = .ok (.iconst (-1), 1) := kz_dr dd_Bk_refresh_0 12 rfl
theorem d_Bk_refresh_23 : decode prog_1_method_22_code 23 = .ok (.invokevirtual 198, 3) := kz_dr dd_Bk_refresh_0 13 rfl
theorem d_Bk_refresh_26 : decode prog_1_method_22_code 26 = .ok (.aload_n 0, 1) := kz_dr dd_Bk_refresh_0 14 rfl
theorem d_Bk_refresh_27 : decode prog_1_method_22_code 27 = .ok (.dup, 1) := kz_dr dd_Bk_refresh_0 15 rfl
theorem d_Bk_refresh_28 : decode prog_1_method_22_code 28 = .ok (.getfield 128, 3) := kz_dr dd_Bk_refresh_0 16 rfl
theorem d_Bk_refresh_31 : decode prog_1_method_22_code 31 = .ok (.iconst 1, 1) := kz_dr dd_Bk_refresh_0 17 rfl
theorem d_Bk_refresh_32 : decode prog_1_method_22_code 32 = .ok (.isub, 1) := kz_dr dd_Bk_refresh_0 18 rfl
theorem d_Bk_refresh_33 : decode prog_1_method_22_code 33 = .ok (.putfield 128, 3) := kz_dr dd_Bk_refresh_0 19 rfl
theorem d_Bk_refresh_36 : decode prog_1_method_22_code 36 = .ok (.iconst 0, 1) := kz_dr dd_Bk_refresh_0 20 rfl
theorem d_Bk_refresh_37 : decode prog_1_method_22_code 37 = .ok (.istore_n 1, 1) := kz_dr dd_Bk_refresh_0 21 rfl
theorem d_Bk_refresh_38 : decode prog_1_method_22_code 38 = .ok (.iload_n 1, 1) := kz_dr dd_Bk_refresh_0 22 rfl
theorem d_Bk_refresh_39 : decode prog_1_method_22_code 39 = .ok (.iconst 2, 1) := kz_dr dd_Bk_refresh_0 23 rfl
theorem d_Bk_refresh_40 : decode prog_1_method_22_code 40 = .ok (.if_icmp .ge 47, 3) := kz_dr dd_Bk_refresh_0 24 rfl
theorem d_Bk_refresh_43 : decode prog_1_method_22_code 43 = .ok (.aload_n 0, 1) := kz_dr dd_Bk_refresh_0 25 rfl
theorem d_Bk_refresh_44 : decode prog_1_method_22_code 44 = .ok (.getfield 35, 3) := kz_dr dd_Bk_refresh_0 26 rfl
theorem d_Bk_refresh_47 : decode prog_1_method_22_code 47 = .ok (.aload_n 0, 1) := kz_dr dd_Bk_refresh_0 27 rfl
theorem d_Bk_refresh_48 : decode prog_1_method_22_code 48 = .ok (.getfield 138, 3) := kz_dr dd_Bk_refresh_0 28 rfl
theorem d_Bk_refresh_51 : decode prog_1_method_22_code 51 = .ok (.invokevirtual 202, 3) := kz_dr dd_Bk_refresh_0 29 rfl
theorem d_Bk_refresh_54 : decode prog_1_method_22_code 54 = .ok (.ifCond .eq 13, 3) := kz_dr dd_Bk_refresh_0 30 rfl
theorem d_Bk_refresh_57 : decode prog_1_method_22_code 57 = .ok (.aload_n 0, 1) := kz_dr dd_Bk_refresh_0 31 rfl
theorem d_Bk_refresh_58 : decode prog_1_method_22_code 58 = .ok (.dup, 1) := kz_dr dd_Bk_refresh_0 32 rfl
theorem d_Bk_refresh_59 : decode prog_1_method_22_code 59 = .ok (.getfield 135, 3) := kz_dr dd_Bk_refresh_0 33 rfl
theorem d_Bk_refresh_62 : decode prog_1_method_22_code 62 = .ok (.iconst 1, 1) := kz_dr dd_Bk_refresh_0 34 rfl
theorem d_Bk_refresh_63 : decode prog_1_method_22_code 63 = .ok (.iadd, 1) := kz_dr dd_Bk_refresh_0 35 rfl
theorem d_Bk_refresh_64 : decode prog_1_method_22_code 64 = .ok (.putfield 135, 3) := kz_dr dd_Bk_refresh_0 36 rfl
theorem d_Bk_refresh_67 : decode prog_1_method_22_code 67 = .ok (.aload_n 0, 1) := kz_dr dd_Bk_refresh_0 37 rfl
theorem d_Bk_refresh_68 : decode prog_1_method_22_code 68 = .ok (.aload_n 0, 1) := kz_dr dd_Bk_refresh_0 38 rfl
theorem d_Bk_refresh_69 : decode prog_1_method_22_code 69 = .ok (.getfield 138, 3) := kz_dr dd_Bk_refresh_0 39 rfl
theorem d_Bk_refresh_72 : decode prog_1_method_22_code 72 = .ok (.iconst 1, 1) := kz_dr dd_Bk_refresh_0 40 rfl
theorem d_Bk_refresh_73 : decode prog_1_method_22_code 73 = .ok (.iadd, 1) := kz_dr dd_Bk_refresh_0 41 rfl
theorem d_Bk_refresh_74 : decode prog_1_method_22_code 74 = .ok (.sipush 256, 3) := kz_dr dd_Bk_refresh_0 42 rfl
theorem d_Bk_refresh_77 : decode prog_1_method_22_code 77 = .ok (.irem, 1) := kz_dr dd_Bk_refresh_0 43 rfl
theorem d_Bk_refresh_78 : decode prog_1_method_22_code 78 = .ok (.putfield 138, 3) := kz_dr dd_Bk_refresh_0 44 rfl
theorem d_Bk_refresh_81 : decode prog_1_method_22_code 81 = .ok (.iinc 1 1, 3) := kz_dr dd_Bk_refresh_0 45 rfl
theorem d_Bk_refresh_84 : decode prog_1_method_22_code 84 = .ok (.goto (-46), 3) := kz_dr dd_Bk_refresh_0 46 rfl
theorem d_Bk_refresh_87 : decode prog_1_method_22_code 87 = .ok (.return_, 1) := kz_dr dd_Bk_refresh_0 47 rfl
def dl_Ba_refresh_0 : List (Nat × Instr × Nat) := [(0, .aload_n 0, 1), (1, .iload_n 1, 1), (2, .putfield 49, 3), (5, .return_, 1)]
theorem dd_Ba_refresh_0 : dl_Ba_refresh_0.all (fun e => decide (decode prog_2_method_15_code e.1 = .ok e.2)) = true := by decide +kernel
theorem d_Ba_refresh_0 : decode prog_2_method_15_code 0 = .ok (.aload_n 0, 1) := kz_dr dd_Ba_refresh_0 0 rfl
theorem d_Ba_refresh_1 : decode prog_2_method_15_code 1 = .ok (.iload_n 1, 1) := kz_dr dd_Ba_refresh_0 1 rfl
theorem d_Ba_refresh_2 : decode prog_2_method_15_code 2 = .ok (.putfield 49, 3) := kz_dr dd_Ba_refresh_0 2 rfl
theorem d_Ba_refresh_5 : decode prog_2_method_15_code 5 = .ok (.return_, 1) := kz_dr dd_Ba_refresh_0 3 rfl
def dl_Jo_enter_0 : List (Nat × Instr × Nat) := [(0, .aload_n 0, 1), (1, .getfield 11, 3), (4, .aload_n 0, 1), (5, .getfield 18, 3), (8, .aaload, 1), (9, .astore 6, 2), (11, .aload 6, 2), (13, .iconst 0, 1), (14, .iload_n 1, 1), (15, .iastore, 1), (16, .aload 6, 2), (18, .iconst 1, 1), (19, .iload_n 2, 1), (20, .iastore, 1), (21, .aload 6, 2), (23, .iconst 2, 1), (24, .iload_n 3, 1), (25, .iastore, 1), (26, .aload 6, 2), (28, .iconst 3, 1), (29, .iload 4, 2), (31, .iastore, 1), (32, .aload 6, 2), (34, .iconst 4, 1), (35, .iload 5, 2), (37, .iastore, 1), (38, .aload_n 0, 1), (39, .aload_n 0, 1), (40, .getfield 18, 3), (43, .iconst 1, 1), (44, .iadd, 1), (45, .bipush 32, 2), (47, .irem, 1), (48, .putfield 18, 3), (51, .aload_n 0, 1), (52, .aload_n 0, 1), (53, .getfield 21, 3), (56, .iconst 1, 1), (57, .iadd, 1), (58, .bipush 32, 2), (60, .invokestatic 24, 3), (63, .putfield 21, 3), (66, .aload_n 0, 1), (67, .dup, 1), (68, .getfield 14, 3), (71, .iconst 1, 1), (72, .iadd, 1), (73, .putfield 14, 3), (76, .return_, 1)]
theorem dd_Jo_enter_0 : dl_Jo_enter_0.all (fun e => decide (decode prog_3_method_3_code e.1 = .ok e.2)) = true := by decide +kernel
theorem d_Jo_enter_0 : decode prog_3_method_3_code 0 = .ok (.aload_n 0, 1) := kz_dr dd_Jo_enter_0 0 rfl
theorem d_Jo_enter_1 : decode prog_3_method_3_code 1 = .ok (.getfield 11, 3) := kz_dr dd_Jo_enter_0 1 rfl
theorem d_Jo_enter_4 : decode prog_3_method_3_code 4 = .ok (.aload_n 0, 1) := kz_dr dd_Jo_enter_0 2 rfl
theorem d_Jo_enter_5 : decode prog_3_method_3_code 5 = .ok (.getfield 18, 3) := kz_dr dd_Jo_enter_0 3 rfl
theorem d_Jo_enter_8 : decode prog_3_method_3_code 8 = .ok (.aaload, 1) := kz_dr dd_Jo_enter_0 4 rfl
theorem d_Jo_enter_9 : decode prog_3_method_3_code 9 = .ok (.astore 6, 2) := kz_dr dd_Jo_enter_0 5 rfl
theorem d_Jo_enter_11 : decode prog_3_method_3_code 11 = .ok (.aload 6, 2) := kz_dr dd_Jo_enter_0 6 rfl
theorem d_Jo_enter_13 : decode prog_3_method_3_code 13 = .ok (.iconst 0, 1) := kz_dr dd_Jo_enter_0 7 rfl
theorem d_Jo_enter_14 : decode prog_3_method_3_code 14 = .ok (.iload_n 1, 1) := kz_dr dd_Jo_enter_0 8 rfl
theorem d_Jo_enter_15 : decode prog_3_method_3_code 15 = .ok (.iastore, 1) := kz_dr dd_Jo_enter_0 9 rfl
theorem d_Jo_enter_16 : decode prog_3_method_3_code 16 = .ok (.aload 6, 2) := kz_dr dd_Jo_enter_0 10 rfl
theorem d_Jo_enter_18 : decode prog_3_method_3_code 18 = .ok (.iconst 1, 1) := kz_dr dd_Jo_enter_0 11 rfl
theorem d_Jo_enter_19 : decode prog_3_method_3_code 19 = .ok (.iload_n 2, 1) := kz_dr dd_Jo_enter_0 12 rfl
theorem d_Jo_enter_20 : decode prog_3_method_3_code 20 = .ok (.iastore, 1) := kz_dr dd_Jo_enter_0 13 rfl
theorem d_Jo_enter_21 : decode prog_3_method_3_code 21 = .ok (.aload 6, 2) := kz_dr dd_Jo_enter_0 14 rfl
theorem d_Jo_enter_23 : decode prog_3_method_3_code 23 = .ok (.iconst 2, 1) := kz_dr dd_Jo_enter_0 15 rfl
theorem d_Jo_enter_24 : decode prog_3_method_3_code 24 = .ok (.iload_n 3, 1) := kz_dr dd_Jo_enter_0 16 rfl
theorem d_Jo_enter_25 : decode prog_3_method_3_code 25 = .ok (.iastore, 1) := kz_dr dd_Jo_enter_0 17 rfl
theorem d_Jo_enter_26 : decode prog_3_method_3_code 26 = .ok (.aload 6, 2) := kz_dr dd_Jo_enter_0 18 rfl
theorem d_Jo_enter_28 : decode prog_3_method_3_code 28 = .ok (.iconst 3, 1) := kz_dr dd_Jo_enter_0 19 rfl
theorem d_Jo_enter_29 : decode prog_3_method_3_code 29 = .ok (.iload 4, 2) := kz_dr dd_Jo_enter_0 20 rfl
theorem d_Jo_enter_31 : decode prog_3_method_3_code 31 = .ok (.iastore, 1) := kz_dr dd_Jo_enter_0 21 rfl
theorem d_Jo_enter_32 : decode prog_3_method_3_code 32 = .ok (.aload 6, 2) := kz_dr dd_Jo_enter_0 22 rfl
theorem d_Jo_enter_34 : decode prog_3_method_3_code 34 = .ok (.iconst 4, 1) := kz_dr dd_Jo_enter_0 23 rfl
theorem d_Jo_enter_35 : decode prog_3_method_3_code 35 = .ok (.iload 5, 2) := kz_dr dd_Jo_enter_0 24 rfl
theorem d_Jo_enter_37 : decode prog_3_method_3_code 37 = .ok (.iastore, 1) := kz_dr dd_Jo_enter_0 25 rfl
theorem d_Jo_enter_38 : decode prog_3_method_3_code 38 = .ok (.aload_n 0, 1) := kz_dr dd_Jo_enter_0 26 rfl
theorem d_Jo_enter_39 : decode prog_3_method_3_code 39 = .ok (.aload_n 0, 1) := kz_dr dd_Jo_enter_0 27 rfl
theorem d_Jo_enter_40 : decode prog_3_method_3_code 40 = .ok (.getfield 18, 3) := kz_dr dd_Jo_enter_0 28 rfl
theorem d_Jo_enter_43 : decode prog_3_method_3_code 43 = .ok (.iconst 1, 1) := kz_dr dd_Jo_enter_0 29 rfl
theorem d_Jo_enter_44 : decode prog_3_method_3_code 44 = .ok (.iadd, 1) := kz_dr dd_Jo_enter_0 30 rfl
theorem d_Jo_enter_45 : decode prog_3_method_3_code 45 = .ok (.bipush 32, 2) := kz_dr dd_Jo_enter_0 31 rfl
theorem d_Jo_enter_47 : decode prog_3_method_3_code 47 = .ok (.irem, 1) := kz_dr dd_Jo_enter_0 32 rfl
theorem d_Jo_enter_48 : decode prog_3_method_3_code 48 = .ok (.putfield 18, 3) := kz_dr dd_Jo_enter_0 33 rfl
theorem d_Jo_enter_51 : decode prog_3_method_3_code 51 = .ok (.aload_n 0, 1) := kz_dr dd_Jo_enter_0 34 rfl
theorem d_Jo_enter_52 : decode prog_3_method_3_code 52 = .ok (.aload_n 0, 1) := kz_dr dd_Jo_enter_0 35 rfl
theorem d_Jo_enter_53 : decode prog_3_method_3_code 53 = .ok (.getfield 21, 3) := kz_dr dd_Jo_enter_0 36 rfl
theorem d_Jo_enter_56 : decode prog_3_method_3_code 56 = .ok (.iconst 1, 1) := kz_dr dd_Jo_enter_0 37 rfl
theorem d_Jo_enter_57 : decode prog_3_method_3_code 57 = .ok (.iadd, 1) := kz_dr dd_Jo_enter_0 38 rfl
theorem d_Jo_enter_58 : decode prog_3_method_3_code 58 = .ok (.bipush 32, 2) := kz_dr dd_Jo_enter_0 39 rfl
theorem d_Jo_enter_60 : decode prog_3_method_3_code 60 = .ok (.invokestatic 24, 3) := kz_dr dd_Jo_enter_0 40 rfl
theorem d_Jo_enter_63 : decode prog_3_method_3_code 63 = .ok (.putfield 21, 3) := kz_dr dd_Jo_enter_0 41 rfl
theorem d_Jo_enter_66 : decode prog_3_method_3_code 66 = .ok (.aload_n 0, 1) := kz_dr dd_Jo_enter_0 42 rfl
theorem d_Jo_enter_67 : decode prog_3_method_3_code 67 = .ok (.dup, 1) := kz_dr dd_Jo_enter_0 43 rfl
theorem d_Jo_enter_68 : decode prog_3_method_3_code 68 = .ok (.getfield 14, 3) := kz_dr dd_Jo_enter_0 44 rfl
theorem d_Jo_enter_71 : decode prog_3_method_3_code 71 = .ok (.iconst 1, 1) := kz_dr dd_Jo_enter_0 45 rfl
theorem d_Jo_enter_72 : decode prog_3_method_3_code 72 = .ok (.iadd, 1) := kz_dr dd_Jo_enter_0 46 rfl
theorem d_Jo_enter_73 : decode prog_3_method_3_code 73 = .ok (.putfield 14, 3) := kz_dr dd_Jo_enter_0 47 rfl
theorem d_Jo_enter_76 : decode prog_3_method_3_code 76 = .ok (.return_, 1) := kz_dr dd_Jo_enter_0 48 rfl
def dl_St_putRight_0 : List (Nat × Instr × Nat) := [(0, .aload_n 0, 1), (1, .iload_n 1, 1), (2, .invokevirtual 48, 3), (5, .istore_n 2, 1), (6, .iload_n 2, 1), (7, .ifCond .ge 5, 3), (10, .iconst 0, 1), (11, .ireturn, 1), (12, .aload_n 0, 1), (13, .iload_n 1, 1), (14, .iload_n 2, 1), (15, .invokevirtual 23, 3), (18, .iconst 1, 1), (19, .ireturn, 1)]
theorem dd_St_putRight_0 : dl_St_putRight_0.all (fun e => decide (decode prog_6_method_10_code e.1 = .ok e.2)) = true := by decide +kernel
theorem d_St_putRight_0 : decode prog_6_method_10_code 0 = .ok (.aload_n 0, 1) := kz_dr dd_St_putRight_0 0 rfl
theorem d_St_putRight_1 : decode prog_6_method_10_code 1 = .ok (.iload_n 1, 1) := kz_dr dd_St_putRight_0 1 rfl
theorem d_St_putRight_2 : decode prog_6_method_10_code 2 = .ok (.invokevirtual 48, 3) := kz_dr dd_St_putRight_0 2 rfl
theorem d_St_putRight_5 : decode prog_6_method_10_code 5 = .ok (.istore_n 2, 1) := kz_dr dd_St_putRight_0 3 rfl
theorem d_St_putRight_6 : decode prog_6_method_10_code 6 = .ok (.iload_n 2, 1) := kz_dr dd_St_putRight_0 4 rfl
theorem d_St_putRight_7 : decode prog_6_method_10_code 7 = .ok (.ifCond .ge 5, 3) := kz_dr dd_St_putRight_0 5 rfl
theorem d_St_putRight_10 : decode prog_6_method_10_code 10 = .ok (.iconst 0, 1) := kz_dr dd_St_putRight_0 6 rfl
theorem d_St_putRight_11 : decode prog_6_method_10_code 11 = .ok (.ireturn, 1) := kz_dr dd_St_putRight_0 7 rfl
theorem d_St_putRight_12 : decode prog_6_method_10_code 12 = .ok (.aload_n 0, 1) := kz_dr dd_St_putRight_0 8 rfl
theorem d_St_putRight_13 : decode prog_6_method_10_code 13 = .ok (.iload_n 1, 1) := kz_dr dd_St_putRight_0 9 rfl
theorem d_St_putRight_14 : decode prog_6_method_10_code 14 = .ok (.iload_n 2, 1) := kz_dr dd_St_putRight_0 10 rfl
theorem d_St_putRight_15 : decode prog_6_method_10_code 15 = .ok (.invokevirtual 23, 3) := kz_dr dd_St_putRight_0 11 rfl
theorem d_St_putRight_18 : decode prog_6_method_10_code 18 = .ok (.iconst 1, 1) := kz_dr dd_St_putRight_0 12 rfl
theorem d_St_putRight_19 : decode prog_6_method_10_code 19 = .ok (.ireturn, 1) := kz_dr dd_St_putRight_0 13 rfl
def dl_St_faultOf_0 : List (Nat × Instr × Nat) := [(0, .aload_n 0, 1), (1, .iload_n 1, 1), (2, .invokevirtual 45, 3), (5, .istore_n 2, 1), (6, .aload_n 0, 1), (7, .iload_n 1, 1), (8, .invokevirtual 27, 3), (11, .ifCond .eq 16, 3), (14, .iload_n 2, 1), (15, .bipush 72, 2), (17, .if_icmp .ge 7, 3), (20, .iload_n 2, 1), (21, .goto 5, 3), (24, .bipush (-2), 2), (26, .ireturn, 1), (27, .iload_n 2, 1), (28, .ifCond .ne 7, 3), (31, .iconst (-1), 1), (32, .goto 5, 3), (35, .bipush (-2), 2), (37, .ireturn, 1)]
theorem dd_St_faultOf_0 : dl_St_faultOf_0.all (fun e => decide (decode prog_6_method_8_code e.1 = .ok e.2)) = true := by decide +kernel
theorem d_St_faultOf_0 : decode prog_6_method_8_code 0 = .ok (.aload_n 0, 1) := kz_dr dd_St_faultOf_0 0 rfl
theorem d_St_faultOf_1 : decode prog_6_method_8_code 1 = .ok (.iload_n 1, 1) := kz_dr dd_St_faultOf_0 1 rfl
theorem d_St_faultOf_2 : decode prog_6_method_8_code 2 = .ok (.invokevirtual 45, 3) := kz_dr dd_St_faultOf_0 2 rfl
theorem d_St_faultOf_5 : decode prog_6_method_8_code 5 = .ok (.istore_n 2, 1) := kz_dr dd_St_faultOf_0 3 rfl
theorem d_St_faultOf_6 : decode prog_6_method_8_code 6 = .ok (.aload_n 0, 1) := kz_dr dd_St_faultOf_0 4 rfl
theorem d_St_faultOf_7 : decode prog_6_method_8_code 7 = .ok (.iload_n 1, 1) := kz_dr dd_St_faultOf_0 5 rfl
theorem d_St_faultOf_8 : decode prog_6_method_8_code 8 = .ok (.invokevirtual 27, 3) := kz_dr dd_St_faultOf_0 6 rfl
theorem d_St_faultOf_11 : decode prog_6_method_8_code 11 = .ok (.ifCond .eq 16, 3) := kz_dr dd_St_faultOf_0 7 rfl
theorem d_St_faultOf_14 : decode prog_6_method_8_code 14 = .ok (.iload_n 2, 1) := kz_dr dd_St_faultOf_0 8 rfl
theorem d_St_faultOf_15 : decode prog_6_method_8_code 15 = .ok (.bipush 72, 2) := kz_dr dd_St_faultOf_0 9 rfl
theorem d_St_faultOf_17 : decode prog_6_method_8_code 17 = .ok (.if_icmp .ge 7, 3) := kz_dr dd_St_faultOf_0 10 rfl
theorem d_St_faultOf_20 : decode prog_6_method_8_code 20 = .ok (.iload_n 2, 1) := kz_dr dd_St_faultOf_0 11 rfl
theorem d_St_faultOf_21 : decode prog_6_method_8_code 21 = .ok (.goto 5, 3) := kz_dr dd_St_faultOf_0 12 rfl
theorem d_St_faultOf_24 : decode prog_6_method_8_code 24 = .ok (.bipush (-2), 2) := kz_dr dd_St_faultOf_0 13 rfl
theorem d_St_faultOf_26 : decode prog_6_method_8_code 26 = .ok (.ireturn, 1) := kz_dr dd_St_faultOf_0 14 rfl
theorem d_St_faultOf_27 : decode prog_6_method_8_code 27 = .ok (.iload_n 2, 1) := kz_dr dd_St_faultOf_0 15 rfl
theorem d_St_faultOf_28 : decode prog_6_method_8_code 28 = .ok (.ifCond .ne 7, 3) := kz_dr dd_St_faultOf_0 16 rfl
theorem d_St_faultOf_31 : decode prog_6_method_8_code 31 = .ok (.iconst (-1), 1) := kz_dr dd_St_faultOf_0 17 rfl
theorem d_St_faultOf_32 : decode prog_6_method_8_code 32 = .ok (.goto 5, 3) := kz_dr dd_St_faultOf_0 18 rfl
theorem d_St_faultOf_35 : decode prog_6_method_8_code 35 = .ok (.bipush (-2), 2) := kz_dr dd_St_faultOf_0 19 rfl
theorem d_St_faultOf_37 : decode prog_6_method_8_code 37 = .ok (.ireturn, 1) := kz_dr dd_St_faultOf_0 20 rfl
def dl_St_syndromeOf_0 : List (Nat × Instr × Nat) := [(0, .iconst 0, 1), (1, .istore_n 2, 1), (2, .iconst 1, 1), (3, .istore_n 3, 1), (4, .iload_n 3, 1), (5, .bipush 72, 2), (7, .if_icmp .ge 23, 3), (10, .aload_n 0, 1), (11, .iload_n 1, 1), (12, .iload_n 3, 1), (13, .invokevirtual 30, 3), (16, .iconst 1, 1), (17, .if_icmp .ne 7, 3), (20, .iload_n 2, 1), (21, .iload_n 3, 1), (22, .ixor, 1), (23, .istore_n 2, 1), (24, .iinc 3 1, 3), (27, .goto (-23), 3), (30, .iload_n 2, 1), (31, .ireturn, 1)]
theorem dd_St_syndromeOf_0 : dl_St_syndromeOf_0.all (fun e => decide (decode prog_6_method_6_code e.1 = .ok e.2)) = true := by decide +kernel
theorem d_St_syndromeOf_0 : decode prog_6_method_6_code 0 = .ok (.iconst 0, 1) := kz_dr dd_St_syndromeOf_0 0 rfl
theorem d_St_syndromeOf_1 : decode prog_6_method_6_code 1 = .ok (.istore_n 2, 1) := kz_dr dd_St_syndromeOf_0 1 rfl
theorem d_St_syndromeOf_2 : decode prog_6_method_6_code 2 = .ok (.iconst 1, 1) := kz_dr dd_St_syndromeOf_0 2 rfl
theorem d_St_syndromeOf_3 : decode prog_6_method_6_code 3 = .ok (.istore_n 3, 1) := kz_dr dd_St_syndromeOf_0 3 rfl
theorem d_St_syndromeOf_4 : decode prog_6_method_6_code 4 = .ok (.iload_n 3, 1) := kz_dr dd_St_syndromeOf_0 4 rfl
theorem d_St_syndromeOf_5 : decode prog_6_method_6_code 5 = .ok (.bipush 72, 2) := kz_dr dd_St_syndromeOf_0 5 rfl
theorem d_St_syndromeOf_7 : decode prog_6_method_6_code 7 = .ok (.if_icmp .ge 23, 3) := kz_dr dd_St_syndromeOf_0 6 rfl
theorem d_St_syndromeOf_10 : decode prog_6_method_6_code 10 = .ok (.aload_n 0, 1) := kz_dr dd_St_syndromeOf_0 7 rfl
theorem d_St_syndromeOf_11 : decode prog_6_method_6_code 11 = .ok (.iload_n 1, 1) := kz_dr dd_St_syndromeOf_0 8 rfl
theorem d_St_syndromeOf_12 : decode prog_6_method_6_code 12 = .ok (.iload_n 3, 1) := kz_dr dd_St_syndromeOf_0 9 rfl
theorem d_St_syndromeOf_13 : decode prog_6_method_6_code 13 = .ok (.invokevirtual 30, 3) := kz_dr dd_St_syndromeOf_0 10 rfl
theorem d_St_syndromeOf_16 : decode prog_6_method_6_code 16 = .ok (.iconst 1, 1) := kz_dr dd_St_syndromeOf_0 11 rfl
theorem d_St_syndromeOf_17 : decode prog_6_method_6_code 17 = .ok (.if_icmp .ne 7, 3) := kz_dr dd_St_syndromeOf_0 12 rfl
theorem d_St_syndromeOf_20 : decode prog_6_method_6_code 20 = .ok (.iload_n 2, 1) := kz_dr dd_St_syndromeOf_0 13 rfl
theorem d_St_syndromeOf_21 : decode prog_6_method_6_code 21 = .ok (.iload_n 3, 1) := kz_dr dd_St_syndromeOf_0 14 rfl
theorem d_St_syndromeOf_22 : decode prog_6_method_6_code 22 = .ok (.ixor, 1) := kz_dr dd_St_syndromeOf_0 15 rfl
theorem d_St_syndromeOf_23 : decode prog_6_method_6_code 23 = .ok (.istore_n 2, 1) := kz_dr dd_St_syndromeOf_0 16 rfl
theorem d_St_syndromeOf_24 : decode prog_6_method_6_code 24 = .ok (.iinc 3 1, 3) := kz_dr dd_St_syndromeOf_0 17 rfl
theorem d_St_syndromeOf_27 : decode prog_6_method_6_code 27 = .ok (.goto (-23), 3) := kz_dr dd_St_syndromeOf_0 18 rfl
theorem d_St_syndromeOf_30 : decode prog_6_method_6_code 30 = .ok (.iload_n 2, 1) := kz_dr dd_St_syndromeOf_0 19 rfl
theorem d_St_syndromeOf_31 : decode prog_6_method_6_code 31 = .ok (.ireturn, 1) := kz_dr dd_St_syndromeOf_0 20 rfl
def dl_St_bitAt_0 : List (Nat × Instr × Nat) := [(0, .iload_n 2, 1), (1, .bipush 64, 2), (3, .if_icmp .ge 15, 3), (6, .aload_n 0, 1), (7, .getfield 9, 3), (10, .iload_n 1, 1), (11, .laload, 1), (12, .iload_n 2, 1), (13, .lushr, 1), (14, .lconst 1, 1), (15, .land, 1), (16, .l2i, 1), (17, .ireturn, 1), (18, .aload_n 0, 1), (19, .getfield 15, 3), (22, .iload_n 1, 1), (23, .iaload, 1), (24, .iload_n 2, 1), (25, .bipush 64, 2), (27, .isub, 1), (28, .iushr, 1), (29, .iconst 1, 1), (30, .iand, 1), (31, .ireturn, 1)]
theorem dd_St_bitAt_0 : dl_St_bitAt_0.all (fun e => decide (decode prog_6_method_2_code e.1 = .ok e.2)) = true := by decide +kernel
theorem d_St_bitAt_0 : decode prog_6_method_2_code 0 = .ok (.iload_n 2, 1) := kz_dr dd_St_bitAt_0 0 rfl
theorem d_St_bitAt_1 : decode prog_6_method_2_code 1 = .ok (.bipush 64, 2) := kz_dr dd_St_bitAt_0 1 rfl
theorem d_St_bitAt_3 : decode prog_6_method_2_code 3 = .ok (.if_icmp .ge 15, 3) := kz_dr dd_St_bitAt_0 2 rfl
theorem d_St_bitAt_6 : decode prog_6_method_2_code 6 = .ok (.aload_n 0, 1) := kz_dr dd_St_bitAt_0 3 rfl
theorem d_St_bitAt_7 : decode prog_6_method_2_code 7 = .ok (.getfield 9, 3) := kz_dr dd_St_bitAt_0 4 rfl
theorem d_St_bitAt_10 : decode prog_6_method_2_code 10 = .ok (.iload_n 1, 1) := kz_dr dd_St_bitAt_0 5 rfl
theorem d_St_bitAt_11 : decode prog_6_method_2_code 11 = .ok (.laload, 1) := kz_dr dd_St_bitAt_0 6 rfl
theorem d_St_bitAt_12 : decode prog_6_method_2_code 12 = .ok (.iload_n 2, 1) := kz_dr dd_St_bitAt_0 7 rfl
theorem d_St_bitAt_13 : decode prog_6_method_2_code 13 = .ok (.lushr, 1) := kz_dr dd_St_bitAt_0 8 rfl
theorem d_St_bitAt_14 : decode prog_6_method_2_code 14 = .ok (.lconst 1, 1) := kz_dr dd_St_bitAt_0 9 rfl
theorem d_St_bitAt_15 : decode prog_6_method_2_code 15 = .ok (.land, 1) := kz_dr dd_St_bitAt_0 10 rfl
theorem d_St_bitAt_16 : decode prog_6_method_2_code 16 = .ok (.l2i, 1) := kz_dr dd_St_bitAt_0 11 rfl
theorem d_St_bitAt_17 : decode prog_6_method_2_code 17 = .ok (.ireturn, 1) := kz_dr dd_St_bitAt_0 12 rfl
theorem d_St_bitAt_18 : decode prog_6_method_2_code 18 = .ok (.aload_n 0, 1) := kz_dr dd_St_bitAt_0 13 rfl
theorem d_St_bitAt_19 : decode prog_6_method_2_code 19 = .ok (.getfield 15, 3) := kz_dr dd_St_bitAt_0 14 rfl
theorem d_St_bitAt_22 : decode prog_6_method_2_code 22 = .ok (.iload_n 1, 1) := kz_dr dd_St_bitAt_0 15 rfl
theorem d_St_bitAt_23 : decode prog_6_method_2_code 23 = .ok (.iaload, 1) := kz_dr dd_St_bitAt_0 16 rfl
theorem d_St_bitAt_24 : decode prog_6_method_2_code 24 = .ok (.iload_n 2, 1) := kz_dr dd_St_bitAt_0 17 rfl
theorem d_St_bitAt_25 : decode prog_6_method_2_code 25 = .ok (.bipush 64, 2) := kz_dr dd_St_bitAt_0 18 rfl
theorem d_St_bitAt_27 : decode prog_6_method_2_code 27 = .ok (.isub, 1) := kz_dr dd_St_bitAt_0 19 rfl
theorem d_St_bitAt_28 : decode prog_6_method_2_code 28 = .ok (.iushr, 1) := kz_dr dd_St_bitAt_0 20 rfl
theorem d_St_bitAt_29 : decode prog_6_method_2_code 29 = .ok (.iconst 1, 1) := kz_dr dd_St_bitAt_0 21 rfl
theorem d_St_bitAt_30 : decode prog_6_method_2_code 30 = .ok (.iand, 1) := kz_dr dd_St_bitAt_0 22 rfl
theorem d_St_bitAt_31 : decode prog_6_method_2_code 31 = .ok (.ireturn, 1) := kz_dr dd_St_bitAt_0 23 rfl
def dl_St_onesAreOdd_0 : List (Nat × Instr × Nat) := [(0, .aload_n 0, 1), (1, .getfield 9, 3), (4, .iload_n 1, 1), (5, .laload, 1), (6, .invokestatic 34, 3), (9, .aload_n 0, 1), (10, .getfield 15, 3), (13, .iload_n 1, 1), (14, .iaload, 1), (15, .invokestatic 40, 3), (18, .iadd, 1), (19, .istore_n 2, 1), (20, .iload_n 2, 1), (21, .iconst 2, 1), (22, .irem, 1), (23, .iconst 1, 1), (24, .if_icmp .ne 7, 3), (27, .iconst 1, 1), (28, .goto 4, 3), (31, .iconst 0, 1), (32, .ireturn, 1)]
theorem dd_St_onesAreOdd_0 : dl_St_onesAreOdd_0.all (fun e => decide (decode prog_6_method_7_code e.1 = .ok e.2)) = true := by decide +kernel
theorem d_St_onesAreOdd_0 : decode prog_6_method_7_code 0 = .ok (.aload_n 0, 1) := kz_dr dd_St_onesAreOdd_0 0 rfl
theorem d_St_onesAreOdd_1 : decode prog_6_method_7_code 1 = .ok (.getfield 9, 3) := kz_dr dd_St_onesAreOdd_0 1 rfl
theorem d_St_onesAreOdd_4 : decode prog_6_method_7_code 4 = .ok (.iload_n 1, 1) := kz_dr dd_St_onesAreOdd_0 2 rfl
theorem d_St_onesAreOdd_5 : decode prog_6_method_7_code 5 = .ok (.laload, 1) := kz_dr dd_St_onesAreOdd_0 3 rfl
theorem d_St_onesAreOdd_6 : decode prog_6_method_7_code 6 = .ok (.invokestatic 34, 3) := kz_dr dd_St_onesAreOdd_0 4 rfl
theorem d_St_onesAreOdd_9 : decode prog_6_method_7_code 9 = .ok (.aload_n 0, 1) := kz_dr dd_St_onesAreOdd_0 5 rfl
theorem d_St_onesAreOdd_10 : decode prog_6_method_7_code 10 = .ok (.getfield 15, 3) := kz_dr dd_St_onesAreOdd_0 6 rfl
theorem d_St_onesAreOdd_13 : decode prog_6_method_7_code 13 = .ok (.iload_n 1, 1) := kz_dr dd_St_onesAreOdd_0 7 rfl
theorem d_St_onesAreOdd_14 : decode prog_6_method_7_code 14 = .ok (.iaload, 1) := kz_dr dd_St_onesAreOdd_0 8 rfl
theorem d_St_onesAreOdd_15 : decode prog_6_method_7_code 15 = .ok (.invokestatic 40, 3) := kz_dr dd_St_onesAreOdd_0 9 rfl
theorem d_St_onesAreOdd_18 : decode prog_6_method_7_code 18 = .ok (.iadd, 1) := kz_dr dd_St_onesAreOdd_0 10 rfl
theorem d_St_onesAreOdd_19 : decode prog_6_method_7_code 19 = .ok (.istore_n 2, 1) := kz_dr dd_St_onesAreOdd_0 11 rfl
theorem d_St_onesAreOdd_20 : decode prog_6_method_7_code 20 = .ok (.iload_n 2, 1) := kz_dr dd_St_onesAreOdd_0 12 rfl
theorem d_St_onesAreOdd_21 : decode prog_6_method_7_code 21 = .ok (.iconst 2, 1) := kz_dr dd_St_onesAreOdd_0 13 rfl
theorem d_St_onesAreOdd_22 : decode prog_6_method_7_code 22 = .ok (.irem, 1) := kz_dr dd_St_onesAreOdd_0 14 rfl
theorem d_St_onesAreOdd_23 : decode prog_6_method_7_code 23 = .ok (.iconst 1, 1) := kz_dr dd_St_onesAreOdd_0 15 rfl
theorem d_St_onesAreOdd_24 : decode prog_6_method_7_code 24 = .ok (.if_icmp .ne 7, 3) := kz_dr dd_St_onesAreOdd_0 16 rfl
theorem d_St_onesAreOdd_27 : decode prog_6_method_7_code 27 = .ok (.iconst 1, 1) := kz_dr dd_St_onesAreOdd_0 17 rfl
theorem d_St_onesAreOdd_28 : decode prog_6_method_7_code 28 = .ok (.goto 4, 3) := kz_dr dd_St_onesAreOdd_0 18 rfl
theorem d_St_onesAreOdd_31 : decode prog_6_method_7_code 31 = .ok (.iconst 0, 1) := kz_dr dd_St_onesAreOdd_0 19 rfl
theorem d_St_onesAreOdd_32 : decode prog_6_method_7_code 32 = .ok (.ireturn, 1) := kz_dr dd_St_onesAreOdd_0 20 rfl
def dl_Lo_bitCount_0 : List (Nat × Instr × Nat) := [(0, .lload_n 0, 1), (1, .lload_n 0, 1), (2, .iconst 1, 1), (3, .lushr, 1), (4, .ldc2_w 314, 3), (7, .land, 1), (8, .lsub, 1), (9, .lstore_n 0, 1), (10, .lload_n 0, 1), (11, .ldc2_w 316, 3), (14, .land, 1), (15, .lload_n 0, 1), (16, .iconst 2, 1), (17, .lushr, 1), (18, .ldc2_w 316, 3), (21, .land, 1), (22, .ladd, 1), (23, .lstore_n 0, 1), (24, .lload_n 0, 1), (25, .lload_n 0, 1), (26, .iconst 4, 1), (27, .lushr, 1), (28, .ladd, 1), (29, .ldc2_w 318, 3), (32, .land, 1), (33, .lstore_n 0, 1), (34, .lload_n 0, 1), (35, .lload_n 0, 1), (36, .bipush 8, 2), (38, .lushr, 1), (39, .ladd, 1), (40, .lstore_n 0, 1), (41, .lload_n 0, 1), (42, .lload_n 0, 1), (43, .bipush 16, 2), (45, .lushr, 1), (46, .ladd, 1), (47, .lstore_n 0, 1), (48, .lload_n 0, 1), (49, .lload_n 0, 1), (50, .bipush 32, 2), (52, .lushr, 1), (53, .ladd, 1), (54, .lstore_n 0, 1), (55, .lload_n 0, 1), (56, .l2i, 1), (57, .bipush 127, 2), (59, .iand, 1), (60, .ireturn, 1)]
theorem dd_Lo_bitCount_0 : dl_Lo_bitCount_0.all (fun e => decide (decode prog_11_method_50_code e.1 = .ok e.2)) = true := by decide +kernel
theorem d_Lo_bitCount_0 : decode prog_11_method_50_code 0 = .ok (.lload_n 0, 1) := kz_dr dd_Lo_bitCount_0 0 rfl
theorem d_Lo_bitCount_1 : decode prog_11_method_50_code 1 = .ok (.lload_n 0, 1) := kz_dr dd_Lo_bitCount_0 1 rfl
theorem d_Lo_bitCount_2 : decode prog_11_method_50_code 2 = .ok (.iconst 1, 1) := kz_dr dd_Lo_bitCount_0 2 rfl
theorem d_Lo_bitCount_3 : decode prog_11_method_50_code 3 = .ok (.lushr, 1) := kz_dr dd_Lo_bitCount_0 3 rfl
theorem d_Lo_bitCount_4 : decode prog_11_method_50_code 4 = .ok (.ldc2_w 314, 3) := kz_dr dd_Lo_bitCount_0 4 rfl
theorem d_Lo_bitCount_7 : decode prog_11_method_50_code 7 = .ok (.land, 1) := kz_dr dd_Lo_bitCount_0 5 rfl
theorem d_Lo_bitCount_8 : decode prog_11_method_50_code 8 = .ok (.lsub, 1) := kz_dr dd_Lo_bitCount_0 6 rfl
theorem d_Lo_bitCount_9 : decode prog_11_method_50_code 9 = .ok (.lstore_n 0, 1) := kz_dr dd_Lo_bitCount_0 7 rfl
theorem d_Lo_bitCount_10 : decode prog_11_method_50_code 10 = .ok (.lload_n 0, 1) := kz_dr dd_Lo_bitCount_0 8 rfl
theorem d_Lo_bitCount_11 : decode prog_11_method_50_code 11 = .ok (.ldc2_w 316, 3) := kz_dr dd_Lo_bitCount_0 9 rfl
theorem d_Lo_bitCount_14 : decode prog_11_method_50_code 14 = .ok (.land, 1) := kz_dr dd_Lo_bitCount_0 10 rfl
theorem d_Lo_bitCount_15 : decode prog_11_method_50_code 15 = .ok (.lload_n 0, 1) := kz_dr dd_Lo_bitCount_0 11 rfl
theorem d_Lo_bitCount_16 : decode prog_11_method_50_code 16 = .ok (.iconst 2, 1) := kz_dr dd_Lo_bitCount_0 12 rfl
theorem d_Lo_bitCount_17 : decode prog_11_method_50_code 17 = .ok (.lushr, 1) := kz_dr dd_Lo_bitCount_0 13 rfl
theorem d_Lo_bitCount_18 : decode prog_11_method_50_code 18 = .ok (.ldc2_w 316, 3) := kz_dr dd_Lo_bitCount_0 14 rfl
theorem d_Lo_bitCount_21 : decode prog_11_method_50_code 21 = .ok (.land, 1) := kz_dr dd_Lo_bitCount_0 15 rfl
theorem d_Lo_bitCount_22 : decode prog_11_method_50_code 22 = .ok (.ladd, 1) := kz_dr dd_Lo_bitCount_0 16 rfl
theorem d_Lo_bitCount_23 : decode prog_11_method_50_code 23 = .ok (.lstore_n 0, 1) := kz_dr dd_Lo_bitCount_0 17 rfl
theorem d_Lo_bitCount_24 : decode prog_11_method_50_code 24 = .ok (.lload_n 0, 1) := kz_dr dd_Lo_bitCount_0 18 rfl
theorem d_Lo_bitCount_25 : decode prog_11_method_50_code 25 = .ok (.lload_n 0, 1) := kz_dr dd_Lo_bitCount_0 19 rfl
theorem d_Lo_bitCount_26 : decode prog_11_method_50_code 26 = .ok (.iconst 4, 1) := kz_dr dd_Lo_bitCount_0 20 rfl
theorem d_Lo_bitCount_27 : decode prog_11_method_50_code 27 = .ok (.lushr, 1) := kz_dr dd_Lo_bitCount_0 21 rfl
theorem d_Lo_bitCount_28 : decode prog_11_method_50_code 28 = .ok (.ladd, 1) := kz_dr dd_Lo_bitCount_0 22 rfl
theorem d_Lo_bitCount_29 : decode prog_11_method_50_code 29 = .ok (.ldc2_w 318, 3) := kz_dr dd_Lo_bitCount_0 23 rfl
theorem d_Lo_bitCount_32 : decode prog_11_method_50_code 32 = .ok (.land, 1) := kz_dr dd_Lo_bitCount_0 24 rfl
theorem d_Lo_bitCount_33 : decode prog_11_method_50_code 33 = .ok (.lstore_n 0, 1) := kz_dr dd_Lo_bitCount_0 25 rfl
theorem d_Lo_bitCount_34 : decode prog_11_method_50_code 34 = .ok (.lload_n 0, 1) := kz_dr dd_Lo_bitCount_0 26 rfl
theorem d_Lo_bitCount_35 : decode prog_11_method_50_code 35 = .ok (.lload_n 0, 1) := kz_dr dd_Lo_bitCount_0 27 rfl
theorem d_Lo_bitCount_36 : decode prog_11_method_50_code 36 = .ok (.bipush 8, 2) := kz_dr dd_Lo_bitCount_0 28 rfl
theorem d_Lo_bitCount_38 : decode prog_11_method_50_code 38 = .ok (.lushr, 1) := kz_dr dd_Lo_bitCount_0 29 rfl
theorem d_Lo_bitCount_39 : decode prog_11_method_50_code 39 = .ok (.ladd, 1) := kz_dr dd_Lo_bitCount_0 30 rfl
theorem d_Lo_bitCount_40 : decode prog_11_method_50_code 40 = .ok (.lstore_n 0, 1) := kz_dr dd_Lo_bitCount_0 31 rfl
theorem d_Lo_bitCount_41 : decode prog_11_method_50_code 41 = .ok (.lload_n 0, 1) := kz_dr dd_Lo_bitCount_0 32 rfl
theorem d_Lo_bitCount_42 : decode prog_11_method_50_code 42 = .ok (.lload_n 0, 1) := kz_dr dd_Lo_bitCount_0 33 rfl
theorem d_Lo_bitCount_43 : decode prog_11_method_50_code 43 = .ok (.bipush 16, 2) := kz_dr dd_Lo_bitCount_0 34 rfl
theorem d_Lo_bitCount_45 : decode prog_11_method_50_code 45 = .ok (.lushr, 1) := kz_dr dd_Lo_bitCount_0 35 rfl
theorem d_Lo_bitCount_46 : decode prog_11_method_50_code 46 = .ok (.ladd, 1) := kz_dr dd_Lo_bitCount_0 36 rfl
theorem d_Lo_bitCount_47 : decode prog_11_method_50_code 47 = .ok (.lstore_n 0, 1) := kz_dr dd_Lo_bitCount_0 37 rfl
theorem d_Lo_bitCount_48 : decode prog_11_method_50_code 48 = .ok (.lload_n 0, 1) := kz_dr dd_Lo_bitCount_0 38 rfl
theorem d_Lo_bitCount_49 : decode prog_11_method_50_code 49 = .ok (.lload_n 0, 1) := kz_dr dd_Lo_bitCount_0 39 rfl
theorem d_Lo_bitCount_50 : decode prog_11_method_50_code 50 = .ok (.bipush 32, 2) := kz_dr dd_Lo_bitCount_0 40 rfl
theorem d_Lo_bitCount_52 : decode prog_11_method_50_code 52 = .ok (.lushr, 1) := kz_dr dd_Lo_bitCount_0 41 rfl
theorem d_Lo_bitCount_53 : decode prog_11_method_50_code 53 = .ok (.ladd, 1) := kz_dr dd_Lo_bitCount_0 42 rfl
theorem d_Lo_bitCount_54 : decode prog_11_method_50_code 54 = .ok (.lstore_n 0, 1) := kz_dr dd_Lo_bitCount_0 43 rfl
theorem d_Lo_bitCount_55 : decode prog_11_method_50_code 55 = .ok (.lload_n 0, 1) := kz_dr dd_Lo_bitCount_0 44 rfl
theorem d_Lo_bitCount_56 : decode prog_11_method_50_code 56 = .ok (.l2i, 1) := kz_dr dd_Lo_bitCount_0 45 rfl
theorem d_Lo_bitCount_57 : decode prog_11_method_50_code 57 = .ok (.bipush 127, 2) := kz_dr dd_Lo_bitCount_0 46 rfl
theorem d_Lo_bitCount_59 : decode prog_11_method_50_code 59 = .ok (.iand, 1) := kz_dr dd_Lo_bitCount_0 47 rfl
theorem d_Lo_bitCount_60 : decode prog_11_method_50_code 60 = .ok (.ireturn, 1) := kz_dr dd_Lo_bitCount_0 48 rfl
def dl_In_bitCount_0 : List (Nat × Instr × Nat) := [(0, .iload_n 0, 1), (1, .iload_n 0, 1), (2, .iconst 1, 1), (3, .iushr, 1), (4, .ldc_w 265, 3), (7, .iand, 1), (8, .isub, 1), (9, .istore_n 0, 1), (10, .iload_n 0, 1), (11, .ldc_w 266, 3), (14, .iand, 1), (15, .iload_n 0, 1), (16, .iconst 2, 1), (17, .iushr, 1), (18, .ldc_w 266, 3), (21, .iand, 1), (22, .iadd, 1), (23, .istore_n 0, 1), (24, .iload_n 0, 1), (25, .iload_n 0, 1), (26, .iconst 4, 1), (27, .iushr, 1), (28, .iadd, 1), (29, .ldc_w 267, 3), (32, .iand, 1), (33, .istore_n 0, 1), (34, .iload_n 0, 1), (35, .iload_n 0, 1), (36, .bipush 8, 2), (38, .iushr, 1), (39, .iadd, 1), (40, .istore_n 0, 1), (41, .iload_n 0, 1), (42, .iload_n 0, 1), (43, .bipush 16, 2), (45, .iushr, 1), (46, .iadd, 1), (47, .istore_n 0, 1), (48, .iload_n 0, 1), (49, .bipush 63, 2), (51, .iand, 1), (52, .ireturn, 1)]
theorem dd_In_bitCount_0 : dl_In_bitCount_0.all (fun e => decide (decode prog_10_method_49_code e.1 = .ok e.2)) = true := by decide +kernel
theorem d_In_bitCount_0 : decode prog_10_method_49_code 0 = .ok (.iload_n 0, 1) := kz_dr dd_In_bitCount_0 0 rfl
theorem d_In_bitCount_1 : decode prog_10_method_49_code 1 = .ok (.iload_n 0, 1) := kz_dr dd_In_bitCount_0 1 rfl
theorem d_In_bitCount_2 : decode prog_10_method_49_code 2 = .ok (.iconst 1, 1) := kz_dr dd_In_bitCount_0 2 rfl
theorem d_In_bitCount_3 : decode prog_10_method_49_code 3 = .ok (.iushr, 1) := kz_dr dd_In_bitCount_0 3 rfl
theorem d_In_bitCount_4 : decode prog_10_method_49_code 4 = .ok (.ldc_w 265, 3) := kz_dr dd_In_bitCount_0 4 rfl
theorem d_In_bitCount_7 : decode prog_10_method_49_code 7 = .ok (.iand, 1) := kz_dr dd_In_bitCount_0 5 rfl
theorem d_In_bitCount_8 : decode prog_10_method_49_code 8 = .ok (.isub, 1) := kz_dr dd_In_bitCount_0 6 rfl
theorem d_In_bitCount_9 : decode prog_10_method_49_code 9 = .ok (.istore_n 0, 1) := kz_dr dd_In_bitCount_0 7 rfl
theorem d_In_bitCount_10 : decode prog_10_method_49_code 10 = .ok (.iload_n 0, 1) := kz_dr dd_In_bitCount_0 8 rfl
theorem d_In_bitCount_11 : decode prog_10_method_49_code 11 = .ok (.ldc_w 266, 3) := kz_dr dd_In_bitCount_0 9 rfl
theorem d_In_bitCount_14 : decode prog_10_method_49_code 14 = .ok (.iand, 1) := kz_dr dd_In_bitCount_0 10 rfl
theorem d_In_bitCount_15 : decode prog_10_method_49_code 15 = .ok (.iload_n 0, 1) := kz_dr dd_In_bitCount_0 11 rfl
theorem d_In_bitCount_16 : decode prog_10_method_49_code 16 = .ok (.iconst 2, 1) := kz_dr dd_In_bitCount_0 12 rfl
theorem d_In_bitCount_17 : decode prog_10_method_49_code 17 = .ok (.iushr, 1) := kz_dr dd_In_bitCount_0 13 rfl
theorem d_In_bitCount_18 : decode prog_10_method_49_code 18 = .ok (.ldc_w 266, 3) := kz_dr dd_In_bitCount_0 14 rfl
theorem d_In_bitCount_21 : decode prog_10_method_49_code 21 = .ok (.iand, 1) := kz_dr dd_In_bitCount_0 15 rfl
theorem d_In_bitCount_22 : decode prog_10_method_49_code 22 = .ok (.iadd, 1) := kz_dr dd_In_bitCount_0 16 rfl
theorem d_In_bitCount_23 : decode prog_10_method_49_code 23 = .ok (.istore_n 0, 1) := kz_dr dd_In_bitCount_0 17 rfl
theorem d_In_bitCount_24 : decode prog_10_method_49_code 24 = .ok (.iload_n 0, 1) := kz_dr dd_In_bitCount_0 18 rfl
theorem d_In_bitCount_25 : decode prog_10_method_49_code 25 = .ok (.iload_n 0, 1) := kz_dr dd_In_bitCount_0 19 rfl
theorem d_In_bitCount_26 : decode prog_10_method_49_code 26 = .ok (.iconst 4, 1) := kz_dr dd_In_bitCount_0 20 rfl
theorem d_In_bitCount_27 : decode prog_10_method_49_code 27 = .ok (.iushr, 1) := kz_dr dd_In_bitCount_0 21 rfl
theorem d_In_bitCount_28 : decode prog_10_method_49_code 28 = .ok (.iadd, 1) := kz_dr dd_In_bitCount_0 22 rfl
theorem d_In_bitCount_29 : decode prog_10_method_49_code 29 = .ok (.ldc_w 267, 3) := kz_dr dd_In_bitCount_0 23 rfl
theorem d_In_bitCount_32 : decode prog_10_method_49_code 32 = .ok (.iand, 1) := kz_dr dd_In_bitCount_0 24 rfl
theorem d_In_bitCount_33 : decode prog_10_method_49_code 33 = .ok (.istore_n 0, 1) := kz_dr dd_In_bitCount_0 25 rfl
theorem d_In_bitCount_34 : decode prog_10_method_49_code 34 = .ok (.iload_n 0, 1) := kz_dr dd_In_bitCount_0 26 rfl
theorem d_In_bitCount_35 : decode prog_10_method_49_code 35 = .ok (.iload_n 0, 1) := kz_dr dd_In_bitCount_0 27 rfl
theorem d_In_bitCount_36 : decode prog_10_method_49_code 36 = .ok (.bipush 8, 2) := kz_dr dd_In_bitCount_0 28 rfl
theorem d_In_bitCount_38 : decode prog_10_method_49_code 38 = .ok (.iushr, 1) := kz_dr dd_In_bitCount_0 29 rfl
theorem d_In_bitCount_39 : decode prog_10_method_49_code 39 = .ok (.iadd, 1) := kz_dr dd_In_bitCount_0 30 rfl
theorem d_In_bitCount_40 : decode prog_10_method_49_code 40 = .ok (.istore_n 0, 1) := kz_dr dd_In_bitCount_0 31 rfl
theorem d_In_bitCount_41 : decode prog_10_method_49_code 41 = .ok (.iload_n 0, 1) := kz_dr dd_In_bitCount_0 32 rfl
theorem d_In_bitCount_42 : decode prog_10_method_49_code 42 = .ok (.iload_n 0, 1) := kz_dr dd_In_bitCount_0 33 rfl
theorem d_In_bitCount_43 : decode prog_10_method_49_code 43 = .ok (.bipush 16, 2) := kz_dr dd_In_bitCount_0 34 rfl
theorem d_In_bitCount_45 : decode prog_10_method_49_code 45 = .ok (.iushr, 1) := kz_dr dd_In_bitCount_0 35 rfl
theorem d_In_bitCount_46 : decode prog_10_method_49_code 46 = .ok (.iadd, 1) := kz_dr dd_In_bitCount_0 36 rfl
theorem d_In_bitCount_47 : decode prog_10_method_49_code 47 = .ok (.istore_n 0, 1) := kz_dr dd_In_bitCount_0 37 rfl
theorem d_In_bitCount_48 : decode prog_10_method_49_code 48 = .ok (.iload_n 0, 1) := kz_dr dd_In_bitCount_0 38 rfl
theorem d_In_bitCount_49 : decode prog_10_method_49_code 49 = .ok (.bipush 63, 2) := kz_dr dd_In_bitCount_0 39 rfl
theorem d_In_bitCount_51 : decode prog_10_method_49_code 51 = .ok (.iand, 1) := kz_dr dd_In_bitCount_0 40 rfl
theorem d_In_bitCount_52 : decode prog_10_method_49_code 52 = .ok (.ireturn, 1) := kz_dr dd_In_bitCount_0 41 rfl
def dl_St_turn_0 : List (Nat × Instr × Nat) := [(0, .iload_n 2, 1), (1, .bipush 64, 2), (3, .if_icmp .ge 18, 3), (6, .aload_n 0, 1), (7, .getfield 9, 3), (10, .iload_n 1, 1), (11, .dup2, 1), (12, .laload, 1), (13, .lconst 1, 1), (14, .iload_n 2, 1), (15, .lshl, 1), (16, .lxor, 1), (17, .lastore, 1), (18, .goto 18, 3), (21, .aload_n 0, 1), (22, .getfield 15, 3), (25, .iload_n 1, 1), (26, .dup2, 1), (27, .iaload, 1), (28, .iconst 1, 1), (29, .iload_n 2, 1), (30, .bipush 64, 2), (32, .isub, 1), (33, .ishl, 1), (34, .ixor, 1), (35, .iastore, 1), (36, .return_, 1)]
theorem dd_St_turn_0 : dl_St_turn_0.all (fun e => decide (decode prog_6_method_3_code e.1 = .ok e.2)) = true := by decide +kernel
theorem d_St_turn_0 : decode prog_6_method_3_code 0 = .ok (.iload_n 2, 1) := kz_dr dd_St_turn_0 0 rfl
theorem d_St_turn_1 : decode prog_6_method_3_code 1 = .ok (.bipush 64, 2) := kz_dr dd_St_turn_0 1 rfl
theorem d_St_turn_3 : decode prog_6_method_3_code 3 = .ok (.if_icmp .ge 18, 3) := kz_dr dd_St_turn_0 2 rfl
theorem d_St_turn_6 : decode prog_6_method_3_code 6 = .ok (.aload_n 0, 1) := kz_dr dd_St_turn_0 3 rfl
theorem d_St_turn_7 : decode prog_6_method_3_code 7 = .ok (.getfield 9, 3) := kz_dr dd_St_turn_0 4 rfl
theorem d_St_turn_10 : decode prog_6_method_3_code 10 = .ok (.iload_n 1, 1) := kz_dr dd_St_turn_0 5 rfl
theorem d_St_turn_11 : decode prog_6_method_3_code 11 = .ok (.dup2, 1) := kz_dr dd_St_turn_0 6 rfl
theorem d_St_turn_12 : decode prog_6_method_3_code 12 = .ok (.laload, 1) := kz_dr dd_St_turn_0 7 rfl
theorem d_St_turn_13 : decode prog_6_method_3_code 13 = .ok (.lconst 1, 1) := kz_dr dd_St_turn_0 8 rfl
theorem d_St_turn_14 : decode prog_6_method_3_code 14 = .ok (.iload_n 2, 1) := kz_dr dd_St_turn_0 9 rfl
theorem d_St_turn_15 : decode prog_6_method_3_code 15 = .ok (.lshl, 1) := kz_dr dd_St_turn_0 10 rfl
theorem d_St_turn_16 : decode prog_6_method_3_code 16 = .ok (.lxor, 1) := kz_dr dd_St_turn_0 11 rfl
theorem d_St_turn_17 : decode prog_6_method_3_code 17 = .ok (.lastore, 1) := kz_dr dd_St_turn_0 12 rfl
theorem d_St_turn_18 : decode prog_6_method_3_code 18 = .ok (.goto 18, 3) := kz_dr dd_St_turn_0 13 rfl
theorem d_St_turn_21 : decode prog_6_method_3_code 21 = .ok (.aload_n 0, 1) := kz_dr dd_St_turn_0 14 rfl
theorem d_St_turn_22 : decode prog_6_method_3_code 22 = .ok (.getfield 15, 3) := kz_dr dd_St_turn_0 15 rfl
theorem d_St_turn_25 : decode prog_6_method_3_code 25 = .ok (.iload_n 1, 1) := kz_dr dd_St_turn_0 16 rfl
theorem d_St_turn_26 : decode prog_6_method_3_code 26 = .ok (.dup2, 1) := kz_dr dd_St_turn_0 17 rfl
theorem d_St_turn_27 : decode prog_6_method_3_code 27 = .ok (.iaload, 1) := kz_dr dd_St_turn_0 18 rfl
theorem d_St_turn_28 : decode prog_6_method_3_code 28 = .ok (.iconst 1, 1) := kz_dr dd_St_turn_0 19 rfl
theorem d_St_turn_29 : decode prog_6_method_3_code 29 = .ok (.iload_n 2, 1) := kz_dr dd_St_turn_0 20 rfl
theorem d_St_turn_30 : decode prog_6_method_3_code 30 = .ok (.bipush 64, 2) := kz_dr dd_St_turn_0 21 rfl
theorem d_St_turn_32 : decode prog_6_method_3_code 32 = .ok (.isub, 1) := kz_dr dd_St_turn_0 22 rfl
theorem d_St_turn_33 : decode prog_6_method_3_code 33 = .ok (.ishl, 1) := kz_dr dd_St_turn_0 23 rfl
theorem d_St_turn_34 : decode prog_6_method_3_code 34 = .ok (.ixor, 1) := kz_dr dd_St_turn_0 24 rfl
theorem d_St_turn_35 : decode prog_6_method_3_code 35 = .ok (.iastore, 1) := kz_dr dd_St_turn_0 25 rfl
theorem d_St_turn_36 : decode prog_6_method_3_code 36 = .ok (.return_, 1) := kz_dr dd_St_turn_0 26 rfl
def dl_Ba_mayPrecharge_0 : List (Nat × Instr × Nat) := [(0, .aload_n 0, 1), (1, .getfield 23, 3), (4, .iload_n 1, 1), (5, .iaload, 1), (6, .iconst (-1), 1), (7, .if_icmp .eq 70, 3), (10, .iload_n 2, 1), (11, .aload_n 0, 1), (12, .getfield 26, 3), (15, .iload_n 1, 1), (16, .iaload, 1), (17, .isub, 1), (18, .aload_n 0, 1), (19, .getfield 18, 3), (22, .iconst 2, 1), (23, .iaload, 1), (24, .if_icmp .lt 53, 3), (27, .iload_n 2, 1), (28, .aload_n 0, 1), (29, .getfield 32, 3), (32, .iload_n 1, 1), (33, .iaload, 1), (34, .isub, 1), (35, .aload_n 0, 1), (36, .getfield 18, 3), (39, .bipush 9, 2), (41, .iaload, 1), (42, .if_icmp .lt 35, 3), (45, .iload_n 2, 1), (46, .aload_n 0, 1), (47, .getfield 35, 3), (50, .iload_n 1, 1), (51, .iaload, 1), (52, .isub, 1), (53, .aload_n 0, 1), (54, .getfield 18, 3), (57, .bipush 11, 2), (59, .iaload, 1), (60, .iconst 4, 1), (61, .iadd, 1), (62, .aload_n 0, 1), (63, .getfield 18, 3), (66, .bipush 7, 2), (68, .iaload, 1), (69, .iadd, 1), (70, .if_icmp .lt 7, 3), (73, .iconst 1, 1), (74, .goto 4, 3), (77, .iconst 0, 1), (78, .ireturn, 1)]
theorem dd_Ba_mayPrecharge_0 : dl_Ba_mayPrecharge_0.all (fun e => decide (decode prog_2_method_7_code e.1 = .ok e.2)) = true := by decide +kernel
theorem d_Ba_mayPrecharge_0 : decode prog_2_method_7_code 0 = .ok (.aload_n 0, 1) := kz_dr dd_Ba_mayPrecharge_0 0 rfl
theorem d_Ba_mayPrecharge_1 : decode prog_2_method_7_code 1 = .ok (.getfield 23, 3) := kz_dr dd_Ba_mayPrecharge_0 1 rfl
theorem d_Ba_mayPrecharge_4 : decode prog_2_method_7_code 4 = .ok (.iload_n 1, 1) := kz_dr dd_Ba_mayPrecharge_0 2 rfl
theorem d_Ba_mayPrecharge_5 : decode prog_2_method_7_code 5 = .ok (.iaload, 1) := kz_dr dd_Ba_mayPrecharge_0 3 rfl
theorem d_Ba_mayPrecharge_6 : decode prog_2_method_7_code 6 = .ok (.iconst (-1), 1) := kz_dr dd_Ba_mayPrecharge_0 4 rfl
theorem d_Ba_mayPrecharge_7 : decode prog_2_method_7_code 7 = .ok (.if_icmp .eq 70, 3) := kz_dr dd_Ba_mayPrecharge_0 5 rfl
theorem d_Ba_mayPrecharge_10 : decode prog_2_method_7_code 10 = .ok (.iload_n 2, 1) := kz_dr dd_Ba_mayPrecharge_0 6 rfl
theorem d_Ba_mayPrecharge_11 : decode prog_2_method_7_code 11 = .ok (.aload_n 0, 1) := kz_dr dd_Ba_mayPrecharge_0 7 rfl
theorem d_Ba_mayPrecharge_12 : decode prog_2_method_7_code 12 = .ok (.getfield 26, 3) := kz_dr dd_Ba_mayPrecharge_0 8 rfl
theorem d_Ba_mayPrecharge_15 : decode prog_2_method_7_code 15 = .ok (.iload_n 1, 1) := kz_dr dd_Ba_mayPrecharge_0 9 rfl
theorem d_Ba_mayPrecharge_16 : decode prog_2_method_7_code 16 = .ok (.iaload, 1) := kz_dr dd_Ba_mayPrecharge_0 10 rfl
theorem d_Ba_mayPrecharge_17 : decode prog_2_method_7_code 17 = .ok (.isub, 1) := kz_dr dd_Ba_mayPrecharge_0 11 rfl
theorem d_Ba_mayPrecharge_18 : decode prog_2_method_7_code 18 = .ok (.aload_n 0, 1) := kz_dr dd_Ba_mayPrecharge_0 12 rfl
theorem d_Ba_mayPrecharge_19 : decode prog_2_method_7_code 19 = .ok (.getfield 18, 3) := kz_dr dd_Ba_mayPrecharge_0 13 rfl
theorem d_Ba_mayPrecharge_22 : decode prog_2_method_7_code 22 = .ok (.iconst 2, 1) := kz_dr dd_Ba_mayPrecharge_0 14 rfl
theorem d_Ba_mayPrecharge_23 : decode prog_2_method_7_code 23 = .ok (.iaload, 1) := kz_dr dd_Ba_mayPrecharge_0 15 rfl
theorem d_Ba_mayPrecharge_24 : decode prog_2_method_7_code 24 = .ok (.if_icmp .lt 53, 3) := kz_dr dd_Ba_mayPrecharge_0 16 rfl
theorem d_Ba_mayPrecharge_27 : decode prog_2_method_7_code 27 = .ok (.iload_n 2, 1) := kz_dr dd_Ba_mayPrecharge_0 17 rfl
theorem d_Ba_mayPrecharge_28 : decode prog_2_method_7_code 28 = .ok (.aload_n 0, 1) := kz_dr dd_Ba_mayPrecharge_0 18 rfl
theorem d_Ba_mayPrecharge_29 : decode prog_2_method_7_code 29 = .ok (.getfield 32, 3) := kz_dr dd_Ba_mayPrecharge_0 19 rfl
theorem d_Ba_mayPrecharge_32 : decode prog_2_method_7_code 32 = .ok (.iload_n 1, 1) := kz_dr dd_Ba_mayPrecharge_0 20 rfl
theorem d_Ba_mayPrecharge_33 : decode prog_2_method_7_code 33 = .ok (.iaload, 1) := kz_dr dd_Ba_mayPrecharge_0 21 rfl
theorem d_Ba_mayPrecharge_34 : decode prog_2_method_7_code 34 = .ok (.isub, 1) := kz_dr dd_Ba_mayPrecharge_0 22 rfl
theorem d_Ba_mayPrecharge_35 : decode prog_2_method_7_code 35 = .ok (.aload_n 0, 1) := kz_dr dd_Ba_mayPrecharge_0 23 rfl
theorem d_Ba_mayPrecharge_36 : decode prog_2_method_7_code 36 = .ok (.getfield 18, 3) := kz_dr dd_Ba_mayPrecharge_0 24 rfl
theorem d_Ba_mayPrecharge_39 : decode prog_2_method_7_code 39 = .ok (.bipush 9, 2) := kz_dr dd_Ba_mayPrecharge_0 25 rfl
theorem d_Ba_mayPrecharge_41 : decode prog_2_method_7_code 41 = .ok (.iaload, 1) := kz_dr dd_Ba_mayPrecharge_0 26 rfl
theorem d_Ba_mayPrecharge_42 : decode prog_2_method_7_code 42 = .ok (.if_icmp .lt 35, 3) := kz_dr dd_Ba_mayPrecharge_0 27 rfl
theorem d_Ba_mayPrecharge_45 : decode prog_2_method_7_code 45 = .ok (.iload_n 2, 1) := kz_dr dd_Ba_mayPrecharge_0 28 rfl
theorem d_Ba_mayPrecharge_46 : decode prog_2_method_7_code 46 = .ok (.aload_n 0, 1) := kz_dr dd_Ba_mayPrecharge_0 29 rfl
theorem d_Ba_mayPrecharge_47 : decode prog_2_method_7_code 47 = .ok (.getfield 35, 3) := kz_dr dd_Ba_mayPrecharge_0 30 rfl
theorem d_Ba_mayPrecharge_50 : decode prog_2_method_7_code 50 = .ok (.iload_n 1, 1) := kz_dr dd_Ba_mayPrecharge_0 31 rfl
theorem d_Ba_mayPrecharge_51 : decode prog_2_method_7_code 51 = .ok (.iaload, 1) := kz_dr dd_Ba_mayPrecharge_0 32 rfl
theorem d_Ba_mayPrecharge_52 : decode prog_2_method_7_code 52 = .ok (.isub, 1) := kz_dr dd_Ba_mayPrecharge_0 33 rfl
theorem d_Ba_mayPrecharge_53 : decode prog_2_method_7_code 53 = .ok (.aload_n 0, 1) := kz_dr dd_Ba_mayPrecharge_0 34 rfl
theorem d_Ba_mayPrecharge_54 : decode prog_2_method_7_code 54 = .ok (.getfield 18, 3) := kz_dr dd_Ba_mayPrecharge_0 35 rfl
theorem d_Ba_mayPrecharge_57 : decode prog_2_method_7_code 57 = .ok (.bipush 11, 2) := kz_dr dd_Ba_mayPrecharge_0 36 rfl
theorem d_Ba_mayPrecharge_59 : decode prog_2_method_7_code 59 = .ok (.iaload, 1) := kz_dr dd_Ba_mayPrecharge_0 37 rfl
theorem d_Ba_mayPrecharge_60 : decode prog_2_method_7_code 60 = .ok (.iconst 4, 1) := kz_dr dd_Ba_mayPrecharge_0 38 rfl
theorem d_Ba_mayPrecharge_61 : decode prog_2_method_7_code 61 = .ok (.iadd, 1) := kz_dr dd_Ba_mayPrecharge_0 39 rfl
theorem d_Ba_mayPrecharge_62 : decode prog_2_method_7_code 62 = .ok (.aload_n 0, 1) := kz_dr dd_Ba_mayPrecharge_0 40 rfl
theorem d_Ba_mayPrecharge_63 : decode prog_2_method_7_code 63 = .ok (.getfield 18, 3) := kz_dr dd_Ba_mayPrecharge_0 41 rfl
theorem d_Ba_mayPrecharge_66 : decode prog_2_method_7_code 66 = .ok (.bipush 7, 2) := kz_dr dd_Ba_mayPrecharge_0 42 rfl
theorem d_Ba_mayPrecharge_68 : decode prog_2_method_7_code 68 = .ok (.iaload, 1) := kz_dr dd_Ba_mayPrecharge_0 43 rfl
theorem d_Ba_mayPrecharge_69 : decode prog_2_method_7_code 69 = .ok (.iadd, 1) := kz_dr dd_Ba_mayPrecharge_0 44 rfl
theorem d_Ba_mayPrecharge_70 : decode prog_2_method_7_code 70 = .ok (.if_icmp .lt 7, 3) := kz_dr dd_Ba_mayPrecharge_0 45 rfl
theorem d_Ba_mayPrecharge_73 : decode prog_2_method_7_code 73 = .ok (.iconst 1, 1) := kz_dr dd_Ba_mayPrecharge_0 46 rfl
theorem d_Ba_mayPrecharge_74 : decode prog_2_method_7_code 74 = .ok (.goto 4, 3) := kz_dr dd_Ba_mayPrecharge_0 47 rfl
theorem d_Ba_mayPrecharge_77 : decode prog_2_method_7_code 77 = .ok (.iconst 0, 1) := kz_dr dd_Ba_mayPrecharge_0 48 rfl
theorem d_Ba_mayPrecharge_78 : decode prog_2_method_7_code 78 = .ok (.ireturn, 1) := kz_dr dd_Ba_mayPrecharge_0 49 rfl
def dl_Bk_precharge_0 : List (Nat × Instr × Nat) := [(0, .aload_n 0, 1), (1, .getfield 28, 3), (4, .iload_n 1, 1), (5, .aload_n 0, 1), (6, .getfield 66, 3), (9, .invokevirtual 205, 3), (12, .aload_n 0, 1), (13, .getfield 62, 3), (16, .iconst 1, 1), (17, .iload_n 1, 1), (18, .iconst (-1), 1), (19, .aload_n 0, 1), (20, .getfield 66, 3), (23, .iconst (-1), 1), (24, .invokevirtual 198, 3), (27, .return_, 1)]
theorem dd_Bk_precharge_0 : dl_Bk_precharge_0.all (fun e => decide (decode prog_1_method_23_code e.1 = .ok e.2)) = true := by decide +kernel
theorem d_Bk_precharge_0 : decode prog_1_method_23_code 0 = .ok (.aload_n 0, 1) := kz_dr dd_Bk_precharge_0 0 rfl
theorem d_Bk_precharge_1 : decode prog_1_method_23_code 1 = .ok (.getfield 28, 3) := kz_dr dd_Bk_precharge_0 1 rfl
theorem d_Bk_precharge_4 : decode prog_1_method_23_code 4 = .ok (.iload_n 1, 1) := kz_dr dd_Bk_precharge_0 2 rfl
theorem d_Bk_precharge_5 : decode prog_1_method_23_code 5 = .ok (.aload_n 0, 1) := kz_dr dd_Bk_precharge_0 3 rfl
theorem d_Bk_precharge_6 : decode prog_1_method_23_code 6 = .ok (.getfield 66, 3) := kz_dr dd_Bk_precharge_0 4 rfl
theorem d_Bk_precharge_9 : decode prog_1_method_23_code 9 = .ok (.invokevirtual 205, 3) := kz_dr dd_Bk_precharge_0 5 rfl
theorem d_Bk_precharge_12 : decode prog_1_method_23_code 12 = .ok (.aload_n 0, 1) := kz_dr dd_Bk_precharge_0 6 rfl
theorem d_Bk_precharge_13 : decode prog_1_method_23_code 13 = .ok (.getfield 62, 3) := kz_dr dd_Bk_precharge_0 7 rfl
theorem d_Bk_precharge_16 : decode prog_1_method_23_code 16 = .ok (.iconst 1, 1) := kz_dr dd_Bk_precharge_0 8 rfl
theorem d_Bk_precharge_17 : decode prog_1_method_23_code 17 = .ok (.iload_n 1, 1) := kz_dr dd_Bk_precharge_0 9 rfl
theorem d_Bk_precharge_18 : decode prog_1_method_23_code 18 = .ok (.iconst (-1), 1) := kz_dr dd_Bk_precharge_0 10 rfl
theorem d_Bk_precharge_19 : decode prog_1_method_23_code 19 = .ok (.aload_n 0, 1) := kz_dr dd_Bk_precharge_0 11 rfl
theorem d_Bk_precharge_20 : decode prog_1_method_23_code 20 = .ok (.getfield 66, 3) := kz_dr dd_Bk_precharge_0 12 rfl
theorem d_Bk_precharge_23 : decode prog_1_method_23_code 23 = .ok (.iconst (-1), 1) := kz_dr dd_Bk_precharge_0 13 rfl
theorem d_Bk_precharge_24 : decode prog_1_method_23_code 24 = .ok (.invokevirtual 198, 3) := kz_dr dd_Bk_precharge_0 14 rfl
theorem d_Bk_precharge_27 : decode prog_1_method_23_code 27 = .ok (.return_, 1) := kz_dr dd_Bk_precharge_0 15 rfl
def dl_Ba_precharge_0 : List (Nat × Instr × Nat) := [(0, .aload_n 0, 1), (1, .getfield 23, 3), (4, .iload_n 1, 1), (5, .iconst (-1), 1), (6, .iastore, 1), (7, .aload_n 0, 1), (8, .getfield 29, 3), (11, .iload_n 1, 1), (12, .iload_n 2, 1), (13, .iastore, 1), (14, .return_, 1)]
theorem dd_Ba_precharge_0 : dl_Ba_precharge_0.all (fun e => decide (decode prog_2_method_8_code e.1 = .ok e.2)) = true := by decide +kernel
theorem d_Ba_precharge_0 : decode prog_2_method_8_code 0 = .ok (.aload_n 0, 1) := kz_dr dd_Ba_precharge_0 0 rfl
theorem d_Ba_precharge_1 : decode prog_2_method_8_code 1 = .ok (.getfield 23, 3) := kz_dr dd_Ba_precharge_0 1 rfl
theorem d_Ba_precharge_4 : decode prog_2_method_8_code 4 = .ok (.iload_n 1, 1) := kz_dr dd_Ba_precharge_0 2 rfl
theorem d_Ba_precharge_5 : decode prog_2_method_8_code 5 = .ok (.iconst (-1), 1) := kz_dr dd_Ba_precharge_0 3 rfl
theorem d_Ba_precharge_6 : decode prog_2_method_8_code 6 = .ok (.iastore, 1) := kz_dr dd_Ba_precharge_0 4 rfl
theorem d_Ba_precharge_7 : decode prog_2_method_8_code 7 = .ok (.aload_n 0, 1) := kz_dr dd_Ba_precharge_0 5 rfl
theorem d_Ba_precharge_8 : decode prog_2_method_8_code 8 = .ok (.getfield 29, 3) := kz_dr dd_Ba_precharge_0 6 rfl
theorem d_Ba_precharge_11 : decode prog_2_method_8_code 11 = .ok (.iload_n 1, 1) := kz_dr dd_Ba_precharge_0 7 rfl
theorem d_Ba_precharge_12 : decode prog_2_method_8_code 12 = .ok (.iload_n 2, 1) := kz_dr dd_Ba_precharge_0 8 rfl
theorem d_Ba_precharge_13 : decode prog_2_method_8_code 13 = .ok (.iastore, 1) := kz_dr dd_Ba_precharge_0 9 rfl
theorem d_Ba_precharge_14 : decode prog_2_method_8_code 14 = .ok (.return_, 1) := kz_dr dd_Ba_precharge_0 10 rfl
def dl_Bk_beginOrEndDraining_0 : List (Nat × Instr × Nat) := [(0, .aload_n 0, 1), (1, .getfield 49, 3), (4, .invokevirtual 81, 3), (7, .istore_n 1, 1), (8, .aload_n 0, 1), (9, .getfield 53, 3), (12, .invokevirtual 81, 3), (15, .istore_n 2, 1), (16, .aload_n 0, 1), (17, .getfield 131, 3), (20, .ifCond .eq 33, 3), (23, .aload_n 0, 1), (24, .iload_n 2, 1), (25, .ifCond .le 21, 3), (28, .iload_n 1, 1), (29, .ifCond .eq 13, 3), (32, .iconst 2, 1), (33, .iload_n 2, 1), (34, .imul, 1), (35, .aload_n 0, 1), (36, .getfield 18, 3), (39, .if_icmp .le 7, 3), (42, .iconst 1, 1), (43, .goto 4, 3), (46, .iconst 0, 1), (47, .putfield 131, 3), (50, .goto 28, 3), (53, .aload_n 0, 1), (54, .iload_n 2, 1), (55, .ifCond .le 7, 3), (58, .iload_n 1, 1), (59, .ifCond .eq 11, 3), (62, .iload_n 2, 1), (63, .aload_n 0, 1), (64, .getfield 18, 3), (67, .if_icmp .lt 7, 3), (70, .iconst 1, 1), (71, .goto 4, 3), (74, .iconst 0, 1), (75, .putfield 131, 3), (78, .return_, 1)]
theorem dd_Bk_beginOrEndDraining_0 : dl_Bk_beginOrEndDraining_0.all (fun e => decide (decode prog_1_method_25_code e.1 = .ok e.2)) = true := by decide +kernel
theorem d_Bk_beginOrEndDraining_0 : decode prog_1_method_25_code 0 = .ok (.aload_n 0, 1) := kz_dr dd_Bk_beginOrEndDraining_0 0 rfl
theorem d_Bk_beginOrEndDraining_1 : decode prog_1_method_25_code 1 = .ok (.getfield 49, 3) := kz_dr dd_Bk_beginOrEndDraining_0 1 rfl
theorem d_Bk_beginOrEndDraining_4 : decode prog_1_method_25_code 4 = .ok (.invokevirtual 81, 3) := kz_dr dd_Bk_beginOrEndDraining_0 2 rfl
theorem d_Bk_beginOrEndDraining_7 : decode prog_1_method_25_code 7 = .ok (.istore_n 1, 1) := kz_dr dd_Bk_beginOrEndDraining_0 3 rfl
theorem d_Bk_beginOrEndDraining_8 : decode prog_1_method_25_code 8 = .ok (.aload_n 0, 1) := kz_dr dd_Bk_beginOrEndDraining_0 4 rfl
theorem d_Bk_beginOrEndDraining_9 : decode prog_1_method_25_code 9 = .ok (.getfield 53, 3) := kz_dr dd_Bk_beginOrEndDraining_0 5 rfl
theorem d_Bk_beginOrEndDraining_12 : decode prog_1_method_25_code 12 = .ok (.invokevirtual 81, 3) := kz_dr dd_Bk_beginOrEndDraining_0 6 rfl
theorem d_Bk_beginOrEndDraining_15 : decode prog_1_method_25_code 15 = .ok (.istore_n 2, 1) := kz_dr dd_Bk_beginOrEndDraining_0 7 rfl
theorem d_Bk_beginOrEndDraining_16 : decode prog_1_method_25_code 16 = .ok (.aload_n 0, 1) := kz_dr dd_Bk_beginOrEndDraining_0 8 rfl
theorem d_Bk_beginOrEndDraining_17 : decode prog_1_method_25_code 17 = .ok (.getfield 131, 3) := kz_dr dd_Bk_beginOrEndDraining_0 9 rfl
theorem d_Bk_beginOrEndDraining_20 : decode prog_1_method_25_code 20 = .ok (.ifCond .eq 33, 3) := kz_dr dd_Bk_beginOrEndDraining_0 10 rfl
theorem d_Bk_beginOrEndDraining_23 : decode prog_1_method_25_code 23 = .ok (.aload_n 0, 1) := kz_dr dd_Bk_beginOrEndDraining_0 11 rfl
theorem d_Bk_beginOrEndDraining_24 : decode prog_1_method_25_code 24 = .ok (.iload_n 2, 1) := kz_dr dd_Bk_beginOrEndDraining_0 12 rfl
theorem d_Bk_beginOrEndDraining_25 : decode prog_1_method_25_code 25 = .ok (.ifCond .le 21, 3) := kz_dr dd_Bk_beginOrEndDraining_0 13 rfl
theorem d_Bk_beginOrEndDraining_28 : decode prog_1_method_25_code 28 = .ok (.iload_n 1, 1) := kz_dr dd_Bk_beginOrEndDraining_0 14 rfl
theorem d_Bk_beginOrEndDraining_29 : decode prog_1_method_25_code 29 = .ok (.ifCond .eq 13, 3) := kz_dr dd_Bk_beginOrEndDraining_0 15 rfl
theorem d_Bk_beginOrEndDraining_32 : decode prog_1_method_25_code 32 = .ok (.iconst 2, 1) := kz_dr dd_Bk_beginOrEndDraining_0 16 rfl
theorem d_Bk_beginOrEndDraining_33 : decode prog_1_method_25_code 33 = .ok (.iload_n 2, 1) := kz_dr dd_Bk_beginOrEndDraining_0 17 rfl
theorem d_Bk_beginOrEndDraining_34 : decode prog_1_method_25_code 34 = .ok (.imul, 1) := kz_dr dd_Bk_beginOrEndDraining_0 18 rfl
theorem d_Bk_beginOrEndDraining_35 : decode prog_1_method_25_code 35 = .ok (.aload_n 0, 1) := kz_dr dd_Bk_beginOrEndDraining_0 19 rfl
theorem d_Bk_beginOrEndDraining_36 : decode prog_1_method_25_code 36 = .ok (.getfield 18, 3) := kz_dr dd_Bk_beginOrEndDraining_0 20 rfl
theorem d_Bk_beginOrEndDraining_39 : decode prog_1_method_25_code 39 = .ok (.if_icmp .le 7, 3) := kz_dr dd_Bk_beginOrEndDraining_0 21 rfl
theorem d_Bk_beginOrEndDraining_42 : decode prog_1_method_25_code 42 = .ok (.iconst 1, 1) := kz_dr dd_Bk_beginOrEndDraining_0 22 rfl
theorem d_Bk_beginOrEndDraining_43 : decode prog_1_method_25_code 43 = .ok (.goto 4, 3) := kz_dr dd_Bk_beginOrEndDraining_0 23 rfl
theorem d_Bk_beginOrEndDraining_46 : decode prog_1_method_25_code 46 = .ok (.iconst 0, 1) := kz_dr dd_Bk_beginOrEndDraining_0 24 rfl
theorem d_Bk_beginOrEndDraining_47 : decode prog_1_method_25_code 47 = .ok (.putfield 131, 3) := kz_dr dd_Bk_beginOrEndDraining_0 25 rfl
theorem d_Bk_beginOrEndDraining_50 : decode prog_1_method_25_code 50 = .ok (.goto 28, 3) := kz_dr dd_Bk_beginOrEndDraining_0 26 rfl
theorem d_Bk_beginOrEndDraining_53 : decode prog_1_method_25_code 53 = .ok (.aload_n 0, 1) := kz_dr dd_Bk_beginOrEndDraining_0 27 rfl
theorem d_Bk_beginOrEndDraining_54 : decode prog_1_method_25_code 54 = .ok (.iload_n 2, 1) := kz_dr dd_Bk_beginOrEndDraining_0 28 rfl
theorem d_Bk_beginOrEndDraining_55 : decode prog_1_method_25_code 55 = .ok (.ifCond .le 7, 3) := kz_dr dd_Bk_beginOrEndDraining_0 29 rfl
theorem d_Bk_beginOrEndDraining_58 : decode prog_1_method_25_code 58 = .ok (.iload_n 1, 1) := kz_dr dd_Bk_beginOrEndDraining_0 30 rfl
theorem d_Bk_beginOrEndDraining_59 : decode prog_1_method_25_code 59 = .ok (.ifCond .eq 11, 3) := kz_dr dd_Bk_beginOrEndDraining_0 31 rfl
theorem d_Bk_beginOrEndDraining_62 : decode prog_1_method_25_code 62 = .ok (.iload_n 2, 1) := kz_dr dd_Bk_beginOrEndDraining_0 32 rfl
theorem d_Bk_beginOrEndDraining_63 : decode prog_1_method_25_code 63 = .ok (.aload_n 0, 1) := kz_dr dd_Bk_beginOrEndDraining_0 33 rfl
theorem d_Bk_beginOrEndDraining_64 : decode prog_1_method_25_code 64 = .ok (.getfield 18, 3) := kz_dr dd_Bk_beginOrEndDraining_0 34 rfl
theorem d_Bk_beginOrEndDraining_67 : decode prog_1_method_25_code 67 = .ok (.if_icmp .lt 7, 3) := kz_dr dd_Bk_beginOrEndDraining_0 35 rfl
theorem d_Bk_beginOrEndDraining_70 : decode prog_1_method_25_code 70 = .ok (.iconst 1, 1) := kz_dr dd_Bk_beginOrEndDraining_0 36 rfl
theorem d_Bk_beginOrEndDraining_71 : decode prog_1_method_25_code 71 = .ok (.goto 4, 3) := kz_dr dd_Bk_beginOrEndDraining_0 37 rfl
theorem d_Bk_beginOrEndDraining_74 : decode prog_1_method_25_code 74 = .ok (.iconst 0, 1) := kz_dr dd_Bk_beginOrEndDraining_0 38 rfl
theorem d_Bk_beginOrEndDraining_75 : decode prog_1_method_25_code 75 = .ok (.putfield 131, 3) := kz_dr dd_Bk_beginOrEndDraining_0 39 rfl
theorem d_Bk_beginOrEndDraining_78 : decode prog_1_method_25_code 78 = .ok (.return_, 1) := kz_dr dd_Bk_beginOrEndDraining_0 40 rfl
def dl_Bk_lookAtRequests_0 : List (Nat × Instr × Nat) := [(0, .aload_n 0, 1), (1, .getfield 56, 3), (4, .invokevirtual 211, 3), (7, .aload_n 0, 1), (8, .getfield 131, 3), (11, .ifCond .eq 10, 3), (14, .aload_n 0, 1), (15, .invokevirtual 214, 3), (18, .goto 7, 3), (21, .aload_n 0, 1), (22, .invokevirtual 217, 3), (25, .aload_n 0, 1), (26, .getfield 56, 3), (29, .invokevirtual 81, 3), (32, .ifCond .ne 21, 3), (35, .aload_n 0, 1), (36, .getfield 131, 3), (39, .ifCond .eq 10, 3), (42, .aload_n 0, 1), (43, .invokevirtual 217, 3), (46, .goto 7, 3), (49, .aload_n 0, 1), (50, .invokevirtual 214, 3), (53, .aload_n 0, 1), (54, .getfield 56, 3), (57, .invokevirtual 81, 3), (60, .ifCond .le 37, 3), (63, .aload_n 0, 1), (64, .getfield 66, 3), (67, .aload_n 0, 1), (68, .getfield 42, 3), (71, .aload_n 0, 1), (72, .getfield 56, 3), (75, .iconst 0, 1), (76, .invokevirtual 151, 3), (79, .invokevirtual 220, 3), (82, .isub, 1), (83, .aload_n 0, 1), (84, .getfield 22, 3), (87, .if_icmp .le 10, 3), (90, .aload_n 0, 1), (91, .getfield 56, 3), (94, .invokevirtual 223, 3), (97, .return_, 1)]
theorem dd_Bk_lookAtRequests_0 : dl_Bk_lookAtRequests_0.all (fun e => decide (decode prog_1_method_26_code e.1 = .ok e.2)) = true := by decide +kernel
theorem d_Bk_lookAtRequests_0 : decode prog_1_method_26_code 0 = .ok (.aload_n 0, 1) := kz_dr dd_Bk_lookAtRequests_0 0 rfl
theorem d_Bk_lookAtRequests_1 : decode prog_1_method_26_code 1 = .ok (.getfield 56, 3) := kz_dr dd_Bk_lookAtRequests_0 1 rfl
theorem d_Bk_lookAtRequests_4 : decode prog_1_method_26_code 4 = .ok (.invokevirtual 211, 3) := kz_dr dd_Bk_lookAtRequests_0 2 rfl
theorem d_Bk_lookAtRequests_7 : decode prog_1_method_26_code 7 = .ok (.aload_n 0, 1) := kz_dr dd_Bk_lookAtRequests_0 3 rfl
theorem d_Bk_lookAtRequests_8 : decode prog_1_method_26_code 8 = .ok (.getfield 131, 3) := kz_dr dd_Bk_lookAtRequests_0 4 rfl
theorem d_Bk_lookAtRequests_11 : decode prog_1_method_26_code 11 = .ok (.ifCond .eq 10, 3) := kz_dr dd_Bk_lookAtRequests_0 5 rfl
theorem d_Bk_lookAtRequests_14 : decode prog_1_method_26_code 14 = .ok (.aload_n 0, 1) := kz_dr dd_Bk_lookAtRequests_0 6 rfl
theorem d_Bk_lookAtRequests_15 : decode prog_1_method_26_code 15 = .ok (.invokevirtual 214, 3) := kz_dr dd_Bk_lookAtRequests_0 7 rfl
theorem d_Bk_lookAtRequests_18 : decode prog_1_method_26_code 18 = .ok (.goto 7, 3) := kz_dr dd_Bk_lookAtRequests_0 8 rfl
theorem d_Bk_lookAtRequests_21 : decode prog_1_method_26_code 21 = .ok (.aload_n 0, 1) := kz_dr dd_Bk_lookAtRequests_0 9 rfl
theorem d_Bk_lookAtRequests_22 : decode prog_1_method_26_code 22 = .ok (.invokevirtual 217, 3) := kz_dr dd_Bk_lookAtRequests_0 10 rfl
theorem d_Bk_lookAtRequests_25 : decode prog_1_method_26_code 25 = .ok (.aload_n 0, 1) := kz_dr dd_Bk_lookAtRequests_0 11 rfl
theorem d_Bk_lookAtRequests_26 : decode prog_1_method_26_code 26 = .ok (.getfield 56, 3) := kz_dr dd_Bk_lookAtRequests_0 12 rfl
theorem d_Bk_lookAtRequests_29 : decode prog_1_method_26_code 29 = .ok (.invokevirtual 81, 3) := kz_dr dd_Bk_lookAtRequests_0 13 rfl
theorem d_Bk_lookAtRequests_32 : decode prog_1_method_26_code 32 = .ok (.ifCond .ne 21, 3) := kz_dr dd_Bk_lookAtRequests_0 14 rfl
theorem d_Bk_lookAtRequests_35 : decode prog_1_method_26_code 35 = .ok (.aload_n 0, 1) := kz_dr dd_Bk_lookAtRequests_0 15 rfl
theorem d_Bk_lookAtRequests_36 : decode prog_1_method_26_code 36 = .ok (.getfield 131, 3) := kz_dr dd_Bk_lookAtRequests_0 16 rfl
theorem d_Bk_lookAtRequests_39 : decode prog_1_method_26_code 39 = .ok (.ifCond .eq 10, 3) := kz_dr dd_Bk_lookAtRequests_0 17 rfl
theorem d_Bk_lookAtRequests_42 : decode prog_1_method_26_code 42 = .ok (.aload_n 0, 1) := kz_dr dd_Bk_lookAtRequests_0 18 rfl
theorem d_Bk_lookAtRequests_43 : decode prog_1_method_26_code 43 = .ok (.invokevirtual 217, 3) := kz_dr dd_Bk_lookAtRequests_0 19 rfl
theorem d_Bk_lookAtRequests_46 : decode prog_1_method_26_code 46 = .ok (.goto 7, 3) := kz_dr dd_Bk_lookAtRequests_0 20 rfl
theorem d_Bk_lookAtRequests_49 : decode prog_1_method_26_code 49 = .ok (.aload_n 0, 1) := kz_dr dd_Bk_lookAtRequests_0 21 rfl
theorem d_Bk_lookAtRequests_50 : decode prog_1_method_26_code 50 = .ok (.invokevirtual 214, 3) := kz_dr dd_Bk_lookAtRequests_0 22 rfl
theorem d_Bk_lookAtRequests_53 : decode prog_1_method_26_code 53 = .ok (.aload_n 0, 1) := kz_dr dd_Bk_lookAtRequests_0 23 rfl
theorem d_Bk_lookAtRequests_54 : decode prog_1_method_26_code 54 = .ok (.getfield 56, 3) := kz_dr dd_Bk_lookAtRequests_0 24 rfl
theorem d_Bk_lookAtRequests_57 : decode prog_1_method_26_code 57 = .ok (.invokevirtual 81, 3) := kz_dr dd_Bk_lookAtRequests_0 25 rfl
theorem d_Bk_lookAtRequests_60 : decode prog_1_method_26_code 60 = .ok (.ifCond .le 37, 3) := kz_dr dd_Bk_lookAtRequests_0 26 rfl
theorem d_Bk_lookAtRequests_63 : decode prog_1_method_26_code 63 = .ok (.aload_n 0, 1) := kz_dr dd_Bk_lookAtRequests_0 27 rfl
theorem d_Bk_lookAtRequests_64 : decode prog_1_method_26_code 64 = .ok (.getfield 66, 3) := kz_dr dd_Bk_lookAtRequests_0 28 rfl
theorem d_Bk_lookAtRequests_67 : decode prog_1_method_26_code 67 = .ok (.aload_n 0, 1) := kz_dr dd_Bk_lookAtRequests_0 29 rfl
theorem d_Bk_lookAtRequests_68 : decode prog_1_method_26_code 68 = .ok (.getfield 42, 3) := kz_dr dd_Bk_lookAtRequests_0 30 rfl
theorem d_Bk_lookAtRequests_71 : decode prog_1_method_26_code 71 = .ok (.aload_n 0, 1) := kz_dr dd_Bk_lookAtRequests_0 31 rfl
theorem d_Bk_lookAtRequests_72 : decode prog_1_method_26_code 72 = .ok (.getfield 56, 3) := kz_dr dd_Bk_lookAtRequests_0 32 rfl
theorem d_Bk_lookAtRequests_75 : decode prog_1_method_26_code 75 = .ok (.iconst 0, 1) := kz_dr dd_Bk_lookAtRequests_0 33 rfl
theorem d_Bk_lookAtRequests_76 : decode prog_1_method_26_code 76 = .ok (.invokevirtual 151, 3) := kz_dr dd_Bk_lookAtRequests_0 34 rfl
theorem d_Bk_lookAtRequests_79 : decode prog_1_method_26_code 79 = .ok (.invokevirtual 220, 3) := kz_dr dd_Bk_lookAtRequests_0 35 rfl
theorem d_Bk_lookAtRequests_82 : decode prog_1_method_26_code 82 = .ok (.isub, 1) := kz_dr dd_Bk_lookAtRequests_0 36 rfl
theorem d_Bk_lookAtRequests_83 : decode prog_1_method_26_code 83 = .ok (.aload_n 0, 1) := kz_dr dd_Bk_lookAtRequests_0 37 rfl
theorem d_Bk_lookAtRequests_84 : decode prog_1_method_26_code 84 = .ok (.getfield 22, 3) := kz_dr dd_Bk_lookAtRequests_0 38 rfl
theorem d_Bk_lookAtRequests_87 : decode prog_1_method_26_code 87 = .ok (.if_icmp .le 10, 3) := kz_dr dd_Bk_lookAtRequests_0 39 rfl
theorem d_Bk_lookAtRequests_90 : decode prog_1_method_26_code 90 = .ok (.aload_n 0, 1) := kz_dr dd_Bk_lookAtRequests_0 40 rfl
theorem d_Bk_lookAtRequests_91 : decode prog_1_method_26_code 91 = .ok (.getfield 56, 3) := kz_dr dd_Bk_lookAtRequests_0 41 rfl
theorem d_Bk_lookAtRequests_94 : decode prog_1_method_26_code 94 = .ok (.invokevirtual 223, 3) := kz_dr dd_Bk_lookAtRequests_0 42 rfl
theorem d_Bk_lookAtRequests_97 : decode prog_1_method_26_code 97 = .ok (.return_, 1) := kz_dr dd_Bk_lookAtRequests_0 43 rfl
