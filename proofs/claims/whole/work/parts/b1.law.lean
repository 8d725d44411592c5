/-! The law: decode rows, and what its calls need of the tables; by program (wip/whole/gen_k6.py). -/
abbrev m_Lw : kz_Me := (⟨"BankKeeperLaw", "law", "([I)Z"⟩, code, 4, some .boolean, 0, 0)
def dl_Lw_0 : List (Nat × Instr × Nat) := [(0, .new 7, 3), (3, .dup, 1), (4, .aload_n 0, 1), (5, .iconst 0, 1), (6, .invokestatic 9, 3), (9, .aload_n 0, 1), (10, .iconst 1, 1), (11, .invokestatic 9, 3), (14, .invokespecial 15, 3), (17, .astore_n 1, 1), (18, .new 18, 3), (21, .dup, 1), (22, .aload_n 0, 1), (23, .iconst 0, 1), (24, .invokestatic 9, 3), (27, .aload_n 0, 1), (28, .iconst 1, 1), (29, .invokestatic 9, 3), (32, .invokespecial 20, 3), (35, .astore_n 2, 1), (36, .iconst 2, 1), (37, .istore_n 3, 1), (38, .iload_n 3, 1), (39, .aload_n 0, 1), (40, .arraylength, 1), (41, .iconst 4, 1), (42, .isub, 1), (43, .if_icmp .gt 382, 3), (46, .aload_n 0, 1), (47, .iload_n 3, 1), (48, .iaload, 1), (49, .bipush 15, 2), (51, .iand, 1), (52, .tableswitch 367 0 9 #[56, 89, 112, 175, 198, 231, 254, 278, 301, 334], 56), (108, .aload_n 1, 1), (109, .aload_n 0, 1), (110, .iload_n 3, 1), (111, .iconst 1, 1), (112, .iadd, 1), (113, .iaload, 1), (114, .aload_n 0, 1), (115, .iload_n 3, 1), (116, .iconst 2, 1), (117, .iadd, 1), (118, .iaload, 1), (119, .invokevirtual 21, 3), (122, .aload_n 2, 1), (123, .aload_n 0, 1), (124, .iload_n 3, 1), (125, .iconst 1, 1), (126, .iadd, 1), (127, .iaload, 1), (128, .aload_n 0, 1), (129, .iload_n 3, 1), (130, .iconst 2, 1), (131, .iadd, 1), (132, .iaload, 1), (133, .invokevirtual 25, 3), (136, .if_icmp .eq 283, 3), (139, .iconst 0, 1)]
theorem dd_Lw_0 : dl_Lw_0.all (fun e => decide (decode code e.1 = .ok e.2)) = true := by decide +kernel
theorem d_Lw_0 : decode code 0 = .ok (.new 7, 3) := kz_dr dd_Lw_0 0 rfl
theorem d_Lw_3 : decode code 3 = .ok (.dup, 1) := kz_dr dd_Lw_0 1 rfl
theorem d_Lw_4 : decode code 4 = .ok (.aload_n 0, 1) := kz_dr dd_Lw_0 2 rfl
theorem d_Lw_5 : decode code 5 = .ok (.iconst 0, 1) := kz_dr dd_Lw_0 3 rfl
theorem d_Lw_6 : decode code 6 = .ok (.invokestatic 9, 3) := kz_dr dd_Lw_0 4 rfl
theorem d_Lw_9 : decode code 9 = .ok (.aload_n 0, 1) := kz_dr dd_Lw_0 5 rfl
theorem d_Lw_10 : decode code 10 = .ok (.iconst 1, 1) := kz_dr dd_Lw_0 6 rfl
theorem d_Lw_11 : decode code 11 = .ok (.invokestatic 9, 3) := kz_dr dd_Lw_0 7 rfl
theorem d_Lw_14 : decode code 14 = .ok (.invokespecial 15, 3) := kz_dr dd_Lw_0 8 rfl
theorem d_Lw_17 : decode code 17 = .ok (.astore_n 1, 1) := kz_dr dd_Lw_0 9 rfl
theorem d_Lw_18 : decode code 18 = .ok (.new 18, 3) := kz_dr dd_Lw_0 10 rfl
theorem d_Lw_21 : decode code 21 = .ok (.dup, 1) := kz_dr dd_Lw_0 11 rfl
theorem d_Lw_22 : decode code 22 = .ok (.aload_n 0, 1) := kz_dr dd_Lw_0 12 rfl
theorem d_Lw_23 : decode code 23 = .ok (.iconst 0, 1) := kz_dr dd_Lw_0 13 rfl
theorem d_Lw_24 : decode code 24 = .ok (.invokestatic 9, 3) := kz_dr dd_Lw_0 14 rfl
theorem d_Lw_27 : decode code 27 = .ok (.aload_n 0, 1) := kz_dr dd_Lw_0 15 rfl
theorem d_Lw_28 : decode code 28 = .ok (.iconst 1, 1) := kz_dr dd_Lw_0 16 rfl
theorem d_Lw_29 : decode code 29 = .ok (.invokestatic 9, 3) := kz_dr dd_Lw_0 17 rfl
theorem d_Lw_32 : decode code 32 = .ok (.invokespecial 20, 3) := kz_dr dd_Lw_0 18 rfl
theorem d_Lw_35 : decode code 35 = .ok (.astore_n 2, 1) := kz_dr dd_Lw_0 19 rfl
theorem d_Lw_36 : decode code 36 = .ok (.iconst 2, 1) := kz_dr dd_Lw_0 20 rfl
theorem d_Lw_37 : decode code 37 = .ok (.istore_n 3, 1) := kz_dr dd_Lw_0 21 rfl
theorem d_Lw_38 : decode code 38 = .ok (.iload_n 3, 1) := kz_dr dd_Lw_0 22 rfl
theorem d_Lw_39 : decode code 39 = .ok (.aload_n 0, 1) := kz_dr dd_Lw_0 23 rfl
theorem d_Lw_40 : decode code 40 = .ok (.arraylength, 1) := kz_dr dd_Lw_0 24 rfl
theorem d_Lw_41 : decode code 41 = .ok (.iconst 4, 1) := kz_dr dd_Lw_0 25 rfl
theorem d_Lw_42 : decode code 42 = .ok (.isub, 1) := kz_dr dd_Lw_0 26 rfl
theorem d_Lw_43 : decode code 43 = .ok (.if_icmp .gt 382, 3) := kz_dr dd_Lw_0 27 rfl
theorem d_Lw_46 : decode code 46 = .ok (.aload_n 0, 1) := kz_dr dd_Lw_0 28 rfl
theorem d_Lw_47 : decode code 47 = .ok (.iload_n 3, 1) := kz_dr dd_Lw_0 29 rfl
theorem d_Lw_48 : decode code 48 = .ok (.iaload, 1) := kz_dr dd_Lw_0 30 rfl
theorem d_Lw_49 : decode code 49 = .ok (.bipush 15, 2) := kz_dr dd_Lw_0 31 rfl
theorem d_Lw_51 : decode code 51 = .ok (.iand, 1) := kz_dr dd_Lw_0 32 rfl
theorem d_Lw_52 : decode code 52 = .ok (.tableswitch 367 0 9 #[56, 89, 112, 175, 198, 231, 254, 278, 301, 334], 56) := kz_dr dd_Lw_0 33 rfl
theorem d_Lw_108 : decode code 108 = .ok (.aload_n 1, 1) := kz_dr dd_Lw_0 34 rfl
theorem d_Lw_109 : decode code 109 = .ok (.aload_n 0, 1) := kz_dr dd_Lw_0 35 rfl
theorem d_Lw_110 : decode code 110 = .ok (.iload_n 3, 1) := kz_dr dd_Lw_0 36 rfl
theorem d_Lw_111 : decode code 111 = .ok (.iconst 1, 1) := kz_dr dd_Lw_0 37 rfl
theorem d_Lw_112 : decode code 112 = .ok (.iadd, 1) := kz_dr dd_Lw_0 38 rfl
theorem d_Lw_113 : decode code 113 = .ok (.iaload, 1) := kz_dr dd_Lw_0 39 rfl
theorem d_Lw_114 : decode code 114 = .ok (.aload_n 0, 1) := kz_dr dd_Lw_0 40 rfl
theorem d_Lw_115 : decode code 115 = .ok (.iload_n 3, 1) := kz_dr dd_Lw_0 41 rfl
theorem d_Lw_116 : decode code 116 = .ok (.iconst 2, 1) := kz_dr dd_Lw_0 42 rfl
theorem d_Lw_117 : decode code 117 = .ok (.iadd, 1) := kz_dr dd_Lw_0 43 rfl
theorem d_Lw_118 : decode code 118 = .ok (.iaload, 1) := kz_dr dd_Lw_0 44 rfl
theorem d_Lw_119 : decode code 119 = .ok (.invokevirtual 21, 3) := kz_dr dd_Lw_0 45 rfl
theorem d_Lw_122 : decode code 122 = .ok (.aload_n 2, 1) := kz_dr dd_Lw_0 46 rfl
theorem d_Lw_123 : decode code 123 = .ok (.aload_n 0, 1) := kz_dr dd_Lw_0 47 rfl
theorem d_Lw_124 : decode code 124 = .ok (.iload_n 3, 1) := kz_dr dd_Lw_0 48 rfl
theorem d_Lw_125 : decode code 125 = .ok (.iconst 1, 1) := kz_dr dd_Lw_0 49 rfl
theorem d_Lw_126 : decode code 126 = .ok (.iadd, 1) := kz_dr dd_Lw_0 50 rfl
theorem d_Lw_127 : decode code 127 = .ok (.iaload, 1) := kz_dr dd_Lw_0 51 rfl
theorem d_Lw_128 : decode code 128 = .ok (.aload_n 0, 1) := kz_dr dd_Lw_0 52 rfl
theorem d_Lw_129 : decode code 129 = .ok (.iload_n 3, 1) := kz_dr dd_Lw_0 53 rfl
theorem d_Lw_130 : decode code 130 = .ok (.iconst 2, 1) := kz_dr dd_Lw_0 54 rfl
theorem d_Lw_131 : decode code 131 = .ok (.iadd, 1) := kz_dr dd_Lw_0 55 rfl
theorem d_Lw_132 : decode code 132 = .ok (.iaload, 1) := kz_dr dd_Lw_0 56 rfl
theorem d_Lw_133 : decode code 133 = .ok (.invokevirtual 25, 3) := kz_dr dd_Lw_0 57 rfl
theorem d_Lw_136 : decode code 136 = .ok (.if_icmp .eq 283, 3) := kz_dr dd_Lw_0 58 rfl
theorem d_Lw_139 : decode code 139 = .ok (.iconst 0, 1) := kz_dr dd_Lw_0 59 rfl
def dl_Lw_1 : List (Nat × Instr × Nat) := [(140, .ireturn, 1), (141, .aload_n 1, 1), (142, .aload_n 0, 1), (143, .iload_n 3, 1), (144, .iconst 1, 1), (145, .iadd, 1), (146, .iaload, 1), (147, .invokevirtual 26, 3), (150, .aload_n 2, 1), (151, .aload_n 0, 1), (152, .iload_n 3, 1), (153, .iconst 1, 1), (154, .iadd, 1), (155, .iaload, 1), (156, .invokevirtual 30, 3), (159, .if_icmp .eq 260, 3), (162, .iconst 0, 1), (163, .ireturn, 1), (164, .aload_n 1, 1), (165, .aload_n 0, 1), (166, .iload_n 3, 1), (167, .iconst 1, 1), (168, .iadd, 1), (169, .iaload, 1), (170, .aload_n 0, 1), (171, .iload_n 3, 1), (172, .iconst 2, 1), (173, .iadd, 1), (174, .iaload, 1), (175, .i2l, 1), (176, .bipush 32, 2), (178, .lshl, 1), (179, .aload_n 0, 1), (180, .iload_n 3, 1), (181, .iconst 3, 1), (182, .iadd, 1), (183, .iaload, 1), (184, .i2l, 1), (185, .ldc2_w 31, 3), (188, .land, 1), (189, .lor, 1), (190, .invokevirtual 33, 3), (193, .aload_n 2, 1), (194, .aload_n 0, 1), (195, .iload_n 3, 1), (196, .iconst 1, 1), (197, .iadd, 1), (198, .iaload, 1), (199, .aload_n 0, 1), (200, .iload_n 3, 1), (201, .iconst 2, 1), (202, .iadd, 1), (203, .iaload, 1), (204, .i2l, 1), (205, .bipush 32, 2), (207, .lshl, 1), (208, .aload_n 0, 1), (209, .iload_n 3, 1), (210, .iconst 3, 1), (211, .iadd, 1)]
theorem dd_Lw_1 : dl_Lw_1.all (fun e => decide (decode code e.1 = .ok e.2)) = true := by decide +kernel
theorem d_Lw_140 : decode code 140 = .ok (.ireturn, 1) := kz_dr dd_Lw_1 0 rfl
theorem d_Lw_141 : decode code 141 = .ok (.aload_n 1, 1) := kz_dr dd_Lw_1 1 rfl
theorem d_Lw_142 : decode code 142 = .ok (.aload_n 0, 1) := kz_dr dd_Lw_1 2 rfl
theorem d_Lw_143 : decode code 143 = .ok (.iload_n 3, 1) := kz_dr dd_Lw_1 3 rfl
theorem d_Lw_144 : decode code 144 = .ok (.iconst 1, 1) := kz_dr dd_Lw_1 4 rfl
theorem d_Lw_145 : decode code 145 = .ok (.iadd, 1) := kz_dr dd_Lw_1 5 rfl
theorem d_Lw_146 : decode code 146 = .ok (.iaload, 1) := kz_dr dd_Lw_1 6 rfl
theorem d_Lw_147 : decode code 147 = .ok (.invokevirtual 26, 3) := kz_dr dd_Lw_1 7 rfl
theorem d_Lw_150 : decode code 150 = .ok (.aload_n 2, 1) := kz_dr dd_Lw_1 8 rfl
theorem d_Lw_151 : decode code 151 = .ok (.aload_n 0, 1) := kz_dr dd_Lw_1 9 rfl
theorem d_Lw_152 : decode code 152 = .ok (.iload_n 3, 1) := kz_dr dd_Lw_1 10 rfl
theorem d_Lw_153 : decode code 153 = .ok (.iconst 1, 1) := kz_dr dd_Lw_1 11 rfl
theorem d_Lw_154 : decode code 154 = .ok (.iadd, 1) := kz_dr dd_Lw_1 12 rfl
theorem d_Lw_155 : decode code 155 = .ok (.iaload, 1) := kz_dr dd_Lw_1 13 rfl
theorem d_Lw_156 : decode code 156 = .ok (.invokevirtual 30, 3) := kz_dr dd_Lw_1 14 rfl
theorem d_Lw_159 : decode code 159 = .ok (.if_icmp .eq 260, 3) := kz_dr dd_Lw_1 15 rfl
theorem d_Lw_162 : decode code 162 = .ok (.iconst 0, 1) := kz_dr dd_Lw_1 16 rfl
theorem d_Lw_163 : decode code 163 = .ok (.ireturn, 1) := kz_dr dd_Lw_1 17 rfl
theorem d_Lw_164 : decode code 164 = .ok (.aload_n 1, 1) := kz_dr dd_Lw_1 18 rfl
theorem d_Lw_165 : decode code 165 = .ok (.aload_n 0, 1) := kz_dr dd_Lw_1 19 rfl
theorem d_Lw_166 : decode code 166 = .ok (.iload_n 3, 1) := kz_dr dd_Lw_1 20 rfl
theorem d_Lw_167 : decode code 167 = .ok (.iconst 1, 1) := kz_dr dd_Lw_1 21 rfl
theorem d_Lw_168 : decode code 168 = .ok (.iadd, 1) := kz_dr dd_Lw_1 22 rfl
theorem d_Lw_169 : decode code 169 = .ok (.iaload, 1) := kz_dr dd_Lw_1 23 rfl
theorem d_Lw_170 : decode code 170 = .ok (.aload_n 0, 1) := kz_dr dd_Lw_1 24 rfl
theorem d_Lw_171 : decode code 171 = .ok (.iload_n 3, 1) := kz_dr dd_Lw_1 25 rfl
theorem d_Lw_172 : decode code 172 = .ok (.iconst 2, 1) := kz_dr dd_Lw_1 26 rfl
theorem d_Lw_173 : decode code 173 = .ok (.iadd, 1) := kz_dr dd_Lw_1 27 rfl
theorem d_Lw_174 : decode code 174 = .ok (.iaload, 1) := kz_dr dd_Lw_1 28 rfl
theorem d_Lw_175 : decode code 175 = .ok (.i2l, 1) := kz_dr dd_Lw_1 29 rfl
theorem d_Lw_176 : decode code 176 = .ok (.bipush 32, 2) := kz_dr dd_Lw_1 30 rfl
theorem d_Lw_178 : decode code 178 = .ok (.lshl, 1) := kz_dr dd_Lw_1 31 rfl
theorem d_Lw_179 : decode code 179 = .ok (.aload_n 0, 1) := kz_dr dd_Lw_1 32 rfl
theorem d_Lw_180 : decode code 180 = .ok (.iload_n 3, 1) := kz_dr dd_Lw_1 33 rfl
theorem d_Lw_181 : decode code 181 = .ok (.iconst 3, 1) := kz_dr dd_Lw_1 34 rfl
theorem d_Lw_182 : decode code 182 = .ok (.iadd, 1) := kz_dr dd_Lw_1 35 rfl
theorem d_Lw_183 : decode code 183 = .ok (.iaload, 1) := kz_dr dd_Lw_1 36 rfl
theorem d_Lw_184 : decode code 184 = .ok (.i2l, 1) := kz_dr dd_Lw_1 37 rfl
theorem d_Lw_185 : decode code 185 = .ok (.ldc2_w 31, 3) := kz_dr dd_Lw_1 38 rfl
theorem d_Lw_188 : decode code 188 = .ok (.land, 1) := kz_dr dd_Lw_1 39 rfl
theorem d_Lw_189 : decode code 189 = .ok (.lor, 1) := kz_dr dd_Lw_1 40 rfl
theorem d_Lw_190 : decode code 190 = .ok (.invokevirtual 33, 3) := kz_dr dd_Lw_1 41 rfl
theorem d_Lw_193 : decode code 193 = .ok (.aload_n 2, 1) := kz_dr dd_Lw_1 42 rfl
theorem d_Lw_194 : decode code 194 = .ok (.aload_n 0, 1) := kz_dr dd_Lw_1 43 rfl
theorem d_Lw_195 : decode code 195 = .ok (.iload_n 3, 1) := kz_dr dd_Lw_1 44 rfl
theorem d_Lw_196 : decode code 196 = .ok (.iconst 1, 1) := kz_dr dd_Lw_1 45 rfl
theorem d_Lw_197 : decode code 197 = .ok (.iadd, 1) := kz_dr dd_Lw_1 46 rfl
theorem d_Lw_198 : decode code 198 = .ok (.iaload, 1) := kz_dr dd_Lw_1 47 rfl
theorem d_Lw_199 : decode code 199 = .ok (.aload_n 0, 1) := kz_dr dd_Lw_1 48 rfl
theorem d_Lw_200 : decode code 200 = .ok (.iload_n 3, 1) := kz_dr dd_Lw_1 49 rfl
theorem d_Lw_201 : decode code 201 = .ok (.iconst 2, 1) := kz_dr dd_Lw_1 50 rfl
theorem d_Lw_202 : decode code 202 = .ok (.iadd, 1) := kz_dr dd_Lw_1 51 rfl
theorem d_Lw_203 : decode code 203 = .ok (.iaload, 1) := kz_dr dd_Lw_1 52 rfl
theorem d_Lw_204 : decode code 204 = .ok (.i2l, 1) := kz_dr dd_Lw_1 53 rfl
theorem d_Lw_205 : decode code 205 = .ok (.bipush 32, 2) := kz_dr dd_Lw_1 54 rfl
theorem d_Lw_207 : decode code 207 = .ok (.lshl, 1) := kz_dr dd_Lw_1 55 rfl
theorem d_Lw_208 : decode code 208 = .ok (.aload_n 0, 1) := kz_dr dd_Lw_1 56 rfl
theorem d_Lw_209 : decode code 209 = .ok (.iload_n 3, 1) := kz_dr dd_Lw_1 57 rfl
theorem d_Lw_210 : decode code 210 = .ok (.iconst 3, 1) := kz_dr dd_Lw_1 58 rfl
theorem d_Lw_211 : decode code 211 = .ok (.iadd, 1) := kz_dr dd_Lw_1 59 rfl
def dl_Lw_2 : List (Nat × Instr × Nat) := [(212, .iaload, 1), (213, .i2l, 1), (214, .ldc2_w 31, 3), (217, .land, 1), (218, .lor, 1), (219, .invokevirtual 37, 3), (222, .if_icmp .eq 197, 3), (225, .iconst 0, 1), (226, .ireturn, 1), (227, .aload_n 1, 1), (228, .aload_n 0, 1), (229, .iload_n 3, 1), (230, .iconst 1, 1), (231, .iadd, 1), (232, .iaload, 1), (233, .invokevirtual 38, 3), (236, .aload_n 2, 1), (237, .aload_n 0, 1), (238, .iload_n 3, 1), (239, .iconst 1, 1), (240, .iadd, 1), (241, .iaload, 1), (242, .invokevirtual 41, 3), (245, .if_icmp .eq 174, 3), (248, .iconst 0, 1), (249, .ireturn, 1), (250, .aload_n 1, 1), (251, .aload_n 0, 1), (252, .iload_n 3, 1), (253, .iconst 1, 1), (254, .iadd, 1), (255, .iaload, 1), (256, .aload_n 0, 1), (257, .iload_n 3, 1), (258, .iconst 2, 1), (259, .iadd, 1), (260, .iaload, 1), (261, .invokevirtual 42, 3), (264, .aload_n 2, 1), (265, .aload_n 0, 1), (266, .iload_n 3, 1), (267, .iconst 1, 1), (268, .iadd, 1), (269, .iaload, 1), (270, .aload_n 0, 1), (271, .iload_n 3, 1), (272, .iconst 2, 1), (273, .iadd, 1), (274, .iaload, 1), (275, .invokevirtual 45, 3), (278, .if_icmp .eq 141, 3), (281, .iconst 0, 1), (282, .ireturn, 1), (283, .aload_n 1, 1), (284, .aload_n 0, 1), (285, .iload_n 3, 1), (286, .iconst 1, 1), (287, .iadd, 1), (288, .iaload, 1), (289, .invokevirtual 46, 3)]
theorem dd_Lw_2 : dl_Lw_2.all (fun e => decide (decode code e.1 = .ok e.2)) = true := by decide +kernel
theorem d_Lw_212 : decode code 212 = .ok (.iaload, 1) := kz_dr dd_Lw_2 0 rfl
theorem d_Lw_213 : decode code 213 = .ok (.i2l, 1) := kz_dr dd_Lw_2 1 rfl
theorem d_Lw_214 : decode code 214 = .ok (.ldc2_w 31, 3) := kz_dr dd_Lw_2 2 rfl
theorem d_Lw_217 : decode code 217 = .ok (.land, 1) := kz_dr dd_Lw_2 3 rfl
theorem d_Lw_218 : decode code 218 = .ok (.lor, 1) := kz_dr dd_Lw_2 4 rfl
theorem d_Lw_219 : decode code 219 = .ok (.invokevirtual 37, 3) := kz_dr dd_Lw_2 5 rfl
theorem d_Lw_222 : decode code 222 = .ok (.if_icmp .eq 197, 3) := kz_dr dd_Lw_2 6 rfl
theorem d_Lw_225 : decode code 225 = .ok (.iconst 0, 1) := kz_dr dd_Lw_2 7 rfl
theorem d_Lw_226 : decode code 226 = .ok (.ireturn, 1) := kz_dr dd_Lw_2 8 rfl
theorem d_Lw_227 : decode code 227 = .ok (.aload_n 1, 1) := kz_dr dd_Lw_2 9 rfl
theorem d_Lw_228 : decode code 228 = .ok (.aload_n 0, 1) := kz_dr dd_Lw_2 10 rfl
theorem d_Lw_229 : decode code 229 = .ok (.iload_n 3, 1) := kz_dr dd_Lw_2 11 rfl
theorem d_Lw_230 : decode code 230 = .ok (.iconst 1, 1) := kz_dr dd_Lw_2 12 rfl
theorem d_Lw_231 : decode code 231 = .ok (.iadd, 1) := kz_dr dd_Lw_2 13 rfl
theorem d_Lw_232 : decode code 232 = .ok (.iaload, 1) := kz_dr dd_Lw_2 14 rfl
theorem d_Lw_233 : decode code 233 = .ok (.invokevirtual 38, 3) := kz_dr dd_Lw_2 15 rfl
theorem d_Lw_236 : decode code 236 = .ok (.aload_n 2, 1) := kz_dr dd_Lw_2 16 rfl
theorem d_Lw_237 : decode code 237 = .ok (.aload_n 0, 1) := kz_dr dd_Lw_2 17 rfl
theorem d_Lw_238 : decode code 238 = .ok (.iload_n 3, 1) := kz_dr dd_Lw_2 18 rfl
theorem d_Lw_239 : decode code 239 = .ok (.iconst 1, 1) := kz_dr dd_Lw_2 19 rfl
theorem d_Lw_240 : decode code 240 = .ok (.iadd, 1) := kz_dr dd_Lw_2 20 rfl
theorem d_Lw_241 : decode code 241 = .ok (.iaload, 1) := kz_dr dd_Lw_2 21 rfl
theorem d_Lw_242 : decode code 242 = .ok (.invokevirtual 41, 3) := kz_dr dd_Lw_2 22 rfl
theorem d_Lw_245 : decode code 245 = .ok (.if_icmp .eq 174, 3) := kz_dr dd_Lw_2 23 rfl
theorem d_Lw_248 : decode code 248 = .ok (.iconst 0, 1) := kz_dr dd_Lw_2 24 rfl
theorem d_Lw_249 : decode code 249 = .ok (.ireturn, 1) := kz_dr dd_Lw_2 25 rfl
theorem d_Lw_250 : decode code 250 = .ok (.aload_n 1, 1) := kz_dr dd_Lw_2 26 rfl
theorem d_Lw_251 : decode code 251 = .ok (.aload_n 0, 1) := kz_dr dd_Lw_2 27 rfl
theorem d_Lw_252 : decode code 252 = .ok (.iload_n 3, 1) := kz_dr dd_Lw_2 28 rfl
theorem d_Lw_253 : decode code 253 = .ok (.iconst 1, 1) := kz_dr dd_Lw_2 29 rfl
theorem d_Lw_254 : decode code 254 = .ok (.iadd, 1) := kz_dr dd_Lw_2 30 rfl
theorem d_Lw_255 : decode code 255 = .ok (.iaload, 1) := kz_dr dd_Lw_2 31 rfl
theorem d_Lw_256 : decode code 256 = .ok (.aload_n 0, 1) := kz_dr dd_Lw_2 32 rfl
theorem d_Lw_257 : decode code 257 = .ok (.iload_n 3, 1) := kz_dr dd_Lw_2 33 rfl
theorem d_Lw_258 : decode code 258 = .ok (.iconst 2, 1) := kz_dr dd_Lw_2 34 rfl
theorem d_Lw_259 : decode code 259 = .ok (.iadd, 1) := kz_dr dd_Lw_2 35 rfl
theorem d_Lw_260 : decode code 260 = .ok (.iaload, 1) := kz_dr dd_Lw_2 36 rfl
theorem d_Lw_261 : decode code 261 = .ok (.invokevirtual 42, 3) := kz_dr dd_Lw_2 37 rfl
theorem d_Lw_264 : decode code 264 = .ok (.aload_n 2, 1) := kz_dr dd_Lw_2 38 rfl
theorem d_Lw_265 : decode code 265 = .ok (.aload_n 0, 1) := kz_dr dd_Lw_2 39 rfl
theorem d_Lw_266 : decode code 266 = .ok (.iload_n 3, 1) := kz_dr dd_Lw_2 40 rfl
theorem d_Lw_267 : decode code 267 = .ok (.iconst 1, 1) := kz_dr dd_Lw_2 41 rfl
theorem d_Lw_268 : decode code 268 = .ok (.iadd, 1) := kz_dr dd_Lw_2 42 rfl
theorem d_Lw_269 : decode code 269 = .ok (.iaload, 1) := kz_dr dd_Lw_2 43 rfl
theorem d_Lw_270 : decode code 270 = .ok (.aload_n 0, 1) := kz_dr dd_Lw_2 44 rfl
theorem d_Lw_271 : decode code 271 = .ok (.iload_n 3, 1) := kz_dr dd_Lw_2 45 rfl
theorem d_Lw_272 : decode code 272 = .ok (.iconst 2, 1) := kz_dr dd_Lw_2 46 rfl
theorem d_Lw_273 : decode code 273 = .ok (.iadd, 1) := kz_dr dd_Lw_2 47 rfl
theorem d_Lw_274 : decode code 274 = .ok (.iaload, 1) := kz_dr dd_Lw_2 48 rfl
theorem d_Lw_275 : decode code 275 = .ok (.invokevirtual 45, 3) := kz_dr dd_Lw_2 49 rfl
theorem d_Lw_278 : decode code 278 = .ok (.if_icmp .eq 141, 3) := kz_dr dd_Lw_2 50 rfl
theorem d_Lw_281 : decode code 281 = .ok (.iconst 0, 1) := kz_dr dd_Lw_2 51 rfl
theorem d_Lw_282 : decode code 282 = .ok (.ireturn, 1) := kz_dr dd_Lw_2 52 rfl
theorem d_Lw_283 : decode code 283 = .ok (.aload_n 1, 1) := kz_dr dd_Lw_2 53 rfl
theorem d_Lw_284 : decode code 284 = .ok (.aload_n 0, 1) := kz_dr dd_Lw_2 54 rfl
theorem d_Lw_285 : decode code 285 = .ok (.iload_n 3, 1) := kz_dr dd_Lw_2 55 rfl
theorem d_Lw_286 : decode code 286 = .ok (.iconst 1, 1) := kz_dr dd_Lw_2 56 rfl
theorem d_Lw_287 : decode code 287 = .ok (.iadd, 1) := kz_dr dd_Lw_2 57 rfl
theorem d_Lw_288 : decode code 288 = .ok (.iaload, 1) := kz_dr dd_Lw_2 58 rfl
theorem d_Lw_289 : decode code 289 = .ok (.invokevirtual 46, 3) := kz_dr dd_Lw_2 59 rfl
def dl_Lw_3 : List (Nat × Instr × Nat) := [(292, .aload_n 2, 1), (293, .aload_n 0, 1), (294, .iload_n 3, 1), (295, .iconst 1, 1), (296, .iadd, 1), (297, .iaload, 1), (298, .invokevirtual 49, 3), (301, .if_icmp .eq 118, 3), (304, .iconst 0, 1), (305, .ireturn, 1), (306, .aload_n 1, 1), (307, .aload_n 0, 1), (308, .iload_n 3, 1), (309, .iconst 1, 1), (310, .iadd, 1), (311, .iaload, 1), (312, .invokevirtual 50, 3), (315, .aload_n 2, 1), (316, .aload_n 0, 1), (317, .iload_n 3, 1), (318, .iconst 1, 1), (319, .iadd, 1), (320, .iaload, 1), (321, .invokevirtual 54, 3), (324, .lcmp, 1), (325, .ifCond .eq 94, 3), (328, .iconst 0, 1), (329, .ireturn, 1), (330, .aload_n 1, 1), (331, .aload_n 0, 1), (332, .iload_n 3, 1), (333, .iconst 1, 1), (334, .iadd, 1), (335, .iaload, 1), (336, .invokevirtual 55, 3), (339, .aload_n 2, 1), (340, .aload_n 0, 1), (341, .iload_n 3, 1), (342, .iconst 1, 1), (343, .iadd, 1), (344, .iaload, 1), (345, .invokevirtual 58, 3), (348, .if_icmp .eq 71, 3), (351, .iconst 0, 1), (352, .ireturn, 1), (353, .aload_n 1, 1), (354, .aload_n 0, 1), (355, .iload_n 3, 1), (356, .iconst 1, 1), (357, .iadd, 1), (358, .iaload, 1), (359, .aload_n 0, 1), (360, .iload_n 3, 1), (361, .iconst 2, 1), (362, .iadd, 1), (363, .iaload, 1), (364, .invokevirtual 59, 3), (367, .aload_n 2, 1), (368, .aload_n 0, 1), (369, .iload_n 3, 1)]
theorem dd_Lw_3 : dl_Lw_3.all (fun e => decide (decode code e.1 = .ok e.2)) = true := by decide +kernel
theorem d_Lw_292 : decode code 292 = .ok (.aload_n 2, 1) := kz_dr dd_Lw_3 0 rfl
theorem d_Lw_293 : decode code 293 = .ok (.aload_n 0, 1) := kz_dr dd_Lw_3 1 rfl
theorem d_Lw_294 : decode code 294 = .ok (.iload_n 3, 1) := kz_dr dd_Lw_3 2 rfl
theorem d_Lw_295 : decode code 295 = .ok (.iconst 1, 1) := kz_dr dd_Lw_3 3 rfl
theorem d_Lw_296 : decode code 296 = .ok (.iadd, 1) := kz_dr dd_Lw_3 4 rfl
theorem d_Lw_297 : decode code 297 = .ok (.iaload, 1) := kz_dr dd_Lw_3 5 rfl
theorem d_Lw_298 : decode code 298 = .ok (.invokevirtual 49, 3) := kz_dr dd_Lw_3 6 rfl
theorem d_Lw_301 : decode code 301 = .ok (.if_icmp .eq 118, 3) := kz_dr dd_Lw_3 7 rfl
theorem d_Lw_304 : decode code 304 = .ok (.iconst 0, 1) := kz_dr dd_Lw_3 8 rfl
theorem d_Lw_305 : decode code 305 = .ok (.ireturn, 1) := kz_dr dd_Lw_3 9 rfl
theorem d_Lw_306 : decode code 306 = .ok (.aload_n 1, 1) := kz_dr dd_Lw_3 10 rfl
theorem d_Lw_307 : decode code 307 = .ok (.aload_n 0, 1) := kz_dr dd_Lw_3 11 rfl
theorem d_Lw_308 : decode code 308 = .ok (.iload_n 3, 1) := kz_dr dd_Lw_3 12 rfl
theorem d_Lw_309 : decode code 309 = .ok (.iconst 1, 1) := kz_dr dd_Lw_3 13 rfl
theorem d_Lw_310 : decode code 310 = .ok (.iadd, 1) := kz_dr dd_Lw_3 14 rfl
theorem d_Lw_311 : decode code 311 = .ok (.iaload, 1) := kz_dr dd_Lw_3 15 rfl
theorem d_Lw_312 : decode code 312 = .ok (.invokevirtual 50, 3) := kz_dr dd_Lw_3 16 rfl
theorem d_Lw_315 : decode code 315 = .ok (.aload_n 2, 1) := kz_dr dd_Lw_3 17 rfl
theorem d_Lw_316 : decode code 316 = .ok (.aload_n 0, 1) := kz_dr dd_Lw_3 18 rfl
theorem d_Lw_317 : decode code 317 = .ok (.iload_n 3, 1) := kz_dr dd_Lw_3 19 rfl
theorem d_Lw_318 : decode code 318 = .ok (.iconst 1, 1) := kz_dr dd_Lw_3 20 rfl
theorem d_Lw_319 : decode code 319 = .ok (.iadd, 1) := kz_dr dd_Lw_3 21 rfl
theorem d_Lw_320 : decode code 320 = .ok (.iaload, 1) := kz_dr dd_Lw_3 22 rfl
theorem d_Lw_321 : decode code 321 = .ok (.invokevirtual 54, 3) := kz_dr dd_Lw_3 23 rfl
theorem d_Lw_324 : decode code 324 = .ok (.lcmp, 1) := kz_dr dd_Lw_3 24 rfl
theorem d_Lw_325 : decode code 325 = .ok (.ifCond .eq 94, 3) := kz_dr dd_Lw_3 25 rfl
theorem d_Lw_328 : decode code 328 = .ok (.iconst 0, 1) := kz_dr dd_Lw_3 26 rfl
theorem d_Lw_329 : decode code 329 = .ok (.ireturn, 1) := kz_dr dd_Lw_3 27 rfl
theorem d_Lw_330 : decode code 330 = .ok (.aload_n 1, 1) := kz_dr dd_Lw_3 28 rfl
theorem d_Lw_331 : decode code 331 = .ok (.aload_n 0, 1) := kz_dr dd_Lw_3 29 rfl
theorem d_Lw_332 : decode code 332 = .ok (.iload_n 3, 1) := kz_dr dd_Lw_3 30 rfl
theorem d_Lw_333 : decode code 333 = .ok (.iconst 1, 1) := kz_dr dd_Lw_3 31 rfl
theorem d_Lw_334 : decode code 334 = .ok (.iadd, 1) := kz_dr dd_Lw_3 32 rfl
theorem d_Lw_335 : decode code 335 = .ok (.iaload, 1) := kz_dr dd_Lw_3 33 rfl
theorem d_Lw_336 : decode code 336 = .ok (.invokevirtual 55, 3) := kz_dr dd_Lw_3 34 rfl
theorem d_Lw_339 : decode code 339 = .ok (.aload_n 2, 1) := kz_dr dd_Lw_3 35 rfl
theorem d_Lw_340 : decode code 340 = .ok (.aload_n 0, 1) := kz_dr dd_Lw_3 36 rfl
theorem d_Lw_341 : decode code 341 = .ok (.iload_n 3, 1) := kz_dr dd_Lw_3 37 rfl
theorem d_Lw_342 : decode code 342 = .ok (.iconst 1, 1) := kz_dr dd_Lw_3 38 rfl
theorem d_Lw_343 : decode code 343 = .ok (.iadd, 1) := kz_dr dd_Lw_3 39 rfl
theorem d_Lw_344 : decode code 344 = .ok (.iaload, 1) := kz_dr dd_Lw_3 40 rfl
theorem d_Lw_345 : decode code 345 = .ok (.invokevirtual 58, 3) := kz_dr dd_Lw_3 41 rfl
theorem d_Lw_348 : decode code 348 = .ok (.if_icmp .eq 71, 3) := kz_dr dd_Lw_3 42 rfl
theorem d_Lw_351 : decode code 351 = .ok (.iconst 0, 1) := kz_dr dd_Lw_3 43 rfl
theorem d_Lw_352 : decode code 352 = .ok (.ireturn, 1) := kz_dr dd_Lw_3 44 rfl
theorem d_Lw_353 : decode code 353 = .ok (.aload_n 1, 1) := kz_dr dd_Lw_3 45 rfl
theorem d_Lw_354 : decode code 354 = .ok (.aload_n 0, 1) := kz_dr dd_Lw_3 46 rfl
theorem d_Lw_355 : decode code 355 = .ok (.iload_n 3, 1) := kz_dr dd_Lw_3 47 rfl
theorem d_Lw_356 : decode code 356 = .ok (.iconst 1, 1) := kz_dr dd_Lw_3 48 rfl
theorem d_Lw_357 : decode code 357 = .ok (.iadd, 1) := kz_dr dd_Lw_3 49 rfl
theorem d_Lw_358 : decode code 358 = .ok (.iaload, 1) := kz_dr dd_Lw_3 50 rfl
theorem d_Lw_359 : decode code 359 = .ok (.aload_n 0, 1) := kz_dr dd_Lw_3 51 rfl
theorem d_Lw_360 : decode code 360 = .ok (.iload_n 3, 1) := kz_dr dd_Lw_3 52 rfl
theorem d_Lw_361 : decode code 361 = .ok (.iconst 2, 1) := kz_dr dd_Lw_3 53 rfl
theorem d_Lw_362 : decode code 362 = .ok (.iadd, 1) := kz_dr dd_Lw_3 54 rfl
theorem d_Lw_363 : decode code 363 = .ok (.iaload, 1) := kz_dr dd_Lw_3 55 rfl
theorem d_Lw_364 : decode code 364 = .ok (.invokevirtual 59, 3) := kz_dr dd_Lw_3 56 rfl
theorem d_Lw_367 : decode code 367 = .ok (.aload_n 2, 1) := kz_dr dd_Lw_3 57 rfl
theorem d_Lw_368 : decode code 368 = .ok (.aload_n 0, 1) := kz_dr dd_Lw_3 58 rfl
theorem d_Lw_369 : decode code 369 = .ok (.iload_n 3, 1) := kz_dr dd_Lw_3 59 rfl
def dl_Lw_4 : List (Nat × Instr × Nat) := [(370, .iconst 1, 1), (371, .iadd, 1), (372, .iaload, 1), (373, .aload_n 0, 1), (374, .iload_n 3, 1), (375, .iconst 2, 1), (376, .iadd, 1), (377, .iaload, 1), (378, .invokevirtual 63, 3), (381, .if_icmp .eq 38, 3), (384, .iconst 0, 1), (385, .ireturn, 1), (386, .aload_n 1, 1), (387, .aload_n 0, 1), (388, .iload_n 3, 1), (389, .iconst 1, 1), (390, .iadd, 1), (391, .iaload, 1), (392, .aload_n 0, 1), (393, .iload_n 3, 1), (394, .iconst 2, 1), (395, .iadd, 1), (396, .iaload, 1), (397, .invokevirtual 64, 3), (400, .aload_n 2, 1), (401, .aload_n 0, 1), (402, .iload_n 3, 1), (403, .iconst 1, 1), (404, .iadd, 1), (405, .iaload, 1), (406, .aload_n 0, 1), (407, .iload_n 3, 1), (408, .iconst 2, 1), (409, .iadd, 1), (410, .iaload, 1), (411, .invokevirtual 67, 3), (414, .if_icmp .eq 5, 3), (417, .iconst 0, 1), (418, .ireturn, 1), (419, .iinc 3 4, 3), (422, .goto (-384), 3), (425, .iconst 1, 1), (426, .ireturn, 1)]
theorem dd_Lw_4 : dl_Lw_4.all (fun e => decide (decode code e.1 = .ok e.2)) = true := by decide +kernel
theorem d_Lw_370 : decode code 370 = .ok (.iconst 1, 1) := kz_dr dd_Lw_4 0 rfl
theorem d_Lw_371 : decode code 371 = .ok (.iadd, 1) := kz_dr dd_Lw_4 1 rfl
theorem d_Lw_372 : decode code 372 = .ok (.iaload, 1) := kz_dr dd_Lw_4 2 rfl
theorem d_Lw_373 : decode code 373 = .ok (.aload_n 0, 1) := kz_dr dd_Lw_4 3 rfl
theorem d_Lw_374 : decode code 374 = .ok (.iload_n 3, 1) := kz_dr dd_Lw_4 4 rfl
theorem d_Lw_375 : decode code 375 = .ok (.iconst 2, 1) := kz_dr dd_Lw_4 5 rfl
theorem d_Lw_376 : decode code 376 = .ok (.iadd, 1) := kz_dr dd_Lw_4 6 rfl
theorem d_Lw_377 : decode code 377 = .ok (.iaload, 1) := kz_dr dd_Lw_4 7 rfl
theorem d_Lw_378 : decode code 378 = .ok (.invokevirtual 63, 3) := kz_dr dd_Lw_4 8 rfl
theorem d_Lw_381 : decode code 381 = .ok (.if_icmp .eq 38, 3) := kz_dr dd_Lw_4 9 rfl
theorem d_Lw_384 : decode code 384 = .ok (.iconst 0, 1) := kz_dr dd_Lw_4 10 rfl
theorem d_Lw_385 : decode code 385 = .ok (.ireturn, 1) := kz_dr dd_Lw_4 11 rfl
theorem d_Lw_386 : decode code 386 = .ok (.aload_n 1, 1) := kz_dr dd_Lw_4 12 rfl
theorem d_Lw_387 : decode code 387 = .ok (.aload_n 0, 1) := kz_dr dd_Lw_4 13 rfl
theorem d_Lw_388 : decode code 388 = .ok (.iload_n 3, 1) := kz_dr dd_Lw_4 14 rfl
theorem d_Lw_389 : decode code 389 = .ok (.iconst 1, 1) := kz_dr dd_Lw_4 15 rfl
theorem d_Lw_390 : decode code 390 = .ok (.iadd, 1) := kz_dr dd_Lw_4 16 rfl
theorem d_Lw_391 : decode code 391 = .ok (.iaload, 1) := kz_dr dd_Lw_4 17 rfl
theorem d_Lw_392 : decode code 392 = .ok (.aload_n 0, 1) := kz_dr dd_Lw_4 18 rfl
theorem d_Lw_393 : decode code 393 = .ok (.iload_n 3, 1) := kz_dr dd_Lw_4 19 rfl
theorem d_Lw_394 : decode code 394 = .ok (.iconst 2, 1) := kz_dr dd_Lw_4 20 rfl
theorem d_Lw_395 : decode code 395 = .ok (.iadd, 1) := kz_dr dd_Lw_4 21 rfl
theorem d_Lw_396 : decode code 396 = .ok (.iaload, 1) := kz_dr dd_Lw_4 22 rfl
theorem d_Lw_397 : decode code 397 = .ok (.invokevirtual 64, 3) := kz_dr dd_Lw_4 23 rfl
theorem d_Lw_400 : decode code 400 = .ok (.aload_n 2, 1) := kz_dr dd_Lw_4 24 rfl
theorem d_Lw_401 : decode code 401 = .ok (.aload_n 0, 1) := kz_dr dd_Lw_4 25 rfl
theorem d_Lw_402 : decode code 402 = .ok (.iload_n 3, 1) := kz_dr dd_Lw_4 26 rfl
theorem d_Lw_403 : decode code 403 = .ok (.iconst 1, 1) := kz_dr dd_Lw_4 27 rfl
theorem d_Lw_404 : decode code 404 = .ok (.iadd, 1) := kz_dr dd_Lw_4 28 rfl
theorem d_Lw_405 : decode code 405 = .ok (.iaload, 1) := kz_dr dd_Lw_4 29 rfl
theorem d_Lw_406 : decode code 406 = .ok (.aload_n 0, 1) := kz_dr dd_Lw_4 30 rfl
theorem d_Lw_407 : decode code 407 = .ok (.iload_n 3, 1) := kz_dr dd_Lw_4 31 rfl
theorem d_Lw_408 : decode code 408 = .ok (.iconst 2, 1) := kz_dr dd_Lw_4 32 rfl
theorem d_Lw_409 : decode code 409 = .ok (.iadd, 1) := kz_dr dd_Lw_4 33 rfl
theorem d_Lw_410 : decode code 410 = .ok (.iaload, 1) := kz_dr dd_Lw_4 34 rfl
theorem d_Lw_411 : decode code 411 = .ok (.invokevirtual 67, 3) := kz_dr dd_Lw_4 35 rfl
theorem d_Lw_414 : decode code 414 = .ok (.if_icmp .eq 5, 3) := kz_dr dd_Lw_4 36 rfl
theorem d_Lw_417 : decode code 417 = .ok (.iconst 0, 1) := kz_dr dd_Lw_4 37 rfl
theorem d_Lw_418 : decode code 418 = .ok (.ireturn, 1) := kz_dr dd_Lw_4 38 rfl
theorem d_Lw_419 : decode code 419 = .ok (.iinc 3 4, 3) := kz_dr dd_Lw_4 39 rfl
theorem d_Lw_422 : decode code 422 = .ok (.goto (-384), 3) := kz_dr dd_Lw_4 40 rfl
theorem d_Lw_425 : decode code 425 = .ok (.iconst 1, 1) := kz_dr dd_Lw_4 41 rfl
theorem d_Lw_426 : decode code 426 = .ok (.ireturn, 1) := kz_dr dd_Lw_4 42 rfl
def dl_Ce_0 : List (Nat × Instr × Nat) := [(0, .iload_n 1, 1), (1, .aload_n 0, 1), (2, .arraylength, 1), (3, .if_icmp .ge 9, 3), (6, .aload_n 0, 1), (7, .iload_n 1, 1), (8, .iaload, 1), (9, .goto 4, 3), (12, .iconst 0, 1), (13, .ireturn, 1)]
theorem dd_Ce_0 : dl_Ce_0.all (fun e => decide (decode method_2_code e.1 = .ok e.2)) = true := by decide +kernel
theorem d_Ce_0 : decode method_2_code 0 = .ok (.iload_n 1, 1) := kz_dr dd_Ce_0 0 rfl
theorem d_Ce_1 : decode method_2_code 1 = .ok (.aload_n 0, 1) := kz_dr dd_Ce_0 1 rfl
theorem d_Ce_2 : decode method_2_code 2 = .ok (.arraylength, 1) := kz_dr dd_Ce_0 2 rfl
theorem d_Ce_3 : decode method_2_code 3 = .ok (.if_icmp .ge 9, 3) := kz_dr dd_Ce_0 3 rfl
theorem d_Ce_6 : decode method_2_code 6 = .ok (.aload_n 0, 1) := kz_dr dd_Ce_0 4 rfl
theorem d_Ce_7 : decode method_2_code 7 = .ok (.iload_n 1, 1) := kz_dr dd_Ce_0 5 rfl
theorem d_Ce_8 : decode method_2_code 8 = .ok (.iaload, 1) := kz_dr dd_Ce_0 6 rfl
theorem d_Ce_9 : decode method_2_code 9 = .ok (.goto 4, 3) := kz_dr dd_Ce_0 7 rfl
theorem d_Ce_12 : decode method_2_code 12 = .ok (.iconst 0, 1) := kz_dr dd_Ce_0 8 rfl
theorem d_Ce_13 : decode method_2_code 13 = .ok (.ireturn, 1) := kz_dr dd_Ce_0 9 rfl
theorem cv_Lw_21 : kz_Cv sC "BankKeeperLaw" 21 m_Bk_timing 2 := ⟨⟨bw_kp, bw_mem1 203 rfl rfl, bw_mem1 1 rfl rfl, bw_mem1 206 rfl rfl, by decide, by decide, by decide +kernel⟩, bw_mem1 204 rfl rfl, bw_mem1 205 rfl rfl⟩
theorem cv_Lw_25 : kz_Cv sR "BankKeeperLaw" 25 m_Mo_timing 2 := ⟨⟨bw_kp, bw_mem3 178 rfl rfl, bw_mem1 8 rfl rfl, bw_mem3 181 rfl rfl, by decide, by decide, by decide +kernel⟩, bw_mem3 179 rfl rfl, bw_mem3 180 rfl rfl⟩
theorem cv_Lw_26 : kz_Cv sC "BankKeeperLaw" 26 m_Bk_read 1 := ⟨⟨bw_kp, bw_mem1 211 rfl rfl, bw_mem1 1 rfl rfl, bw_mem1 214 rfl rfl, by decide, by decide, by decide +kernel⟩, bw_mem1 212 rfl rfl, bw_mem1 213 rfl rfl⟩
theorem cv_Lw_30 : kz_Cv sR "BankKeeperLaw" 30 m_Mo_read 1 := ⟨⟨bw_kp, bw_mem3 198 rfl rfl, bw_mem1 8 rfl rfl, bw_mem3 201 rfl rfl, by decide, by decide, by decide +kernel⟩, bw_mem3 199 rfl rfl, bw_mem3 200 rfl rfl⟩
theorem cv_Lw_33 : kz_Cv sC "BankKeeperLaw" 33 m_Bk_write 2 := ⟨⟨bw_kp, bw_mem2 14 rfl rfl, bw_mem1 1 rfl rfl, bw_mem2 17 rfl rfl, by decide, by decide, by decide +kernel⟩, bw_mem2 15 rfl rfl, bw_mem2 16 rfl rfl⟩
theorem cv_Lw_37 : kz_Cv sR "BankKeeperLaw" 37 m_Mo_write 2 := ⟨⟨bw_kp, bw_mem3 214 rfl rfl, bw_mem1 8 rfl rfl, bw_mem3 217 rfl rfl, by decide, by decide, by decide +kernel⟩, bw_mem3 215 rfl rfl, bw_mem3 216 rfl rfl⟩
theorem cv_Lw_38 : kz_Cv sC "BankKeeperLaw" 38 m_Bk_cycles 1 := ⟨⟨bw_kp, bw_mem2 22 rfl rfl, bw_mem1 1 rfl rfl, bw_mem2 25 rfl rfl, by decide, by decide, by decide +kernel⟩, bw_mem2 23 rfl rfl, bw_mem2 24 rfl rfl⟩
theorem cv_Lw_41 : kz_Cv sR "BankKeeperLaw" 41 m_Mo_cycles 1 := ⟨⟨bw_kp, bw_mem3 218 rfl rfl, bw_mem1 8 rfl rfl, bw_mem3 221 rfl rfl, by decide, by decide, by decide +kernel⟩, bw_mem3 219 rfl rfl, bw_mem3 220 rfl rfl⟩
theorem cv_Lw_42 : kz_Cv sC "BankKeeperLaw" 42 m_Bk_flip 2 := ⟨⟨bw_kp, bw_mem2 236 rfl rfl, bw_mem1 1 rfl rfl, bw_mem2 239 rfl rfl, by decide, by decide, by decide +kernel⟩, bw_mem2 237 rfl rfl, bw_mem2 238 rfl rfl⟩
theorem cv_Lw_45 : kz_Cv sR "BankKeeperLaw" 45 m_Mo_flip 2 := ⟨⟨bw_kp, bw_mem3 182 rfl rfl, bw_mem1 8 rfl rfl, bw_mem3 185 rfl rfl, by decide, by decide, by decide +kernel⟩, bw_mem3 183 rfl rfl, bw_mem3 184 rfl rfl⟩
theorem cv_Lw_46 : kz_Cv sC "BankKeeperLaw" 46 m_Bk_status 1 := ⟨⟨bw_kp, bw_mem3 4 rfl rfl, bw_mem1 1 rfl rfl, bw_mem3 7 rfl rfl, by decide, by decide, by decide +kernel⟩, bw_mem3 5 rfl rfl, bw_mem3 6 rfl rfl⟩
theorem cv_Lw_49 : kz_Cv sR "BankKeeperLaw" 49 m_Mo_status 1 := ⟨⟨bw_kp, bw_mem4 87 rfl rfl, bw_mem1 8 rfl rfl, bw_mem4 90 rfl rfl, by decide, by decide, by decide +kernel⟩, bw_mem4 88 rfl rfl, bw_mem4 89 rfl rfl⟩
theorem cv_Lw_50 : kz_Cv sC "BankKeeperLaw" 50 m_Bk_value 1 := ⟨⟨bw_kp, bw_mem3 16 rfl rfl, bw_mem1 1 rfl rfl, bw_mem3 19 rfl rfl, by decide, by decide, by decide +kernel⟩, bw_mem3 17 rfl rfl, bw_mem3 18 rfl rfl⟩
theorem cv_Lw_54 : kz_Cv sR "BankKeeperLaw" 54 m_Mo_value 1 := ⟨⟨bw_kp, bw_mem4 91 rfl rfl, bw_mem1 8 rfl rfl, bw_mem4 94 rfl rfl, by decide, by decide, by decide +kernel⟩, bw_mem4 92 rfl rfl, bw_mem4 93 rfl rfl⟩
theorem cv_Lw_55 : kz_Cv sC "BankKeeperLaw" 55 m_Bk_state 1 := ⟨⟨bw_kp, bw_mem3 20 rfl rfl, bw_mem1 1 rfl rfl, bw_mem3 23 rfl rfl, by decide, by decide, by decide +kernel⟩, bw_mem3 21 rfl rfl, bw_mem3 22 rfl rfl⟩
theorem cv_Lw_58 : kz_Cv sR "BankKeeperLaw" 58 m_Mo_state 1 := ⟨⟨bw_kp, bw_mem4 95 rfl rfl, bw_mem1 8 rfl rfl, bw_mem4 98 rfl rfl, by decide, by decide, by decide +kernel⟩, bw_mem4 96 rfl rfl, bw_mem4 97 rfl rfl⟩
theorem cv_Lw_59 : kz_Cv sC "BankKeeperLaw" 59 m_Bk_command 2 := ⟨⟨bw_kp, bw_mem3 28 rfl rfl, bw_mem1 1 rfl rfl, bw_mem3 31 rfl rfl, by decide, by decide, by decide +kernel⟩, bw_mem3 29 rfl rfl, bw_mem3 30 rfl rfl⟩
theorem cv_Lw_63 : kz_Cv sR "BankKeeperLaw" 63 m_Mo_command 2 := ⟨⟨bw_kp, bw_mem4 99 rfl rfl, bw_mem1 8 rfl rfl, bw_mem4 102 rfl rfl, by decide, by decide, by decide +kernel⟩, bw_mem4 100 rfl rfl, bw_mem4 101 rfl rfl⟩
theorem cv_Lw_64 : kz_Cv sC "BankKeeperLaw" 64 m_Bk_bit 2 := ⟨⟨bw_kp, bw_mem3 36 rfl rfl, bw_mem1 1 rfl rfl, bw_mem3 39 rfl rfl, by decide, by decide, by decide +kernel⟩, bw_mem3 37 rfl rfl, bw_mem3 38 rfl rfl⟩
theorem cv_Lw_67 : kz_Cv sR "BankKeeperLaw" 67 m_Mo_bit 2 := ⟨⟨bw_kp, bw_mem3 190 rfl rfl, bw_mem1 8 rfl rfl, bw_mem3 193 rfl rfl, by decide, by decide, by decide +kernel⟩, bw_mem3 191 rfl rfl, bw_mem3 192 rfl rfl⟩
