/-! The law: one call of each; by program (wip/whole/gen_k7.py). -/
def lw_Wo (D : va_G) (A : Nat → Prop) (s : State) (cs : Nat → ClassId) (ad ad2 : Nat → Nat) (M R : kz_M) (H : Heap) (locs : List Loc) : Prop := va_P D nm_cl (kz_W sC ad cs M) H ∧ va_D A (kz_W sC ad cs M) ∧ va_P D nm_cl (kz_W sR ad2 cs R) H ∧ va_D A (kz_W sR ad2 cs R) ∧ (∀ i j, i < 59 → j < 23 → ad i ≠ ad2 j) ∧ va_S A s.heap H locs
theorem kz_W_ad {Sy : kz_Sy} {ad : Nat → Nat} {cs : Nat → ClassId} {M : kz_M} {k : Nat} {y : Nat × va_E} (h : (kz_W Sy ad cs M)[k]? = some y) : k < Sy.2.1.length ∧ y.1 = ad k := by
  have hlen : k < Sy.2.1.length := by
    have := (List.getElem?_eq_some_iff.mp h).1
    rw [kz_W_len] at this
    exact this
  have := gw_at (n := Sy.2.1.length) (ad := ad) (E := fun k => kz_en Sy.2.2.1 ad cs M k (Sy.2.1.getD k (.inl (0, 0)))) k hlen
  rw [show gw_W Sy.2.1.length ad (fun k => kz_en Sy.2.2.1 ad cs M k (Sy.2.1.getD k (.inl (0, 0)))) = kz_W Sy ad cs M from rfl, h] at this
  exact ⟨hlen, congrArg Prod.fst (Option.some.inj this)⟩
theorem zTy_rl {b : Bool} {r : Value} (h : zTy b r) (ad : Nat → Nat) : kz_rl ad r = r := by
  unfold zTy at h
  split at h
  · obtain ⟨z, rfl⟩ := h; rfl
  · obtain ⟨z, rfl⟩ := h; rfl
section LW2
variable {p : Program} {l : Launch} {e : Env} {R : Room} {s : State} {m : MethodId} {args : Array Value} {below : List Frame} {meth : Method} {c : Code} {H : Heap} {locs : List Loc} {cells slots : Nat} {Q : State → Prop}
variable {pc : Nat} {ls : Array Slot} {rest : List Value} {D : va_G} {cs : Nat → ClassId} {A : Nat → Prop} {ad ad2 : Nat → Nat} {M N : kz_M} {b L : Nat} {xs : Nat → Int32}
theorem lw_c1 (X : lw_X p R s m args c D cs A b L xs) (h : lw_Wo D A s cs ad ad2 M N H locs) {k : Nat} {ty : Bool} {mc mr : kz_Me} {As : List Value} (hz : zCl l ty mc mr (.ref 0 :: As)) (hF : zF k M N) (hk : k < 512) {n idx : Nat} (hw : kz_Cv sC "BankKeeperLaw" idx mc n) (hcl : nm_cl[5]? = some (mc.1.cls, nm_T5, 15)) (hn : As.length = n) (hAs : As.map (kz_rl ad) = As) (hR : mc.2.2.2.2.1 + 1 ≤ 10 ∧ 8 + (mc.2.2.1 + 11) + mc.2.2.2.2.2 ≤ 350) (hc : cells ≤ R.cells ∧ slots ≤ R.slots) (hsz : ls.size = 4) (hrest : (rest.map fun v => v.category).sum ≤ 8) {a : Nat} (ha : ad 0 = a) {st0 : List Value} (hst : st0 = As.reverse ++ .ref a :: rest) (hd : decode code pc = .ok (.invokevirtual idx, 3))
    (kk : ∀ (r : Value) (O : kz_M) (H1 : Heap) (locs1 : List Loc), zTy ty r → kz_T l sR mr (.ref 0 :: As) N (fun v S => v = some r ∧ zF (k + 1) O S) → lw_Wo D A s cs ad ad2 O N H1 locs1 → W p l e R s m args below meth c H1 locs1 cells slots Q (F0 m (pc + 3) ls (r :: rest))) : W p l e R s m args below meth c H locs cells slots Q (F0 m pc ls st0) := by
  obtain ⟨hP, hD, hP2, hD2, hdis, hS⟩ := h
  obtain ⟨Qz, h1, h2, h3⟩ := hz k M N hF hk
  refine lw_call X (Sy := sC) rfl rfl hP hD hP2 (fun j y hy i hi => ?_) hS h1 hw (ci := 5) rfl hcl hn hAs hR hc hsz hrest ha hst hd (fun v O H1 locs1 hq hP1 hD1 hP21 hS1 => ?_)
  · obtain ⟨hj, e1⟩ := kz_W_ad hy
    rw [e1]
    exact (hdis i j hi hj).symm
  · obtain ⟨r, rfl, hr⟩ := hq
    have := kk r O H1 locs1 (h2 r O hr) (h3 r O hr) ⟨hP1, hD1, hP21, hD2, hdis, hS1⟩
    show W p l e R s m args below meth c H1 locs1 cells slots Q (F0 m (pc + 3) ls (kz_rl ad r :: rest))
    rw [zTy_rl (h2 r O hr)]
    exact this
theorem lw_c2 (X : lw_X p R s m args c D cs A b L xs) (h : lw_Wo D A s cs ad ad2 M N H locs) {P : kz_M → Prop} {ty : Bool} {r : Value} (hr : zTy ty r) {mr : kz_Me} {As : List Value} (hT : kz_T l sR mr (.ref 0 :: As) N (fun v S => v = some r ∧ P S)) {n idx : Nat} (hw : kz_Cv sR "BankKeeperLaw" idx mr n) (hcl : nm_cl[6]? = some (mr.1.cls, nm_T6, 41)) (hn : As.length = n) (hAs : As.map (kz_rl ad2) = As) (hR : mr.2.2.2.2.1 + 1 ≤ 10 ∧ 8 + (mr.2.2.1 + 11) + mr.2.2.2.2.2 ≤ 350) (hc : cells ≤ R.cells ∧ slots ≤ R.slots) (hsz : ls.size = 4) (hrest : (rest.map fun v => v.category).sum ≤ 8) {a : Nat} (ha : ad2 0 = a) {st0 : List Value} (hst : st0 = As.reverse ++ .ref a :: rest) (hd : decode code pc = .ok (.invokevirtual idx, 3))
    (kk : ∀ (S : kz_M) (H1 : Heap) (locs1 : List Loc), P S → lw_Wo D A s cs ad ad2 M S H1 locs1 → W p l e R s m args below meth c H1 locs1 cells slots Q (F0 m (pc + 3) ls (r :: rest))) : W p l e R s m args below meth c H locs cells slots Q (F0 m pc ls st0) := by
  obtain ⟨hP, hD, hP2, hD2, hdis, hS⟩ := h
  refine lw_call X (Sy := sR) rfl rfl hP2 hD2 hP (fun j y hy i hi => ?_) hS hT hw (ci := 6) rfl hcl hn hAs hR hc hsz hrest ha hst hd (fun v S H1 locs1 hq hP1 hD1 hP21 hS1 => ?_)
  · obtain ⟨hj, e1⟩ := kz_W_ad hy
    rw [e1]
    exact hdis j i hj hi
  · obtain ⟨rfl, hp⟩ := hq
    show W p l e R s m args below meth c H1 locs1 cells slots Q (F0 m (pc + 3) ls (kz_rl ad2 r :: rest))
    rw [zTy_rl hr]
    exact kk S H1 locs1 hp ⟨hP21, hD, hP1, hD1, hdis, hS1⟩
end LW2
theorem lg_cmp0 (z : Int64) : lg_cmp z z = 0 := by
  unfold lg_cmp
  simp
set_option maxRecDepth 100000 in
set_option maxHeartbeats 1000000 in
theorem lw_k0 {p : Program} {l : Launch} {e : Env} {R : Room} {s : State} {m : MethodId} {args : Array Value} {below : List Frame} {meth : Method} {c : Code} {H : Heap} {locs : List Loc} {cells slots : Nat} {Q : State → Prop} {ls : Array Slot} {D : va_G} {cs : Nat → ClassId} {A : Nat → Prop} {ad ad2 : Nat → Nat} {M N : kz_M} {b L i k : Nat} {xs : Nat → Int32} (X : lw_X p R s m args c D cs A b L xs) (h : lw_Wo D A s cs ad ad2 M N H locs) (hl : lv_has ls 4 [(3, .int (nI i)), (2, .ref (ad2 0)), (1, .ref (ad 0)), (0, .ref b)]) (hi : i + 4 ≤ L) (hF : zF k M N) (hk : k < 512) (hc : cells ≤ R.cells ∧ slots ≤ R.slots) (hK : ∀ (O S : kz_M) (H1 : Heap) (locs1 : List Loc), zF (k + 1) O S → lw_Wo D A s cs ad ad2 O S H1 locs1 → W p l e R s m args below meth c H1 locs1 cells slots Q (F0 m 419 ls [])) : W p l e R s m args below meth c H locs cells slots Q (F0 m 108 ls []) := by
  have hL : L ≤ 2050 := X.2.2.2.2.2.2.2.2.2.2.1
  have hin : ∀ j, j < 4 → vp_in (nI i + nI j) L := fun j hj => by rw [nI_plus]; exact vp_in_nI (by omega) (by omega)
  have hX := X.2.2.2.2.2.2.2.1
  have hbl := X.2.2.2.2.2.2.2.2.1
  have hbA := X.2.2.2.2.2.2.2.2.2.1
  refine lv_aload_n X.1 X.2.1 d_Lw_108 rfl (lv_at hl 2 rfl) ?_
  refine lv_aload_n X.1 X.2.1 d_Lw_109 rfl (lv_at hl 3 rfl) ?_
  refine lv_iload_n X.1 X.2.1 d_Lw_110 rfl (lv_at hl 0 rfl) ?_
  refine lv_iconst (v := 1) X.1 X.2.1 d_Lw_111 (by decide) ?_
  refine lv_iadd X.1 X.2.1 d_Lw_112 ?_
  refine va_sld X.1 X.2.1 hX hbl hbA h.2.2.2.2.2 (hin 1 (by decide)) d_Lw_113 ?_
  refine lv_aload_n X.1 X.2.1 d_Lw_114 rfl (lv_at hl 3 rfl) ?_
  refine lv_iload_n X.1 X.2.1 d_Lw_115 rfl (lv_at hl 0 rfl) ?_
  refine lv_iconst (v := 2) X.1 X.2.1 d_Lw_116 (by decide) ?_
  refine lv_iadd X.1 X.2.1 d_Lw_117 ?_
  refine va_sld X.1 X.2.1 hX hbl hbA h.2.2.2.2.2 (hin 2 (by decide)) d_Lw_118 ?_
  refine lw_c1 X h (As := [.int (xs (nI i + 1).toNatClampNeg), .int (xs (nI i + 2).toNatClampNeg)]) (zCl_timing l (xs (nI i + 1).toNatClampNeg) (xs (nI i + 2).toNatClampNeg)) hF hk cv_Lw_21 rfl rfl rfl ⟨by decide, by decide⟩ hc hl.1 (Nat.le_of_ble_eq_true rfl) rfl rfl d_Lw_119 (fun r O H locs hr hT h => ?_)
  refine lv_aload_n X.1 X.2.1 d_Lw_122 rfl (lv_at hl 1 rfl) ?_
  refine lv_aload_n X.1 X.2.1 d_Lw_123 rfl (lv_at hl 3 rfl) ?_
  refine lv_iload_n X.1 X.2.1 d_Lw_124 rfl (lv_at hl 0 rfl) ?_
  refine lv_iconst (v := 1) X.1 X.2.1 d_Lw_125 (by decide) ?_
  refine lv_iadd X.1 X.2.1 d_Lw_126 ?_
  refine va_sld X.1 X.2.1 hX hbl hbA h.2.2.2.2.2 (hin 1 (by decide)) d_Lw_127 ?_
  refine lv_aload_n X.1 X.2.1 d_Lw_128 rfl (lv_at hl 3 rfl) ?_
  refine lv_iload_n X.1 X.2.1 d_Lw_129 rfl (lv_at hl 0 rfl) ?_
  refine lv_iconst (v := 2) X.1 X.2.1 d_Lw_130 (by decide) ?_
  refine lv_iadd X.1 X.2.1 d_Lw_131 ?_
  refine va_sld X.1 X.2.1 hX hbl hbA h.2.2.2.2.2 (hin 2 (by decide)) d_Lw_132 ?_
  refine lw_c2 X h hr hT cv_Lw_25 rfl rfl rfl ⟨by decide, by decide⟩ hc hl.1 ?_ rfl rfl d_Lw_133 (fun S H locs hp h => ?_)
  · obtain ⟨z, rfl⟩ := hr; exact Nat.le_of_ble_eq_true rfl
  obtain ⟨z, rfl⟩ := hr
  refine lv_icmp_eq (tgt := 419) X.1 X.2.1 d_Lw_136 (by decide) (fun _ => hK O S H locs hp h) (fun hh => absurd rfl hh)
set_option maxRecDepth 100000 in
set_option maxHeartbeats 1000000 in
theorem lw_k1 {p : Program} {l : Launch} {e : Env} {R : Room} {s : State} {m : MethodId} {args : Array Value} {below : List Frame} {meth : Method} {c : Code} {H : Heap} {locs : List Loc} {cells slots : Nat} {Q : State → Prop} {ls : Array Slot} {D : va_G} {cs : Nat → ClassId} {A : Nat → Prop} {ad ad2 : Nat → Nat} {M N : kz_M} {b L i k : Nat} {xs : Nat → Int32} (X : lw_X p R s m args c D cs A b L xs) (h : lw_Wo D A s cs ad ad2 M N H locs) (hl : lv_has ls 4 [(3, .int (nI i)), (2, .ref (ad2 0)), (1, .ref (ad 0)), (0, .ref b)]) (hi : i + 4 ≤ L) (hF : zF k M N) (hk : k < 512) (hc : cells ≤ R.cells ∧ slots ≤ R.slots) (hK : ∀ (O S : kz_M) (H1 : Heap) (locs1 : List Loc), zF (k + 1) O S → lw_Wo D A s cs ad ad2 O S H1 locs1 → W p l e R s m args below meth c H1 locs1 cells slots Q (F0 m 419 ls [])) : W p l e R s m args below meth c H locs cells slots Q (F0 m 141 ls []) := by
  have hL : L ≤ 2050 := X.2.2.2.2.2.2.2.2.2.2.1
  have hin : ∀ j, j < 4 → vp_in (nI i + nI j) L := fun j hj => by rw [nI_plus]; exact vp_in_nI (by omega) (by omega)
  have hX := X.2.2.2.2.2.2.2.1
  have hbl := X.2.2.2.2.2.2.2.2.1
  have hbA := X.2.2.2.2.2.2.2.2.2.1
  refine lv_aload_n X.1 X.2.1 d_Lw_141 rfl (lv_at hl 2 rfl) ?_
  refine lv_aload_n X.1 X.2.1 d_Lw_142 rfl (lv_at hl 3 rfl) ?_
  refine lv_iload_n X.1 X.2.1 d_Lw_143 rfl (lv_at hl 0 rfl) ?_
  refine lv_iconst (v := 1) X.1 X.2.1 d_Lw_144 (by decide) ?_
  refine lv_iadd X.1 X.2.1 d_Lw_145 ?_
  refine va_sld X.1 X.2.1 hX hbl hbA h.2.2.2.2.2 (hin 1 (by decide)) d_Lw_146 ?_
  refine lw_c1 X h (As := [.int (xs (nI i + 1).toNatClampNeg)]) (zCl_read l (xs (nI i + 1).toNatClampNeg)) hF hk cv_Lw_26 rfl rfl rfl ⟨by decide, by decide⟩ hc hl.1 (Nat.le_of_ble_eq_true rfl) rfl rfl d_Lw_147 (fun r O H locs hr hT h => ?_)
  refine lv_aload_n X.1 X.2.1 d_Lw_150 rfl (lv_at hl 1 rfl) ?_
  refine lv_aload_n X.1 X.2.1 d_Lw_151 rfl (lv_at hl 3 rfl) ?_
  refine lv_iload_n X.1 X.2.1 d_Lw_152 rfl (lv_at hl 0 rfl) ?_
  refine lv_iconst (v := 1) X.1 X.2.1 d_Lw_153 (by decide) ?_
  refine lv_iadd X.1 X.2.1 d_Lw_154 ?_
  refine va_sld X.1 X.2.1 hX hbl hbA h.2.2.2.2.2 (hin 1 (by decide)) d_Lw_155 ?_
  refine lw_c2 X h hr hT cv_Lw_30 rfl rfl rfl ⟨by decide, by decide⟩ hc hl.1 ?_ rfl rfl d_Lw_156 (fun S H locs hp h => ?_)
  · obtain ⟨z, rfl⟩ := hr; exact Nat.le_of_ble_eq_true rfl
  obtain ⟨z, rfl⟩ := hr
  refine lv_icmp_eq (tgt := 419) X.1 X.2.1 d_Lw_159 (by decide) (fun _ => hK O S H locs hp h) (fun hh => absurd rfl hh)
set_option maxRecDepth 100000 in
set_option maxHeartbeats 1000000 in
theorem lw_k2 {p : Program} {l : Launch} {e : Env} {R : Room} {s : State} {m : MethodId} {args : Array Value} {below : List Frame} {meth : Method} {c : Code} {H : Heap} {locs : List Loc} {cells slots : Nat} {Q : State → Prop} {ls : Array Slot} {D : va_G} {cs : Nat → ClassId} {A : Nat → Prop} {ad ad2 : Nat → Nat} {M N : kz_M} {b L i k : Nat} {xs : Nat → Int32} (X : lw_X p R s m args c D cs A b L xs) (h : lw_Wo D A s cs ad ad2 M N H locs) (hl : lv_has ls 4 [(3, .int (nI i)), (2, .ref (ad2 0)), (1, .ref (ad 0)), (0, .ref b)]) (hi : i + 4 ≤ L) (hF : zF k M N) (hk : k < 512) (hc : cells ≤ R.cells ∧ slots ≤ R.slots) (hK : ∀ (O S : kz_M) (H1 : Heap) (locs1 : List Loc), zF (k + 1) O S → lw_Wo D A s cs ad ad2 O S H1 locs1 → W p l e R s m args below meth c H1 locs1 cells slots Q (F0 m 419 ls [])) : W p l e R s m args below meth c H locs cells slots Q (F0 m 164 ls []) := by
  have hL : L ≤ 2050 := X.2.2.2.2.2.2.2.2.2.2.1
  have hin : ∀ j, j < 4 → vp_in (nI i + nI j) L := fun j hj => by rw [nI_plus]; exact vp_in_nI (by omega) (by omega)
  have hX := X.2.2.2.2.2.2.2.1
  have hbl := X.2.2.2.2.2.2.2.2.1
  have hbA := X.2.2.2.2.2.2.2.2.2.1
  refine lv_aload_n X.1 X.2.1 d_Lw_164 rfl (lv_at hl 2 rfl) ?_
  refine lv_aload_n X.1 X.2.1 d_Lw_165 rfl (lv_at hl 3 rfl) ?_
  refine lv_iload_n X.1 X.2.1 d_Lw_166 rfl (lv_at hl 0 rfl) ?_
  refine lv_iconst (v := 1) X.1 X.2.1 d_Lw_167 (by decide) ?_
  refine lv_iadd X.1 X.2.1 d_Lw_168 ?_
  refine va_sld X.1 X.2.1 hX hbl hbA h.2.2.2.2.2 (hin 1 (by decide)) d_Lw_169 ?_
  refine lv_aload_n X.1 X.2.1 d_Lw_170 rfl (lv_at hl 3 rfl) ?_
  refine lv_iload_n X.1 X.2.1 d_Lw_171 rfl (lv_at hl 0 rfl) ?_
  refine lv_iconst (v := 2) X.1 X.2.1 d_Lw_172 (by decide) ?_
  refine lv_iadd X.1 X.2.1 d_Lw_173 ?_
  refine va_sld X.1 X.2.1 hX hbl hbA h.2.2.2.2.2 (hin 2 (by decide)) d_Lw_174 ?_
  refine lv_i2l X.1 X.2.1 d_Lw_175 rfl ?_
  refine lv_bipush (v := 32) X.1 X.2.1 d_Lw_176 (by decide) ?_
  refine lv_lshl X.1 X.2.1 d_Lw_178 rfl ?_
  refine lv_aload_n X.1 X.2.1 d_Lw_179 rfl (lv_at hl 3 rfl) ?_
  refine lv_iload_n X.1 X.2.1 d_Lw_180 rfl (lv_at hl 0 rfl) ?_
  refine lv_iconst (v := 3) X.1 X.2.1 d_Lw_181 (by decide) ?_
  refine lv_iadd X.1 X.2.1 d_Lw_182 ?_
  refine va_sld X.1 X.2.1 hX hbl hbA h.2.2.2.2.2 (hin 3 (by decide)) d_Lw_183 ?_
  refine lv_i2l X.1 X.2.1 d_Lw_184 rfl ?_
  refine lv_ldc2 X.1 X.2.1 X.2.2.2.1 (X.2.2.2.2.1 _ (bw_mem4 103 rfl rfl)) d_Lw_185 ?_
  refine lv_land X.1 X.2.1 d_Lw_188 ?_
  refine lv_lor X.1 X.2.1 d_Lw_189 ?_
  refine lw_c1 X h (As := [.int (xs (nI i + 1).toNatClampNeg), .long (((xs (nI i + 2).toNatClampNeg).toInt64 <<< ((32 : Int32).toInt64 &&& 63)) ||| ((xs (nI i + 3).toNatClampNeg).toInt64 &&& 4294967295))]) (zCl_write l (xs (nI i + 1).toNatClampNeg) (((xs (nI i + 2).toNatClampNeg).toInt64 <<< ((32 : Int32).toInt64 &&& 63)) ||| ((xs (nI i + 3).toNatClampNeg).toInt64 &&& 4294967295))) hF hk cv_Lw_33 rfl rfl rfl ⟨by decide, by decide⟩ hc hl.1 (Nat.le_of_ble_eq_true rfl) rfl rfl d_Lw_190 (fun r O H locs hr hT h => ?_)
  refine lv_aload_n X.1 X.2.1 d_Lw_193 rfl (lv_at hl 1 rfl) ?_
  refine lv_aload_n X.1 X.2.1 d_Lw_194 rfl (lv_at hl 3 rfl) ?_
  refine lv_iload_n X.1 X.2.1 d_Lw_195 rfl (lv_at hl 0 rfl) ?_
  refine lv_iconst (v := 1) X.1 X.2.1 d_Lw_196 (by decide) ?_
  refine lv_iadd X.1 X.2.1 d_Lw_197 ?_
  refine va_sld X.1 X.2.1 hX hbl hbA h.2.2.2.2.2 (hin 1 (by decide)) d_Lw_198 ?_
  refine lv_aload_n X.1 X.2.1 d_Lw_199 rfl (lv_at hl 3 rfl) ?_
  refine lv_iload_n X.1 X.2.1 d_Lw_200 rfl (lv_at hl 0 rfl) ?_
  refine lv_iconst (v := 2) X.1 X.2.1 d_Lw_201 (by decide) ?_
  refine lv_iadd X.1 X.2.1 d_Lw_202 ?_
  refine va_sld X.1 X.2.1 hX hbl hbA h.2.2.2.2.2 (hin 2 (by decide)) d_Lw_203 ?_
  refine lv_i2l X.1 X.2.1 d_Lw_204 rfl ?_
  refine lv_bipush (v := 32) X.1 X.2.1 d_Lw_205 (by decide) ?_
  refine lv_lshl X.1 X.2.1 d_Lw_207 rfl ?_
  refine lv_aload_n X.1 X.2.1 d_Lw_208 rfl (lv_at hl 3 rfl) ?_
  refine lv_iload_n X.1 X.2.1 d_Lw_209 rfl (lv_at hl 0 rfl) ?_
  refine lv_iconst (v := 3) X.1 X.2.1 d_Lw_210 (by decide) ?_
  refine lv_iadd X.1 X.2.1 d_Lw_211 ?_
  refine va_sld X.1 X.2.1 hX hbl hbA h.2.2.2.2.2 (hin 3 (by decide)) d_Lw_212 ?_
  refine lv_i2l X.1 X.2.1 d_Lw_213 rfl ?_
  refine lv_ldc2 X.1 X.2.1 X.2.2.2.1 (X.2.2.2.2.1 _ (bw_mem4 103 rfl rfl)) d_Lw_214 ?_
  refine lv_land X.1 X.2.1 d_Lw_217 ?_
  refine lv_lor X.1 X.2.1 d_Lw_218 ?_
  refine lw_c2 X h hr hT cv_Lw_37 rfl rfl rfl ⟨by decide, by decide⟩ hc hl.1 ?_ rfl rfl d_Lw_219 (fun S H locs hp h => ?_)
  · obtain ⟨z, rfl⟩ := hr; exact Nat.le_of_ble_eq_true rfl
  obtain ⟨z, rfl⟩ := hr
  refine lv_icmp_eq (tgt := 419) X.1 X.2.1 d_Lw_222 (by decide) (fun _ => hK O S H locs hp h) (fun hh => absurd rfl hh)
set_option maxRecDepth 100000 in
set_option maxHeartbeats 1000000 in
theorem lw_k3 {p : Program} {l : Launch} {e : Env} {R : Room} {s : State} {m : MethodId} {args : Array Value} {below : List Frame} {meth : Method} {c : Code} {H : Heap} {locs : List Loc} {cells slots : Nat} {Q : State → Prop} {ls : Array Slot} {D : va_G} {cs : Nat → ClassId} {A : Nat → Prop} {ad ad2 : Nat → Nat} {M N : kz_M} {b L i k : Nat} {xs : Nat → Int32} (X : lw_X p R s m args c D cs A b L xs) (h : lw_Wo D A s cs ad ad2 M N H locs) (hl : lv_has ls 4 [(3, .int (nI i)), (2, .ref (ad2 0)), (1, .ref (ad 0)), (0, .ref b)]) (hi : i + 4 ≤ L) (hF : zF k M N) (hk : k < 512) (hc : cells ≤ R.cells ∧ slots ≤ R.slots) (hK : ∀ (O S : kz_M) (H1 : Heap) (locs1 : List Loc), zF (k + 1) O S → lw_Wo D A s cs ad ad2 O S H1 locs1 → W p l e R s m args below meth c H1 locs1 cells slots Q (F0 m 419 ls [])) : W p l e R s m args below meth c H locs cells slots Q (F0 m 227 ls []) := by
  have hL : L ≤ 2050 := X.2.2.2.2.2.2.2.2.2.2.1
  have hin : ∀ j, j < 4 → vp_in (nI i + nI j) L := fun j hj => by rw [nI_plus]; exact vp_in_nI (by omega) (by omega)
  have hX := X.2.2.2.2.2.2.2.1
  have hbl := X.2.2.2.2.2.2.2.2.1
  have hbA := X.2.2.2.2.2.2.2.2.2.1
  refine lv_aload_n X.1 X.2.1 d_Lw_227 rfl (lv_at hl 2 rfl) ?_
  refine lv_aload_n X.1 X.2.1 d_Lw_228 rfl (lv_at hl 3 rfl) ?_
  refine lv_iload_n X.1 X.2.1 d_Lw_229 rfl (lv_at hl 0 rfl) ?_
  refine lv_iconst (v := 1) X.1 X.2.1 d_Lw_230 (by decide) ?_
  refine lv_iadd X.1 X.2.1 d_Lw_231 ?_
  refine va_sld X.1 X.2.1 hX hbl hbA h.2.2.2.2.2 (hin 1 (by decide)) d_Lw_232 ?_
  refine lw_c1 X h (As := [.int (xs (nI i + 1).toNatClampNeg)]) (zCl_cycles l (xs (nI i + 1).toNatClampNeg)) hF hk cv_Lw_38 rfl rfl rfl ⟨by decide, by decide⟩ hc hl.1 (Nat.le_of_ble_eq_true rfl) rfl rfl d_Lw_233 (fun r O H locs hr hT h => ?_)
  refine lv_aload_n X.1 X.2.1 d_Lw_236 rfl (lv_at hl 1 rfl) ?_
  refine lv_aload_n X.1 X.2.1 d_Lw_237 rfl (lv_at hl 3 rfl) ?_
  refine lv_iload_n X.1 X.2.1 d_Lw_238 rfl (lv_at hl 0 rfl) ?_
  refine lv_iconst (v := 1) X.1 X.2.1 d_Lw_239 (by decide) ?_
  refine lv_iadd X.1 X.2.1 d_Lw_240 ?_
  refine va_sld X.1 X.2.1 hX hbl hbA h.2.2.2.2.2 (hin 1 (by decide)) d_Lw_241 ?_
  refine lw_c2 X h hr hT cv_Lw_41 rfl rfl rfl ⟨by decide, by decide⟩ hc hl.1 ?_ rfl rfl d_Lw_242 (fun S H locs hp h => ?_)
  · obtain ⟨z, rfl⟩ := hr; exact Nat.le_of_ble_eq_true rfl
  obtain ⟨z, rfl⟩ := hr
  refine lv_icmp_eq (tgt := 419) X.1 X.2.1 d_Lw_245 (by decide) (fun _ => hK O S H locs hp h) (fun hh => absurd rfl hh)
set_option maxRecDepth 100000 in
set_option maxHeartbeats 1000000 in
theorem lw_k4 {p : Program} {l : Launch} {e : Env} {R : Room} {s : State} {m : MethodId} {args : Array Value} {below : List Frame} {meth : Method} {c : Code} {H : Heap} {locs : List Loc} {cells slots : Nat} {Q : State → Prop} {ls : Array Slot} {D : va_G} {cs : Nat → ClassId} {A : Nat → Prop} {ad ad2 : Nat → Nat} {M N : kz_M} {b L i k : Nat} {xs : Nat → Int32} (X : lw_X p R s m args c D cs A b L xs) (h : lw_Wo D A s cs ad ad2 M N H locs) (hl : lv_has ls 4 [(3, .int (nI i)), (2, .ref (ad2 0)), (1, .ref (ad 0)), (0, .ref b)]) (hi : i + 4 ≤ L) (hF : zF k M N) (hk : k < 512) (hc : cells ≤ R.cells ∧ slots ≤ R.slots) (hK : ∀ (O S : kz_M) (H1 : Heap) (locs1 : List Loc), zF (k + 1) O S → lw_Wo D A s cs ad ad2 O S H1 locs1 → W p l e R s m args below meth c H1 locs1 cells slots Q (F0 m 419 ls [])) : W p l e R s m args below meth c H locs cells slots Q (F0 m 250 ls []) := by
  have hL : L ≤ 2050 := X.2.2.2.2.2.2.2.2.2.2.1
  have hin : ∀ j, j < 4 → vp_in (nI i + nI j) L := fun j hj => by rw [nI_plus]; exact vp_in_nI (by omega) (by omega)
  have hX := X.2.2.2.2.2.2.2.1
  have hbl := X.2.2.2.2.2.2.2.2.1
  have hbA := X.2.2.2.2.2.2.2.2.2.1
  refine lv_aload_n X.1 X.2.1 d_Lw_250 rfl (lv_at hl 2 rfl) ?_
  refine lv_aload_n X.1 X.2.1 d_Lw_251 rfl (lv_at hl 3 rfl) ?_
  refine lv_iload_n X.1 X.2.1 d_Lw_252 rfl (lv_at hl 0 rfl) ?_
  refine lv_iconst (v := 1) X.1 X.2.1 d_Lw_253 (by decide) ?_
  refine lv_iadd X.1 X.2.1 d_Lw_254 ?_
  refine va_sld X.1 X.2.1 hX hbl hbA h.2.2.2.2.2 (hin 1 (by decide)) d_Lw_255 ?_
  refine lv_aload_n X.1 X.2.1 d_Lw_256 rfl (lv_at hl 3 rfl) ?_
  refine lv_iload_n X.1 X.2.1 d_Lw_257 rfl (lv_at hl 0 rfl) ?_
  refine lv_iconst (v := 2) X.1 X.2.1 d_Lw_258 (by decide) ?_
  refine lv_iadd X.1 X.2.1 d_Lw_259 ?_
  refine va_sld X.1 X.2.1 hX hbl hbA h.2.2.2.2.2 (hin 2 (by decide)) d_Lw_260 ?_
  refine lw_c1 X h (As := [.int (xs (nI i + 1).toNatClampNeg), .int (xs (nI i + 2).toNatClampNeg)]) (zCl_flip l (xs (nI i + 1).toNatClampNeg) (xs (nI i + 2).toNatClampNeg)) hF hk cv_Lw_42 rfl rfl rfl ⟨by decide, by decide⟩ hc hl.1 (Nat.le_of_ble_eq_true rfl) rfl rfl d_Lw_261 (fun r O H locs hr hT h => ?_)
  refine lv_aload_n X.1 X.2.1 d_Lw_264 rfl (lv_at hl 1 rfl) ?_
  refine lv_aload_n X.1 X.2.1 d_Lw_265 rfl (lv_at hl 3 rfl) ?_
  refine lv_iload_n X.1 X.2.1 d_Lw_266 rfl (lv_at hl 0 rfl) ?_
  refine lv_iconst (v := 1) X.1 X.2.1 d_Lw_267 (by decide) ?_
  refine lv_iadd X.1 X.2.1 d_Lw_268 ?_
  refine va_sld X.1 X.2.1 hX hbl hbA h.2.2.2.2.2 (hin 1 (by decide)) d_Lw_269 ?_
  refine lv_aload_n X.1 X.2.1 d_Lw_270 rfl (lv_at hl 3 rfl) ?_
  refine lv_iload_n X.1 X.2.1 d_Lw_271 rfl (lv_at hl 0 rfl) ?_
  refine lv_iconst (v := 2) X.1 X.2.1 d_Lw_272 (by decide) ?_
  refine lv_iadd X.1 X.2.1 d_Lw_273 ?_
  refine va_sld X.1 X.2.1 hX hbl hbA h.2.2.2.2.2 (hin 2 (by decide)) d_Lw_274 ?_
  refine lw_c2 X h hr hT cv_Lw_45 rfl rfl rfl ⟨by decide, by decide⟩ hc hl.1 ?_ rfl rfl d_Lw_275 (fun S H locs hp h => ?_)
  · obtain ⟨z, rfl⟩ := hr; exact Nat.le_of_ble_eq_true rfl
  obtain ⟨z, rfl⟩ := hr
  refine lv_icmp_eq (tgt := 419) X.1 X.2.1 d_Lw_278 (by decide) (fun _ => hK O S H locs hp h) (fun hh => absurd rfl hh)
set_option maxRecDepth 100000 in
set_option maxHeartbeats 1000000 in
theorem lw_k5 {p : Program} {l : Launch} {e : Env} {R : Room} {s : State} {m : MethodId} {args : Array Value} {below : List Frame} {meth : Method} {c : Code} {H : Heap} {locs : List Loc} {cells slots : Nat} {Q : State → Prop} {ls : Array Slot} {D : va_G} {cs : Nat → ClassId} {A : Nat → Prop} {ad ad2 : Nat → Nat} {M N : kz_M} {b L i k : Nat} {xs : Nat → Int32} (X : lw_X p R s m args c D cs A b L xs) (h : lw_Wo D A s cs ad ad2 M N H locs) (hl : lv_has ls 4 [(3, .int (nI i)), (2, .ref (ad2 0)), (1, .ref (ad 0)), (0, .ref b)]) (hi : i + 4 ≤ L) (hF : zF k M N) (hk : k < 512) (hc : cells ≤ R.cells ∧ slots ≤ R.slots) (hK : ∀ (O S : kz_M) (H1 : Heap) (locs1 : List Loc), zF (k + 1) O S → lw_Wo D A s cs ad ad2 O S H1 locs1 → W p l e R s m args below meth c H1 locs1 cells slots Q (F0 m 419 ls [])) : W p l e R s m args below meth c H locs cells slots Q (F0 m 283 ls []) := by
  have hL : L ≤ 2050 := X.2.2.2.2.2.2.2.2.2.2.1
  have hin : ∀ j, j < 4 → vp_in (nI i + nI j) L := fun j hj => by rw [nI_plus]; exact vp_in_nI (by omega) (by omega)
  have hX := X.2.2.2.2.2.2.2.1
  have hbl := X.2.2.2.2.2.2.2.2.1
  have hbA := X.2.2.2.2.2.2.2.2.2.1
  refine lv_aload_n X.1 X.2.1 d_Lw_283 rfl (lv_at hl 2 rfl) ?_
  refine lv_aload_n X.1 X.2.1 d_Lw_284 rfl (lv_at hl 3 rfl) ?_
  refine lv_iload_n X.1 X.2.1 d_Lw_285 rfl (lv_at hl 0 rfl) ?_
  refine lv_iconst (v := 1) X.1 X.2.1 d_Lw_286 (by decide) ?_
  refine lv_iadd X.1 X.2.1 d_Lw_287 ?_
  refine va_sld X.1 X.2.1 hX hbl hbA h.2.2.2.2.2 (hin 1 (by decide)) d_Lw_288 ?_
  refine lw_c1 X h (As := [.int (xs (nI i + 1).toNatClampNeg)]) (zCl_status l (xs (nI i + 1).toNatClampNeg)) hF hk cv_Lw_46 rfl rfl rfl ⟨by decide, by decide⟩ hc hl.1 (Nat.le_of_ble_eq_true rfl) rfl rfl d_Lw_289 (fun r O H locs hr hT h => ?_)
  refine lv_aload_n X.1 X.2.1 d_Lw_292 rfl (lv_at hl 1 rfl) ?_
  refine lv_aload_n X.1 X.2.1 d_Lw_293 rfl (lv_at hl 3 rfl) ?_
  refine lv_iload_n X.1 X.2.1 d_Lw_294 rfl (lv_at hl 0 rfl) ?_
  refine lv_iconst (v := 1) X.1 X.2.1 d_Lw_295 (by decide) ?_
  refine lv_iadd X.1 X.2.1 d_Lw_296 ?_
  refine va_sld X.1 X.2.1 hX hbl hbA h.2.2.2.2.2 (hin 1 (by decide)) d_Lw_297 ?_
  refine lw_c2 X h hr hT cv_Lw_49 rfl rfl rfl ⟨by decide, by decide⟩ hc hl.1 ?_ rfl rfl d_Lw_298 (fun S H locs hp h => ?_)
  · obtain ⟨z, rfl⟩ := hr; exact Nat.le_of_ble_eq_true rfl
  obtain ⟨z, rfl⟩ := hr
  refine lv_icmp_eq (tgt := 419) X.1 X.2.1 d_Lw_301 (by decide) (fun _ => hK O S H locs hp h) (fun hh => absurd rfl hh)
set_option maxRecDepth 100000 in
set_option maxHeartbeats 1000000 in
theorem lw_k6 {p : Program} {l : Launch} {e : Env} {R : Room} {s : State} {m : MethodId} {args : Array Value} {below : List Frame} {meth : Method} {c : Code} {H : Heap} {locs : List Loc} {cells slots : Nat} {Q : State → Prop} {ls : Array Slot} {D : va_G} {cs : Nat → ClassId} {A : Nat → Prop} {ad ad2 : Nat → Nat} {M N : kz_M} {b L i k : Nat} {xs : Nat → Int32} (X : lw_X p R s m args c D cs A b L xs) (h : lw_Wo D A s cs ad ad2 M N H locs) (hl : lv_has ls 4 [(3, .int (nI i)), (2, .ref (ad2 0)), (1, .ref (ad 0)), (0, .ref b)]) (hi : i + 4 ≤ L) (hF : zF k M N) (hk : k < 512) (hc : cells ≤ R.cells ∧ slots ≤ R.slots) (hK : ∀ (O S : kz_M) (H1 : Heap) (locs1 : List Loc), zF (k + 1) O S → lw_Wo D A s cs ad ad2 O S H1 locs1 → W p l e R s m args below meth c H1 locs1 cells slots Q (F0 m 419 ls [])) : W p l e R s m args below meth c H locs cells slots Q (F0 m 306 ls []) := by
  have hL : L ≤ 2050 := X.2.2.2.2.2.2.2.2.2.2.1
  have hin : ∀ j, j < 4 → vp_in (nI i + nI j) L := fun j hj => by rw [nI_plus]; exact vp_in_nI (by omega) (by omega)
  have hX := X.2.2.2.2.2.2.2.1
  have hbl := X.2.2.2.2.2.2.2.2.1
  have hbA := X.2.2.2.2.2.2.2.2.2.1
  refine lv_aload_n X.1 X.2.1 d_Lw_306 rfl (lv_at hl 2 rfl) ?_
  refine lv_aload_n X.1 X.2.1 d_Lw_307 rfl (lv_at hl 3 rfl) ?_
  refine lv_iload_n X.1 X.2.1 d_Lw_308 rfl (lv_at hl 0 rfl) ?_
  refine lv_iconst (v := 1) X.1 X.2.1 d_Lw_309 (by decide) ?_
  refine lv_iadd X.1 X.2.1 d_Lw_310 ?_
  refine va_sld X.1 X.2.1 hX hbl hbA h.2.2.2.2.2 (hin 1 (by decide)) d_Lw_311 ?_
  refine lw_c1 X h (As := [.int (xs (nI i + 1).toNatClampNeg)]) (zCl_value l (xs (nI i + 1).toNatClampNeg)) hF hk cv_Lw_50 rfl rfl rfl ⟨by decide, by decide⟩ hc hl.1 (Nat.le_of_ble_eq_true rfl) rfl rfl d_Lw_312 (fun r O H locs hr hT h => ?_)
  refine lv_aload_n X.1 X.2.1 d_Lw_315 rfl (lv_at hl 1 rfl) ?_
  refine lv_aload_n X.1 X.2.1 d_Lw_316 rfl (lv_at hl 3 rfl) ?_
  refine lv_iload_n X.1 X.2.1 d_Lw_317 rfl (lv_at hl 0 rfl) ?_
  refine lv_iconst (v := 1) X.1 X.2.1 d_Lw_318 (by decide) ?_
  refine lv_iadd X.1 X.2.1 d_Lw_319 ?_
  refine va_sld X.1 X.2.1 hX hbl hbA h.2.2.2.2.2 (hin 1 (by decide)) d_Lw_320 ?_
  refine lw_c2 X h hr hT cv_Lw_54 rfl rfl rfl ⟨by decide, by decide⟩ hc hl.1 ?_ rfl rfl d_Lw_321 (fun S H locs hp h => ?_)
  · obtain ⟨z, rfl⟩ := hr; exact Nat.le_of_ble_eq_true rfl
  obtain ⟨z, rfl⟩ := hr
  refine W.lcmp X.1 X.2.1 d_Lw_324 ?_
  refine lv_if_eq (tgt := 419) X.1 X.2.1 d_Lw_325 (by decide) (fun _ => hK O S H locs hp h) (fun hh => absurd (lg_cmp0 z) hh)
set_option maxRecDepth 100000 in
set_option maxHeartbeats 1000000 in
theorem lw_k7 {p : Program} {l : Launch} {e : Env} {R : Room} {s : State} {m : MethodId} {args : Array Value} {below : List Frame} {meth : Method} {c : Code} {H : Heap} {locs : List Loc} {cells slots : Nat} {Q : State → Prop} {ls : Array Slot} {D : va_G} {cs : Nat → ClassId} {A : Nat → Prop} {ad ad2 : Nat → Nat} {M N : kz_M} {b L i k : Nat} {xs : Nat → Int32} (X : lw_X p R s m args c D cs A b L xs) (h : lw_Wo D A s cs ad ad2 M N H locs) (hl : lv_has ls 4 [(3, .int (nI i)), (2, .ref (ad2 0)), (1, .ref (ad 0)), (0, .ref b)]) (hi : i + 4 ≤ L) (hF : zF k M N) (hk : k < 512) (hc : cells ≤ R.cells ∧ slots ≤ R.slots) (hK : ∀ (O S : kz_M) (H1 : Heap) (locs1 : List Loc), zF (k + 1) O S → lw_Wo D A s cs ad ad2 O S H1 locs1 → W p l e R s m args below meth c H1 locs1 cells slots Q (F0 m 419 ls [])) : W p l e R s m args below meth c H locs cells slots Q (F0 m 330 ls []) := by
  have hL : L ≤ 2050 := X.2.2.2.2.2.2.2.2.2.2.1
  have hin : ∀ j, j < 4 → vp_in (nI i + nI j) L := fun j hj => by rw [nI_plus]; exact vp_in_nI (by omega) (by omega)
  have hX := X.2.2.2.2.2.2.2.1
  have hbl := X.2.2.2.2.2.2.2.2.1
  have hbA := X.2.2.2.2.2.2.2.2.2.1
  refine lv_aload_n X.1 X.2.1 d_Lw_330 rfl (lv_at hl 2 rfl) ?_
  refine lv_aload_n X.1 X.2.1 d_Lw_331 rfl (lv_at hl 3 rfl) ?_
  refine lv_iload_n X.1 X.2.1 d_Lw_332 rfl (lv_at hl 0 rfl) ?_
  refine lv_iconst (v := 1) X.1 X.2.1 d_Lw_333 (by decide) ?_
  refine lv_iadd X.1 X.2.1 d_Lw_334 ?_
  refine va_sld X.1 X.2.1 hX hbl hbA h.2.2.2.2.2 (hin 1 (by decide)) d_Lw_335 ?_
  refine lw_c1 X h (As := [.int (xs (nI i + 1).toNatClampNeg)]) (zCl_state l (xs (nI i + 1).toNatClampNeg)) hF hk cv_Lw_55 rfl rfl rfl ⟨by decide, by decide⟩ hc hl.1 (Nat.le_of_ble_eq_true rfl) rfl rfl d_Lw_336 (fun r O H locs hr hT h => ?_)
  refine lv_aload_n X.1 X.2.1 d_Lw_339 rfl (lv_at hl 1 rfl) ?_
  refine lv_aload_n X.1 X.2.1 d_Lw_340 rfl (lv_at hl 3 rfl) ?_
  refine lv_iload_n X.1 X.2.1 d_Lw_341 rfl (lv_at hl 0 rfl) ?_
  refine lv_iconst (v := 1) X.1 X.2.1 d_Lw_342 (by decide) ?_
  refine lv_iadd X.1 X.2.1 d_Lw_343 ?_
  refine va_sld X.1 X.2.1 hX hbl hbA h.2.2.2.2.2 (hin 1 (by decide)) d_Lw_344 ?_
  refine lw_c2 X h hr hT cv_Lw_58 rfl rfl rfl ⟨by decide, by decide⟩ hc hl.1 ?_ rfl rfl d_Lw_345 (fun S H locs hp h => ?_)
  · obtain ⟨z, rfl⟩ := hr; exact Nat.le_of_ble_eq_true rfl
  obtain ⟨z, rfl⟩ := hr
  refine lv_icmp_eq (tgt := 419) X.1 X.2.1 d_Lw_348 (by decide) (fun _ => hK O S H locs hp h) (fun hh => absurd rfl hh)
set_option maxRecDepth 100000 in
set_option maxHeartbeats 1000000 in
theorem lw_k8 {p : Program} {l : Launch} {e : Env} {R : Room} {s : State} {m : MethodId} {args : Array Value} {below : List Frame} {meth : Method} {c : Code} {H : Heap} {locs : List Loc} {cells slots : Nat} {Q : State → Prop} {ls : Array Slot} {D : va_G} {cs : Nat → ClassId} {A : Nat → Prop} {ad ad2 : Nat → Nat} {M N : kz_M} {b L i k : Nat} {xs : Nat → Int32} (X : lw_X p R s m args c D cs A b L xs) (h : lw_Wo D A s cs ad ad2 M N H locs) (hl : lv_has ls 4 [(3, .int (nI i)), (2, .ref (ad2 0)), (1, .ref (ad 0)), (0, .ref b)]) (hi : i + 4 ≤ L) (hF : zF k M N) (hk : k < 512) (hc : cells ≤ R.cells ∧ slots ≤ R.slots) (hK : ∀ (O S : kz_M) (H1 : Heap) (locs1 : List Loc), zF (k + 1) O S → lw_Wo D A s cs ad ad2 O S H1 locs1 → W p l e R s m args below meth c H1 locs1 cells slots Q (F0 m 419 ls [])) : W p l e R s m args below meth c H locs cells slots Q (F0 m 353 ls []) := by
  have hL : L ≤ 2050 := X.2.2.2.2.2.2.2.2.2.2.1
  have hin : ∀ j, j < 4 → vp_in (nI i + nI j) L := fun j hj => by rw [nI_plus]; exact vp_in_nI (by omega) (by omega)
  have hX := X.2.2.2.2.2.2.2.1
  have hbl := X.2.2.2.2.2.2.2.2.1
  have hbA := X.2.2.2.2.2.2.2.2.2.1
  refine lv_aload_n X.1 X.2.1 d_Lw_353 rfl (lv_at hl 2 rfl) ?_
  refine lv_aload_n X.1 X.2.1 d_Lw_354 rfl (lv_at hl 3 rfl) ?_
  refine lv_iload_n X.1 X.2.1 d_Lw_355 rfl (lv_at hl 0 rfl) ?_
  refine lv_iconst (v := 1) X.1 X.2.1 d_Lw_356 (by decide) ?_
  refine lv_iadd X.1 X.2.1 d_Lw_357 ?_
  refine va_sld X.1 X.2.1 hX hbl hbA h.2.2.2.2.2 (hin 1 (by decide)) d_Lw_358 ?_
  refine lv_aload_n X.1 X.2.1 d_Lw_359 rfl (lv_at hl 3 rfl) ?_
  refine lv_iload_n X.1 X.2.1 d_Lw_360 rfl (lv_at hl 0 rfl) ?_
  refine lv_iconst (v := 2) X.1 X.2.1 d_Lw_361 (by decide) ?_
  refine lv_iadd X.1 X.2.1 d_Lw_362 ?_
  refine va_sld X.1 X.2.1 hX hbl hbA h.2.2.2.2.2 (hin 2 (by decide)) d_Lw_363 ?_
  refine lw_c1 X h (As := [.int (xs (nI i + 1).toNatClampNeg), .int (xs (nI i + 2).toNatClampNeg)]) (zCl_command l (xs (nI i + 1).toNatClampNeg) (xs (nI i + 2).toNatClampNeg)) hF hk cv_Lw_59 rfl rfl rfl ⟨by decide, by decide⟩ hc hl.1 (Nat.le_of_ble_eq_true rfl) rfl rfl d_Lw_364 (fun r O H locs hr hT h => ?_)
  refine lv_aload_n X.1 X.2.1 d_Lw_367 rfl (lv_at hl 1 rfl) ?_
  refine lv_aload_n X.1 X.2.1 d_Lw_368 rfl (lv_at hl 3 rfl) ?_
  refine lv_iload_n X.1 X.2.1 d_Lw_369 rfl (lv_at hl 0 rfl) ?_
  refine lv_iconst (v := 1) X.1 X.2.1 d_Lw_370 (by decide) ?_
  refine lv_iadd X.1 X.2.1 d_Lw_371 ?_
  refine va_sld X.1 X.2.1 hX hbl hbA h.2.2.2.2.2 (hin 1 (by decide)) d_Lw_372 ?_
  refine lv_aload_n X.1 X.2.1 d_Lw_373 rfl (lv_at hl 3 rfl) ?_
  refine lv_iload_n X.1 X.2.1 d_Lw_374 rfl (lv_at hl 0 rfl) ?_
  refine lv_iconst (v := 2) X.1 X.2.1 d_Lw_375 (by decide) ?_
  refine lv_iadd X.1 X.2.1 d_Lw_376 ?_
  refine va_sld X.1 X.2.1 hX hbl hbA h.2.2.2.2.2 (hin 2 (by decide)) d_Lw_377 ?_
  refine lw_c2 X h hr hT cv_Lw_63 rfl rfl rfl ⟨by decide, by decide⟩ hc hl.1 ?_ rfl rfl d_Lw_378 (fun S H locs hp h => ?_)
  · obtain ⟨z, rfl⟩ := hr; exact Nat.le_of_ble_eq_true rfl
  obtain ⟨z, rfl⟩ := hr
  refine lv_icmp_eq (tgt := 419) X.1 X.2.1 d_Lw_381 (by decide) (fun _ => hK O S H locs hp h) (fun hh => absurd rfl hh)
set_option maxRecDepth 100000 in
set_option maxHeartbeats 1000000 in
theorem lw_k9 {p : Program} {l : Launch} {e : Env} {R : Room} {s : State} {m : MethodId} {args : Array Value} {below : List Frame} {meth : Method} {c : Code} {H : Heap} {locs : List Loc} {cells slots : Nat} {Q : State → Prop} {ls : Array Slot} {D : va_G} {cs : Nat → ClassId} {A : Nat → Prop} {ad ad2 : Nat → Nat} {M N : kz_M} {b L i k : Nat} {xs : Nat → Int32} (X : lw_X p R s m args c D cs A b L xs) (h : lw_Wo D A s cs ad ad2 M N H locs) (hl : lv_has ls 4 [(3, .int (nI i)), (2, .ref (ad2 0)), (1, .ref (ad 0)), (0, .ref b)]) (hi : i + 4 ≤ L) (hF : zF k M N) (hk : k < 512) (hc : cells ≤ R.cells ∧ slots ≤ R.slots) (hK : ∀ (O S : kz_M) (H1 : Heap) (locs1 : List Loc), zF (k + 1) O S → lw_Wo D A s cs ad ad2 O S H1 locs1 → W p l e R s m args below meth c H1 locs1 cells slots Q (F0 m 419 ls [])) : W p l e R s m args below meth c H locs cells slots Q (F0 m 386 ls []) := by
  have hL : L ≤ 2050 := X.2.2.2.2.2.2.2.2.2.2.1
  have hin : ∀ j, j < 4 → vp_in (nI i + nI j) L := fun j hj => by rw [nI_plus]; exact vp_in_nI (by omega) (by omega)
  have hX := X.2.2.2.2.2.2.2.1
  have hbl := X.2.2.2.2.2.2.2.2.1
  have hbA := X.2.2.2.2.2.2.2.2.2.1
  refine lv_aload_n X.1 X.2.1 d_Lw_386 rfl (lv_at hl 2 rfl) ?_
  refine lv_aload_n X.1 X.2.1 d_Lw_387 rfl (lv_at hl 3 rfl) ?_
  refine lv_iload_n X.1 X.2.1 d_Lw_388 rfl (lv_at hl 0 rfl) ?_
  refine lv_iconst (v := 1) X.1 X.2.1 d_Lw_389 (by decide) ?_
  refine lv_iadd X.1 X.2.1 d_Lw_390 ?_
  refine va_sld X.1 X.2.1 hX hbl hbA h.2.2.2.2.2 (hin 1 (by decide)) d_Lw_391 ?_
  refine lv_aload_n X.1 X.2.1 d_Lw_392 rfl (lv_at hl 3 rfl) ?_
  refine lv_iload_n X.1 X.2.1 d_Lw_393 rfl (lv_at hl 0 rfl) ?_
  refine lv_iconst (v := 2) X.1 X.2.1 d_Lw_394 (by decide) ?_
  refine lv_iadd X.1 X.2.1 d_Lw_395 ?_
  refine va_sld X.1 X.2.1 hX hbl hbA h.2.2.2.2.2 (hin 2 (by decide)) d_Lw_396 ?_
  refine lw_c1 X h (As := [.int (xs (nI i + 1).toNatClampNeg), .int (xs (nI i + 2).toNatClampNeg)]) (zCl_bit l (xs (nI i + 1).toNatClampNeg) (xs (nI i + 2).toNatClampNeg)) hF hk cv_Lw_64 rfl rfl rfl ⟨by decide, by decide⟩ hc hl.1 (Nat.le_of_ble_eq_true rfl) rfl rfl d_Lw_397 (fun r O H locs hr hT h => ?_)
  refine lv_aload_n X.1 X.2.1 d_Lw_400 rfl (lv_at hl 1 rfl) ?_
  refine lv_aload_n X.1 X.2.1 d_Lw_401 rfl (lv_at hl 3 rfl) ?_
  refine lv_iload_n X.1 X.2.1 d_Lw_402 rfl (lv_at hl 0 rfl) ?_
  refine lv_iconst (v := 1) X.1 X.2.1 d_Lw_403 (by decide) ?_
  refine lv_iadd X.1 X.2.1 d_Lw_404 ?_
  refine va_sld X.1 X.2.1 hX hbl hbA h.2.2.2.2.2 (hin 1 (by decide)) d_Lw_405 ?_
  refine lv_aload_n X.1 X.2.1 d_Lw_406 rfl (lv_at hl 3 rfl) ?_
  refine lv_iload_n X.1 X.2.1 d_Lw_407 rfl (lv_at hl 0 rfl) ?_
  refine lv_iconst (v := 2) X.1 X.2.1 d_Lw_408 (by decide) ?_
  refine lv_iadd X.1 X.2.1 d_Lw_409 ?_
  refine va_sld X.1 X.2.1 hX hbl hbA h.2.2.2.2.2 (hin 2 (by decide)) d_Lw_410 ?_
  refine lw_c2 X h hr hT cv_Lw_67 rfl rfl rfl ⟨by decide, by decide⟩ hc hl.1 ?_ rfl rfl d_Lw_411 (fun S H locs hp h => ?_)
  · obtain ⟨z, rfl⟩ := hr; exact Nat.le_of_ble_eq_true rfl
  obtain ⟨z, rfl⟩ := hr
  refine lv_icmp_eq (tgt := 419) X.1 X.2.1 d_Lw_414 (by decide) (fun _ => hK O S H locs hp h) (fun hh => absurd rfl hh)
