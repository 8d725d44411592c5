/-! Building: the reference's constructor, by program (wip/whole/gen_k3.py). -/
theorem cz_to {D : va_G} {A : Nat → Prop} {s : State} {n : Nat} {ad : Nat → Nat} {E : Nat → va_E} {H : Heap} {locs : List Loc} {sy : kz_Sy} {ad' : Nat → Nat} {cs : Nat → ClassId} {M : kz_M} (h : cz_H D A s n ad E H locs) (hW : gw_W n ad E = kz_W sy ad' cs M) : va_P D nm_cl (kz_W sy ad' cs M) H ∧ va_D A (kz_W sy ad' cs M) ∧ va_S A s.heap H locs := by
  rw [← hW]
  exact h
theorem rm_set {N : Nat} {F : Nat → Value} (j : Nat) (h : j < N) (v : Value) : ((List.range N).map F).set j v = (List.range N).map (va_up F j v) := by
  apply List.ext_getElem?
  intro i
  by_cases hi : i < N
  · by_cases q : i = j
    · subst q
      rw [List.getElem?_set_self (by simp; exact hi), List.getElem?_map, List.getElem?_range hi]
      simp [va_up]
    · rw [List.getElem?_set_ne (Ne.symm q), List.getElem?_map, List.getElem?_map, List.getElem?_range hi]
      simp [va_up, q]
  · rw [List.getElem?_eq_none (by simp; omega), List.getElem?_eq_none (by simp; omega)]
section CZ3
variable {p : Program} {l : Launch} {e : Env} {R : Room} {s : State} {m : MethodId} {args : Array Value} {below : List Frame} {meth : Method} {c : Code} {H : Heap} {locs : List Loc} {cells slots : Nat} {Q : State → Prop}
variable {mi : kz_Me} {pc : Nat} {ls : Array Slot} {rest : List Value} {D : va_G} {cs : Nat → ClassId} {A : Nat → Prop} {n : Nat} {ad : Nat → Nat} {E : Nat → va_E} {F : Nat → Value}
theorem cz_putF (X : cz_X mi p s m args meth c D cs A) (h : cz_H D A s n ad E H locs) (hi : 0 < n) {ci N : Nat} (hE : E 0 = .inr (ci, (List.range N).map F)) {a : Nat} (ha : ad 0 = a) {idx j : Nat} {ty : FieldType} {fin : Bool} (hfd : kz_Fd sC mi.1.cls idx ci j ty fin) (hC : (nm_cl[ci]?).map (fun q => q.1) = some mi.1.cls) {v : Value} (hn : narrow ty v = v) (hfit : fits ty v = true) (hl : j < N) (hdg : decode mi.2.1 pc = .ok (.putfield idx, 3))
    (kk : ∀ (H1 : Heap) (locs1 : List Loc) (F' : Nat → Value) (E' : Nat → va_E), F' = va_up F j v → E' = va_up E 0 (.inr (ci, (List.range N).map F')) → E' 0 = .inr (ci, (List.range N).map F') → cz_H D A s n ad E' H1 locs1 → W p l e R s m args below meth c H1 locs1 cells slots Q (F0 m (pc + 3) ls rest)) : W p l e R s m args below meth c H locs cells slots Q (F0 m pc ls (v :: .ref a :: rest)) := by
  refine cz_put X h 0 hi hE ha hfd hC hn hfit (by simp; exact hl) hdg (fun H1 locs1 h1 => ?_)
  rw [rm_set j hl] at h1
  exact kk H1 locs1 _ _ rfl rfl (by simp [va_up]) h1
theorem cz_arrF (X : cz_X mi p s m args meth c D cs A) (h : cz_H D A s n ad E H locs) (hi : 0 < n) {ci N : Nat} (hE : E 0 = .inr (ci, (List.range N).map F)) {a : Nat} (ha : ad 0 = a) {atype : ArrayType} {ty : FieldType} {t len : Nat} {a0 : vp_A} (hty : newarray.typeOf atype = ty) (ht : (t = 0 ∧ ty = .int) ∨ (t = 1 ∧ ty = .boolean) ∨ (t = 2 ∧ ty = .long)) (ha0 : ∀ cA, vp_cell cA a0 = arrV cA len (fun _ => defaultValue ty)) (harr : Cond.arrayClass ty ∈ bw_tbl) (hlen : len < 2 ^ 31) (hbytes : len * componentBytes ty ≤ 536870912) (hcells : cells + 1 ≤ R.cells) (hslots : slots + len ≤ R.slots) {x : Int32} (hxl : x = nI len) (hdg : decode mi.2.1 pc = .ok (.newarray atype, 2))
    {idx j : Nat} {fin : Bool} (hfd : kz_Fd sC mi.1.cls idx ci j (.array ty) fin) (hC : (nm_cl[ci]?).map (fun q => q.1) = some mi.1.cls) (hl : j < N) (hdg2 : decode mi.2.1 (pc + 2) = .ok (.putfield idx, 3))
    (kk : ∀ (q : Nat) (H1 : Heap) (locs1 : List Loc) (ad' : Nat → Nat) (F' : Nat → Value) (E' : Nat → va_E), ad' = va_up ad n q → ad' 0 = a → F' = va_up F j (.ref q) → E' = va_up (va_up E n (.inl (cs t, a0))) 0 (.inr (ci, (List.range N).map F')) → E' 0 = .inr (ci, (List.range N).map F') → cz_H D A s (n + 1) ad' E' H1 locs1 → W p l e R s m args below meth c H1 locs1 (cells + 1) (slots + len) Q (F0 m (pc + 5) ls rest)) : W p l e R s m args below meth c H locs cells slots Q (F0 m pc ls (.int x :: .ref a :: rest)) := by
  refine cz_newa X h hty ht ha0 harr hlen hbytes hcells hslots hxl hdg (fun q H1 h1 => ?_)
  have ha' : (va_up ad n q) 0 = a := by simp [va_up, Nat.ne_of_lt hi, ha]
  refine cz_putF X h1 (by omega) (F := F) (by simp [va_up, Nat.ne_of_lt hi]; exact hE) ha' hfd hC rfl rfl hl hdg2 (fun H2 locs2 F' E' e1 e2 e3 h2 => ?_)
  exact kk q H2 locs2 _ F' E' rfl ha' e1 e2 e3 h2
end CZ3
def fs_Mo : List Value := [.int 0, .int 0, .int 0, .int 0, .int 0, .int 0, .int 0, .int 0, .int 0, .null, .null, .null, .null, .null, .null, .null, .int 0, .int 0, .null, .null, .null, .null, .null, .null, .null, .null, .int 0, .int 0, .int 0, .null, .int 0, .int 0, .null, .null, .null, .null, .null, .null, .long 0, .int 0, .int 0]
def F_Mo (j : Nat) : Value := fs_Mo.getD j .null
set_option maxRecDepth 100000 in
set_option maxHeartbeats 1000000 in
theorem c_Mo_init (l : Launch) (q c : Int32) : cz_T l m_Mo_init 6 fs_Mo nx [.int q, .int c] sR (mo_M q c) 22 3951 := by
  refine cz_intro (by decide +kernel) rfl rfl ?_
  intro p e s m args below meth cd D cs h0 A X h _
  have hl := lv_entry ([.ref h0, .int q, .int c]) (n := 4) (Nat.le_of_ble_eq_true rfl)
  show W p l e _ s m args below meth cd s.heap [] 0 0 _ (F0 m 0 ((lg_sl ([.ref h0, .int q, .int c]) ++ List.replicate (4 - (lg_sl ([.ref h0, .int q, .int c])).length) Slot.unset).toArray) [])
  generalize (lg_sl ([.ref h0, .int q, .int c]) ++ List.replicate (4 - (lg_sl ([.ref h0, .int q, .int c])).length) Slot.unset).toArray = ls at hl ⊢
  have hl : lv_has ls 4 [(0, .ref h0), (1, .int q), (2, .int c)] := hl
  obtain ⟨E0, eE0⟩ : ∃ E0 : Nat → va_E, E0 = fun _ => .inr (6, fs_Mo) := ⟨_, rfl⟩
  obtain ⟨ad0, ea0⟩ : ∃ ad0 : Nat → Nat, ad0 = fun _ => h0 := ⟨_, rfl⟩
  have ha0 : ad0 0 = h0 := by rw [ea0]
  have hE0 : E0 0 = .inr (6, (List.range 41).map F_Mo) := by rw [eE0]; rfl
  rw [← eE0, ← ea0] at h
  refine lv_aload_n X.1 X.2.1 d_Mo_init_0 rfl (lv_at hl 0 rfl) ?_
  refine cz_obj X (bw_mem3 49 rfl rfl) hl.1 d_Mo_init_1 (Nat.le_refl _) (by decide) ?_
  refine lv_aload_n X.1 X.2.1 d_Mo_init_4 rfl (lv_at hl 0 rfl) ?_
  refine lv_bipush (v := 14) X.1 X.2.1 d_Mo_init_5 (by decide) ?_
  refine cz_arrF X h (by decide) hE0 ha0 (atype := .int) (ty := .int) (t := 0) (len := 14) (a0 := (14, .inl fun _ => 0)) rfl (Or.inl ⟨rfl, rfl⟩) (fun cA => rfl) m_ai (by decide) (by decide) (Nat.le_of_ble_eq_true rfl) (Nat.le_of_ble_eq_true rfl) rfl d_Mo_init_7 fd_Mo_7 rfl (by decide) d_Mo_init_9 (fun q1 H locs ad1 F1 E1 ea1 ha1 eF1 eE1 hE1 h => ?_)
  refine lv_aload_n X.1 X.2.1 d_Mo_init_12 rfl (lv_at hl 0 rfl) ?_
  refine lv_sipush (v := 256) X.1 X.2.1 d_Mo_init_13 (by decide) ?_
  refine cz_arrF X h (by decide) hE1 ha1 (atype := .long) (ty := .long) (t := 2) (len := 256) (a0 := (256, .inr (.inl fun _ => 0))) rfl (Or.inr (Or.inr ⟨rfl, rfl⟩)) (fun cA => rfl) m_aj (by decide) (by decide) (Nat.le_of_ble_eq_true rfl) (Nat.le_of_ble_eq_true rfl) rfl d_Mo_init_16 fd_Mo_13 rfl (by decide) d_Mo_init_18 (fun q2 H locs ad2 F2 E2 ea2 ha2 eF2 eE2 hE2 h => ?_)
  refine lv_aload_n X.1 X.2.1 d_Mo_init_21 rfl (lv_at hl 0 rfl) ?_
  refine lv_sipush (v := 256) X.1 X.2.1 d_Mo_init_22 (by decide) ?_
  refine cz_arrF X h (by decide) hE2 ha2 (atype := .int) (ty := .int) (t := 0) (len := 256) (a0 := (256, .inl fun _ => 0)) rfl (Or.inl ⟨rfl, rfl⟩) (fun cA => rfl) m_ai (by decide) (by decide) (Nat.le_of_ble_eq_true rfl) (Nat.le_of_ble_eq_true rfl) rfl d_Mo_init_25 fd_Mo_17 rfl (by decide) d_Mo_init_27 (fun q3 H locs ad3 F3 E3 ea3 ha3 eF3 eE3 hE3 h => ?_)
  refine lv_aload_n X.1 X.2.1 d_Mo_init_30 rfl (lv_at hl 0 rfl) ?_
  refine lv_iconst (v := 4) X.1 X.2.1 d_Mo_init_31 (by decide) ?_
  refine cz_arrF X h (by decide) hE3 ha3 (atype := .int) (ty := .int) (t := 0) (len := 4) (a0 := (4, .inl fun _ => 0)) rfl (Or.inl ⟨rfl, rfl⟩) (fun cA => rfl) m_ai (by decide) (by decide) (Nat.le_of_ble_eq_true rfl) (Nat.le_of_ble_eq_true rfl) rfl d_Mo_init_32 fd_Mo_20 rfl (by decide) d_Mo_init_34 (fun q4 H locs ad4 F4 E4 ea4 ha4 eF4 eE4 hE4 h => ?_)
  refine lv_aload_n X.1 X.2.1 d_Mo_init_37 rfl (lv_at hl 0 rfl) ?_
  refine lv_bipush (v := 20) X.1 X.2.1 d_Mo_init_38 (by decide) ?_
  refine cz_arrF X h (by decide) hE4 ha4 (atype := .int) (ty := .int) (t := 0) (len := 20) (a0 := (20, .inl fun _ => 0)) rfl (Or.inl ⟨rfl, rfl⟩) (fun cA => rfl) m_ai (by decide) (by decide) (Nat.le_of_ble_eq_true rfl) (Nat.le_of_ble_eq_true rfl) rfl d_Mo_init_40 fd_Mo_23 rfl (by decide) d_Mo_init_42 (fun q5 H locs ad5 F5 E5 ea5 ha5 eF5 eE5 hE5 h => ?_)
  refine lv_aload_n X.1 X.2.1 d_Mo_init_45 rfl (lv_at hl 0 rfl) ?_
  refine lv_iconst (v := 5) X.1 X.2.1 d_Mo_init_46 (by decide) ?_
  refine cz_arrF X h (by decide) hE5 ha5 (atype := .int) (ty := .int) (t := 0) (len := 5) (a0 := (5, .inl fun _ => 0)) rfl (Or.inl ⟨rfl, rfl⟩) (fun cA => rfl) m_ai (by decide) (by decide) (Nat.le_of_ble_eq_true rfl) (Nat.le_of_ble_eq_true rfl) rfl d_Mo_init_47 fd_Mo_26 rfl (by decide) d_Mo_init_49 (fun q6 H locs ad6 F6 E6 ea6 ha6 eF6 eE6 hE6 h => ?_)
  refine lv_aload_n X.1 X.2.1 d_Mo_init_52 rfl (lv_at hl 0 rfl) ?_
  refine lv_iconst (v := 4) X.1 X.2.1 d_Mo_init_53 (by decide) ?_
  refine cz_arrF X h (by decide) hE6 ha6 (atype := .int) (ty := .int) (t := 0) (len := 4) (a0 := (4, .inl fun _ => 0)) rfl (Or.inl ⟨rfl, rfl⟩) (fun cA => rfl) m_ai (by decide) (by decide) (Nat.le_of_ble_eq_true rfl) (Nat.le_of_ble_eq_true rfl) rfl d_Mo_init_54 fd_Mo_29 rfl (by decide) d_Mo_init_56 (fun q7 H locs ad7 F7 E7 ea7 ha7 eF7 eE7 hE7 h => ?_)
  refine lv_aload_n X.1 X.2.1 d_Mo_init_59 rfl (lv_at hl 0 rfl) ?_
  refine lv_ldc X.1 X.2.1 X.2.2.2.1 (X.2.2.2.2.1 _ (bw_mem3 50 rfl rfl)) d_Mo_init_60 ?_
  refine cz_putF X h (by decide) hE7 ha7 fd_Mo_33 rfl rfl rfl (by decide) d_Mo_init_62 (fun H locs F8 E8 eF8 eE8 hE8 h => ?_)
  refine lv_aload_n X.1 X.2.1 d_Mo_init_65 rfl (lv_at hl 0 rfl) ?_
  refine lv_iconst (v := -1) X.1 X.2.1 d_Mo_init_66 (by decide) ?_
  refine cz_putF X h (by decide) hE8 ha7 fd_Mo_37 rfl rfl rfl (by decide) d_Mo_init_67 (fun H locs F9 E9 eF9 eE9 hE9 h => ?_)
  refine lv_aload_n X.1 X.2.1 d_Mo_init_70 rfl (lv_at hl 0 rfl) ?_
  refine lv_sipush (v := 400) X.1 X.2.1 d_Mo_init_71 (by decide) ?_
  refine cz_arrF X h (by decide) hE9 ha7 (atype := .boolean) (ty := .boolean) (t := 1) (len := 400) (a0 := (400, .inl fun _ => 0)) rfl (Or.inr (Or.inl ⟨rfl, rfl⟩)) (fun cA => rfl) m_az (by decide) (by decide) (Nat.le_of_ble_eq_true rfl) (Nat.le_of_ble_eq_true rfl) rfl d_Mo_init_74 fd_Mo_40 rfl (by decide) d_Mo_init_76 (fun q8 H locs ad8 F10 E10 ea8 ha8 eF10 eE10 hE10 h => ?_)
  refine lv_aload_n X.1 X.2.1 d_Mo_init_79 rfl (lv_at hl 0 rfl) ?_
  refine lv_sipush (v := 400) X.1 X.2.1 d_Mo_init_80 (by decide) ?_
  refine cz_arrF X h (by decide) hE10 ha8 (atype := .int) (ty := .int) (t := 0) (len := 400) (a0 := (400, .inl fun _ => 0)) rfl (Or.inl ⟨rfl, rfl⟩) (fun cA => rfl) m_ai (by decide) (by decide) (Nat.le_of_ble_eq_true rfl) (Nat.le_of_ble_eq_true rfl) rfl d_Mo_init_83 fd_Mo_44 rfl (by decide) d_Mo_init_85 (fun q9 H locs ad9 F11 E11 ea9 ha9 eF11 eE11 hE11 h => ?_)
  refine lv_aload_n X.1 X.2.1 d_Mo_init_88 rfl (lv_at hl 0 rfl) ?_
  refine lv_sipush (v := 400) X.1 X.2.1 d_Mo_init_89 (by decide) ?_
  refine cz_arrF X h (by decide) hE11 ha9 (atype := .int) (ty := .int) (t := 0) (len := 400) (a0 := (400, .inl fun _ => 0)) rfl (Or.inl ⟨rfl, rfl⟩) (fun cA => rfl) m_ai (by decide) (by decide) (Nat.le_of_ble_eq_true rfl) (Nat.le_of_ble_eq_true rfl) rfl d_Mo_init_92 fd_Mo_47 rfl (by decide) d_Mo_init_94 (fun q10 H locs ad10 F12 E12 ea10 ha10 eF12 eE12 hE12 h => ?_)
  refine lv_aload_n X.1 X.2.1 d_Mo_init_97 rfl (lv_at hl 0 rfl) ?_
  refine lv_sipush (v := 400) X.1 X.2.1 d_Mo_init_98 (by decide) ?_
  refine cz_arrF X h (by decide) hE12 ha10 (atype := .int) (ty := .int) (t := 0) (len := 400) (a0 := (400, .inl fun _ => 0)) rfl (Or.inl ⟨rfl, rfl⟩) (fun cA => rfl) m_ai (by decide) (by decide) (Nat.le_of_ble_eq_true rfl) (Nat.le_of_ble_eq_true rfl) rfl d_Mo_init_101 fd_Mo_50 rfl (by decide) d_Mo_init_103 (fun q11 H locs ad11 F13 E13 ea11 ha11 eF13 eE13 hE13 h => ?_)
  refine lv_aload_n X.1 X.2.1 d_Mo_init_106 rfl (lv_at hl 0 rfl) ?_
  refine lv_sipush (v := 400) X.1 X.2.1 d_Mo_init_107 (by decide) ?_
  refine cz_arrF X h (by decide) hE13 ha11 (atype := .long) (ty := .long) (t := 2) (len := 400) (a0 := (400, .inr (.inl fun _ => 0))) rfl (Or.inr (Or.inr ⟨rfl, rfl⟩)) (fun cA => rfl) m_aj (by decide) (by decide) (Nat.le_of_ble_eq_true rfl) (Nat.le_of_ble_eq_true rfl) rfl d_Mo_init_110 fd_Mo_53 rfl (by decide) d_Mo_init_112 (fun q12 H locs ad12 F14 E14 ea12 ha12 eF14 eE14 hE14 h => ?_)
  refine lv_aload_n X.1 X.2.1 d_Mo_init_115 rfl (lv_at hl 0 rfl) ?_
  refine lv_sipush (v := 400) X.1 X.2.1 d_Mo_init_116 (by decide) ?_
  refine cz_arrF X h (by decide) hE14 ha12 (atype := .int) (ty := .int) (t := 0) (len := 400) (a0 := (400, .inl fun _ => 0)) rfl (Or.inl ⟨rfl, rfl⟩) (fun cA => rfl) m_ai (by decide) (by decide) (Nat.le_of_ble_eq_true rfl) (Nat.le_of_ble_eq_true rfl) rfl d_Mo_init_119 fd_Mo_56 rfl (by decide) d_Mo_init_121 (fun q13 H locs ad13 F15 E15 ea13 ha13 eF15 eE15 hE15 h => ?_)
  refine lv_aload_n X.1 X.2.1 d_Mo_init_124 rfl (lv_at hl 0 rfl) ?_
  refine lv_sipush (v := 400) X.1 X.2.1 d_Mo_init_125 (by decide) ?_
  refine cz_arrF X h (by decide) hE15 ha13 (atype := .int) (ty := .int) (t := 0) (len := 400) (a0 := (400, .inl fun _ => 0)) rfl (Or.inl ⟨rfl, rfl⟩) (fun cA => rfl) m_ai (by decide) (by decide) (Nat.le_of_ble_eq_true rfl) (Nat.le_of_ble_eq_true rfl) rfl d_Mo_init_128 fd_Mo_59 rfl (by decide) d_Mo_init_130 (fun q14 H locs ad14 F16 E16 ea14 ha14 eF16 eE16 hE16 h => ?_)
  refine lv_aload_n X.1 X.2.1 d_Mo_init_133 rfl (lv_at hl 0 rfl) ?_
  refine lv_bipush (v := 16) X.1 X.2.1 d_Mo_init_134 (by decide) ?_
  refine cz_arrF X h (by decide) hE16 ha14 (atype := .int) (ty := .int) (t := 0) (len := 16) (a0 := (16, .inl fun _ => 0)) rfl (Or.inl ⟨rfl, rfl⟩) (fun cA => rfl) m_ai (by decide) (by decide) (Nat.le_of_ble_eq_true rfl) (Nat.le_of_ble_eq_true rfl) rfl d_Mo_init_136 fd_Mo_62 rfl (by decide) d_Mo_init_138 (fun q15 H locs ad15 F17 E17 ea15 ha15 eF17 eE17 hE17 h => ?_)
  refine lv_aload_n X.1 X.2.1 d_Mo_init_141 rfl (lv_at hl 0 rfl) ?_
  refine lv_sipush (v := 400) X.1 X.2.1 d_Mo_init_142 (by decide) ?_
  refine cz_arrF X h (by decide) hE17 ha15 (atype := .int) (ty := .int) (t := 0) (len := 400) (a0 := (400, .inl fun _ => 0)) rfl (Or.inl ⟨rfl, rfl⟩) (fun cA => rfl) m_ai (by decide) (by decide) (Nat.le_of_ble_eq_true rfl) (Nat.le_of_ble_eq_true rfl) rfl d_Mo_init_145 fd_Mo_65 rfl (by decide) d_Mo_init_147 (fun q16 H locs ad16 F18 E18 ea16 ha16 eF18 eE18 hE18 h => ?_)
  refine lv_aload_n X.1 X.2.1 d_Mo_init_150 rfl (lv_at hl 0 rfl) ?_
  refine lv_bipush (v := 16) X.1 X.2.1 d_Mo_init_151 (by decide) ?_
  refine cz_arrF X h (by decide) hE18 ha16 (atype := .boolean) (ty := .boolean) (t := 1) (len := 16) (a0 := (16, .inl fun _ => 0)) rfl (Or.inr (Or.inl ⟨rfl, rfl⟩)) (fun cA => rfl) m_az (by decide) (by decide) (Nat.le_of_ble_eq_true rfl) (Nat.le_of_ble_eq_true rfl) rfl d_Mo_init_153 fd_Mo_68 rfl (by decide) d_Mo_init_155 (fun q17 H locs ad17 F19 E19 ea17 ha17 eF19 eE19 hE19 h => ?_)
  refine lv_aload_n X.1 X.2.1 d_Mo_init_158 rfl (lv_at hl 0 rfl) ?_
  refine lv_bipush (v := 32) X.1 X.2.1 d_Mo_init_159 (by decide) ?_
  refine cz_arrF X h (by decide) hE19 ha17 (atype := .int) (ty := .int) (t := 0) (len := 32) (a0 := (32, .inl fun _ => 0)) rfl (Or.inl ⟨rfl, rfl⟩) (fun cA => rfl) m_ai (by decide) (by decide) (Nat.le_of_ble_eq_true rfl) (Nat.le_of_ble_eq_true rfl) rfl d_Mo_init_161 fd_Mo_71 rfl (by decide) d_Mo_init_163 (fun q18 H locs ad18 F20 E20 ea18 ha18 eF20 eE20 hE20 h => ?_)
  refine lv_aload_n X.1 X.2.1 d_Mo_init_166 rfl (lv_at hl 0 rfl) ?_
  refine lv_bipush (v := 32) X.1 X.2.1 d_Mo_init_167 (by decide) ?_
  refine cz_arrF X h (by decide) hE20 ha18 (atype := .int) (ty := .int) (t := 0) (len := 32) (a0 := (32, .inl fun _ => 0)) rfl (Or.inl ⟨rfl, rfl⟩) (fun cA => rfl) m_ai (by decide) (by decide) (Nat.le_of_ble_eq_true rfl) (Nat.le_of_ble_eq_true rfl) rfl d_Mo_init_169 fd_Mo_74 rfl (by decide) d_Mo_init_171 (fun q19 H locs ad19 F21 E21 ea19 ha19 eF21 eE21 hE21 h => ?_)
  refine lv_aload_n X.1 X.2.1 d_Mo_init_174 rfl (lv_at hl 0 rfl) ?_
  refine lv_bipush (v := 32) X.1 X.2.1 d_Mo_init_175 (by decide) ?_
  refine cz_arrF X h (by decide) hE21 ha19 (atype := .int) (ty := .int) (t := 0) (len := 32) (a0 := (32, .inl fun _ => 0)) rfl (Or.inl ⟨rfl, rfl⟩) (fun cA => rfl) m_ai (by decide) (by decide) (Nat.le_of_ble_eq_true rfl) (Nat.le_of_ble_eq_true rfl) rfl d_Mo_init_177 fd_Mo_77 rfl (by decide) d_Mo_init_179 (fun q20 H locs ad20 F22 E22 ea20 ha20 eF22 eE22 hE22 h => ?_)
  refine lv_aload_n X.1 X.2.1 d_Mo_init_182 rfl (lv_at hl 0 rfl) ?_
  refine lv_bipush (v := 32) X.1 X.2.1 d_Mo_init_183 (by decide) ?_
  refine cz_arrF X h (by decide) hE22 ha20 (atype := .int) (ty := .int) (t := 0) (len := 32) (a0 := (32, .inl fun _ => 0)) rfl (Or.inl ⟨rfl, rfl⟩) (fun cA => rfl) m_ai (by decide) (by decide) (Nat.le_of_ble_eq_true rfl) (Nat.le_of_ble_eq_true rfl) rfl d_Mo_init_185 fd_Mo_80 rfl (by decide) d_Mo_init_187 (fun q21 H locs ad21 F23 E23 ea21 ha21 eF23 eE23 hE23 h => ?_)
  refine lv_aload_n X.1 X.2.1 d_Mo_init_190 rfl (lv_at hl 0 rfl) ?_
  refine lv_bipush (v := 32) X.1 X.2.1 d_Mo_init_191 (by decide) ?_
  refine cz_arrF X h (by decide) hE23 ha21 (atype := .int) (ty := .int) (t := 0) (len := 32) (a0 := (32, .inl fun _ => 0)) rfl (Or.inl ⟨rfl, rfl⟩) (fun cA => rfl) m_ai (by decide) (by decide) (Nat.le_of_ble_eq_true rfl) (Nat.le_of_ble_eq_true rfl) rfl d_Mo_init_193 fd_Mo_83 rfl (by decide) d_Mo_init_195 (fun q22 H locs ad22 F24 E24 ea22 ha22 eF24 eE24 hE24 h => ?_)
  have hF : ∀ j, j < 41 → F24 j = kz_fv rf_R (fun k : Nat => [h0, q1, q2, q3, q4, q5, q6, q7, q8, q9, q10, q11, q12, q13, q14, q15, q16, q17, q18, q19, q20, q21, q22].getD k 0) mo_0 0 j (([0, 0, 0, 0, 0, 0, 0, 0, 1, 3, 3, 3, 3, 3, 3, 3, 0, 0, 3, 3, 3, 3, 3, 3, 3, 3, 0, 0, 0, 3, 0, 0, 3, 3, 3, 3, 3, 3, 2, 0, 0] : List Nat).getD j 0) := fun j hj => by
    subst eF1 eF2 eF3 eF4 eF5 eF6 eF7 eF8 eF9 eF10 eF11 eF12 eF13 eF14 eF15 eF16 eF17 eF18 eF19 eF20 eF21 eF22 eF23 eF24
    match j, hj with
    | 0, _ => rfl
    | 1, _ => rfl
    | 2, _ => rfl
    | 3, _ => rfl
    | 4, _ => rfl
    | 5, _ => rfl
    | 6, _ => rfl
    | 7, _ => rfl
    | 8, _ => rfl
    | 9, _ => rfl
    | 10, _ => rfl
    | 11, _ => rfl
    | 12, _ => rfl
    | 13, _ => rfl
    | 14, _ => rfl
    | 15, _ => rfl
    | 16, _ => rfl
    | 17, _ => rfl
    | 18, _ => rfl
    | 19, _ => rfl
    | 20, _ => rfl
    | 21, _ => rfl
    | 22, _ => rfl
    | 23, _ => rfl
    | 24, _ => rfl
    | 25, _ => rfl
    | 26, _ => rfl
    | 27, _ => rfl
    | 28, _ => rfl
    | 29, _ => rfl
    | 30, _ => rfl
    | 31, _ => rfl
    | 32, _ => rfl
    | 33, _ => rfl
    | 34, _ => rfl
    | 35, _ => rfl
    | 36, _ => rfl
    | 37, _ => rfl
    | 38, _ => rfl
    | 39, _ => rfl
    | 40, _ => rfl
    | j + 41, hj => exact absurd hj (by omega)
  have hA : ∀ k, k < 23 → ad22 k = (fun k : Nat => [h0, q1, q2, q3, q4, q5, q6, q7, q8, q9, q10, q11, q12, q13, q14, q15, q16, q17, q18, q19, q20, q21, q22].getD k 0) k := fun k hk => by
    subst ea0 ea1 ea2 ea3 ea4 ea5 ea6 ea7 ea8 ea9 ea10 ea11 ea12 ea13 ea14 ea15 ea16 ea17 ea18 ea19 ea20 ea21 ea22
    match k, hk with
    | 0, _ => rfl
    | 1, _ => rfl
    | 2, _ => rfl
    | 3, _ => rfl
    | 4, _ => rfl
    | 5, _ => rfl
    | 6, _ => rfl
    | 7, _ => rfl
    | 8, _ => rfl
    | 9, _ => rfl
    | 10, _ => rfl
    | 11, _ => rfl
    | 12, _ => rfl
    | 13, _ => rfl
    | 14, _ => rfl
    | 15, _ => rfl
    | 16, _ => rfl
    | 17, _ => rfl
    | 18, _ => rfl
    | 19, _ => rfl
    | 20, _ => rfl
    | 21, _ => rfl
    | 22, _ => rfl
    | k + 23, hk => exact absurd hk (by omega)
  have hB : ∀ k, k < 22 → E24 (k + 1) = ([.inl (cs 0, (14, .inl fun _ => 0)), .inl (cs 2, (256, .inr (.inl fun _ => 0))), .inl (cs 0, (256, .inl fun _ => 0)), .inl (cs 0, (4, .inl fun _ => 0)), .inl (cs 0, (20, .inl fun _ => 0)), .inl (cs 0, (5, .inl fun _ => 0)), .inl (cs 0, (4, .inl fun _ => 0)), .inl (cs 1, (400, .inl fun _ => 0)), .inl (cs 0, (400, .inl fun _ => 0)), .inl (cs 0, (400, .inl fun _ => 0)), .inl (cs 0, (400, .inl fun _ => 0)), .inl (cs 2, (400, .inr (.inl fun _ => 0))), .inl (cs 0, (400, .inl fun _ => 0)), .inl (cs 0, (400, .inl fun _ => 0)), .inl (cs 0, (16, .inl fun _ => 0)), .inl (cs 0, (400, .inl fun _ => 0)), .inl (cs 1, (16, .inl fun _ => 0)), .inl (cs 0, (32, .inl fun _ => 0)), .inl (cs 0, (32, .inl fun _ => 0)), .inl (cs 0, (32, .inl fun _ => 0)), .inl (cs 0, (32, .inl fun _ => 0)), .inl (cs 0, (32, .inl fun _ => 0))] : List va_E).getD k (.inr (0, [])) := fun k hk => by
    clear hF hA
    subst eE0 eE1 eE2 eE3 eE4 eE5 eE6 eE7 eE8 eE9 eE10 eE11 eE12 eE13 eE14 eE15 eE16 eE17 eE18 eE19 eE20 eE21 eE22 eE23 eE24
    match k, hk with
    | 0, _ => rfl
    | 1, _ => rfl
    | 2, _ => rfl
    | 3, _ => rfl
    | 4, _ => rfl
    | 5, _ => rfl
    | 6, _ => rfl
    | 7, _ => rfl
    | 8, _ => rfl
    | 9, _ => rfl
    | 10, _ => rfl
    | 11, _ => rfl
    | 12, _ => rfl
    | 13, _ => rfl
    | 14, _ => rfl
    | 15, _ => rfl
    | 16, _ => rfl
    | 17, _ => rfl
    | 18, _ => rfl
    | 19, _ => rfl
    | 20, _ => rfl
    | 21, _ => rfl
    | k + 22, hk => exact absurd hk (by omega)
  generalize hadd : (fun k : Nat => [h0, q1, q2, q3, q4, q5, q6, q7, q8, q9, q10, q11, q12, q13, q14, q15, q16, q17, q18, q19, q20, q21, q22].getD k 0) = ad' at hF hA
  obtain ⟨hP, hD, hS⟩ := cz_to (sy := sR) (ad' := ad') (M := mo_0) (cs := cs) h (gw_kz rfl (fun k hk => by
    refine ⟨hA k hk, ?_⟩
    cases k with
    | zero =>
      rw [hE24]
      show Sum.inr (6, (List.range 41).map F24) = Sum.inr (6, (List.range 41).map _)
      rw [List.map_congr_left (fun j hj => hF j (List.mem_range.mp hj))]
      rfl
    | succ k =>
      rw [hB k (by omega)]
      match k, hk with
      | 0, _ => rfl
      | 1, _ => rfl
      | 2, _ => rfl
      | 3, _ => rfl
      | 4, _ => rfl
      | 5, _ => rfl
      | 6, _ => rfl
      | 7, _ => rfl
      | 8, _ => rfl
      | 9, _ => rfl
      | 10, _ => rfl
      | 11, _ => rfl
      | 12, _ => rfl
      | 13, _ => rfl
      | 14, _ => rfl
      | 15, _ => rfl
      | 16, _ => rfl
      | 17, _ => rfl
      | 18, _ => rfl
      | 19, _ => rfl
      | 20, _ => rfl
      | 21, _ => rfl
      | k + 22, hk => exact absurd hk (by omega)))
  have h00 : ad' 0 = h0 := by rw [← hadd]; rfl
  have hL : kz_L ad' ls 4 [some (.ref 0), some (.int q), some (.int c), none] := ⟨hl.1, hl.2.1, rfl, fun i v hv => by
    match i, hv with
    | 0, hv => cases hv; show ls[0]? = some (.val (.ref (ad' 0))); rw [h00]; exact lv_at hl 0 rfl
    | 1, hv => cases hv; exact lv_at hl 1 rfl
    | 2, hv => cases hv; exact lv_at hl 2 rfl
    | 3, hv => cases hv
    | i + 4, hv => cases hv⟩
  exact t_Mo_init l (q := q) (c := c) (Q := fun v N => v = none ∧ N = mo_M q c) ⟨rfl, rfl⟩ p e _ s m args below meth cd H locs _ _ ls ad' cs D A _
    ⟨X.1, X.2.1, X.2.2.1, X.2.2.2.1, X.2.2.2.2.1, X.2.2.2.2.2.1, X.2.2.2.2.2.2.1, X.2.2.2.2.2.2.2.1, X.2.2.2.2.2.2.2.2.1, Nat.le_refl _, Nat.le_refl _⟩
    ⟨Nat.le_of_ble_eq_true rfl, Nat.le_of_ble_eq_true rfl⟩ hP hD hS hL
    (fun v N t hq hP hD hF hV => by
      obtain ⟨rfl, rfl⟩ := hq
      exact ⟨⟨ad', rfl, h00, hP, va_K.moved hV.alike X.2.2.2.2.2.2.2.1, hD⟩, hF⟩)
