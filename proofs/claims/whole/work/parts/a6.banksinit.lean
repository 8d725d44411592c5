/-! Building: the banks' constructor, by program (wip/whole/gen_k4.py). OPEN: it leans on the class of the static array that is cloned (bx). -/
def bx : (Nat → ClassId) → (Nat → Prop) → State → Prop := fun cs A U => va_Nw (.fieldLinkNest "BankKeeper$Banks" 9 "BankKeeper" "FIRST_TIMINGS" "[I" "BankKeeper") U ∧ va_Nw (.castable "[I" "java/lang/Cloneable") U ∧ ∃ (tf : Nat) (cell : Cell), va_Z "BankKeeper" "FIRST_TIMINGS" "[I" (.ref tf) A U U.heap ∧ U.heap[tf]? = some cell ∧ (∀ k, cell.vm ≠ .statics k) ∧ cell.vm ≠ .unknown ∧ cell.cls = cs 0 ∧ cell.slots.size = 14 ∧ (∀ j, j < 14 → cell.slots[j]? = some (.int (nI (mo_f j)))) ∧ ¬ A tf
section CZ5
variable {p : Program} {l : Launch} {e : Env} {R : Room} {s : State} {m : MethodId} {args : Array Value} {below : List Frame} {meth : Method} {c : Code} {H : Heap} {locs : List Loc} {cells slots : Nat} {Q : State → Prop}
variable {mi : kz_Me} {pc : Nat} {ls : Array Slot} {rest : List Value} {D : va_G} {cs : Nat → ClassId} {A : Nat → Prop} {n : Nat} {ad : Nat → Nat} {E : Nat → va_E}
theorem cz_clone (X : cz_X mi p s m args meth c D cs A) (h : cz_H D A s n ad E H locs) (hsz : ls.size = mi.2.2.1) {index tf : Nat} {cell : Cell} (hlink : Cond.methodLink mi.1.cls index ⟨"[I", "clone", "()Ljava/lang/Object;"⟩ ∈ bw_tbl) (hcl : va_Nw (.castable "[I" "java/lang/Cloneable") s) (hcell : s.heap[tf]? = some cell) (hns : ∀ k, cell.vm ≠ .statics k) (hkn : cell.vm ≠ .unknown) (hcc : cell.cls = cs 0) (h14 : cell.slots.size = 14) (hel : ∀ j, j < 14 → cell.slots[j]? = some (.int (nI (mo_f j)))) (hA : ¬ A tf)
    (hframes : 1 ≤ R.frames) (hlocals : (rest.map fun v => v.category).sum + 14 ≤ R.locals) (hcells : cells + 1 ≤ R.cells) (hslots : slots + 14 ≤ R.slots) (hdg : decode mi.2.1 pc = .ok (.invokevirtual index, 3))
    (kk : ∀ (q : Nat) (H1 : Heap), cz_H D A s (n + 1) (va_up ad n q) (va_up E n (.inl (cs 0, (14, .inl fun j => nI (mo_f j))))) H1 locs → W p l e R s m args below meth c H1 locs (cells + 1) (slots + 14) Q (F0 m (pc + 3) ls (.ref q :: rest))) : W p l e R s m args below meth c H locs cells slots Q (F0 m pc ls (.ref tf :: rest)) := by
  obtain ⟨hP, hD, hS⟩ := h
  have hlt : tf < s.heap.size := (Array.getElem?_eq_some_iff.mp hcell).1
  have hcellH : H[tf]? = some cell := by rw [hS.2.1 tf hlt hA]; exact hcell
  have hnm : s.vm.findClass "[I" = some cell.cls := by rw [hcc]; exact va_nm_int (X.2.2.2.2.2.2.2.1.2 0 (cs 0, .int) rfl).2
  obtain ⟨c0, t0', f1, f2, f3⟩ := Cond.castable_spec (va_Nw.use (A := args) rfl hcl)
  cases hnm.symm.trans f1
  have hcE : ({ cls := cell.cls, slots := cell.slots } : Cell) = vp_cell (cs 0) (14, .inl fun j => nI (mo_f j)) := by
    rw [hcc]
    show ({ cls := cs 0, slots := cell.slots } : Cell) = arrV (cs 0) 14 (fun j => .int (nI (mo_f j)))
    have hs : cell.slots = (arrV (cs 0) 14 (fun j => .int (nI (mo_f j)))).slots := by
      apply Array.ext_getElem?
      intro i
      by_cases hi : i < 14
      · rw [hel i hi, arrV_read _ _ hi]
      · rw [Array.getElem?_eq_none (by omega), Array.getElem?_eq_none (by rw [arrV_size]; omega)]
    rw [hs]
    rfl
  intro T hT Xs
  obtain ⟨-, kA, hkA, comp, hkind⟩ := State.isArrayOf_alike Xs.warmed.alike ((X.2.2.2.2.2.2.2.1.2 0 (cs 0, .int) rfl).1 0 (fun _ => .null))
  obtain ⟨-, kS, hkS, compS, hkindS⟩ := (X.2.2.2.2.2.2.2.1.2 0 (cs 0, .int) rfl).1 0 (fun _ => .null)
  obtain ⟨vm', X', st⟩ := Xs.cloneArray X.1 X.2.2.2.1 (X.2.2.2.2.1 _ hlink) (X.2.2.2.2.1 _ (bw_mem1 35 rfl rfl)) (X.2.2.2.2.1 _ (bw_mem1 36 rfl rfl)) (X.2.2.2.2.1 _ (bw_mem1 37 rfl rfl)) (X.2.2.2.2.1 _ (bw_mem1 38 rfl rfl)) (a := tf) (cell := cell) (by rw [hT]; exact hcellH) hns hkn hnm f2 f3
    (fun i v hv => by
      rw [hcc]
      have hk' : T.vm.classes[cs 0]? = some kA := hkA
      have hfv : fits .int v = true := by
        by_cases hi : i < 14
        · rw [hel i hi] at hv
          cases hv
          rfl
        · rw [Array.getElem?_eq_none (by omega)] at hv
          cases hv
      simpa [State.fitsSlot, State.slotType?, hk', hkind] using hfv)
    (g := F0 m pc ls (.ref tf :: rest)) rfl (by rw [X.2.2.1]; exact hsz) rfl (by rw [X.2.1]; exact hdg) hframes (by show 2 * 0 + _ + 14 ≤ _; omega) hcells (by rw [h14]; exact hslots) (hloader := by rw [hcc]; exact Vm.clonesLoader_of_array hkS hkindS)
  rw [hcE, h14] at X'
  generalize hH1 : H.push (vp_cell (cs 0) (14, .inl fun j => nI (mo_f j))) = H1
  have z1 : H1.size = H.size + 1 := by rw [← hH1, Array.size_push]
  have e1 : H1[H.size]? = some (vp_cell (cs 0) (14, .inl fun j => nI (mo_f j))) := by rw [← hH1, Array.getElem?_push_size]
  have o1 : ∀ q : Nat, q < H.size → H1[q]? = H[q]? := fun q hq => by rw [← hH1, Array.getElem?_push, if_neg (Nat.ne_of_lt hq)]
  have hk : ∀ (k : Nat) (y : Nat × va_E), (gw_W n ad E)[k]? = some y → H1[y.1]? = H[y.1]? := fun k y hy => o1 y.1 ((hP k y hy).lt)
  have hP1 : va_P D nm_cl (gw_W n ad E ++ [(H.size, .inl (cs 0, (14, .inl fun j => nI (mo_f j))))]) H1 := (hP.kept hk).app (fun k y hy => by
    have hz : k < 1 := (List.getElem?_eq_some_iff.mp hy).1
    rw [show k = 0 by omega] at hy
    cases hy
    exact e1)
  have hD1 : va_D A (gw_W n ad E ++ [(H.size, .inl (cs 0, (14, .inl fun j => nI (mo_f j))))]) := hD.push hP rfl (X.2.2.2.2.2.2.2.2.1 _ hS.1)
  rw [gw_push] at hP1 hD1
  obtain ⟨t, b1, b2⟩ := kk H.size H1 ⟨hP1, hD1, Nat.le_trans hS.1 (by omega), fun y h1 h2 => (o1 y (Nat.lt_of_lt_of_le h1 hS.1)).trans (hS.2.1 y h1 h2), hS.2.2⟩ ((T.setVm vm').pushCell (vp_cell (cs 0) (14, .inl fun j => nI (mo_f j)))) (by rw [← hH1, ← hT]; rfl) X'
  refine ⟨t, st t ?_, b2⟩
  rw [hcE, hT]
  exact b1
end CZ5
def s_Ba : kz_Sy := (nm_cl, [.inr (0, [3, 3, 3, 3, 3, 3, 3, 0, 0, 0, 0, 1]), .inl (0, 14), .inl (0, 4), .inl (0, 4), .inl (0, 4), .inl (0, 4), .inl (0, 4), .inl (0, 4)], fun k j => match k with | 0 => (if j < 7 then some (j + 1) else none) | _ => none, bw_tbl)
def ba_0 : kz_M := (fun k j => if k = 1 then nI (mo_f j) else if k = 0 ∧ 7 ≤ j ∧ j ≤ 10 then -1000000 else 0, fun _ _ => 0)
def ba_M : kz_M := kz_fl (kz_fl (kz_fl (kz_fl (kz_fl (kz_fl ba_0 2 4 (fun _ => -1)) 3 4 (fun _ => -1000000)) 4 4 (fun _ => -1000000)) 5 4 (fun _ => -1000000)) 6 4 (fun _ => -1000000)) 7 4 (fun _ => -1000000)
set_option maxRecDepth 100000 in
set_option maxHeartbeats 1000000 in
theorem lt_Ba1 (l : Launch) {M : kz_M}  {Q : Option Value → kz_M → Prop} (hQ : kz_G l s_Ba m_Ba_init 135 [some (.ref 0), some (.int (nI 4))] [] (kz_fl (kz_fl (kz_fl (kz_fl (kz_fl M 2 4 (fun _ => -1)) 3 4 (fun _ => -1000000)) 4 4 (fun _ => -1000000)) 5 4 (fun _ => -1000000)) 6 4 (fun _ => -1000000)) Q) : ∀ (n i : Nat), i + n = 4 → kz_G l s_Ba m_Ba_init 85 [some (.ref 0), some (.int (nI i))] [] (kz_fl (kz_fl (kz_fl (kz_fl (kz_fl M 2 i (fun _ => -1)) 3 i (fun _ => -1000000)) 4 i (fun _ => -1000000)) 5 i (fun _ => -1000000)) 6 i (fun _ => -1000000)) Q := by
  intro n
  induction n with
  | zero =>
    intro i hi
    obtain rfl : i = 4 := by omega
    refine kz_iload_n d_Ba_init_85 rfl rfl ?_
    refine kz_iconst (v := 4) d_Ba_init_86 (by decide) rfl ?_
    refine kz_icmp_ge (tgt := 135) d_Ba_init_87 (by decide) rfl (fun h => ?_) (fun h => ?_)
    · exact hQ
    · exact absurd (Int32.le_refl _) h
  | succ n ih =>
    intro i hi
    refine kz_iload_n d_Ba_init_85 rfl rfl ?_
    refine kz_iconst (v := 4) d_Ba_init_86 (by decide) rfl ?_
    refine kz_icmp_ge (tgt := 135) d_Ba_init_87 (by decide) rfl (fun h => ?_) (fun h => ?_)
    · exact absurd (show nI 4 ≤ nI i from h) (nI_ge (by omega) (by decide))
    · refine kz_aload_n d_Ba_init_90 rfl rfl ?_
      refine kz_getR fd_Ba_23 rfl rfl rfl d_Ba_init_91 rfl ?_
      refine kz_iload_n d_Ba_init_94 rfl rfl ?_
      refine kz_iconst (v := -1) d_Ba_init_95 (by decide) rfl ?_
      refine kz_iast (j := i) rfl (vp_in_nI (by omega) (by decide)) (nI_clamp (by omega)) d_Ba_init_96 rfl ?_
      refine kz_aload_n d_Ba_init_97 rfl rfl ?_
      refine kz_getR fd_Ba_26 rfl rfl rfl d_Ba_init_98 rfl ?_
      refine kz_iload_n d_Ba_init_101 rfl rfl ?_
      refine kz_ldc (v := -1000000) d_Ba_init_102 (bw_mem1 41 rfl rfl) rfl ?_
      refine kz_iast (j := i) rfl (vp_in_nI (by omega) (by decide)) (nI_clamp (by omega)) d_Ba_init_104 rfl ?_
      refine kz_aload_n d_Ba_init_105 rfl rfl ?_
      refine kz_getR fd_Ba_29 rfl rfl rfl d_Ba_init_106 rfl ?_
      refine kz_iload_n d_Ba_init_109 rfl rfl ?_
      refine kz_ldc (v := -1000000) d_Ba_init_110 (bw_mem1 41 rfl rfl) rfl ?_
      refine kz_iast (j := i) rfl (vp_in_nI (by omega) (by decide)) (nI_clamp (by omega)) d_Ba_init_112 rfl ?_
      refine kz_aload_n d_Ba_init_113 rfl rfl ?_
      refine kz_getR fd_Ba_32 rfl rfl rfl d_Ba_init_114 rfl ?_
      refine kz_iload_n d_Ba_init_117 rfl rfl ?_
      refine kz_ldc (v := -1000000) d_Ba_init_118 (bw_mem1 41 rfl rfl) rfl ?_
      refine kz_iast (j := i) rfl (vp_in_nI (by omega) (by decide)) (nI_clamp (by omega)) d_Ba_init_120 rfl ?_
      refine kz_aload_n d_Ba_init_121 rfl rfl ?_
      refine kz_getR fd_Ba_35 rfl rfl rfl d_Ba_init_122 rfl ?_
      refine kz_iload_n d_Ba_init_125 rfl rfl ?_
      refine kz_ldc (v := -1000000) d_Ba_init_126 (bw_mem1 41 rfl rfl) rfl ?_
      refine kz_iast (j := i) rfl (vp_in_nI (by omega) (by decide)) (nI_clamp (by omega)) d_Ba_init_128 rfl ?_
      refine kz_iinc d_Ba_init_129 rfl rfl (Nat.le_of_ble_eq_true rfl) (kz_inc i) rfl ?_
      refine kz_goto (tgt := 85) d_Ba_init_132 (by decide) ?_
      refine kz_memq2 ?_ (ih (i + 1) (by omega))
      rw [kz_flu (by decide), kz_flu (by decide), kz_flu (by decide), kz_flu (by decide), kz_fls rfl, kz_flu (by decide), kz_flu (by decide), kz_flu (by decide), kz_fls rfl, kz_flu (by decide), kz_flu (by decide), kz_fls rfl, kz_flu (by decide), kz_fls rfl, kz_fls rfl]
set_option maxRecDepth 100000 in
set_option maxHeartbeats 1000000 in
theorem lt_Ba2 (l : Launch) {M : kz_M}  {Q : Option Value → kz_M → Prop} (hQ : kz_G l s_Ba m_Ba_init 156 [some (.ref 0), some (.int (nI 4))] [] (kz_fl M 7 4 (fun _ => -1000000)) Q) : ∀ (n i : Nat), i + n = 4 → kz_G l s_Ba m_Ba_init 137 [some (.ref 0), some (.int (nI i))] [] (kz_fl M 7 i (fun _ => -1000000)) Q := by
  intro n
  induction n with
  | zero =>
    intro i hi
    obtain rfl : i = 4 := by omega
    refine kz_iload_n d_Ba_init_137 rfl rfl ?_
    refine kz_iconst (v := 4) d_Ba_init_138 (by decide) rfl ?_
    refine kz_icmp_ge (tgt := 156) d_Ba_init_139 (by decide) rfl (fun h => ?_) (fun h => ?_)
    · exact hQ
    · exact absurd (Int32.le_refl _) h
  | succ n ih =>
    intro i hi
    refine kz_iload_n d_Ba_init_137 rfl rfl ?_
    refine kz_iconst (v := 4) d_Ba_init_138 (by decide) rfl ?_
    refine kz_icmp_ge (tgt := 156) d_Ba_init_139 (by decide) rfl (fun h => ?_) (fun h => ?_)
    · exact absurd (show nI 4 ≤ nI i from h) (nI_ge (by omega) (by decide))
    · refine kz_aload_n d_Ba_init_142 rfl rfl ?_
      refine kz_getR fd_Ba_38 rfl rfl rfl d_Ba_init_143 rfl ?_
      refine kz_iload_n d_Ba_init_146 rfl rfl ?_
      refine kz_ldc (v := -1000000) d_Ba_init_147 (bw_mem1 41 rfl rfl) rfl ?_
      refine kz_iast (j := i) rfl (vp_in_nI (by omega) (by decide)) (nI_clamp (by omega)) d_Ba_init_149 rfl ?_
      refine kz_iinc d_Ba_init_150 rfl rfl (Nat.le_of_ble_eq_true rfl) (kz_inc i) rfl ?_
      refine kz_goto (tgt := 137) d_Ba_init_153 (by decide) ?_
      refine kz_memq2 ?_ (ih (i + 1) (by omega))
      rw [kz_fls rfl]
set_option maxRecDepth 100000 in
set_option maxHeartbeats 1000000 in
theorem t_Ba_init (l : Launch) {Q : Option Value → kz_M → Prop} (hQ : Q none ba_M) : kz_G l s_Ba m_Ba_init 83 [some (.ref 0), none] [] ba_0 Q := by
  refine kz_iconst (v := 0) d_Ba_init_83 (by decide) rfl ?_
  refine kz_istore_n (i := 1) d_Ba_init_84 rfl rfl (Nat.le_of_ble_eq_true rfl) rfl ?_
  refine kz_memq2 ((kz_fl0 (k := 6) (f := fun _ => -1000000)).trans ((kz_fl0 (k := 5) (f := fun _ => -1000000)).trans ((kz_fl0 (k := 4) (f := fun _ => -1000000)).trans ((kz_fl0 (k := 3) (f := fun _ => -1000000)).trans (kz_fl0 (k := 2) (f := fun _ => -1)))))).symm (lt_Ba1 l ?_ 4 0 rfl)
  refine kz_iconst (v := 0) d_Ba_init_135 (by decide) rfl ?_
  refine kz_istore_n (i := 1) d_Ba_init_136 rfl rfl (Nat.le_of_ble_eq_true rfl) rfl ?_
  refine kz_memq2 (kz_fl0 (k := 7) (f := fun _ => -1000000)).symm (lt_Ba2 l ?_ 4 0 rfl)
  exact kz_vret rfl d_Ba_init_156 hQ
def fs_Ba : List Value := [.null, .null, .null, .null, .null, .null, .null, .int 0, .int 0, .int 0, .int 0, .int 0]
def F_Ba (j : Nat) : Value := fs_Ba.getD j .null
set_option maxRecDepth 100000 in
set_option maxHeartbeats 1000000 in
theorem c_Ba_init (l : Launch) : cz_T l m_Ba_init 0 fs_Ba bx [] s_Ba ba_M 7 38 := by
  refine cz_intro (by decide +kernel) rfl rfl ?_
  intro p e s m args below meth cd D cs h0 A X h hbx
  obtain ⟨hfl, hca, tf, cell, hZ, hcell, hns, hkn, hcc, h14, hel, hnA⟩ := hbx
  have hl := lv_entry ([.ref h0]) (n := 2) (Nat.le_of_ble_eq_true rfl)
  show W p l e _ s m args below meth cd s.heap [] 0 0 _ (F0 m 0 ((lg_sl ([.ref h0]) ++ List.replicate (2 - (lg_sl ([.ref h0])).length) Slot.unset).toArray) [])
  generalize (lg_sl ([.ref h0]) ++ List.replicate (2 - (lg_sl ([.ref h0])).length) Slot.unset).toArray = ls at hl ⊢
  have hl : lv_has ls 2 [(0, .ref h0)] := hl
  refine lv_aload_n X.1 X.2.1 d_Ba_init_0 rfl (lv_at hl 0 rfl) ?_
  refine cz_obj X (bw_mem1 31 rfl rfl) hl.1 d_Ba_init_1 (Nat.le_refl _) (by decide) ?_
  refine lv_aload_n X.1 X.2.1 d_Ba_init_4 rfl (lv_at hl 0 rfl) ?_
  refine va_getsN X.1 X.2.1 hZ h.2.2 X.2.2.2.1 (va_Nw.use rfl hfl) (fun _ z => z) d_Ba_init_5 ?_
  refine cz_clone X h hl.1 (bw_mem1 34 rfl rfl) hca hcell hns hkn hcc h14 hel hnA (Nat.le_refl _) (Nat.le_of_ble_eq_true rfl) (Nat.le_of_ble_eq_true rfl) (Nat.le_of_ble_eq_true rfl) d_Ba_init_8 (fun q1 H h => ?_)
  refine va_castA X.1 X.2.1 X.2.2.2.1 (X.2.2.2.2.1 _ (bw_mem1 40 rfl rfl)) h.1 1 (gw_at 1 (by decide)) (va_nm_int (X.2.2.2.2.2.2.2.1.2 0 (cs 0, .int) rfl).2) d_Ba_init_11 ?_
  refine cz_putF X h (by decide) (F := F_Ba) (N := 12) rfl rfl fd_Ba_18 rfl rfl rfl (by decide) d_Ba_init_14 (fun H locs F1 E1 eF1 eE1 hE1 h => ?_)
  obtain ⟨ad1, ea1⟩ : ∃ ad1 : Nat → Nat, ad1 = va_up (fun _ => h0) 1 q1 := ⟨_, rfl⟩
  have ha1 : ad1 0 = h0 := by rw [ea1]; rfl
  rw [← ea1] at h
  refine lv_aload_n X.1 X.2.1 d_Ba_init_17 rfl (lv_at hl 0 rfl) ?_
  refine lv_iconst (v := 4) X.1 X.2.1 d_Ba_init_18 (by decide) ?_
  refine cz_arrF X h (by decide) hE1 ha1 (atype := .int) (ty := .int) (t := 0) (len := 4) (a0 := (4, .inl fun _ => 0)) rfl (Or.inl ⟨rfl, rfl⟩) (fun cA => rfl) m_ai (by decide) (by decide) (Nat.le_of_ble_eq_true rfl) (Nat.le_of_ble_eq_true rfl) rfl d_Ba_init_19 fd_Ba_23 rfl (by decide) d_Ba_init_21 (fun q2 H locs ad2 F2 E2 ea2 ha2 eF2 eE2 hE2 h => ?_)
  refine lv_aload_n X.1 X.2.1 d_Ba_init_24 rfl (lv_at hl 0 rfl) ?_
  refine lv_iconst (v := 4) X.1 X.2.1 d_Ba_init_25 (by decide) ?_
  refine cz_arrF X h (by decide) hE2 ha2 (atype := .int) (ty := .int) (t := 0) (len := 4) (a0 := (4, .inl fun _ => 0)) rfl (Or.inl ⟨rfl, rfl⟩) (fun cA => rfl) m_ai (by decide) (by decide) (Nat.le_of_ble_eq_true rfl) (Nat.le_of_ble_eq_true rfl) rfl d_Ba_init_26 fd_Ba_26 rfl (by decide) d_Ba_init_28 (fun q3 H locs ad3 F3 E3 ea3 ha3 eF3 eE3 hE3 h => ?_)
  refine lv_aload_n X.1 X.2.1 d_Ba_init_31 rfl (lv_at hl 0 rfl) ?_
  refine lv_iconst (v := 4) X.1 X.2.1 d_Ba_init_32 (by decide) ?_
  refine cz_arrF X h (by decide) hE3 ha3 (atype := .int) (ty := .int) (t := 0) (len := 4) (a0 := (4, .inl fun _ => 0)) rfl (Or.inl ⟨rfl, rfl⟩) (fun cA => rfl) m_ai (by decide) (by decide) (Nat.le_of_ble_eq_true rfl) (Nat.le_of_ble_eq_true rfl) rfl d_Ba_init_33 fd_Ba_29 rfl (by decide) d_Ba_init_35 (fun q4 H locs ad4 F4 E4 ea4 ha4 eF4 eE4 hE4 h => ?_)
  refine lv_aload_n X.1 X.2.1 d_Ba_init_38 rfl (lv_at hl 0 rfl) ?_
  refine lv_iconst (v := 4) X.1 X.2.1 d_Ba_init_39 (by decide) ?_
  refine cz_arrF X h (by decide) hE4 ha4 (atype := .int) (ty := .int) (t := 0) (len := 4) (a0 := (4, .inl fun _ => 0)) rfl (Or.inl ⟨rfl, rfl⟩) (fun cA => rfl) m_ai (by decide) (by decide) (Nat.le_of_ble_eq_true rfl) (Nat.le_of_ble_eq_true rfl) rfl d_Ba_init_40 fd_Ba_32 rfl (by decide) d_Ba_init_42 (fun q5 H locs ad5 F5 E5 ea5 ha5 eF5 eE5 hE5 h => ?_)
  refine lv_aload_n X.1 X.2.1 d_Ba_init_45 rfl (lv_at hl 0 rfl) ?_
  refine lv_iconst (v := 4) X.1 X.2.1 d_Ba_init_46 (by decide) ?_
  refine cz_arrF X h (by decide) hE5 ha5 (atype := .int) (ty := .int) (t := 0) (len := 4) (a0 := (4, .inl fun _ => 0)) rfl (Or.inl ⟨rfl, rfl⟩) (fun cA => rfl) m_ai (by decide) (by decide) (Nat.le_of_ble_eq_true rfl) (Nat.le_of_ble_eq_true rfl) rfl d_Ba_init_47 fd_Ba_35 rfl (by decide) d_Ba_init_49 (fun q6 H locs ad6 F6 E6 ea6 ha6 eF6 eE6 hE6 h => ?_)
  refine lv_aload_n X.1 X.2.1 d_Ba_init_52 rfl (lv_at hl 0 rfl) ?_
  refine lv_iconst (v := 4) X.1 X.2.1 d_Ba_init_53 (by decide) ?_
  refine cz_arrF X h (by decide) hE6 ha6 (atype := .int) (ty := .int) (t := 0) (len := 4) (a0 := (4, .inl fun _ => 0)) rfl (Or.inl ⟨rfl, rfl⟩) (fun cA => rfl) m_ai (by decide) (by decide) (Nat.le_of_ble_eq_true rfl) (Nat.le_of_ble_eq_true rfl) rfl d_Ba_init_54 fd_Ba_38 rfl (by decide) d_Ba_init_56 (fun q7 H locs ad7 F7 E7 ea7 ha7 eF7 eE7 hE7 h => ?_)
  refine lv_aload_n X.1 X.2.1 d_Ba_init_59 rfl (lv_at hl 0 rfl) ?_
  refine lv_ldc X.1 X.2.1 X.2.2.2.1 (X.2.2.2.2.1 _ (bw_mem1 41 rfl rfl)) d_Ba_init_60 ?_
  refine cz_putF X h (by decide) hE7 ha7 fd_Ba_42 rfl rfl rfl (by decide) d_Ba_init_62 (fun H locs F8 E8 eF8 eE8 hE8 h => ?_)
  refine lv_aload_n X.1 X.2.1 d_Ba_init_65 rfl (lv_at hl 0 rfl) ?_
  refine lv_ldc X.1 X.2.1 X.2.2.2.1 (X.2.2.2.2.1 _ (bw_mem1 41 rfl rfl)) d_Ba_init_66 ?_
  refine cz_putF X h (by decide) hE8 ha7 fd_Ba_46 rfl rfl rfl (by decide) d_Ba_init_68 (fun H locs F9 E9 eF9 eE9 hE9 h => ?_)
  refine lv_aload_n X.1 X.2.1 d_Ba_init_71 rfl (lv_at hl 0 rfl) ?_
  refine lv_ldc X.1 X.2.1 X.2.2.2.1 (X.2.2.2.2.1 _ (bw_mem1 41 rfl rfl)) d_Ba_init_72 ?_
  refine cz_putF X h (by decide) hE9 ha7 fd_Ba_49 rfl rfl rfl (by decide) d_Ba_init_74 (fun H locs F10 E10 eF10 eE10 hE10 h => ?_)
  refine lv_aload_n X.1 X.2.1 d_Ba_init_77 rfl (lv_at hl 0 rfl) ?_
  refine lv_ldc X.1 X.2.1 X.2.2.2.1 (X.2.2.2.2.1 _ (bw_mem1 41 rfl rfl)) d_Ba_init_78 ?_
  refine cz_putF X h (by decide) hE10 ha7 fd_Ba_52 rfl rfl rfl (by decide) d_Ba_init_80 (fun H locs F11 E11 eF11 eE11 hE11 h => ?_)
  have hF : ∀ j, j < 12 → F11 j = kz_fv (fun k j => match k with | 0 => (if j < 7 then some (j + 1) else none) | _ => none) (fun k : Nat => [h0, q1, q2, q3, q4, q5, q6, q7].getD k 0) ba_0 0 j (([3, 3, 3, 3, 3, 3, 3, 0, 0, 0, 0, 1] : List Nat).getD j 0) := fun j hj => by
    subst eF1 eF2 eF3 eF4 eF5 eF6 eF7 eF8 eF9 eF10 eF11
    match j, hj with
    | 0, _ => rfl
    | 1, _ => rfl
    | 2, _ => rfl
    | 3, _ => rfl
    | 4, _ => rfl
    | 5, _ => rfl
    | 6, _ => rfl
    | 7, _ => rfl
    | 8, _ => rfl
    | 9, _ => rfl
    | 10, _ => rfl
    | 11, _ => rfl
    | j + 12, hj => exact absurd hj (by omega)
  have hA : ∀ k, k < 8 → ad7 k = (fun k : Nat => [h0, q1, q2, q3, q4, q5, q6, q7].getD k 0) k := fun k hk => by
    subst ea1 ea2 ea3 ea4 ea5 ea6 ea7
    match k, hk with
    | 0, _ => rfl
    | 1, _ => rfl
    | 2, _ => rfl
    | 3, _ => rfl
    | 4, _ => rfl
    | 5, _ => rfl
    | 6, _ => rfl
    | 7, _ => rfl
    | k + 8, hk => exact absurd hk (by omega)
  have hB : ∀ k, k < 7 → E11 (k + 1) = ([.inl (cs 0, (14, .inl fun j => nI (mo_f j))), .inl (cs 0, (4, .inl fun _ => 0)), .inl (cs 0, (4, .inl fun _ => 0)), .inl (cs 0, (4, .inl fun _ => 0)), .inl (cs 0, (4, .inl fun _ => 0)), .inl (cs 0, (4, .inl fun _ => 0)), .inl (cs 0, (4, .inl fun _ => 0))] : List va_E).getD k (.inr (0, [])) := fun k hk => by
    clear hF hA
    subst eE1 eE2 eE3 eE4 eE5 eE6 eE7 eE8 eE9 eE10 eE11
    match k, hk with
    | 0, _ => rfl
    | 1, _ => rfl
    | 2, _ => rfl
    | 3, _ => rfl
    | 4, _ => rfl
    | 5, _ => rfl
    | 6, _ => rfl
    | k + 7, hk => exact absurd hk (by omega)
  generalize hadd : (fun k : Nat => [h0, q1, q2, q3, q4, q5, q6, q7].getD k 0) = ad' at hF hA
  obtain ⟨hP, hD, hS⟩ := cz_to (sy := s_Ba) (ad' := ad') (M := ba_0) (cs := cs) h (gw_kz rfl (fun k hk => by
    refine ⟨hA k hk, ?_⟩
    cases k with
    | zero =>
      rw [hE11]
      show Sum.inr (0, (List.range 12).map F11) = Sum.inr (0, (List.range 12).map _)
      rw [List.map_congr_left (fun j hj => hF j (List.mem_range.mp hj))]
      rfl
    | succ k =>
      rw [hB k (by omega)]
      match k, hk with
      | 0, _ => rfl
      | 1, _ => rfl
      | 2, _ => rfl
      | 3, _ => rfl
      | 4, _ => rfl
      | 5, _ => rfl
      | 6, _ => rfl
      | k + 7, hk => exact absurd hk (by omega)))
  have h00 : ad' 0 = h0 := by rw [← hadd]; rfl
  have hL : kz_L ad' ls 2 [some (.ref 0), none] := ⟨hl.1, hl.2.1, rfl, fun i v hv => by
    match i, hv with
    | 0, hv => cases hv; show ls[0]? = some (.val (.ref (ad' 0))); rw [h00]; exact lv_at hl 0 rfl
    | 1, hv => cases hv
    | i + 2, hv => cases hv⟩
  exact t_Ba_init l (Q := fun v N => v = none ∧ N = ba_M) ⟨rfl, rfl⟩ p e _ s m args below meth cd H locs _ _ ls ad' cs D A _
    ⟨X.1, X.2.1, X.2.2.1, X.2.2.2.1, X.2.2.2.2.1, X.2.2.2.2.2.1, X.2.2.2.2.2.2.1, X.2.2.2.2.2.2.2.1, X.2.2.2.2.2.2.2.2.1, Nat.le_refl _, Nat.le_refl _⟩
    ⟨Nat.le_of_ble_eq_true rfl, Nat.le_of_ble_eq_true rfl⟩ hP hD hS hL
    (fun v N t hq hP hD hF hV => by
      obtain ⟨rfl, rfl⟩ := hq
      exact ⟨⟨ad', rfl, h00, hP, va_K.moved hV.alike X.2.2.2.2.2.2.2.1, hD⟩, hF⟩)
