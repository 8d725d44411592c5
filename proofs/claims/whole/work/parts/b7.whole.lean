/-! The law, whole. OPEN: over the class of the static array that is cloned (hopen). -/
theorem va_Pl {D : va_G} {cl : List vw_C} {w1 w2 : va_W} {H : Heap} (h : va_P D cl (w1 ++ w2) H) : va_P D cl w1 H := fun k y hy => h k y (by
  rw [List.getElem?_append_left ((List.getElem?_eq_some_iff.mp hy).1)]
  exact hy)
theorem va_Pr {D : va_G} {cl : List vw_C} {w1 w2 : va_W} {H : Heap} (h : va_P D cl (w1 ++ w2) H) : va_P D cl w2 H := fun k y hy => h (w1.length + k) y (by
  rw [List.getElem?_append_right (by omega), Nat.add_sub_cancel_left]
  exact hy)
theorem va_Dl {A : Nat → Prop} {w1 w2 : va_W} (h : va_D A (w1 ++ w2)) : va_D A w1 := ⟨fun i j x y hi hj hxy => h.1 i j x y (by
  rw [List.getElem?_append_left ((List.getElem?_eq_some_iff.mp hi).1)]
  exact hi) (by
  rw [List.getElem?_append_left ((List.getElem?_eq_some_iff.mp hj).1)]
  exact hj) hxy, fun k y hy => h.2 k y (by
  rw [List.getElem?_append_left ((List.getElem?_eq_some_iff.mp hy).1)]
  exact hy)⟩
theorem va_Dr {A : Nat → Prop} {w1 w2 : va_W} (h : va_D A (w1 ++ w2)) : va_D A w2 := ⟨fun i j x y hi hj hxy => by
  have := h.1 (w1.length + i) (w1.length + j) x y (by
    rw [List.getElem?_append_right (by omega), Nat.add_sub_cancel_left]
    exact hi) (by
    rw [List.getElem?_append_right (by omega), Nat.add_sub_cancel_left]
    exact hj) hxy
  omega, fun k y hy => h.2 (w1.length + k) y (by
  rw [List.getElem?_append_right (by omega), Nat.add_sub_cancel_left]
  exact hy)⟩
theorem va_Dx {A : Nat → Prop} {cs : Nat → ClassId} {ad ad2 : Nat → Nat} {M N : kz_M} (h : va_D A (kz_W sC ad cs M ++ kz_W sR ad2 cs N)) : ∀ i j, i < 59 → j < 23 → ad i ≠ ad2 j := fun i j hi hj e => by
  have h1 : (kz_W sC ad cs M)[i]? = some (ad i, kz_en sC.2.2.1 ad cs M i (sC.2.1.getD i (.inl (0, 0)))) := gw_at (n := sC.2.1.length) i hi
  have h2 : (kz_W sR ad2 cs N)[j]? = some (ad2 j, kz_en sR.2.2.1 ad2 cs N j (sR.2.1.getD j (.inl (0, 0)))) := gw_at (n := sR.2.1.length) j hj
  have hl : (kz_W sC ad cs M).length = 59 := kz_W_len
  have := h.1 i (59 + j) _ _ (by
    rw [List.getElem?_append_left (by omega)]
    exact h1) (by
    rw [List.getElem?_append_right (by omega), hl, Nat.add_sub_cancel_left]
    exact h2) e
  omega
set_option maxRecDepth 100000 in
set_option maxHeartbeats 1000000 in
theorem whole_start_open {p : Program} {e : Env} {s : State} {m : MethodId} {below : List Frame} {meth : Method} {c : Code} (l : Launch) {b L : Nat} {xs : Nat → Int32} (hL : L ≤ 2050) (C0 : lw_At p s m meth c b L xs) (hopen : (Cond.exactly lw_ft "[I").before #[Value.ref b] s = true) : W p l e room_1 s m #[Value.ref b] below meth c s.heap [] 0 0 (lw_Z below #[Value.ref b] s) (entryFrame m ([Value.ref b] : List Value).toArray 4) := by
  obtain ⟨hx, hb, hr, hml, hown, hts, hX, hbl, hlk, hgv⟩ := C0
  have htb : ∀ w ∈ bw_tbl, w.before #[Value.ref b] s = true := fun w hw => hts w (List.mem_filter.mp hw).1
  have h1 : ∀ (i : Nat) (w : Cond), tables_1_1[i]? = some w → w.before #[Value.ref b] s = true := fun i w hi => hts w (List.mem_append_right _ (List.mem_append_left _ (List.mem_of_getElem? hi)))
  obtain ⟨D, cs, hK⟩ := lw_K htb (h1 143 _ rfl)
  have hA : ∀ q, s.heap.size ≤ q → (fun q => s.heap.size ≤ q) q := fun q h => h
  have hbx : bkx cs (fun q => s.heap.size ≤ q) s := ⟨lw_bx hK hts hgv hopen, h1 143 _ rfl, va_Nw.of rfl (h1 82 _ rfl), va_Nw.of rfl (h1 96 _ rfl), va_Nw.of rfl (h1 125 _ rfl), va_Nw.of rfl (h1 138 _ rfl)⟩
  have X : lw_X p room_1 s m #[Value.ref b] c D cs (fun q => s.heap.size ≤ q) b L xs := ⟨hx, hb, hml, hown, htb, hK, hA, hX, hbl, by omega, hL, Nat.le_refl _, Nat.le_refl _⟩
  have hl := lv_entry ([.ref b]) (n := 4) (Nat.le_of_ble_eq_true rfl)
  rw [lg_entry_eq]
  generalize (lg_sl ([.ref b]) ++ List.replicate (4 - (lg_sl ([.ref b])).length) Slot.unset).toArray = ls at hl ⊢
  have hl : lv_has ls 4 [(0, .ref b)] := hl
  have hS : va_S (fun q => s.heap.size ≤ q) s.heap s.heap [] := va_S.rf
  have hP0 : va_P D nm_cl (gw_W 0 (fun _ => 0) (fun _ => .inr (0, []))) s.heap := fun k y hy => by cases hy
  have hD0 : va_D (fun q => s.heap.size ≤ q) (gw_W 0 (fun _ => 0) (fun _ => .inr (0, []))) := ⟨(fun i j x y hi => by cases hi), (fun k y hy => by cases hy)⟩
  refine va_new (ci := 5) (fs := fs_Bk) hx hb htb nm_w5 nm_y5 nm_o5 hown (htb _ (bw_mem1 12 rfl rfl)) (htb _ (bw_mem1 13 rfl rfl)) (htb _ (bw_mem1 1 rfl rfl)) hK hP0 hD0 hS hA rfl (fun j hj => by
    match j, hj with
    | 0, _ => rfl
    | 1, _ => rfl
    | 2, _ => rfl
    | 3, _ => rfl
    | 4, _ => rfl
    | 5, _ => rfl
    | 6, _ => rfl
    | 7, _ => rfl
    | 8, _ => rfl
    | 9, _ => rfl
    | 10, _ => rfl
    | 11, _ => rfl
    | 12, _ => rfl
    | 13, _ => rfl
    | 14, _ => rfl
    | j + 15, hj => exact absurd hj (by omega)) (Nat.le_of_ble_eq_true rfl) (Nat.le_of_ble_eq_true rfl) d_Lw_0 (fun q H hP hD hS => ?_)
  refine lv_dup hx hb d_Lw_3 rfl ?_
  refine lv_aload_n hx hb d_Lw_4 rfl (lv_at hl 0 rfl) ?_
  refine lv_iconst (v := 0) hx hb d_Lw_5 (by decide) ?_
  refine lw_cellcall X hS (by decide) ⟨Nat.le_of_ble_eq_true rfl, Nat.le_of_ble_eq_true rfl⟩ hl.1 (Nat.le_of_ble_eq_true rfl) d_Lw_6 (fun H locs kp _ hS => ?_)
  have hP := kp _ hP
  refine lv_aload_n hx hb d_Lw_9 rfl (lv_at hl 0 rfl) ?_
  refine lv_iconst (v := 1) hx hb d_Lw_10 (by decide) ?_
  refine lw_cellcall X hS (by decide) ⟨Nat.le_of_ble_eq_true rfl, Nat.le_of_ble_eq_true rfl⟩ hl.1 (Nat.le_of_ble_eq_true rfl) d_Lw_11 (fun H locs kp _ hS => ?_)
  have hP := kp _ hP
  refine cz_call (hx := hx) (mi := m_Lw) hb hml hown htb hK hA (c_Bk_init l (lw_cv L xs 0) (lw_cv L xs 1)) bkx_ok hbx rfl rfl ⟨(fun k y hy => by cases hy), hD0, hS⟩ hP hD (Or.inl (bw_mem1 14 rfl rfl)) (bw_mem1 1 rfl rfl) (bw_mem1 16 rfl rfl) (bw_mem1 15 rfl rfl) ⟨by decide, by decide, (show _ = some 2 by decide +kernel)⟩ ⟨by decide, by decide⟩ ⟨Nat.le_of_ble_eq_true rfl, Nat.le_of_ble_eq_true rfl⟩ hl.1 (rest := [.ref q]) rfl (Nat.le_of_ble_eq_true rfl) d_Lw_14 (fun ad H locs had hP hD hS => ?_)
  have hPC : va_P D nm_cl (kz_W sC ad cs (bk_M (lw_cv L xs 0) (lw_cv L xs 1))) H := hP
  have hDC : va_D (fun q => s.heap.size ≤ q) (kz_W sC ad cs (bk_M (lw_cv L xs 0) (lw_cv L xs 1))) := hD
  have hSC := hS
  subst had
  refine lv_astore_n (nL := 4) hx hb d_Lw_17 rfl hl (by decide) rfl (fun ls hl => ?_)
  have hl : lv_has ls 4 [(1, .ref (ad 0)), (0, .ref b)] := hl
  have hP := hPC
  have hD := hDC
  have hS := hSC
  refine va_new (ci := 6) (fs := fs_Mo) hx hb htb nm_w6 nm_y6 nm_o6 hown (htb _ (bw_mem3 44 rfl rfl)) (htb _ (bw_mem3 45 rfl rfl)) (htb _ (bw_mem1 8 rfl rfl)) hK hP hD hS hA rfl (fun j hj => by
    have : ∀ j, j < 41 → defaultValue (nm_y6 j) = vp_V fs_Mo j := by decide +kernel
    exact this j hj) (Nat.le_of_ble_eq_true rfl) (Nat.le_of_ble_eq_true rfl) d_Lw_18 (fun q2 H hP hD hS => ?_)
  refine lv_dup hx hb d_Lw_21 rfl ?_
  refine lv_aload_n hx hb d_Lw_22 rfl (lv_at hl 1 rfl) ?_
  refine lv_iconst (v := 0) hx hb d_Lw_23 (by decide) ?_
  refine lw_cellcall X hS (by decide) ⟨Nat.le_of_ble_eq_true rfl, Nat.le_of_ble_eq_true rfl⟩ hl.1 (Nat.le_of_ble_eq_true rfl) d_Lw_24 (fun H locs kp _ hS => ?_)
  have hP := kp _ hP
  refine lv_aload_n hx hb d_Lw_27 rfl (lv_at hl 1 rfl) ?_
  refine lv_iconst (v := 1) hx hb d_Lw_28 (by decide) ?_
  refine lw_cellcall X hS (by decide) ⟨Nat.le_of_ble_eq_true rfl, Nat.le_of_ble_eq_true rfl⟩ hl.1 (Nat.le_of_ble_eq_true rfl) d_Lw_29 (fun H locs kp _ hS => ?_)
  have hP := kp _ hP
  have hP1 : va_P D nm_cl (kz_W sC ad cs (bk_M (lw_cv L xs 0) (lw_cv L xs 1))) H := va_Pl hP
  refine cz_call (hx := hx) (mi := m_Lw) (n := sC.2.1.length) (ad := ad) (E := fun k => kz_en sC.2.2.1 ad cs (bk_M (lw_cv L xs 0) (lw_cv L xs 1)) k (sC.2.1.getD k (.inl (0, 0)))) hb hml hown htb hK hA (c_Mo_init l (lw_cv L xs 0) (lw_cv L xs 1)) nx_ok trivial rfl rfl ⟨hP1, hDC, hS⟩ hP hD (Or.inl (bw_mem3 46 rfl rfl)) (bw_mem1 8 rfl rfl) (bw_mem3 48 rfl rfl) (bw_mem3 47 rfl rfl) ⟨by decide, by decide, (show _ = some 2 by decide +kernel)⟩ ⟨by decide, by decide⟩ ⟨Nat.le_of_ble_eq_true rfl, Nat.le_of_ble_eq_true rfl⟩ hl.1 (rest := [.ref q2]) rfl (Nat.le_of_ble_eq_true rfl) d_Lw_32 (fun ad2 H locs had2 hP hD hS => ?_)
  have hPN : va_P D nm_cl (kz_W sC ad cs (bk_M (lw_cv L xs 0) (lw_cv L xs 1)) ++ kz_W sR ad2 cs (mo_M (lw_cv L xs 0) (lw_cv L xs 1))) H := hP
  have hDN : va_D (fun q => s.heap.size ≤ q) (kz_W sC ad cs (bk_M (lw_cv L xs 0) (lw_cv L xs 1)) ++ kz_W sR ad2 cs (mo_M (lw_cv L xs 0) (lw_cv L xs 1))) := hD
  have hSN := hS
  subst had2
  refine lv_astore_n (nL := 4) hx hb d_Lw_35 rfl hl (by decide) rfl (fun ls hl => ?_)
  refine lv_iconst (v := 2) hx hb d_Lw_36 (by decide) ?_
  refine lv_istore_n (nL := 4) hx hb d_Lw_37 rfl hl (by decide) rfl (fun ls hl => ?_)
  have hl : lv_has ls 4 [(3, .int (nI (2 + 4 * 0))), (2, .ref (ad2 0)), (1, .ref (ad 0)), (0, .ref b)] := hl
  exact lw_loop X hr hlk ⟨Nat.le_of_ble_eq_true rfl, Nat.le_of_ble_eq_true rfl⟩ 513 0 _ _ H locs ls rfl (z_start _ _) ⟨va_Pl hPN, va_Dl hDN, va_Pr hPN, va_Dr hDN, va_Dx hDN, hSN⟩ hl
