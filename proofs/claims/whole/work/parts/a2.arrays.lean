/-! Building: constructors that make arrays alone, by program (wip/whole/gen_k1.py). -/
def s_Li : kz_Sy := (nm_cl, [.inr (2, [3,0]), .inl (0, 8)], fun k j => match k with | 0 => (if j < 1 then some (j + 1) else none) | _ => none, bw_tbl)
set_option maxRecDepth 100000 in
set_option maxHeartbeats 1000000 in
theorem c_Li_init (l : Launch) : cz_T l m_Li_init 2 [.null, .int 0] nx [] s_Li kz_0 1 8 := by
  refine cz_intro (by decide +kernel) rfl rfl ?_
  intro p e s m args below meth c D cs h0 A X h _
  have hl := lv_entry ([.ref h0]) (n := 1) (Nat.le_of_ble_eq_true rfl)
  show W p l e _ s m args below meth c s.heap [] 0 0 _ (F0 m 0 ((lg_sl ([.ref h0]) ++ List.replicate (1 - (lg_sl ([.ref h0])).length) Slot.unset).toArray) [])
  generalize (lg_sl ([.ref h0]) ++ List.replicate (1 - (lg_sl ([.ref h0])).length) Slot.unset).toArray = ls at hl ⊢
  have hl : lv_has ls 1 [(0, .ref h0)] := hl
  refine lv_aload_n X.1 X.2.1 d_Li_init_0 rfl (lv_at hl 0 rfl) ?_
  refine cz_obj X (bw_mem1 128 rfl rfl) hl.1 d_Li_init_1 (Nat.le_refl _) (by decide) ?_
  refine lv_aload_n X.1 X.2.1 d_Li_init_4 rfl (lv_at hl 0 rfl) ?_
  refine lv_bipush (v := 8) X.1 X.2.1 d_Li_init_5 (by decide) ?_
  refine cz_newa X h (atype := .int) (ty := .int) (t := 0) (len := 8) (a0 := (8, .inl fun _ => 0)) rfl (Or.inl ⟨rfl, rfl⟩) (fun cA => rfl) m_ai (by decide) (by decide) (Nat.le_of_ble_eq_true rfl) (Nat.le_of_ble_eq_true rfl) rfl d_Li_init_7 (fun q1 H h => ?_)
  refine cz_put X h 0 (by decide) rfl rfl fd_Li_9 rfl rfl rfl (Nat.le_of_ble_eq_true rfl) d_Li_init_9 (fun H locs h => ?_)
  refine cz_ret X h (ad' := fun k => match k with | 0 => h0  | _ => q1) (gw_kz rfl (fun k hk => ?_)) rfl d_Li_init_12
  match k, hk with
  | 0, _ => exact ⟨rfl, rfl⟩
  | 1, _ => exact ⟨rfl, rfl⟩
def s_St : kz_Sy := (nm_cl, [.inr (4, [3,3]), .inl (2, 256), .inl (0, 256)], fun k j => match k with | 0 => (if j < 2 then some (j + 1) else none) | _ => none, bw_tbl)
set_option maxRecDepth 100000 in
set_option maxHeartbeats 1000000 in
theorem c_St_init (l : Launch) : cz_T l m_St_init 4 [.null, .null] nx [] s_St kz_0 2 512 := by
  refine cz_intro (by decide +kernel) rfl rfl ?_
  intro p e s m args below meth c D cs h0 A X h _
  have hl := lv_entry ([.ref h0]) (n := 1) (Nat.le_of_ble_eq_true rfl)
  show W p l e _ s m args below meth c s.heap [] 0 0 _ (F0 m 0 ((lg_sl ([.ref h0]) ++ List.replicate (1 - (lg_sl ([.ref h0])).length) Slot.unset).toArray) [])
  generalize (lg_sl ([.ref h0]) ++ List.replicate (1 - (lg_sl ([.ref h0])).length) Slot.unset).toArray = ls at hl ⊢
  have hl : lv_has ls 1 [(0, .ref h0)] := hl
  refine lv_aload_n X.1 X.2.1 d_St_init_0 rfl (lv_at hl 0 rfl) ?_
  refine cz_obj X (bw_mem1 85 rfl rfl) hl.1 d_St_init_1 (Nat.le_refl _) (by decide) ?_
  refine lv_aload_n X.1 X.2.1 d_St_init_4 rfl (lv_at hl 0 rfl) ?_
  refine lv_sipush (v := 256) X.1 X.2.1 d_St_init_5 (by decide) ?_
  refine cz_newa X h (atype := .long) (ty := .long) (t := 2) (len := 256) (a0 := (256, .inr (.inl fun _ => 0))) rfl (Or.inr (Or.inr ⟨rfl, rfl⟩)) (fun cA => rfl) m_aj (by decide) (by decide) (Nat.le_of_ble_eq_true rfl) (Nat.le_of_ble_eq_true rfl) rfl d_St_init_8 (fun q1 H h => ?_)
  refine cz_put X h 0 (by decide) rfl rfl fd_St_9 rfl rfl rfl (Nat.le_of_ble_eq_true rfl) d_St_init_10 (fun H locs h => ?_)
  refine lv_aload_n X.1 X.2.1 d_St_init_13 rfl (lv_at hl 0 rfl) ?_
  refine lv_sipush (v := 256) X.1 X.2.1 d_St_init_14 (by decide) ?_
  refine cz_newa X h (atype := .int) (ty := .int) (t := 0) (len := 256) (a0 := (256, .inl fun _ => 0)) rfl (Or.inl ⟨rfl, rfl⟩) (fun cA => rfl) m_ai (by decide) (by decide) (Nat.le_of_ble_eq_true rfl) (Nat.le_of_ble_eq_true rfl) rfl d_St_init_17 (fun q2 H h => ?_)
  refine cz_put X h 0 (by decide) rfl rfl fd_St_15 rfl rfl rfl (Nat.le_of_ble_eq_true rfl) d_St_init_19 (fun H locs h => ?_)
  refine cz_ret X h (ad' := fun k => match k with | 0 => h0 | 1 => q1 | _ => q2) (gw_kz rfl (fun k hk => ?_)) rfl d_St_init_22
  match k, hk with
  | 0, _ => exact ⟨rfl, rfl⟩
  | 1, _ => exact ⟨rfl, rfl⟩
  | 2, _ => exact ⟨rfl, rfl⟩
def s_Re : kz_Sy := (nm_cl, [.inr (3, [3,3,3,3,3,3,0]), .inl (0, 400), .inl (1, 400), .inl (0, 400), .inl (2, 400), .inl (0, 400), .inl (0, 400)], fun k j => match k with | 0 => (if j < 6 then some (j + 1) else none) | _ => none, bw_tbl)
set_option maxRecDepth 100000 in
set_option maxHeartbeats 1000000 in
theorem c_Re_init (l : Launch) : cz_T l m_Re_init 3 [.null, .null, .null, .null, .null, .null, .int 0] nx [] s_Re kz_0 6 2400 := by
  refine cz_intro (by decide +kernel) rfl rfl ?_
  intro p e s m args below meth c D cs h0 A X h _
  have hl := lv_entry ([.ref h0]) (n := 1) (Nat.le_of_ble_eq_true rfl)
  show W p l e _ s m args below meth c s.heap [] 0 0 _ (F0 m 0 ((lg_sl ([.ref h0]) ++ List.replicate (1 - (lg_sl ([.ref h0])).length) Slot.unset).toArray) [])
  generalize (lg_sl ([.ref h0]) ++ List.replicate (1 - (lg_sl ([.ref h0])).length) Slot.unset).toArray = ls at hl ⊢
  have hl : lv_has ls 1 [(0, .ref h0)] := hl
  refine lv_aload_n X.1 X.2.1 d_Re_init_0 rfl (lv_at hl 0 rfl) ?_
  refine cz_obj X (bw_mem1 99 rfl rfl) hl.1 d_Re_init_1 (Nat.le_refl _) (by decide) ?_
  refine lv_aload_n X.1 X.2.1 d_Re_init_4 rfl (lv_at hl 0 rfl) ?_
  refine lv_sipush (v := 400) X.1 X.2.1 d_Re_init_5 (by decide) ?_
  refine cz_newa X h (atype := .int) (ty := .int) (t := 0) (len := 400) (a0 := (400, .inl fun _ => 0)) rfl (Or.inl ⟨rfl, rfl⟩) (fun cA => rfl) m_ai (by decide) (by decide) (Nat.le_of_ble_eq_true rfl) (Nat.le_of_ble_eq_true rfl) rfl d_Re_init_8 (fun q1 H h => ?_)
  refine cz_put X h 0 (by decide) rfl rfl fd_Re_9 rfl rfl rfl (Nat.le_of_ble_eq_true rfl) d_Re_init_10 (fun H locs h => ?_)
  refine lv_aload_n X.1 X.2.1 d_Re_init_13 rfl (lv_at hl 0 rfl) ?_
  refine lv_sipush (v := 400) X.1 X.2.1 d_Re_init_14 (by decide) ?_
  refine cz_newa X h (atype := .boolean) (ty := .boolean) (t := 1) (len := 400) (a0 := (400, .inl fun _ => 0)) rfl (Or.inr (Or.inl ⟨rfl, rfl⟩)) (fun cA => rfl) m_az (by decide) (by decide) (Nat.le_of_ble_eq_true rfl) (Nat.le_of_ble_eq_true rfl) rfl d_Re_init_17 (fun q2 H h => ?_)
  refine cz_put X h 0 (by decide) rfl rfl fd_Re_15 rfl rfl rfl (Nat.le_of_ble_eq_true rfl) d_Re_init_19 (fun H locs h => ?_)
  refine lv_aload_n X.1 X.2.1 d_Re_init_22 rfl (lv_at hl 0 rfl) ?_
  refine lv_sipush (v := 400) X.1 X.2.1 d_Re_init_23 (by decide) ?_
  refine cz_newa X h (atype := .int) (ty := .int) (t := 0) (len := 400) (a0 := (400, .inl fun _ => 0)) rfl (Or.inl ⟨rfl, rfl⟩) (fun cA => rfl) m_ai (by decide) (by decide) (Nat.le_of_ble_eq_true rfl) (Nat.le_of_ble_eq_true rfl) rfl d_Re_init_26 (fun q3 H h => ?_)
  refine cz_put X h 0 (by decide) rfl rfl fd_Re_19 rfl rfl rfl (Nat.le_of_ble_eq_true rfl) d_Re_init_28 (fun H locs h => ?_)
  refine lv_aload_n X.1 X.2.1 d_Re_init_31 rfl (lv_at hl 0 rfl) ?_
  refine lv_sipush (v := 400) X.1 X.2.1 d_Re_init_32 (by decide) ?_
  refine cz_newa X h (atype := .long) (ty := .long) (t := 2) (len := 400) (a0 := (400, .inr (.inl fun _ => 0))) rfl (Or.inr (Or.inr ⟨rfl, rfl⟩)) (fun cA => rfl) m_aj (by decide) (by decide) (Nat.le_of_ble_eq_true rfl) (Nat.le_of_ble_eq_true rfl) rfl d_Re_init_35 (fun q4 H h => ?_)
  refine cz_put X h 0 (by decide) rfl rfl fd_Re_22 rfl rfl rfl (Nat.le_of_ble_eq_true rfl) d_Re_init_37 (fun H locs h => ?_)
  refine lv_aload_n X.1 X.2.1 d_Re_init_40 rfl (lv_at hl 0 rfl) ?_
  refine lv_sipush (v := 400) X.1 X.2.1 d_Re_init_41 (by decide) ?_
  refine cz_newa X h (atype := .int) (ty := .int) (t := 0) (len := 400) (a0 := (400, .inl fun _ => 0)) rfl (Or.inl ⟨rfl, rfl⟩) (fun cA => rfl) m_ai (by decide) (by decide) (Nat.le_of_ble_eq_true rfl) (Nat.le_of_ble_eq_true rfl) rfl d_Re_init_44 (fun q5 H h => ?_)
  refine cz_put X h 0 (by decide) rfl rfl fd_Re_26 rfl rfl rfl (Nat.le_of_ble_eq_true rfl) d_Re_init_46 (fun H locs h => ?_)
  refine lv_aload_n X.1 X.2.1 d_Re_init_49 rfl (lv_at hl 0 rfl) ?_
  refine lv_sipush (v := 400) X.1 X.2.1 d_Re_init_50 (by decide) ?_
  refine cz_newa X h (atype := .int) (ty := .int) (t := 0) (len := 400) (a0 := (400, .inl fun _ => 0)) rfl (Or.inl ⟨rfl, rfl⟩) (fun cA => rfl) m_ai (by decide) (by decide) (Nat.le_of_ble_eq_true rfl) (Nat.le_of_ble_eq_true rfl) rfl d_Re_init_53 (fun q6 H h => ?_)
  refine cz_put X h 0 (by decide) rfl rfl fd_Re_29 rfl rfl rfl (Nat.le_of_ble_eq_true rfl) d_Re_init_55 (fun H locs h => ?_)
  refine cz_ret X h (ad' := fun k => match k with | 0 => h0 | 1 => q1 | 2 => q2 | 3 => q3 | 4 => q4 | 5 => q5 | _ => q6) (gw_kz rfl (fun k hk => ?_)) rfl d_Re_init_58
  match k, hk with
  | 0, _ => exact ⟨rfl, rfl⟩
  | 1, _ => exact ⟨rfl, rfl⟩
  | 2, _ => exact ⟨rfl, rfl⟩
  | 3, _ => exact ⟨rfl, rfl⟩
  | 4, _ => exact ⟨rfl, rfl⟩
  | 5, _ => exact ⟨rfl, rfl⟩
  | 6, _ => exact ⟨rfl, rfl⟩
