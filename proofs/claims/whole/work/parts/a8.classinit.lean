/-! Building: the class's constructor, by program (wip/whole/gen_k5.py). OPEN through the banks' (bx). -/
theorem mm_q (q : Int32) : (if 2 < (if q < 8 then q else 8) then (if q < 8 then q else 8) else 2) = mo_q q := by
  unfold mo_q
  by_cases h : q < 8
  · rw [if_pos h]
    by_cases h2 : 2 < q
    · rw [if_pos h2, if_pos (Int32.le_of_lt h2), if_pos (Int32.le_of_lt h)]
    · rw [if_neg h2]
      by_cases h3 : 2 ≤ q
      · rw [if_pos h3, if_pos (Int32.le_of_lt h)]
        exact Int32.le_antisymm h3 (Int32.not_lt.mp h2)
      · rw [if_neg h3]
  · rw [if_neg h, if_pos (by decide), if_pos (Int32.le_trans (by decide) (Int32.not_lt.mp h))]
    by_cases h3 : q ≤ 8
    · rw [if_pos h3]
      exact Int32.le_antisymm (Int32.not_lt.mp h) h3
    · rw [if_neg h3]
theorem mm_c (q : Int32) : (if 0 < (if q < 300 then q else 300) then (if q < 300 then q else 300) else 0) = mo_c q := by
  unfold mo_c
  by_cases h : q < 300
  · rw [if_pos h]
    by_cases h2 : 0 < q
    · rw [if_pos h2, if_pos (Int32.le_of_lt h2), if_pos (Int32.le_of_lt h)]
    · rw [if_neg h2]
      by_cases h3 : 0 ≤ q
      · rw [if_pos h3, if_pos (Int32.le_of_lt h)]
        exact Int32.le_antisymm h3 (Int32.not_lt.mp h2)
      · rw [if_neg h3]
  · rw [if_neg h, if_pos (by decide), if_pos (Int32.le_trans (by decide) (Int32.not_lt.mp h))]
    by_cases h3 : q ≤ 300
    · rw [if_pos h3]
      exact Int32.le_antisymm (Int32.not_lt.mp h) h3
    · rw [if_neg h3]
def bk_M (q c : Int32) : kz_M := (fun k j => if k = 0 then (if j = 0 then mo_q q else if j = 1 then mo_c c else 0) else if k < 9 then ba_M.1 (k - 1) j else 0, fun _ _ => 0)
theorem bk_0 {q c : Int32} {k j : Nat} (h : 9 ≤ k) : (bk_M q c).1 k j = 0 := by
  simp only [bk_M]
  rw [if_neg (by omega), if_neg (by omega)]
theorem bk_1 {q c : Int32} {k : Nat} (h : k < 8) : (bk_M q c).1 (k + 1) = ba_M.1 k := by
  funext j
  simp only [bk_M]
  rw [if_neg (by omega), if_pos (by omega), Nat.add_sub_cancel]
theorem seg_en {rf rf' : Nat → Nat → Option Nat} {ad ad' : Nat → Nat} {cs : Nat → ClassId} {M M' : kz_M} {k k' : Nat} {sh sh' : kz_Sh} (h : ∀ j, (rf k j).map ad = (rf' k' j).map ad') (h1 : M.1 k = M'.1 k') (h2 : M.2 k = M'.2 k') (hs : sh = sh') : kz_en rf ad cs M k sh = kz_en rf' ad' cs M' k' sh' := by
  subst hs
  have hf : ∀ j kd, kz_fv rf ad M k j kd = kz_fv rf' ad' M' k' j kd := fun j kd => by unfold kz_fv; rw [h1, h2, h j]
  have hc : ∀ t, kz_cn rf ad M k t = kz_cn rf' ad' M' k' t := fun t => by unfold kz_cn; rw [h1, h2, funext h]
  rcases sh with ⟨t, n⟩ | ⟨ci, ks⟩
  · simp only [kz_en, hc]
  · simp only [kz_en, hf]
def bkx : (Nat → ClassId) → (Nat → Prop) → State → Prop := fun cs A U => bx cs A U ∧ jx cs A U ∧ va_Nw (.methodLinkNest "BankKeeper" 34 m_St_init.1 "BankKeeper") U ∧ va_Nw (.methodLinkNest "BankKeeper" 41 m_Re_init.1 "BankKeeper") U ∧ va_Nw (.methodLinkNest "BankKeeper" 48 m_Li_init.1 "BankKeeper") U ∧ va_Nw (.methodLinkNest "BankKeeper" 61 m_Jo_init.1 "BankKeeper") U
theorem bkx_ok : ex_ok bkx := fun cs A A1 s U h hW hz hk hA => ⟨bx_ok cs A A1 s U h.1 hW hz hk hA, jx_ok cs A A1 s U h.2.1 hW hz hk hA, h.2.2.1.warmM hW, h.2.2.2.1.warmM hW, h.2.2.2.2.1.warmM hW, h.2.2.2.2.2.warmM hW⟩
def fs_Bk : List Value := [.int 0, .int 0, .null, .null, .null, .null, .null, .null, .null, .int 0, .int 0, .int 0, .int 0, .int 0, .int 0]
def F_Bk (j : Nat) : Value := fs_Bk.getD j .null
set_option maxRecDepth 100000 in
set_option maxHeartbeats 1000000 in
theorem c_Bk_init (l : Launch) (q c : Int32) : cz_T l m_Bk_init 5 fs_Bk bkx [.int q, .int c] sC (bk_M q c) 58 3197 := by
  refine cz_intro (by decide +kernel) rfl rfl ?_
  intro p e s m args below meth cd D cs h0 A X h hbx
  have hl := lv_entry ([.ref h0, .int q, .int c]) (n := 3) (Nat.le_of_ble_eq_true rfl)
  show W p l e _ s m args below meth cd s.heap [] 0 0 _ (F0 m 0 ((lg_sl ([.ref h0, .int q, .int c]) ++ List.replicate (3 - (lg_sl ([.ref h0, .int q, .int c])).length) Slot.unset).toArray) [])
  generalize (lg_sl ([.ref h0, .int q, .int c]) ++ List.replicate (3 - (lg_sl ([.ref h0, .int q, .int c])).length) Slot.unset).toArray = ls at hl ⊢
  have hl : lv_has ls 3 [(0, .ref h0), (1, .int q), (2, .int c)] := hl
  obtain ⟨E0, eE0⟩ : ∃ E0 : Nat → va_E, E0 = fun _ => .inr (5, fs_Bk) := ⟨_, rfl⟩
  obtain ⟨ad0, ea0⟩ : ∃ ad0 : Nat → Nat, ad0 = fun _ => h0 := ⟨_, rfl⟩
  have ha0 : ad0 0 = h0 := by rw [ea0]
  have hE0 : E0 0 = .inr (5, (List.range 15).map F_Bk) := by rw [eE0]; rfl
  rw [← eE0, ← ea0] at h
  refine lv_aload_n X.1 X.2.1 d_Bk_init_0 rfl (lv_at hl 0 rfl) ?_
  refine cz_obj X (bw_mem1 17 rfl rfl) hl.1 d_Bk_init_1 (Nat.le_of_ble_eq_true rfl) (by decide) ?_
  refine lv_aload_n X.1 X.2.1 d_Bk_init_4 rfl (lv_at hl 0 rfl) ?_
  refine lv_iconst (v := 2) X.1 X.2.1 d_Bk_init_5 (by decide) ?_
  refine lv_bipush (v := 8) X.1 X.2.1 d_Bk_init_6 (by decide) ?_
  refine lv_iload_n X.1 X.2.1 d_Bk_init_8 rfl (lv_at hl 1 rfl) ?_
  refine va_mmin X.1 X.2.1 (X.2.2.1.trans hl.1.symm) X.2.2.2.1 (X.2.2.2.2.1 _ (bw_mem1 20 rfl rfl)) (X.2.2.2.2.1 _ (bw_mem1 21 rfl rfl)) (X.2.2.2.2.1 _ (bw_mem1 2 rfl rfl)) (X.2.2.2.2.1 _ (bw_mem1 22 rfl rfl)) (Nat.le_of_ble_eq_true rfl) (Nat.le_of_ble_eq_true rfl) (Nat.zero_le _) (Nat.zero_le _) d_Bk_init_9 ?_
  refine va_mmax X.1 X.2.1 (X.2.2.1.trans hl.1.symm) X.2.2.2.1 (X.2.2.2.2.1 _ (bw_mem1 23 rfl rfl)) (X.2.2.2.2.1 _ (bw_mem1 24 rfl rfl)) (X.2.2.2.2.1 _ (bw_mem1 2 rfl rfl)) (X.2.2.2.2.1 _ (bw_mem1 25 rfl rfl)) (Nat.le_of_ble_eq_true rfl) (Nat.le_of_ble_eq_true rfl) (Nat.zero_le _) (Nat.zero_le _) d_Bk_init_12 ?_
  rw [mm_q q]
  refine cz_putF X h (by decide) hE0 ha0 fd_Bk_18 rfl rfl rfl (by decide) d_Bk_init_15 (fun H locs F1 E1 eF1 eE1 hE1 h => ?_)
  refine lv_aload_n X.1 X.2.1 d_Bk_init_18 rfl (lv_at hl 0 rfl) ?_
  refine lv_iconst (v := 0) X.1 X.2.1 d_Bk_init_19 (by decide) ?_
  refine lv_sipush (v := 300) X.1 X.2.1 d_Bk_init_20 (by decide) ?_
  refine lv_iload_n X.1 X.2.1 d_Bk_init_23 rfl (lv_at hl 2 rfl) ?_
  refine va_mmin X.1 X.2.1 (X.2.2.1.trans hl.1.symm) X.2.2.2.1 (X.2.2.2.2.1 _ (bw_mem1 20 rfl rfl)) (X.2.2.2.2.1 _ (bw_mem1 21 rfl rfl)) (X.2.2.2.2.1 _ (bw_mem1 2 rfl rfl)) (X.2.2.2.2.1 _ (bw_mem1 22 rfl rfl)) (Nat.le_of_ble_eq_true rfl) (Nat.le_of_ble_eq_true rfl) (Nat.zero_le _) (Nat.zero_le _) d_Bk_init_24 ?_
  refine va_mmax X.1 X.2.1 (X.2.2.1.trans hl.1.symm) X.2.2.2.1 (X.2.2.2.2.1 _ (bw_mem1 23 rfl rfl)) (X.2.2.2.2.1 _ (bw_mem1 24 rfl rfl)) (X.2.2.2.2.1 _ (bw_mem1 2 rfl rfl)) (X.2.2.2.2.1 _ (bw_mem1 25 rfl rfl)) (Nat.le_of_ble_eq_true rfl) (Nat.le_of_ble_eq_true rfl) (Nat.zero_le _) (Nat.zero_le _) d_Bk_init_27 ?_
  rw [mm_c c]
  refine cz_putF X h (by decide) hE1 ha0 fd_Bk_22 rfl rfl rfl (by decide) d_Bk_init_30 (fun H locs F2 E2 eF2 eE2 hE2 h => ?_)
  refine lv_aload_n X.1 X.2.1 d_Bk_init_33 rfl (lv_at hl 0 rfl) ?_
  refine cz_sub X h (by decide) hE2 ha0 (c_Ba_init l) bx_ok hbx.1 rfl rfl (ci2 := 0) rfl nm_w0 nm_o0 (fun j hj => by match j, hj with | 0, _ => rfl | 1, _ => rfl | 2, _ => rfl | 3, _ => rfl | 4, _ => rfl | 5, _ => rfl | 6, _ => rfl | 7, _ => rfl | 8, _ => rfl | 9, _ => rfl | 10, _ => rfl | 11, _ => rfl | j + 12, hj => exact absurd hj (by omega)) (bw_mem1 26 rfl rfl) (bw_mem1 27 rfl rfl) (Or.inl (bw_mem1 28 rfl rfl)) (bw_mem1 3 rfl rfl) (bw_mem1 30 rfl rfl) (bw_mem1 29 rfl rfl) ⟨by decide, by decide, by decide +kernel⟩ ⟨Nat.le_of_ble_eq_true rfl, Nat.le_of_ble_eq_true rfl⟩ (Nat.le_of_ble_eq_true rfl) (Nat.le_of_ble_eq_true rfl) hl.1 (Nat.zero_le _) fd_Bk_28 rfl (fun _ => rfl) (fun _ => rfl) (by decide) (n' := 9) rfl d_Bk_init_34 d_Bk_init_37 d_Bk_init_38 d_Bk_init_41 (fun b1 H locs ad1 F3 E3 ea1 ha1 eF3 eE3 hE3 h => ?_)
  refine lv_aload_n X.1 X.2.1 d_Bk_init_44 rfl (lv_at hl 0 rfl) ?_
  refine cz_sub X h (by decide) hE3 ha1 (c_St_init l) nx_ok trivial rfl rfl (ci2 := 4) rfl nm_w4 nm_o4 (fun j hj => by match j, hj with | 0, _ => rfl | 1, _ => rfl | j + 2, hj => exact absurd hj (by omega)) (bw_mem1 80 rfl rfl) (bw_mem1 81 rfl rfl) (Or.inr ⟨_, hbx.2.2.1⟩) (bw_mem1 4 rfl rfl) (bw_mem1 84 rfl rfl) (bw_mem1 83 rfl rfl) ⟨by decide, by decide, by decide +kernel⟩ ⟨Nat.le_of_ble_eq_true rfl, Nat.le_of_ble_eq_true rfl⟩ (Nat.le_of_ble_eq_true rfl) (Nat.le_of_ble_eq_true rfl) hl.1 (Nat.zero_le _) fd_Bk_35 rfl (fun _ => rfl) (fun _ => rfl) (by decide) (n' := 12) rfl d_Bk_init_45 d_Bk_init_48 d_Bk_init_49 d_Bk_init_52 (fun b2 H locs ad2 F4 E4 ea2 ha2 eF4 eE4 hE4 h => ?_)
  refine lv_aload_n X.1 X.2.1 d_Bk_init_55 rfl (lv_at hl 0 rfl) ?_
  refine cz_sub X h (by decide) hE4 ha2 (c_Re_init l) nx_ok trivial rfl rfl (ci2 := 3) rfl nm_w3 nm_o3 (fun j hj => by match j, hj with | 0, _ => rfl | 1, _ => rfl | 2, _ => rfl | 3, _ => rfl | 4, _ => rfl | 5, _ => rfl | 6, _ => rfl | j + 7, hj => exact absurd hj (by omega)) (bw_mem1 94 rfl rfl) (bw_mem1 95 rfl rfl) (Or.inr ⟨_, hbx.2.2.2.1⟩) (bw_mem1 5 rfl rfl) (bw_mem1 98 rfl rfl) (bw_mem1 97 rfl rfl) ⟨by decide, by decide, by decide +kernel⟩ ⟨Nat.le_of_ble_eq_true rfl, Nat.le_of_ble_eq_true rfl⟩ (Nat.le_of_ble_eq_true rfl) (Nat.le_of_ble_eq_true rfl) hl.1 (Nat.zero_le _) fd_Bk_42 rfl (fun _ => rfl) (fun _ => rfl) (by decide) (n' := 19) rfl d_Bk_init_56 d_Bk_init_59 d_Bk_init_60 d_Bk_init_63 (fun b3 H locs ad3 F5 E5 ea3 ha3 eF5 eE5 hE5 h => ?_)
  refine lv_aload_n X.1 X.2.1 d_Bk_init_66 rfl (lv_at hl 0 rfl) ?_
  refine cz_sub X h (by decide) hE5 ha3 (c_Li_init l) nx_ok trivial rfl rfl (ci2 := 2) rfl nm_w2 nm_o2 (fun j hj => by match j, hj with | 0, _ => rfl | 1, _ => rfl | j + 2, hj => exact absurd hj (by omega)) (bw_mem1 123 rfl rfl) (bw_mem1 124 rfl rfl) (Or.inr ⟨_, hbx.2.2.2.2.1⟩) (bw_mem1 6 rfl rfl) (bw_mem1 127 rfl rfl) (bw_mem1 126 rfl rfl) ⟨by decide, by decide, by decide +kernel⟩ ⟨Nat.le_of_ble_eq_true rfl, Nat.le_of_ble_eq_true rfl⟩ (Nat.le_of_ble_eq_true rfl) (Nat.le_of_ble_eq_true rfl) hl.1 (Nat.zero_le _) fd_Bk_49 rfl (fun _ => rfl) (fun _ => rfl) (by decide) (n' := 21) rfl d_Bk_init_67 d_Bk_init_70 d_Bk_init_71 d_Bk_init_74 (fun b4 H locs ad4 F6 E6 ea4 ha4 eF6 eE6 hE6 h => ?_)
  refine lv_aload_n X.1 X.2.1 d_Bk_init_77 rfl (lv_at hl 0 rfl) ?_
  refine cz_sub X h (by decide) hE6 ha4 (c_Li_init l) nx_ok trivial rfl rfl (ci2 := 2) rfl nm_w2 nm_o2 (fun j hj => by match j, hj with | 0, _ => rfl | 1, _ => rfl | j + 2, hj => exact absurd hj (by omega)) (bw_mem1 123 rfl rfl) (bw_mem1 124 rfl rfl) (Or.inr ⟨_, hbx.2.2.2.2.1⟩) (bw_mem1 6 rfl rfl) (bw_mem1 127 rfl rfl) (bw_mem1 126 rfl rfl) ⟨by decide, by decide, by decide +kernel⟩ ⟨Nat.le_of_ble_eq_true rfl, Nat.le_of_ble_eq_true rfl⟩ (Nat.le_of_ble_eq_true rfl) (Nat.le_of_ble_eq_true rfl) hl.1 (Nat.zero_le _) fd_Bk_53 rfl (fun _ => rfl) (fun _ => rfl) (by decide) (n' := 23) rfl d_Bk_init_78 d_Bk_init_81 d_Bk_init_82 d_Bk_init_85 (fun b5 H locs ad5 F7 E7 ea5 ha5 eF7 eE7 hE7 h => ?_)
  refine lv_aload_n X.1 X.2.1 d_Bk_init_88 rfl (lv_at hl 0 rfl) ?_
  refine cz_sub X h (by decide) hE7 ha5 (c_Li_init l) nx_ok trivial rfl rfl (ci2 := 2) rfl nm_w2 nm_o2 (fun j hj => by match j, hj with | 0, _ => rfl | 1, _ => rfl | j + 2, hj => exact absurd hj (by omega)) (bw_mem1 123 rfl rfl) (bw_mem1 124 rfl rfl) (Or.inr ⟨_, hbx.2.2.2.2.1⟩) (bw_mem1 6 rfl rfl) (bw_mem1 127 rfl rfl) (bw_mem1 126 rfl rfl) ⟨by decide, by decide, by decide +kernel⟩ ⟨Nat.le_of_ble_eq_true rfl, Nat.le_of_ble_eq_true rfl⟩ (Nat.le_of_ble_eq_true rfl) (Nat.le_of_ble_eq_true rfl) hl.1 (Nat.zero_le _) fd_Bk_56 rfl (fun _ => rfl) (fun _ => rfl) (by decide) (n' := 25) rfl d_Bk_init_89 d_Bk_init_92 d_Bk_init_93 d_Bk_init_96 (fun b6 H locs ad6 F8 E8 ea6 ha6 eF8 eE8 hE8 h => ?_)
  refine lv_aload_n X.1 X.2.1 d_Bk_init_99 rfl (lv_at hl 0 rfl) ?_
  refine cz_sub X h (by decide) hE8 ha6 (c_Jo_init l) jx_ok hbx.2.1 rfl rfl (ci2 := 1) rfl nm_w1 nm_o1 (fun j hj => by match j, hj with | 0, _ => rfl | 1, _ => rfl | 2, _ => rfl | 3, _ => rfl | j + 4, hj => exact absurd hj (by omega)) (bw_mem1 136 rfl rfl) (bw_mem1 137 rfl rfl) (Or.inr ⟨_, hbx.2.2.2.2.2⟩) (bw_mem1 7 rfl rfl) (bw_mem1 140 rfl rfl) (bw_mem1 139 rfl rfl) ⟨by decide, by decide, by decide +kernel⟩ ⟨Nat.le_of_ble_eq_true rfl, Nat.le_of_ble_eq_true rfl⟩ (Nat.le_of_ble_eq_true rfl) (Nat.le_of_ble_eq_true rfl) hl.1 (Nat.zero_le _) fd_Bk_62 rfl (fun _ => rfl) (fun _ => rfl) (by decide) (n' := 59) rfl d_Bk_init_100 d_Bk_init_103 d_Bk_init_104 d_Bk_init_107 (fun b7 H locs ad7 F9 E9 ea7 ha7 eF9 eE9 hE9 h => ?_)
  have hF : ∀ j, j < 15 → F9 j = kz_fv rf_C ad7 (bk_M q c) 0 j (([0, 0, 3, 3, 3, 3, 3, 3, 3, 0, 0, 0, 1, 0, 0] : List Nat).getD j 0) := fun j hj => by
    subst eF1 eF2 eF3 eF4 eF5 eF6 eF7 eF8 eF9
    subst ea0 ea1 ea2 ea3 ea4 ea5 ea6 ea7
    match j, hj with
    | 0, _ => rfl
    | 1, _ => rfl
    | 2, _ => rfl
    | 3, _ => rfl
    | 4, _ => rfl
    | 5, _ => rfl
    | 6, _ => rfl
    | 7, _ => rfl
    | 8, _ => rfl
    | 9, _ => rfl
    | 10, _ => rfl
    | 11, _ => rfl
    | 12, _ => rfl
    | 13, _ => rfl
    | 14, _ => rfl
    | j + 15, hj => exact absurd hj (by omega)
  have hS0 : ∀ k, k < 8 → E9 (k + 1) = kz_en s_Ba.2.2.1 b1 cs ba_M k (s_Ba.2.1.getD k (.inl (0, 0))) := fun k hk => by
    rw [eE9]
    unfold va_up
    rw [if_neg (by omega)]
    simp only []
    rw [if_pos (by omega)]
    rw [eE8]
    unfold va_up
    rw [if_neg (by omega)]
    simp only []
    rw [if_pos (by omega)]
    rw [eE7]
    unfold va_up
    rw [if_neg (by omega)]
    simp only []
    rw [if_pos (by omega)]
    rw [eE6]
    unfold va_up
    rw [if_neg (by omega)]
    simp only []
    rw [if_pos (by omega)]
    rw [eE5]
    unfold va_up
    rw [if_neg (by omega)]
    simp only []
    rw [if_pos (by omega)]
    rw [eE4]
    unfold va_up
    rw [if_neg (by omega)]
    simp only []
    rw [if_pos (by omega)]
    rw [eE3]
    unfold va_up
    rw [if_neg (by omega)]
    simp only []
    rw [if_neg (by omega), Nat.add_sub_cancel]
  have hA0 : ∀ k, k < 8 → ad7 (k + 1) = b1 k := fun k hk => by
    rw [ea7]
    simp only []
    rw [if_pos (by omega)]
    rw [ea6]
    simp only []
    rw [if_pos (by omega)]
    rw [ea5]
    simp only []
    rw [if_pos (by omega)]
    rw [ea4]
    simp only []
    rw [if_pos (by omega)]
    rw [ea3]
    simp only []
    rw [if_pos (by omega)]
    rw [ea2]
    simp only []
    rw [if_pos (by omega)]
    rw [ea1]
    simp only []
    rw [if_neg (by omega), Nat.add_sub_cancel]
  have hS1 : ∀ k, k < 3 → E9 (k + 9) = kz_en s_St.2.2.1 b2 cs kz_0 k (s_St.2.1.getD k (.inl (0, 0))) := fun k hk => by
    rw [eE9]
    unfold va_up
    rw [if_neg (by omega)]
    simp only []
    rw [if_pos (by omega)]
    rw [eE8]
    unfold va_up
    rw [if_neg (by omega)]
    simp only []
    rw [if_pos (by omega)]
    rw [eE7]
    unfold va_up
    rw [if_neg (by omega)]
    simp only []
    rw [if_pos (by omega)]
    rw [eE6]
    unfold va_up
    rw [if_neg (by omega)]
    simp only []
    rw [if_pos (by omega)]
    rw [eE5]
    unfold va_up
    rw [if_neg (by omega)]
    simp only []
    rw [if_pos (by omega)]
    rw [eE4]
    unfold va_up
    rw [if_neg (by omega)]
    simp only []
    rw [if_neg (by omega), Nat.add_sub_cancel]
  have hA1 : ∀ k, k < 3 → ad7 (k + 9) = b2 k := fun k hk => by
    rw [ea7]
    simp only []
    rw [if_pos (by omega)]
    rw [ea6]
    simp only []
    rw [if_pos (by omega)]
    rw [ea5]
    simp only []
    rw [if_pos (by omega)]
    rw [ea4]
    simp only []
    rw [if_pos (by omega)]
    rw [ea3]
    simp only []
    rw [if_pos (by omega)]
    rw [ea2]
    simp only []
    rw [if_neg (by omega), Nat.add_sub_cancel]
  have hS2 : ∀ k, k < 7 → E9 (k + 12) = kz_en s_Re.2.2.1 b3 cs kz_0 k (s_Re.2.1.getD k (.inl (0, 0))) := fun k hk => by
    rw [eE9]
    unfold va_up
    rw [if_neg (by omega)]
    simp only []
    rw [if_pos (by omega)]
    rw [eE8]
    unfold va_up
    rw [if_neg (by omega)]
    simp only []
    rw [if_pos (by omega)]
    rw [eE7]
    unfold va_up
    rw [if_neg (by omega)]
    simp only []
    rw [if_pos (by omega)]
    rw [eE6]
    unfold va_up
    rw [if_neg (by omega)]
    simp only []
    rw [if_pos (by omega)]
    rw [eE5]
    unfold va_up
    rw [if_neg (by omega)]
    simp only []
    rw [if_neg (by omega), Nat.add_sub_cancel]
  have hA2 : ∀ k, k < 7 → ad7 (k + 12) = b3 k := fun k hk => by
    rw [ea7]
    simp only []
    rw [if_pos (by omega)]
    rw [ea6]
    simp only []
    rw [if_pos (by omega)]
    rw [ea5]
    simp only []
    rw [if_pos (by omega)]
    rw [ea4]
    simp only []
    rw [if_pos (by omega)]
    rw [ea3]
    simp only []
    rw [if_neg (by omega), Nat.add_sub_cancel]
  have hS3 : ∀ k, k < 2 → E9 (k + 19) = kz_en s_Li.2.2.1 b4 cs kz_0 k (s_Li.2.1.getD k (.inl (0, 0))) := fun k hk => by
    rw [eE9]
    unfold va_up
    rw [if_neg (by omega)]
    simp only []
    rw [if_pos (by omega)]
    rw [eE8]
    unfold va_up
    rw [if_neg (by omega)]
    simp only []
    rw [if_pos (by omega)]
    rw [eE7]
    unfold va_up
    rw [if_neg (by omega)]
    simp only []
    rw [if_pos (by omega)]
    rw [eE6]
    unfold va_up
    rw [if_neg (by omega)]
    simp only []
    rw [if_neg (by omega), Nat.add_sub_cancel]
  have hA3 : ∀ k, k < 2 → ad7 (k + 19) = b4 k := fun k hk => by
    rw [ea7]
    simp only []
    rw [if_pos (by omega)]
    rw [ea6]
    simp only []
    rw [if_pos (by omega)]
    rw [ea5]
    simp only []
    rw [if_pos (by omega)]
    rw [ea4]
    simp only []
    rw [if_neg (by omega), Nat.add_sub_cancel]
  have hS4 : ∀ k, k < 2 → E9 (k + 21) = kz_en s_Li.2.2.1 b5 cs kz_0 k (s_Li.2.1.getD k (.inl (0, 0))) := fun k hk => by
    rw [eE9]
    unfold va_up
    rw [if_neg (by omega)]
    simp only []
    rw [if_pos (by omega)]
    rw [eE8]
    unfold va_up
    rw [if_neg (by omega)]
    simp only []
    rw [if_pos (by omega)]
    rw [eE7]
    unfold va_up
    rw [if_neg (by omega)]
    simp only []
    rw [if_neg (by omega), Nat.add_sub_cancel]
  have hA4 : ∀ k, k < 2 → ad7 (k + 21) = b5 k := fun k hk => by
    rw [ea7]
    simp only []
    rw [if_pos (by omega)]
    rw [ea6]
    simp only []
    rw [if_pos (by omega)]
    rw [ea5]
    simp only []
    rw [if_neg (by omega), Nat.add_sub_cancel]
  have hS5 : ∀ k, k < 2 → E9 (k + 23) = kz_en s_Li.2.2.1 b6 cs kz_0 k (s_Li.2.1.getD k (.inl (0, 0))) := fun k hk => by
    rw [eE9]
    unfold va_up
    rw [if_neg (by omega)]
    simp only []
    rw [if_pos (by omega)]
    rw [eE8]
    unfold va_up
    rw [if_neg (by omega)]
    simp only []
    rw [if_neg (by omega), Nat.add_sub_cancel]
  have hA5 : ∀ k, k < 2 → ad7 (k + 23) = b6 k := fun k hk => by
    rw [ea7]
    simp only []
    rw [if_pos (by omega)]
    rw [ea6]
    simp only []
    rw [if_neg (by omega), Nat.add_sub_cancel]
  have hS6 : ∀ k, k < 34 → E9 (k + 25) = kz_en s_Jo.2.2.1 b7 cs kz_0 k (s_Jo.2.1.getD k (.inl (0, 0))) := fun k hk => by
    rw [eE9]
    unfold va_up
    rw [if_neg (by omega)]
    simp only []
    rw [if_neg (by omega), Nat.add_sub_cancel]
  have hA6 : ∀ k, k < 34 → ad7 (k + 25) = b7 k := fun k hk => by
    rw [ea7]
    simp only []
    rw [if_neg (by omega), Nat.add_sub_cancel]
  have hB : ∀ k, 0 < k → k < 26 → E9 k = kz_en rf_C ad7 cs (bk_M q c) k (sh_C.getD k (.inl (0, 0))) := fun k hk0 hk => by
    match k, hk0, hk with
    | 0, h, _ => exact absurd h (by decide)
    | 1, _, _ => exact (hS0 0 (by decide)).trans (seg_en (fun j => by match j with | 0 => exact congrArg some (hA0 1 (by decide)).symm | 1 => exact congrArg some (hA0 2 (by decide)).symm | 2 => exact congrArg some (hA0 3 (by decide)).symm | 3 => exact congrArg some (hA0 4 (by decide)).symm | 4 => exact congrArg some (hA0 5 (by decide)).symm | 5 => exact congrArg some (hA0 6 (by decide)).symm | 6 => exact congrArg some (hA0 7 (by decide)).symm | j + 7 => show Option.map b1 (if j + 7 < 7 then some (j + 7 + 1) else none) = none; rw [if_neg (by omega)]; rfl) (bk_1 (by decide)).symm rfl rfl)
    | 2, _, _ => exact (hS0 1 (by decide)).trans (seg_en (fun j => rfl) (bk_1 (by decide)).symm rfl rfl)
    | 3, _, _ => exact (hS0 2 (by decide)).trans (seg_en (fun j => rfl) (bk_1 (by decide)).symm rfl rfl)
    | 4, _, _ => exact (hS0 3 (by decide)).trans (seg_en (fun j => rfl) (bk_1 (by decide)).symm rfl rfl)
    | 5, _, _ => exact (hS0 4 (by decide)).trans (seg_en (fun j => rfl) (bk_1 (by decide)).symm rfl rfl)
    | 6, _, _ => exact (hS0 5 (by decide)).trans (seg_en (fun j => rfl) (bk_1 (by decide)).symm rfl rfl)
    | 7, _, _ => exact (hS0 6 (by decide)).trans (seg_en (fun j => rfl) (bk_1 (by decide)).symm rfl rfl)
    | 8, _, _ => exact (hS0 7 (by decide)).trans (seg_en (fun j => rfl) (bk_1 (by decide)).symm rfl rfl)
    | 9, _, _ => exact (hS1 0 (by decide)).trans (seg_en (fun j => by match j with | 0 => exact congrArg some (hA1 1 (by decide)).symm | 1 => exact congrArg some (hA1 2 (by decide)).symm | j + 2 => show Option.map b2 (if j + 2 < 2 then some (j + 2 + 1) else none) = none; rw [if_neg (by omega)]; rfl) (funext fun j => (bk_0 (by decide)).symm) rfl rfl)
    | 10, _, _ => exact (hS1 1 (by decide)).trans (seg_en (fun j => rfl) (funext fun j => (bk_0 (by decide)).symm) rfl rfl)
    | 11, _, _ => exact (hS1 2 (by decide)).trans (seg_en (fun j => rfl) (funext fun j => (bk_0 (by decide)).symm) rfl rfl)
    | 12, _, _ => exact (hS2 0 (by decide)).trans (seg_en (fun j => by match j with | 0 => exact congrArg some (hA2 1 (by decide)).symm | 1 => exact congrArg some (hA2 2 (by decide)).symm | 2 => exact congrArg some (hA2 3 (by decide)).symm | 3 => exact congrArg some (hA2 4 (by decide)).symm | 4 => exact congrArg some (hA2 5 (by decide)).symm | 5 => exact congrArg some (hA2 6 (by decide)).symm | j + 6 => show Option.map b3 (if j + 6 < 6 then some (j + 6 + 1) else none) = none; rw [if_neg (by omega)]; rfl) (funext fun j => (bk_0 (by decide)).symm) rfl rfl)
    | 13, _, _ => exact (hS2 1 (by decide)).trans (seg_en (fun j => rfl) (funext fun j => (bk_0 (by decide)).symm) rfl rfl)
    | 14, _, _ => exact (hS2 2 (by decide)).trans (seg_en (fun j => rfl) (funext fun j => (bk_0 (by decide)).symm) rfl rfl)
    | 15, _, _ => exact (hS2 3 (by decide)).trans (seg_en (fun j => rfl) (funext fun j => (bk_0 (by decide)).symm) rfl rfl)
    | 16, _, _ => exact (hS2 4 (by decide)).trans (seg_en (fun j => rfl) (funext fun j => (bk_0 (by decide)).symm) rfl rfl)
    | 17, _, _ => exact (hS2 5 (by decide)).trans (seg_en (fun j => rfl) (funext fun j => (bk_0 (by decide)).symm) rfl rfl)
    | 18, _, _ => exact (hS2 6 (by decide)).trans (seg_en (fun j => rfl) (funext fun j => (bk_0 (by decide)).symm) rfl rfl)
    | 19, _, _ => exact (hS3 0 (by decide)).trans (seg_en (fun j => by match j with | 0 => exact congrArg some (hA3 1 (by decide)).symm | j + 1 => show Option.map b4 (if j + 1 < 1 then some (j + 1 + 1) else none) = none; rw [if_neg (by omega)]; rfl) (funext fun j => (bk_0 (by decide)).symm) rfl rfl)
    | 20, _, _ => exact (hS3 1 (by decide)).trans (seg_en (fun j => rfl) (funext fun j => (bk_0 (by decide)).symm) rfl rfl)
    | 21, _, _ => exact (hS4 0 (by decide)).trans (seg_en (fun j => by match j with | 0 => exact congrArg some (hA4 1 (by decide)).symm | j + 1 => show Option.map b5 (if j + 1 < 1 then some (j + 1 + 1) else none) = none; rw [if_neg (by omega)]; rfl) (funext fun j => (bk_0 (by decide)).symm) rfl rfl)
    | 22, _, _ => exact (hS4 1 (by decide)).trans (seg_en (fun j => rfl) (funext fun j => (bk_0 (by decide)).symm) rfl rfl)
    | 23, _, _ => exact (hS5 0 (by decide)).trans (seg_en (fun j => by match j with | 0 => exact congrArg some (hA5 1 (by decide)).symm | j + 1 => show Option.map b6 (if j + 1 < 1 then some (j + 1 + 1) else none) = none; rw [if_neg (by omega)]; rfl) (funext fun j => (bk_0 (by decide)).symm) rfl rfl)
    | 24, _, _ => exact (hS5 1 (by decide)).trans (seg_en (fun j => rfl) (funext fun j => (bk_0 (by decide)).symm) rfl rfl)
    | 25, _, _ => exact (hS6 0 (by decide)).trans (seg_en (fun j => by match j with | 0 => exact congrArg some (hA6 1 (by decide)).symm | j + 1 => rfl) (funext fun j => (bk_0 (by decide)).symm) rfl rfl)
    | k + 26, _, hk => exact absurd hk (by omega)
  have hJ : ∀ k, E9 (k + 26) = kz_en s_Jo.2.2.1 b7 cs kz_0 (k + 1) (s_Jo.2.1.getD (k + 1) (.inl (0, 0))) := fun k => by
    clear hF hB
    rw [eE9]
    unfold va_up
    rw [if_neg (by omega)]
    simp only []
    rw [if_neg (by omega), show k + 26 - 25 = k + 1 by omega]
  have hJa : ∀ k, ad7 (k + 25) = b7 k := fun k => by
    rw [ea7]
    simp only []
    rw [if_neg (by omega), show k + 25 - 25 = k by omega]
  refine cz_ret X h (ad' := ad7) (gw_kz rfl (fun k hk => ⟨rfl, ?_⟩)) ha7 d_Bk_init_110
  by_cases hk0 : k = 0
  · subst hk0
    rw [hE9]
    show Sum.inr (5, (List.range 15).map F9) = Sum.inr (5, (List.range 15).map _)
    rw [List.map_congr_left (fun j hj => hF j (List.mem_range.mp hj))]
    rfl
  · by_cases hk1 : k < 26
    · exact hB k (by omega) hk1
    · obtain ⟨k', rfl⟩ : ∃ k', k = k' + 26 := ⟨k - 26, by omega⟩
      rw [hJ k']
      cases k' with
      | zero =>
        show Sum.inl (cs 3, 32, _) = Sum.inl (cs 3, 32, _)
        refine congrArg (fun z => Sum.inl (cs 3, 32, Sum.inr (Sum.inr (Sum.inr (Sum.inr z))))) (funext fun i => ?_)
        show (if i < 32 then some (i + 2) else none).map b7 = (if i < 32 then some (27 + i) else none).map ad7
        by_cases z : i < 32
        · rw [if_pos z, if_pos z]
          show some (b7 (i + 2)) = some (ad7 (27 + i))
          rw [show 27 + i = i + 2 + 25 by omega, hJa]
        · rw [if_neg z, if_neg z]; rfl
      | succ j =>
        have e1 : s_Jo.2.1.getD (j + 1 + 1) (.inl (0, 0)) = .inl (0, 5) := by
          show (List.replicate 32 (Sum.inl (0, 5) : kz_Sh)).getD j _ = _
          rw [List.getD_eq_getElem?_getD, List.getElem?_replicate, if_pos (by omega)]
          rfl
        have e2 : sC.2.1.getD (j + 1 + 26) (.inl (0, 0)) = .inl (0, 5) := by
          have : ∀ j, j < 32 → sC.2.1.getD (j + 1 + 26) (.inl (0, 0)) = .inl (0, 5) := by decide +kernel
          exact this j (by omega)
        rw [e1, e2]
        show Sum.inl (cs 0, 5, Sum.inl _) = Sum.inl (cs 0, 5, Sum.inl _)
        refine congrArg (fun z => Sum.inl (cs 0, 5, Sum.inl z)) (funext fun i => ?_)
        exact (bk_0 (show 9 ≤ j + 1 + 26 by omega)).symm
