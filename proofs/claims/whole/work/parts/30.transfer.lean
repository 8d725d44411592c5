/-! Contracts of the class: a transfer. -/
theorem ck_bank_in {a : Int32} (h : vp_in a 256) : vp_in (ck_bank a) 4 := by
  obtain ⟨j, hj, rfl⟩ := vp_in_of h (by decide)
  have : ∀ j, j < 256 → ¬ (ck_bank (nI j) < 0 ∨ 4 ≤ (ck_bank (nI j)).toNatClampNeg) := by decide +kernel
  exact this j hj
/-- banks and journal of a transfer -/
def ct_0 (M : kz_M) (n : Nat) (w : Bool) (t a : Int32) : kz_M := cj_ent (cb_tr M (ck_bank a) w (M.1 0 9)) (27 + n) (if w = true then 3 else 2) (ck_bank a) (ck_col a) (M.1 0 9) t
def ct_w (M : kz_M) (n : Nat) (t a : Int32) : kz_M := cq_fin (cw_put (ct_0 M n true t a) a.toNatClampNeg (bt_keep (M.2 16 t.toNatClampNeg))) t (M.2 16 t.toNatClampNeg) 2 (M.1 0 9)
def ct_r (M : kz_M) (n : Nat) (t a : Int32) : kz_M := cq_fin (ct_0 M n false t a) t (bt_wd (cw_get M a.toNatClampNeg) (bt_fault (cw_get M a.toNatClampNeg)) 69 0) (ck_after (bt_fault (cw_get M a.toNatClampNeg))) (cb_beg M false (M.1 0 9) + 4)
def ct_R (M : kz_M) (n : Nat) (t a : Int32) (rs ws : List Int32) (O : kz_M) : Bool → Prop
  | true => ln_ag 21 (ct_w M n t a) O ∧ ln_at O 21 (ws.filter (fun y => !decide (y = t)))
  | false => ln_ag 19 (ct_r M n t a) O ∧ ln_at O 19 (rs.filter (fun y => !decide (y = t)))
theorem ct_0_off {M : kz_M} {n : Nat} {w : Bool} {t a : Int32} (k : Nat) (h1 : k ≠ 1) (h6 : k ≠ 6) (h7 : k ≠ 7) (h25 : k ≠ 25) (hn : k ≠ 27 + n) : (ct_0 M n w t a).1 k = M.1 k := by
  cases w <;> simp [ct_0, cj_ent, cb_tr, kz_u_off, *]
theorem ct_0_J {M : kz_M} {n : Nat} {w : Bool} {t a : Int32} : (ct_0 M n w t a).2 = M.2 := rfl
theorem ct_0_eq {M : kz_M} {n : Nat} {w : Bool} {t a : Int32} {now : Int32} (h : now = M.1 0 9) : cj_ent (cb_tr M (ck_bank a) w (M.1 0 9)) (27 + n) (if w = true then 3 else 2) (ck_bank a) (ck_col a) now t = ct_0 M n w t a := by rw [h]; rfl
theorem ag_put {k : Nat} {M N : kz_M} (h : ln_ag k M N) (h1 : k ≠ 11) (h2 : k + 1 ≠ 11) (a : Nat) (x : bt_T) : ln_ag k (cw_put M a x) (cw_put N a x) :=
  ⟨by show kz_u N.2 10 a x.1 = kz_u M.2 10 a x.1; rw [h.1], fun j a1 a2 => by
    show kz_u N.1 11 a x.2 j = kz_u M.1 11 a x.2 j
    funext b
    unfold kz_u
    rw [h.2 j a1 a2]⟩
theorem ag_fin {k : Nat} {M N : kz_M} (h : ln_ag k M N) (t : Int32) (w : Int64) (st e : Int32) : ln_ag k (cq_fin M t w st e) (cq_fin N t w st e) :=
  ⟨by show kz_u N.2 16 _ w = kz_u M.2 16 _ w; rw [h.1], fun j a1 a2 => by
    show kz_u (kz_u N.1 17 _ st) 18 _ e j = kz_u (kz_u M.1 17 _ st) 18 _ e j
    funext b
    unfold kz_u
    rw [h.2 j a1 a2]⟩
theorem ln_fin {k : Nat} {M : kz_M} {xs : List Int32} (h : ln_at M k xs) (h1 : k ≠ 17) (h2 : k ≠ 18) (h3 : k + 1 ≠ 17) (t : Int32) (w : Int64) (st e : Int32) : ln_at (cq_fin M t w st e) k xs := by
  have e1 : ∀ j, j ≠ 17 → j ≠ 18 → (cq_fin M t w st e).1 j = M.1 j := fun j a b => by
    show kz_u (kz_u M.1 17 _ st) 18 _ e j = _
    rw [kz_u_off _ _ _ _ b, kz_u_off _ _ _ _ a]
  exact ⟨by rw [e1 k h1 h2]; exact h.1, h.2.1, fun i x hx => by rw [e1 (k + 1) h3 (by omega)]; exact h.2.2 i x hx⟩
theorem ln_put {k : Nat} {M : kz_M} {xs : List Int32} (h : ln_at M k xs) (h1 : k ≠ 11) (h2 : k + 1 ≠ 11) (a : Nat) (x : bt_T) : ln_at (cw_put M a x) k xs := by
  have e1 : ∀ j, j ≠ 11 → (cw_put M a x).1 j = M.1 j := fun j b => kz_u_off _ _ _ _ b
  exact ⟨by rw [e1 k h1]; exact h.1, h.2.1, fun i y hx => by rw [e1 (k + 1) h2]; exact h.2.2 i y hx⟩
theorem ct_fin_w {M N : kz_M} {n : Nat} {t a : Int32} {rs ws : List Int32} (hn : n < 32) (ha : ln_ag 21 (ct_0 M n true t a) N) (hk : ln_at N 21 (ws.filter (fun y => !decide (y = t)))) : ct_R M n t a rs ws (cq_fin (cw_put N a.toNatClampNeg (bt_keep (N.2 16 t.toNatClampNeg))) t ((cw_put N a.toNatClampNeg (bt_keep (N.2 16 t.toNatClampNeg))).2 16 t.toNatClampNeg) 2 ((cw_put N a.toNatClampNeg (bt_keep (N.2 16 t.toNatClampNeg))).1 0 9)) true := by
  have e16 : N.2 = M.2 := ha.1
  have e9 : N.1 0 9 = M.1 0 9 := by
    rw [ha.2 0 (by decide) (by decide), ct_0_off 0 (by decide) (by decide) (by decide) (by decide) (by omega)]
  have ew : (cw_put N a.toNatClampNeg (bt_keep (N.2 16 t.toNatClampNeg))).2 16 t.toNatClampNeg = M.2 16 t.toNatClampNeg := by
    simp only [cw_put]
    rw [kz_u_off _ _ _ _ (by decide), e16]
  have e99 : (cw_put N a.toNatClampNeg (bt_keep (N.2 16 t.toNatClampNeg))).1 0 9 = M.1 0 9 := by
    simp only [cw_put]
    rw [kz_u_off _ _ _ _ (by decide), e9]
  rw [ew, e99, e16]
  exact ⟨ag_fin (ag_put ha (by decide) (by decide) _ _) _ _ _ _, ln_fin (ln_put hk (by decide) (by decide) _ _) (by decide) (by decide) (by decide) _ _ _ _⟩
theorem ct_fin_r {M N : kz_M} {n : Nat} {t a : Int32} {rs ws : List Int32} (hn : n < 32) (ha : ln_ag 19 (ct_0 M n false t a) N) (hk : ln_at N 19 (rs.filter (fun y => !decide (y = t)))) : ct_R M n t a rs ws (cq_fin N t (bt_wd (cw_get N a.toNatClampNeg) (bt_fault (cw_get N a.toNatClampNeg)) 69 0) (ck_after (bt_fault (cw_get N a.toNatClampNeg))) (N.1 1 10 + 4)) false := by
  have eg : cw_get N a.toNatClampNeg = cw_get M a.toNatClampNeg := by
    unfold cw_get
    rw [ha.1, ha.2 11 (by decide) (by decide), ct_0_J, ct_0_off 11 (by decide) (by decide) (by decide) (by decide) (by omega)]
  have eb : N.1 1 10 = cb_beg M false (M.1 0 9) := by
    rw [ha.2 1 (by decide) (by decide)]
    have e : ∀ (f : Nat → Nat → Int32) (j : Nat) (x : Int32), kz_u f (27 + n) j x 1 = f 1 := fun f j x => kz_u_off _ _ _ _ (by omega)
    simp [ct_0, cj_ent, cb_tr, kz_u_ne, kz_u_same, e]
  rw [eg, eb]
  exact ⟨ag_fin ha _ _ _ _, ln_fin hk (by decide) (by decide) (by decide) _ _ _ _⟩
set_option maxRecDepth 100000 in
set_option maxHeartbeats 1000000 in
theorem ct_true (l : Launch) {M : kz_M} {t a : Int32} {n : Nat} {rs ws : List Int32} (hn : n < 32) (hnx : M.1 25 1 = nI n) (ht : vp_in t 400) (ha : vp_in a 256) (hr : ln_at M 19 rs) (hw : ln_at M 21 ws) : kz_T l sC m_Bk_transfer [.ref 0, .int t, .int a, .int (kz_ib true)] M (fun v O => v = none ∧ ct_R M n t a rs ws O true) := by
  have hb4 : vp_in (ck_bank a) 4 := ck_bank_in ha
  have etr : (cb_tr M (ck_bank a) true (M.1 0 9)).1 25 1 = M.1 25 1 := by simp [cb_tr, kz_u_ne]
  have e0 : (cb_tr M (ck_bank a) true (M.1 0 9)).1 0 9 = M.1 0 9 := by simp [cb_tr, kz_u_ne]
  have hr0 : ln_at (ct_0 M n true t a) 19 rs := ⟨by rw [ct_0_off 19 (by decide) (by decide) (by decide) (by decide) (by omega)]; exact hr.1, hr.2.1, fun i x hx => by rw [ct_0_off 20 (by decide) (by decide) (by decide) (by decide) (by omega)]; exact hr.2.2 i x hx⟩
  have hw0 : ln_at (ct_0 M n true t a) 21 ws := ⟨by rw [ct_0_off 21 (by decide) (by decide) (by decide) (by decide) (by omega)]; exact hw.1, hw.2.1, fun i x hx => by rw [ct_0_off 22 (by decide) (by decide) (by decide) (by decide) (by omega)]; exact hw.2.2 i x hx⟩
  refine kz_intro (by decide +kernel) (Nat.le_of_ble_eq_true rfl) ?_
  show kz_G l sC m_Bk_transfer 0 [some (.ref 0), some (.int t), some (.int a), some (.int (kz_ib true)), none, none, none] [] M _
  refine kz_aload_n d_Bk_transfer_0 rfl rfl ?_
  refine kz_getR fd_Bk_28 rfl rfl rfl d_Bk_transfer_1 rfl ?_
  refine kz_iload_n d_Bk_transfer_4 rfl rfl ?_
  refine kz_callSi (c_Bk_bankOf l) cs_Bk_232 rfl ⟨by decide, by decide⟩ rfl (Nat.le_of_ble_eq_true rfl) d_Bk_transfer_5 rfl ?_
  refine kz_iload_n d_Bk_transfer_8 rfl rfl ?_
  refine kz_aload_n d_Bk_transfer_9 rfl rfl ?_
  refine kz_getIp fd_Bk_66 rfl rfl (Or.inl rfl) d_Bk_transfer_10 rfl ?_
  refine kz_callVv (c_Ba_transfer l (by assumption)) cv_Bk_246 rfl rfl rfl ⟨by decide, by decide⟩ rfl (Nat.le_of_ble_eq_true rfl) d_Bk_transfer_13 rfl ?_
  refine kz_eta ?_
  refine kz_aload_n d_Bk_transfer_16 rfl rfl ?_
  refine kz_getR fd_Bk_62 rfl rfl rfl d_Bk_transfer_17 rfl ?_
  refine kz_iload_n d_Bk_transfer_20 rfl rfl ?_
  refine kz_if_eqb (tgt := 28) d_Bk_transfer_21 (by decide) rfl (fun h21 => ?_) (fun h21 => ?_)
  · cases h21
  · refine kz_iconst (v := 3) d_Bk_transfer_24 (by decide) rfl ?_
    refine kz_goto (tgt := 29) d_Bk_transfer_25 (by decide) ?_
    refine kz_iload_n d_Bk_transfer_29 rfl rfl ?_
    refine kz_callSi (c_Bk_bankOf l) cs_Bk_232 rfl ⟨by decide, by decide⟩ rfl (Nat.le_of_ble_eq_true rfl) d_Bk_transfer_30 rfl ?_
    refine kz_iload_n d_Bk_transfer_33 rfl rfl ?_
    refine kz_callSi (c_Bk_columnOf l) cs_Bk_249 rfl ⟨by decide, by decide⟩ rfl (Nat.le_of_ble_eq_true rfl) d_Bk_transfer_34 rfl ?_
    refine kz_aload_n d_Bk_transfer_37 rfl rfl ?_
    refine kz_getIp fd_Bk_66 rfl rfl (Or.inl rfl) d_Bk_transfer_38 rfl ?_
    refine kz_iload_n d_Bk_transfer_41 rfl rfl ?_
    refine kz_callVv (c_Jo_enter l hn (n := n) (by rw [etr]; exact hnx)) cv_Bk_198 rfl rfl rfl ⟨by decide, by decide⟩ rfl (Nat.le_of_ble_eq_true rfl) d_Bk_transfer_42 rfl ?_
    refine kz_eta ?_
    refine kz_memq (N := ct_0 M n true t a) (ct_0_eq e0) ?_
    refine kz_eta ?_
    refine kz_iload_n d_Bk_transfer_45 rfl rfl ?_
    refine kz_if_eqb (tgt := 97) d_Bk_transfer_46 (by decide) rfl (fun h46 => ?_) (fun h46 => ?_)
    · cases h46
    · refine kz_aload_n d_Bk_transfer_49 rfl rfl ?_
      refine kz_getR fd_Bk_53 rfl rfl rfl d_Bk_transfer_50 rfl ?_
      refine kz_iload_n d_Bk_transfer_53 rfl rfl ?_
      refine kz_callVr (c_Li_remove l (by first | exact kl_19 | exact kl_21 | exact kl_23) (by assumption)) cv_Bk_252 rfl rfl rfl ⟨by decide, by decide⟩ rfl (Nat.le_of_ble_eq_true rfl) d_Bk_transfer_54 rfl (fun v54 N54 q54 => ?_)
      obtain ⟨rfl, ha54, hk54⟩ := q54
      refine kz_aload_n d_Bk_transfer_57 rfl rfl ?_
      refine kz_getR fd_Bk_35 rfl rfl rfl d_Bk_transfer_58 rfl ?_
      refine kz_iload_n d_Bk_transfer_61 rfl rfl ?_
      refine kz_aload_n d_Bk_transfer_62 rfl rfl ?_
      refine kz_getR fd_Bk_42 rfl rfl rfl d_Bk_transfer_63 rfl ?_
      refine kz_iload_n d_Bk_transfer_66 rfl rfl ?_
      refine kz_callVi (c_Re_wordOf l (by assumption)) cv_Bk_97 rfl rfl rfl ⟨by decide, by decide⟩ rfl (Nat.le_of_ble_eq_true rfl) d_Bk_transfer_67 rfl ?_
      refine kz_callVv (c_St_keep l (by assumption)) cv_Bk_255 rfl rfl rfl ⟨by decide, by decide⟩ rfl (Nat.le_of_ble_eq_true rfl) d_Bk_transfer_70 rfl ?_
      refine kz_eta ?_
      refine kz_aload_n d_Bk_transfer_73 rfl rfl ?_
      refine kz_getR fd_Bk_42 rfl rfl rfl d_Bk_transfer_74 rfl ?_
      refine kz_iload_n d_Bk_transfer_77 rfl rfl ?_
      refine kz_aload_n d_Bk_transfer_78 rfl rfl ?_
      refine kz_getR fd_Bk_42 rfl rfl rfl d_Bk_transfer_79 rfl ?_
      refine kz_iload_n d_Bk_transfer_82 rfl rfl ?_
      refine kz_callVi (c_Re_wordOf l (by assumption)) cv_Bk_97 rfl rfl rfl ⟨by decide, by decide⟩ rfl (Nat.le_of_ble_eq_true rfl) d_Bk_transfer_83 rfl ?_
      refine kz_iconst (v := 2) d_Bk_transfer_86 (by decide) rfl ?_
      refine kz_aload_n d_Bk_transfer_87 rfl rfl ?_
      refine kz_getIp fd_Bk_66 rfl rfl (Or.inl rfl) d_Bk_transfer_88 rfl ?_
      refine kz_callVv (c_Re_finish l (by assumption)) cv_Bk_101 rfl rfl rfl ⟨by decide, by decide⟩ rfl (Nat.le_of_ble_eq_true rfl) d_Bk_transfer_91 rfl ?_
      refine kz_eta ?_
      refine kz_goto (tgt := 149) d_Bk_transfer_94 (by decide) ?_
      exact kz_vret rfl d_Bk_transfer_149 (⟨rfl, ct_fin_w hn ha54 hk54⟩)
set_option maxRecDepth 100000 in
set_option maxHeartbeats 1000000 in
theorem ct_false (l : Launch) {M : kz_M} {t a : Int32} {n : Nat} {rs ws : List Int32} (hn : n < 32) (hnx : M.1 25 1 = nI n) (ht : vp_in t 400) (ha : vp_in a 256) (hr : ln_at M 19 rs) (hw : ln_at M 21 ws) : kz_T l sC m_Bk_transfer [.ref 0, .int t, .int a, .int (kz_ib false)] M (fun v O => v = none ∧ ct_R M n t a rs ws O false) := by
  have hb4 : vp_in (ck_bank a) 4 := ck_bank_in ha
  have etr : (cb_tr M (ck_bank a) false (M.1 0 9)).1 25 1 = M.1 25 1 := by simp [cb_tr, kz_u_ne]
  have e0 : (cb_tr M (ck_bank a) false (M.1 0 9)).1 0 9 = M.1 0 9 := by simp [cb_tr, kz_u_ne]
  have hr0 : ln_at (ct_0 M n false t a) 19 rs := ⟨by rw [ct_0_off 19 (by decide) (by decide) (by decide) (by decide) (by omega)]; exact hr.1, hr.2.1, fun i x hx => by rw [ct_0_off 20 (by decide) (by decide) (by decide) (by decide) (by omega)]; exact hr.2.2 i x hx⟩
  have hw0 : ln_at (ct_0 M n false t a) 21 ws := ⟨by rw [ct_0_off 21 (by decide) (by decide) (by decide) (by decide) (by omega)]; exact hw.1, hw.2.1, fun i x hx => by rw [ct_0_off 22 (by decide) (by decide) (by decide) (by decide) (by omega)]; exact hw.2.2 i x hx⟩
  refine kz_intro (by decide +kernel) (Nat.le_of_ble_eq_true rfl) ?_
  show kz_G l sC m_Bk_transfer 0 [some (.ref 0), some (.int t), some (.int a), some (.int (kz_ib false)), none, none, none] [] M _
  refine kz_aload_n d_Bk_transfer_0 rfl rfl ?_
  refine kz_getR fd_Bk_28 rfl rfl rfl d_Bk_transfer_1 rfl ?_
  refine kz_iload_n d_Bk_transfer_4 rfl rfl ?_
  refine kz_callSi (c_Bk_bankOf l) cs_Bk_232 rfl ⟨by decide, by decide⟩ rfl (Nat.le_of_ble_eq_true rfl) d_Bk_transfer_5 rfl ?_
  refine kz_iload_n d_Bk_transfer_8 rfl rfl ?_
  refine kz_aload_n d_Bk_transfer_9 rfl rfl ?_
  refine kz_getIp fd_Bk_66 rfl rfl (Or.inl rfl) d_Bk_transfer_10 rfl ?_
  refine kz_callVv (c_Ba_transfer l (by assumption)) cv_Bk_246 rfl rfl rfl ⟨by decide, by decide⟩ rfl (Nat.le_of_ble_eq_true rfl) d_Bk_transfer_13 rfl ?_
  refine kz_eta ?_
  refine kz_aload_n d_Bk_transfer_16 rfl rfl ?_
  refine kz_getR fd_Bk_62 rfl rfl rfl d_Bk_transfer_17 rfl ?_
  refine kz_iload_n d_Bk_transfer_20 rfl rfl ?_
  refine kz_if_eqb (tgt := 28) d_Bk_transfer_21 (by decide) rfl (fun h21 => ?_) (fun h21 => ?_)
  · refine kz_iconst (v := 2) d_Bk_transfer_28 (by decide) rfl ?_
    refine kz_iload_n d_Bk_transfer_29 rfl rfl ?_
    refine kz_callSi (c_Bk_bankOf l) cs_Bk_232 rfl ⟨by decide, by decide⟩ rfl (Nat.le_of_ble_eq_true rfl) d_Bk_transfer_30 rfl ?_
    refine kz_iload_n d_Bk_transfer_33 rfl rfl ?_
    refine kz_callSi (c_Bk_columnOf l) cs_Bk_249 rfl ⟨by decide, by decide⟩ rfl (Nat.le_of_ble_eq_true rfl) d_Bk_transfer_34 rfl ?_
    refine kz_aload_n d_Bk_transfer_37 rfl rfl ?_
    refine kz_getIp fd_Bk_66 rfl rfl (Or.inl rfl) d_Bk_transfer_38 rfl ?_
    refine kz_iload_n d_Bk_transfer_41 rfl rfl ?_
    refine kz_callVv (c_Jo_enter l hn (n := n) (by rw [etr]; exact hnx)) cv_Bk_198 rfl rfl rfl ⟨by decide, by decide⟩ rfl (Nat.le_of_ble_eq_true rfl) d_Bk_transfer_42 rfl ?_
    refine kz_eta ?_
    refine kz_memq (N := ct_0 M n false t a) (ct_0_eq e0) ?_
    refine kz_eta ?_
    refine kz_iload_n d_Bk_transfer_45 rfl rfl ?_
    refine kz_if_eqb (tgt := 97) d_Bk_transfer_46 (by decide) rfl (fun h46 => ?_) (fun h46 => ?_)
    · refine kz_aload_n d_Bk_transfer_97 rfl rfl ?_
      refine kz_getR fd_Bk_49 rfl rfl rfl d_Bk_transfer_98 rfl ?_
      refine kz_iload_n d_Bk_transfer_101 rfl rfl ?_
      refine kz_callVr (c_Li_remove l (by first | exact kl_19 | exact kl_21 | exact kl_23) (by assumption)) cv_Bk_252 rfl rfl rfl ⟨by decide, by decide⟩ rfl (Nat.le_of_ble_eq_true rfl) d_Bk_transfer_102 rfl (fun v102 N102 q102 => ?_)
      obtain ⟨rfl, ha102, hk102⟩ := q102
      refine kz_aload_n d_Bk_transfer_105 rfl rfl ?_
      refine kz_getR fd_Bk_35 rfl rfl rfl d_Bk_transfer_106 rfl ?_
      refine kz_iload_n d_Bk_transfer_109 rfl rfl ?_
      refine kz_callVi (c_St_faultOf l (by assumption)) cv_Bk_258 rfl rfl rfl ⟨by decide, by decide⟩ rfl (Nat.le_of_ble_eq_true rfl) d_Bk_transfer_110 rfl ?_
      refine kz_istore d_Bk_transfer_113 rfl (Nat.le_of_ble_eq_true rfl) rfl ?_
      refine kz_aload_n d_Bk_transfer_115 rfl rfl ?_
      refine kz_getR fd_Bk_35 rfl rfl rfl d_Bk_transfer_116 rfl ?_
      refine kz_iload_n d_Bk_transfer_119 rfl rfl ?_
      refine kz_iload d_Bk_transfer_120 rfl rfl ?_
      refine kz_callVi (c_St_wordAt l (by assumption)) cv_Bk_261 rfl rfl rfl ⟨by decide, by decide⟩ rfl (Nat.le_of_ble_eq_true rfl) d_Bk_transfer_122 rfl ?_
      refine kz_lstore d_Bk_transfer_125 rfl (Nat.le_of_ble_eq_true rfl) rfl ?_
      refine kz_aload_n d_Bk_transfer_127 rfl rfl ?_
      refine kz_getR fd_Bk_42 rfl rfl rfl d_Bk_transfer_128 rfl ?_
      refine kz_iload_n d_Bk_transfer_131 rfl rfl ?_
      refine kz_lload d_Bk_transfer_132 rfl rfl ?_
      refine kz_iload d_Bk_transfer_134 rfl rfl ?_
      refine kz_callSi (c_Bk_stageAfter l) cs_Bk_265 rfl ⟨by decide, by decide⟩ rfl (Nat.le_of_ble_eq_true rfl) d_Bk_transfer_136 rfl ?_
      refine kz_aload_n d_Bk_transfer_139 rfl rfl ?_
      refine kz_getR fd_Bk_28 rfl rfl rfl d_Bk_transfer_140 rfl ?_
      refine kz_callVi (c_Ba_endOfBurst l) cv_Bk_268 rfl rfl rfl ⟨by decide, by decide⟩ rfl (Nat.le_of_ble_eq_true rfl) d_Bk_transfer_143 rfl ?_
      refine kz_callVv (c_Re_finish l (by assumption)) cv_Bk_101 rfl rfl rfl ⟨by decide, by decide⟩ rfl (Nat.le_of_ble_eq_true rfl) d_Bk_transfer_146 rfl ?_
      refine kz_eta ?_
      exact kz_vret rfl d_Bk_transfer_149 (⟨rfl, ct_fin_r hn ha102 hk102⟩)
    · cases h46
  · cases h21
theorem c_Bk_transfer (l : Launch) {M : kz_M} {t a : Int32} {n : Nat} {rs ws : List Int32} (hn : n < 32) (hnx : M.1 25 1 = nI n) (ht : vp_in t 400) (ha : vp_in a 256) (hr : ln_at M 19 rs) (hw : ln_at M 21 ws) (w : Bool) : kz_T l sC m_Bk_transfer [.ref 0, .int t, .int a, .int (kz_ib w)] M (fun v O => v = none ∧ ct_R M n t a rs ws O w) := by
  cases w
  · exact ct_false l hn hnx ht ha hr hw
  · exact ct_true l hn hnx ht ha hr hw
