/-! Contracts of the class: the oldest that may be transferred; opening and closing. -/
def cx_w (M : kz_M) (t : Int32) : Bool := decide (M.1 14 t.toNatClampNeg = 1)
theorem cx_w_of {M : kz_M} {t : Int32} (h : M.1 14 t.toNatClampNeg = 0 ∨ M.1 14 t.toNatClampNeg = 1) : M.1 14 t.toNatClampNeg = kz_ib (cx_w M t) := by
  unfold cx_w
  rcases h with h | h
  · rw [h]; decide
  · rw [h]; decide
def cx_may (M : kz_M) (t : Int32) : Bool := cb_mayTr M (ck_bank (cx_adr M t)) (ck_row (cx_adr M t)) (cx_w M t) (M.1 0 9)
def ct_O (M : kz_M) (n : Nat) (rs ws : List Int32) (O : kz_M) : Option Int32 → Prop
  | some t => ct_R M n t (cx_adr M t) rs ws O (cx_w M t)
  | none => O = M
def cx_go (M : kz_M) (lk : List Int32) (t : Int32) : Bool := cb_mayAct M (ck_bank (cx_adr M t)) (M.1 0 9) || (cb_mayPre M (ck_bank (cx_adr M t)) (M.1 0 9) && !cx_want M lk (ck_bank (cx_adr M t)))
def cx_do (M : kz_M) (n : Nat) : Option Int32 → kz_M
  | some t => if cb_mayAct M (ck_bank (cx_adr M t)) (M.1 0 9) = true then co_act M n (ck_bank (cx_adr M t)) (ck_row (cx_adr M t)) else co_pre M n (ck_bank (cx_adr M t))
  | none => M
def cx_tk (M : kz_M) (lk : List Int32) : Prop := ∀ t ∈ lk, vp_in t 400 ∧ vp_in (cx_adr M t) 256 ∧ (M.1 14 t.toNatClampNeg = 0 ∨ M.1 14 t.toNatClampNeg = 1)
set_option maxRecDepth 100000 in
set_option maxHeartbeats 1000000 in
theorem lp_tro (l : Launch) {M : kz_M} {n : Nat} {rs ws lk : List Int32} (hn : n < 32) (hnx : M.1 25 1 = nI n) (hr : ln_at M 19 rs) (hw : ln_at M 21 ws) (hk : ln_at M 23 lk) (htk : cx_tk M lk) : ∀ (ys : List Int32) (i : Nat) (z2 z3 z4 : Option Value), (∀ v, z2 = some v → v.category = 1) → (∀ v, z3 = some v → v.category = 1) → lk.drop i = ys → i ≤ 8 → kz_G l sC m_Bk_transferOldest 2 [some (.ref 0), some (.int (nI i)), z2, z3, z4] [] M (fun v O => v = some (.int (kz_ib (ys.find? (cx_may M)).isSome)) ∧ ct_O M n rs ws O (ys.find? (cx_may M))) := by
  intro ys
  have h8 := hk.2.1
  induction ys with
  | nil =>
    intro i z2 z3 z4 hz2 hz3 hd hi
    have hl := ln_drop0 hd
    refine kz_iload_n d_Bk_transferOldest_2 rfl rfl ?_
    refine kz_aload_n d_Bk_transferOldest_3 rfl rfl ?_
    refine kz_getR fd_Bk_56 rfl rfl rfl d_Bk_transferOldest_4 rfl ?_
    refine kz_callVi (c_Li_size l (by first | exact kl_19 | exact kl_21 | exact kl_23)) cv_Bk_81 rfl rfl rfl ⟨by decide, by decide⟩ rfl (Nat.le_of_ble_eq_true rfl) d_Bk_transferOldest_7 rfl ?_
    refine kz_topi hk.1 ?_
    refine kz_icmp_ge (tgt := 81) d_Bk_transferOldest_10 (by decide) rfl (fun h10 => ?_) (fun h10 => ?_)
    · refine kz_iconst (v := 0) d_Bk_transferOldest_81 (by decide) rfl ?_
      exact kz_zret rfl d_Bk_transferOldest_82 (by first | assumption | decide | exact kz_ib_or _) (⟨rfl, rfl⟩)
    · exact absurd (nI_le hl (by omega)) h10
  | cons y ys ih =>
    intro i z2 z3 z4 hz2 hz3 hd hi
    obtain ⟨hl, hy, hd2⟩ := ln_drop hd
    have hi8 : vp_in (nI i) 8 := ln_in8 hl h8
    obtain ⟨hy4, hya, hy01⟩ := htk y (List.mem_of_getElem? hy)
    have hyw := cx_w_of hy01
    have hb4 : vp_in (ck_bank (cx_adr M y)) 4 := ck_bank_in hya
    refine kz_iload_n d_Bk_transferOldest_2 rfl rfl ?_
    refine kz_aload_n d_Bk_transferOldest_3 rfl rfl ?_
    refine kz_getR fd_Bk_56 rfl rfl rfl d_Bk_transferOldest_4 rfl ?_
    refine kz_callVi (c_Li_size l (by first | exact kl_19 | exact kl_21 | exact kl_23)) cv_Bk_81 rfl rfl rfl ⟨by decide, by decide⟩ rfl (Nat.le_of_ble_eq_true rfl) d_Bk_transferOldest_7 rfl ?_
    refine kz_topi hk.1 ?_
    refine kz_icmp_ge (tgt := 81) d_Bk_transferOldest_10 (by decide) rfl (fun h10 => ?_) (fun h10 => ?_)
    · exact absurd h10 (nI_ge hl (by omega))
    · refine kz_aload_n d_Bk_transferOldest_13 rfl rfl ?_
      refine kz_getR fd_Bk_56 rfl rfl rfl d_Bk_transferOldest_14 rfl ?_
      refine kz_iload_n d_Bk_transferOldest_17 rfl rfl ?_
      refine kz_callVi (c_Li_at l (by first | exact kl_19 | exact kl_21 | exact kl_23) (by assumption)) cv_Bk_151 rfl rfl rfl ⟨by decide, by decide⟩ rfl (Nat.le_of_ble_eq_true rfl) d_Bk_transferOldest_18 rfl ?_
      refine kz_topi (ln_read hk hy) ?_
      refine kz_istore_n (i := 2) d_Bk_transferOldest_21 rfl rfl (Nat.le_of_ble_eq_true rfl) rfl ?_
      refine kz_aload_n d_Bk_transferOldest_22 rfl rfl ?_
      refine kz_getR fd_Bk_42 rfl rfl rfl d_Bk_transferOldest_23 rfl ?_
      refine kz_iload_n d_Bk_transferOldest_26 rfl rfl ?_
      refine kz_callVi (c_Re_addressOf l (by assumption)) cv_Bk_154 rfl rfl rfl ⟨by decide, by decide⟩ rfl (Nat.le_of_ble_eq_true rfl) d_Bk_transferOldest_27 rfl ?_
      refine kz_istore_n (i := 3) d_Bk_transferOldest_30 rfl rfl (Nat.le_of_ble_eq_true rfl) rfl ?_
      refine kz_aload_n d_Bk_transferOldest_31 rfl rfl ?_
      refine kz_getR fd_Bk_42 rfl rfl rfl d_Bk_transferOldest_32 rfl ?_
      refine kz_iload_n d_Bk_transferOldest_35 rfl rfl ?_
      refine kz_callVi (c_Re_isWriting l hy4 hyw) cv_Bk_229 rfl rfl rfl ⟨by decide, by decide⟩ rfl (Nat.le_of_ble_eq_true rfl) d_Bk_transferOldest_36 rfl ?_
      refine kz_istore d_Bk_transferOldest_39 rfl (Nat.le_of_ble_eq_true rfl) rfl ?_
      refine kz_aload_n d_Bk_transferOldest_41 rfl rfl ?_
      refine kz_getR fd_Bk_28 rfl rfl rfl d_Bk_transferOldest_42 rfl ?_
      refine kz_iload_n d_Bk_transferOldest_45 rfl rfl ?_
      refine kz_callSi (c_Bk_bankOf l) cs_Bk_232 rfl ⟨by decide, by decide⟩ rfl (Nat.le_of_ble_eq_true rfl) d_Bk_transferOldest_46 rfl ?_
      refine kz_iload_n d_Bk_transferOldest_49 rfl rfl ?_
      refine kz_callSi (c_Bk_rowOf l) cs_Bk_235 rfl ⟨by decide, by decide⟩ rfl (Nat.le_of_ble_eq_true rfl) d_Bk_transferOldest_50 rfl ?_
      refine kz_iload d_Bk_transferOldest_53 rfl rfl ?_
      refine kz_aload_n d_Bk_transferOldest_55 rfl rfl ?_
      refine kz_getIp fd_Bk_66 rfl rfl (Or.inl rfl) d_Bk_transferOldest_56 rfl ?_
      refine kz_callVi (c_Ba_mayTransfer l (by assumption)) cv_Bk_238 rfl rfl rfl ⟨by decide, by decide⟩ rfl (Nat.le_of_ble_eq_true rfl) d_Bk_transferOldest_59 rfl ?_
      refine kz_if_eqb (tgt := 75) d_Bk_transferOldest_62 (by decide) rfl (fun h62 => ?_) (fun h62 => ?_)
      · refine kz_iinc d_Bk_transferOldest_75 rfl rfl (Nat.le_of_ble_eq_true rfl) (kz_inc i) rfl ?_
        refine kz_goto (tgt := 2) d_Bk_transferOldest_78 (by decide) ?_
        have h := ih (i + 1) (some (.int y)) (some (.int (cx_adr M y))) (some (.int (kz_ib (cx_w M y)))) (fun v e => by cases e; rfl) (fun v e => by cases e; rfl) hd2 (by omega)
        rw [List.find?_cons, show cx_may M y = false from h62]
        exact h
      · refine kz_aload_n d_Bk_transferOldest_65 rfl rfl ?_
        refine kz_iload_n d_Bk_transferOldest_66 rfl rfl ?_
        refine kz_iload_n d_Bk_transferOldest_67 rfl rfl ?_
        refine kz_iload d_Bk_transferOldest_68 rfl rfl ?_
        refine kz_callVr (c_Bk_transfer l hn hnx hy4 hya hr hw (cx_w M y)) cv_Bk_242 rfl rfl rfl ⟨by decide, by decide⟩ rfl (Nat.le_of_ble_eq_true rfl) d_Bk_transferOldest_70 rfl (fun v70 N70 q70 => ?_)
        obtain ⟨rfl, hR70⟩ := q70
        refine kz_iconst (v := 1) d_Bk_transferOldest_73 (by decide) rfl ?_
        exact kz_zret rfl d_Bk_transferOldest_74 (by first | assumption | decide | exact kz_ib_or _) (by rw [List.find?_cons, show cx_may M y = true from h62]; exact ⟨rfl, hR70⟩)
set_option maxRecDepth 100000 in
set_option maxHeartbeats 1000000 in
theorem c_Bk_transferOldest (l : Launch) {M : kz_M} {n : Nat} {rs ws lk : List Int32} (hn : n < 32) (hnx : M.1 25 1 = nI n) (hr : ln_at M 19 rs) (hw : ln_at M 21 ws) (hk : ln_at M 23 lk) (htk : cx_tk M lk) : kz_T l sC m_Bk_transferOldest [.ref 0] M (fun v O => v = some (.int (kz_ib (lk.find? (cx_may M)).isSome)) ∧ ct_O M n rs ws O (lk.find? (cx_may M))) := by
  refine kz_intro (by decide +kernel) (Nat.le_of_ble_eq_true rfl) ?_
  show kz_G l sC m_Bk_transferOldest 0 [some (.ref 0), none, none, none, none] [] M _
  refine kz_iconst (v := 0) d_Bk_transferOldest_0 (by decide) rfl ?_
  refine kz_istore_n (i := 1) d_Bk_transferOldest_1 rfl rfl (Nat.le_of_ble_eq_true rfl) rfl ?_
  exact lp_tro l hn hnx hr hw hk htk lk 0 none none none (fun v e => by cases e) (fun v e => by cases e) rfl (by decide)
set_option maxRecDepth 100000 in
set_option maxHeartbeats 1000000 in
theorem lp_ooc (l : Launch) {M : kz_M} {n : Nat} {lk : List Int32} (hn : n < 32) (hnx : M.1 25 1 = nI n) (hk : ln_at M 23 lk) (htk : cx_tk M lk) : ∀ (ys : List Int32) (i : Nat) (z2 z3 : Option Value), (∀ v, z2 = some v → v.category = 1) → lk.drop i = ys → i ≤ 8 → kz_G l sC m_Bk_openOrCloseForOldest 2 [some (.ref 0), some (.int (nI i)), z2, z3] [] M (fun v O => v = none ∧ O = cx_do M n (ys.find? (cx_go M lk))) := by
  intro ys
  have h8 := hk.2.1
  induction ys with
  | nil =>
    intro i z2 z3 hz2 hd hi
    have hl := ln_drop0 hd
    refine kz_iload_n d_Bk_openOrCloseForOldest_2 rfl rfl ?_
    refine kz_aload_n d_Bk_openOrCloseForOldest_3 rfl rfl ?_
    refine kz_getR fd_Bk_56 rfl rfl rfl d_Bk_openOrCloseForOldest_4 rfl ?_
    refine kz_callVi (c_Li_size l (by first | exact kl_19 | exact kl_21 | exact kl_23)) cv_Bk_81 rfl rfl rfl ⟨by decide, by decide⟩ rfl (Nat.le_of_ble_eq_true rfl) d_Bk_openOrCloseForOldest_7 rfl ?_
    refine kz_topi hk.1 ?_
    refine kz_icmp_ge (tgt := 94) d_Bk_openOrCloseForOldest_10 (by decide) rfl (fun h10 => ?_) (fun h10 => ?_)
    · exact kz_vret rfl d_Bk_openOrCloseForOldest_94 (⟨rfl, rfl⟩)
    · exact absurd (nI_le hl (by omega)) h10
  | cons y ys ih =>
    intro i z2 z3 hz2 hd hi
    obtain ⟨hl, hy, hd2⟩ := ln_drop hd
    have hi8 : vp_in (nI i) 8 := ln_in8 hl h8
    obtain ⟨hy4, hya, hy01⟩ := htk y (List.mem_of_getElem? hy)
    have hb4 : vp_in (ck_bank (cx_adr M y)) 4 := ck_bank_in hya
    refine kz_iload_n d_Bk_openOrCloseForOldest_2 rfl rfl ?_
    refine kz_aload_n d_Bk_openOrCloseForOldest_3 rfl rfl ?_
    refine kz_getR fd_Bk_56 rfl rfl rfl d_Bk_openOrCloseForOldest_4 rfl ?_
    refine kz_callVi (c_Li_size l (by first | exact kl_19 | exact kl_21 | exact kl_23)) cv_Bk_81 rfl rfl rfl ⟨by decide, by decide⟩ rfl (Nat.le_of_ble_eq_true rfl) d_Bk_openOrCloseForOldest_7 rfl ?_
    refine kz_topi hk.1 ?_
    refine kz_icmp_ge (tgt := 94) d_Bk_openOrCloseForOldest_10 (by decide) rfl (fun h10 => ?_) (fun h10 => ?_)
    · exact absurd h10 (nI_ge hl (by omega))
    · refine kz_aload_n d_Bk_openOrCloseForOldest_13 rfl rfl ?_
      refine kz_getR fd_Bk_42 rfl rfl rfl d_Bk_openOrCloseForOldest_14 rfl ?_
      refine kz_aload_n d_Bk_openOrCloseForOldest_17 rfl rfl ?_
      refine kz_getR fd_Bk_56 rfl rfl rfl d_Bk_openOrCloseForOldest_18 rfl ?_
      refine kz_iload_n d_Bk_openOrCloseForOldest_21 rfl rfl ?_
      refine kz_callVi (c_Li_at l (by first | exact kl_19 | exact kl_21 | exact kl_23) (by assumption)) cv_Bk_151 rfl rfl rfl ⟨by decide, by decide⟩ rfl (Nat.le_of_ble_eq_true rfl) d_Bk_openOrCloseForOldest_22 rfl ?_
      refine kz_topi (ln_read hk hy) ?_
      refine kz_callVi (c_Re_addressOf l (by assumption)) cv_Bk_154 rfl rfl rfl ⟨by decide, by decide⟩ rfl (Nat.le_of_ble_eq_true rfl) d_Bk_openOrCloseForOldest_25 rfl ?_
      refine kz_istore_n (i := 2) d_Bk_openOrCloseForOldest_28 rfl rfl (Nat.le_of_ble_eq_true rfl) rfl ?_
      refine kz_iload_n d_Bk_openOrCloseForOldest_29 rfl rfl ?_
      refine kz_callSi (c_Bk_bankOf l) cs_Bk_232 rfl ⟨by decide, by decide⟩ rfl (Nat.le_of_ble_eq_true rfl) d_Bk_openOrCloseForOldest_30 rfl ?_
      refine kz_istore_n (i := 3) d_Bk_openOrCloseForOldest_33 rfl rfl (Nat.le_of_ble_eq_true rfl) rfl ?_
      refine kz_aload_n d_Bk_openOrCloseForOldest_34 rfl rfl ?_
      refine kz_getR fd_Bk_28 rfl rfl rfl d_Bk_openOrCloseForOldest_35 rfl ?_
      refine kz_iload_n d_Bk_openOrCloseForOldest_38 rfl rfl ?_
      refine kz_aload_n d_Bk_openOrCloseForOldest_39 rfl rfl ?_
      refine kz_getIp fd_Bk_66 rfl rfl (Or.inl rfl) d_Bk_openOrCloseForOldest_40 rfl ?_
      refine kz_callVi (c_Ba_mayActivate l (by assumption)) cv_Bk_271 rfl rfl rfl ⟨by decide, by decide⟩ rfl (Nat.le_of_ble_eq_true rfl) d_Bk_openOrCloseForOldest_43 rfl ?_
      refine kz_if_eqb (tgt := 59) d_Bk_openOrCloseForOldest_46 (by decide) rfl (fun h46 => ?_) (fun h46 => ?_)
      · refine kz_aload_n d_Bk_openOrCloseForOldest_59 rfl rfl ?_
        refine kz_getR fd_Bk_28 rfl rfl rfl d_Bk_openOrCloseForOldest_60 rfl ?_
        refine kz_iload_n d_Bk_openOrCloseForOldest_63 rfl rfl ?_
        refine kz_aload_n d_Bk_openOrCloseForOldest_64 rfl rfl ?_
        refine kz_getIp fd_Bk_66 rfl rfl (Or.inl rfl) d_Bk_openOrCloseForOldest_65 rfl ?_
        refine kz_callVi (c_Ba_mayPrecharge l (by assumption)) cv_Bk_190 rfl rfl rfl ⟨by decide, by decide⟩ rfl (Nat.le_of_ble_eq_true rfl) d_Bk_openOrCloseForOldest_68 rfl ?_
        refine kz_if_eqb (tgt := 88) d_Bk_openOrCloseForOldest_71 (by decide) rfl (fun h71 => ?_) (fun h71 => ?_)
        · refine kz_iinc d_Bk_openOrCloseForOldest_88 rfl rfl (Nat.le_of_ble_eq_true rfl) (kz_inc i) rfl ?_
          refine kz_goto (tgt := 2) d_Bk_openOrCloseForOldest_91 (by decide) ?_
          have h := ih (i + 1) (some (.int (cx_adr M y))) (some (.int (ck_bank (cx_adr M y)))) (fun v e => by cases e; rfl) hd2 (by omega)
          have hg : cx_go M lk y = false := by (unfold cx_go; rw [show cb_mayAct M (ck_bank (cx_adr M y)) (M.1 0 9) = false from h46]; first | (rw [show cb_mayPre M (ck_bank (cx_adr M y)) (M.1 0 9) = false from h71]; rfl) | (rw [show cx_want M lk (ck_bank (cx_adr M y)) = true from h79]; simp))
          rw [List.find?_cons, hg]
          exact h
        · refine kz_aload_n d_Bk_openOrCloseForOldest_74 rfl rfl ?_
          refine kz_iload_n d_Bk_openOrCloseForOldest_75 rfl rfl ?_
          refine kz_callVi (c_Bk_openRowIsWanted l hk (fun r h => (htk r h).1) hb4) cv_Bk_276 rfl rfl rfl ⟨by decide, by decide⟩ rfl (Nat.le_of_ble_eq_true rfl) d_Bk_openOrCloseForOldest_76 rfl ?_
          refine kz_if_neb (tgt := 88) d_Bk_openOrCloseForOldest_79 (by decide) rfl (fun h79 => ?_) (fun h79 => ?_)
          · refine kz_iinc d_Bk_openOrCloseForOldest_88 rfl rfl (Nat.le_of_ble_eq_true rfl) (kz_inc i) rfl ?_
            refine kz_goto (tgt := 2) d_Bk_openOrCloseForOldest_91 (by decide) ?_
            have h := ih (i + 1) (some (.int (cx_adr M y))) (some (.int (ck_bank (cx_adr M y)))) (fun v e => by cases e; rfl) hd2 (by omega)
            have hg : cx_go M lk y = false := by (unfold cx_go; rw [show cb_mayAct M (ck_bank (cx_adr M y)) (M.1 0 9) = false from h46]; first | (rw [show cb_mayPre M (ck_bank (cx_adr M y)) (M.1 0 9) = false from h71]; rfl) | (rw [show cx_want M lk (ck_bank (cx_adr M y)) = true from h79]; simp))
            rw [List.find?_cons, hg]
            exact h
          · refine kz_aload_n d_Bk_openOrCloseForOldest_82 rfl rfl ?_
            refine kz_iload_n d_Bk_openOrCloseForOldest_83 rfl rfl ?_
            refine kz_callVv (c_Bk_precharge l hb4 hn hnx) cv_Bk_193 rfl rfl rfl ⟨by decide, by decide⟩ rfl (Nat.le_of_ble_eq_true rfl) d_Bk_openOrCloseForOldest_84 rfl ?_
            refine kz_eta ?_
            exact kz_vret rfl d_Bk_openOrCloseForOldest_87 (by (have hg : cx_go M lk y = true := by (unfold cx_go; rw [show cb_mayAct M (ck_bank (cx_adr M y)) (M.1 0 9) = false from h46, show cb_mayPre M (ck_bank (cx_adr M y)) (M.1 0 9) = true from h71, show cx_want M lk (ck_bank (cx_adr M y)) = false from h79]; (try rfl))); rw [List.find?_cons, hg]; exact ⟨rfl, by show _ = cx_do M n (some y); rw [cx_do, if_neg (by rw [show cb_mayAct M (ck_bank (cx_adr M y)) (M.1 0 9) = false from h46]; decide)]⟩)
      · refine kz_aload_n d_Bk_openOrCloseForOldest_49 rfl rfl ?_
        refine kz_iload_n d_Bk_openOrCloseForOldest_50 rfl rfl ?_
        refine kz_iload_n d_Bk_openOrCloseForOldest_51 rfl rfl ?_
        refine kz_callSi (c_Bk_rowOf l) cs_Bk_235 rfl ⟨by decide, by decide⟩ rfl (Nat.le_of_ble_eq_true rfl) d_Bk_openOrCloseForOldest_52 rfl ?_
        refine kz_callVv (c_Bk_activate l hb4 hn hnx) cv_Bk_274 rfl rfl rfl ⟨by decide, by decide⟩ rfl (Nat.le_of_ble_eq_true rfl) d_Bk_openOrCloseForOldest_55 rfl ?_
        refine kz_eta ?_
        exact kz_vret rfl d_Bk_openOrCloseForOldest_58 (by (have hg : cx_go M lk y = true := by (unfold cx_go; rw [show cb_mayAct M (ck_bank (cx_adr M y)) (M.1 0 9) = true from h46]; rfl)); rw [List.find?_cons, hg]; exact ⟨rfl, by show _ = cx_do M n (some y); rw [cx_do, if_pos (show cb_mayAct M (ck_bank (cx_adr M y)) (M.1 0 9) = true from h46)]; rfl⟩)
set_option maxRecDepth 100000 in
set_option maxHeartbeats 1000000 in
theorem c_Bk_openOrCloseForOldest (l : Launch) {M : kz_M} {n : Nat} {lk : List Int32} (hn : n < 32) (hnx : M.1 25 1 = nI n) (hk : ln_at M 23 lk) (htk : cx_tk M lk) : kz_Dt l sC m_Bk_openOrCloseForOldest [.ref 0] M none (cx_do M n (lk.find? (cx_go M lk))) := by
  refine kz_intro (by decide +kernel) (Nat.le_of_ble_eq_true rfl) ?_
  show kz_G l sC m_Bk_openOrCloseForOldest 0 [some (.ref 0), none, none, none] [] M _
  refine kz_iconst (v := 0) d_Bk_openOrCloseForOldest_0 (by decide) rfl ?_
  refine kz_istore_n (i := 1) d_Bk_openOrCloseForOldest_1 rfl rfl (Nat.le_of_ble_eq_true rfl) rfl ?_
  exact lp_ooc l hn hnx hk htk lk 0 none none (fun v e => by cases e) rfl (by decide)
