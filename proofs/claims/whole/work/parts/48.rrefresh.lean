/-! Contracts of the reference: scrubbing, refreshing. -/
def rr_scr (M : kz_M) : kz_M := (kz_u (if rt_pl (rw_get M (M.1 0 6).toNatClampNeg) < 0 then (rt_M M (rw_get M (M.1 0 6).toNatClampNeg)).1 else kz_u (rw_put (rt_M M (rw_get M (M.1 0 6).toNatClampNeg)) (M.1 0 6).toNatClampNeg (bt_turn (rw_get M (M.1 0 6).toNatClampNeg) (rt_pl (rw_get M (M.1 0 6).toNatClampNeg)))).1 0 5 (M.1 0 5 + 1)) 0 6 (M.1 0 6 + 1 - (M.1 0 6 + 1) / 256 * 256),
  if rt_pl (rw_get M (M.1 0 6).toNatClampNeg) < 0 then (rt_M M (rw_get M (M.1 0 6).toNatClampNeg)).2 else (rw_put (rt_M M (rw_get M (M.1 0 6).toNatClampNeg)) (M.1 0 6).toNatClampNeg (bt_turn (rw_get M (M.1 0 6).toNatClampNeg) (rt_pl (rw_get M (M.1 0 6).toNatClampNeg)))).2)
theorem rt_40 (M : kz_M) (x : bt_T) : (rt_M M x).1 0 40 = rt_pl x := by simp [rt_M, kz_u_same, kz_u_ne]
theorem rt_off (M : kz_M) (x : bt_T) (j : Nat) (h1 : j ≠ 39) (h2 : j ≠ 40) : (rt_M M x).1 0 j = M.1 0 j := by simp [rt_M, kz_u_ne, h1, h2]
theorem rt_get (M : kz_M) (x : bt_T) (a : Nat) : rw_get (rt_M M x) a = rw_get M a := by simp [rw_get, rt_M, kz_u_off]
set_option maxRecDepth 100000 in
set_option maxHeartbeats 1000000 in
theorem c_Mo_scrub (l : Launch) {M : kz_M} (hs : vp_in (M.1 0 6) 256) : kz_Dt l sR m_Mo_scrub [.ref 0] M none (rr_scr M) := by
  refine kz_intro (by decide +kernel) (Nat.le_of_ble_eq_true rfl) ?_
  show kz_G l sR m_Mo_scrub 0 [some (.ref 0)] [] M _
  refine kz_aload_n d_Mo_scrub_0 rfl rfl ?_
  refine kz_aload_n d_Mo_scrub_1 rfl rfl ?_
  refine kz_getIp fd_Mo_121 rfl rfl (Or.inl rfl) d_Mo_scrub_2 rfl ?_
  refine kz_callVv (c_Mo_take l hs) cv_Mo_124 rfl rfl rfl ⟨by decide, by decide⟩ rfl (Nat.le_of_ble_eq_true rfl) d_Mo_scrub_5 rfl ?_
  refine kz_eta ?_
  refine kz_aload_n d_Mo_scrub_8 rfl rfl ?_
  refine kz_getIp fd_Mo_111 rfl rfl (Or.inl rfl) d_Mo_scrub_9 rfl ?_
  refine kz_topi (rt_40 _ _) ?_
  refine kz_if_lt (tgt := 37) d_Mo_scrub_12 (by decide) rfl (fun h12 => ?_) (fun h12 => ?_)
  · refine kz_aload_n d_Mo_scrub_37 rfl rfl ?_
    refine kz_aload_n d_Mo_scrub_38 rfl rfl ?_
    refine kz_getIp fd_Mo_121 rfl rfl (Or.inl rfl) d_Mo_scrub_39 rfl ?_
    refine kz_iconst (v := 1) d_Mo_scrub_42 (by decide) rfl ?_
    refine kz_iadd d_Mo_scrub_43 rfl ?_
    refine kz_sipush (v := 256) d_Mo_scrub_44 (by decide) rfl ?_
    refine kz_irem d_Mo_scrub_47 (by first | assumption | decide) rfl ?_
    refine kz_putIp fd_Mo_121 rfl rfl d_Mo_scrub_48 rfl ?_
    exact kz_vret rfl d_Mo_scrub_51 (⟨rfl, by have e : ∀ X : kz_M, (X.1, X.2) = X := fun _ => rfl; have q12 := h12; simp only [e] at q12; simp only [e]; simp [rr_scr, q12, rt_off, rt_get, rw_put, kz_u_ne]⟩)
  · refine kz_aload_n d_Mo_scrub_15 rfl rfl ?_
    refine kz_aload_n d_Mo_scrub_16 rfl rfl ?_
    refine kz_getIp fd_Mo_121 rfl rfl (Or.inl rfl) d_Mo_scrub_17 rfl ?_
    refine kz_topi (rt_off _ _ 6 (by decide) (by decide)) ?_
    refine kz_aload_n d_Mo_scrub_20 rfl rfl ?_
    refine kz_getIp fd_Mo_111 rfl rfl (Or.inl rfl) d_Mo_scrub_21 rfl ?_
    refine kz_topi (rt_40 _ _) ?_
    refine kz_callVv (c_Mo_turn l hs) cv_Mo_103 rfl rfl rfl ⟨by decide, by decide⟩ rfl (Nat.le_of_ble_eq_true rfl) d_Mo_scrub_24 rfl ?_
    refine kz_eta ?_
    refine kz_aload_n d_Mo_scrub_27 rfl rfl ?_
    refine kz_dup d_Mo_scrub_28 rfl rfl ?_
    refine kz_getIp fd_Mo_128 rfl rfl (Or.inl rfl) d_Mo_scrub_29 rfl ?_
    refine kz_iconst (v := 1) d_Mo_scrub_32 (by decide) rfl ?_
    refine kz_iadd d_Mo_scrub_33 rfl ?_
    refine kz_putIp fd_Mo_128 rfl rfl d_Mo_scrub_34 rfl ?_
    refine kz_aload_n d_Mo_scrub_37 rfl rfl ?_
    refine kz_aload_n d_Mo_scrub_38 rfl rfl ?_
    refine kz_getIp fd_Mo_121 rfl rfl (Or.inl rfl) d_Mo_scrub_39 rfl ?_
    refine kz_iconst (v := 1) d_Mo_scrub_42 (by decide) rfl ?_
    refine kz_iadd d_Mo_scrub_43 rfl ?_
    refine kz_sipush (v := 256) d_Mo_scrub_44 (by decide) rfl ?_
    refine kz_irem d_Mo_scrub_47 (by first | assumption | decide) rfl ?_
    refine kz_putIp fd_Mo_121 rfl rfl d_Mo_scrub_48 rfl ?_
    exact kz_vret rfl d_Mo_scrub_51 (⟨rfl, by have e : ∀ X : kz_M, (X.1, X.2) = X := fun _ => rfl; have q12 := h12; simp only [e] at q12; simp only [e]; simp [rr_scr, q12, rt_off, rt_get, rw_put, kz_u_ne]⟩)
theorem rr_scrin {M : kz_M} (h : vp_in (M.1 0 6) 256) : vp_in ((rr_scr M).1 0 6) 256 := by
  obtain ⟨a, ha, he⟩ := vp_in_of h (by decide)
  have e : (rr_scr M).1 0 6 = nI ((a + 1) % 256) := by
    have e0 : (rr_scr M).1 0 6 = M.1 0 6 + 1 - (M.1 0 6 + 1) / 256 * 256 := by simp [rr_scr, kz_u_same]
    rw [e0, he, nI_1]
    exact pk_rem (a := a + 1) (d := 256) (by omega) (by decide) (by decide)
  rw [e]
  exact vp_in_nI (Nat.mod_lt _ (by decide)) (by decide)
def rr_cl (M : kz_M) : Nat → Nat → Bool → Bool
  | 0, _, z => z
  | n + 1, b, z => rr_cl M n (b - 1) (z && decide (M.1 4 b = -1))
def rr_rf0 (M : kz_M) (g : Nat) : kz_M := (kz_u (rr_give M g 4 (-1) (-1) (-1)).1 0 3 (M.1 0 3 - 1), M.2)
def rr_ref (M : kz_M) (g : Nat) : kz_M := if (rr_cl M 4 3 true && rr_mr M (rr_bh M (M.1 6 4) (M.1 1 12)) 4 0) = true then rr_scr (rr_scr (rr_rf0 M g)) else match rq_fst (rr_mayPre M) 4 0 with
  | some b => rr_pre M g (nI b)
  | none => M
theorem rr_rf6 (M : kz_M) (g : Nat) : (rr_rf0 M g).1 0 6 = M.1 0 6 := by simp [rr_rf0, rr_give, kz_u_ne]
theorem rr_rf3 (M : kz_M) (g : Nat) : (rr_give M g 4 (-1) (-1) (-1)).1 0 3 = M.1 0 3 := by simp [rr_give, kz_u_ne]
set_option maxRecDepth 100000 in
set_option maxHeartbeats 1000000 in
theorem rf_low (l : Launch) {M : kz_M} {g : Nat} {c : Int32} {z : Option Value} (hg : g < 2 ^ 31) (hge : M.1 0 4 = nI g) : kz_G l sR m_Mo_refresh 90 [some (.ref 0), some (.int (rq_ix (rq_fst (rr_mayPre M) 4 0))), some (.int c), z] [] M (fun v N => v = none ∧ N = match rq_fst (rr_mayPre M) 4 0 with
    | some b => rr_pre M g (nI b)
    | none => M) := by
  cases ho : rq_fst (rr_mayPre M) 4 0 with
  | none =>
    show kz_G l sR m_Mo_refresh 90 [some (.ref 0), some (.int (-1)), some (.int c), z] [] M _
    refine kz_iload_n d_Mo_refresh_90 rfl rfl ?_
    refine kz_if_lt (tgt := 99) d_Mo_refresh_91 (by decide) rfl (fun h91 => ?_) (fun h91 => ?_)
    · exact kz_vret rfl d_Mo_refresh_99 (⟨rfl, rfl⟩)
    · exact absurd (by decide) h91
  | some b =>
    obtain ⟨-, hb4⟩ := rq_fst_lt _ _ _ ho
    rw [Nat.zero_add] at hb4
    show kz_G l sR m_Mo_refresh 90 [some (.ref 0), some (.int (nI b)), some (.int c), z] [] M _
    refine kz_iload_n d_Mo_refresh_90 rfl rfl ?_
    refine kz_if_lt (tgt := 99) d_Mo_refresh_91 (by decide) rfl (fun h91 => ?_) (fun h91 => ?_)
    · exact kz_vret rfl d_Mo_refresh_99 (by first | exact absurd h91 (nI_pos (by omega)) | exact ⟨rfl, rfl⟩)
    · refine kz_aload_n d_Mo_refresh_94 rfl rfl ?_
      refine kz_iload_n d_Mo_refresh_95 rfl rfl ?_
      refine kz_callVv (c_Mo_precharge l (vp_in_nI hb4 (by decide)) hg hge) cv_Mo_193 rfl rfl rfl ⟨by decide, by decide⟩ rfl (Nat.le_of_ble_eq_true rfl) d_Mo_refresh_96 rfl ?_
      refine kz_eta ?_
      exact kz_vret rfl d_Mo_refresh_99 (by first | exact absurd h91 (nI_pos (by omega)) | exact ⟨rfl, rfl⟩)
set_option maxRecDepth 100000 in
set_option maxHeartbeats 1000000 in
theorem rf_end (l : Launch) {M : kz_M} {g : Nat} {cl : Bool} {z : Option Value} (hg : g < 2 ^ 31) (hge : M.1 0 4 = nI g) (hs : vp_in (M.1 0 6) 256) (hcl : rr_cl M 4 3 true = cl) : kz_G l sR m_Mo_refresh 50 [some (.ref 0), some (.int (rq_ix (rq_fst (rr_mayPre M) 4 0))), some (.int (kz_ib cl)), z] [] M (fun v N => v = none ∧ N = rr_ref M g) := by
  unfold rr_ref
  rw [hcl]
  refine kz_iload_n d_Mo_refresh_50 rfl rfl ?_
  refine kz_if_eqb (tgt := 90) d_Mo_refresh_51 (by decide) rfl (fun h51 => ?_) (fun h51 => ?_)
  · rw [if_neg (by rw [h51, Bool.false_and]; decide)]
    exact rf_low l hg hge
  · refine kz_aload_n d_Mo_refresh_54 rfl rfl ?_
    refine kz_callVi (c_Mo_mayRefresh l) cv_Mo_183 rfl rfl rfl ⟨by decide, by decide⟩ rfl (Nat.le_of_ble_eq_true rfl) d_Mo_refresh_55 rfl ?_
    refine kz_if_eqb (tgt := 90) d_Mo_refresh_58 (by decide) rfl (fun h58 => ?_) (fun h58 => ?_)
    · rw [if_neg (by rw [h58, Bool.and_false]; decide)]
      exact rf_low l hg hge
    · refine kz_aload_n d_Mo_refresh_61 rfl rfl ?_
      refine kz_iconst (v := 4) d_Mo_refresh_62 (by decide) rfl ?_
      refine kz_iconst (v := -1) d_Mo_refresh_63 (by decide) rfl ?_
      refine kz_iconst (v := -1) d_Mo_refresh_64 (by decide) rfl ?_
      refine kz_iconst (v := -1) d_Mo_refresh_65 (by decide) rfl ?_
      refine kz_callVv (c_Mo_give l hg hge (kz_vin (by decide)) (fun h => absurd (by decide) h) (fun h => absurd (by decide) h)) cv_Mo_163 rfl rfl rfl ⟨by decide, by decide⟩ rfl (Nat.le_of_ble_eq_true rfl) d_Mo_refresh_66 rfl ?_
      refine kz_eta ?_
      refine kz_aload_n d_Mo_refresh_69 rfl rfl ?_
      refine kz_dup d_Mo_refresh_70 rfl rfl ?_
      refine kz_getIp fd_Mo_187 rfl rfl (Or.inl rfl) d_Mo_refresh_71 rfl ?_
      refine kz_iconst (v := 1) d_Mo_refresh_74 (by decide) rfl ?_
      refine kz_isub d_Mo_refresh_75 rfl ?_
      refine kz_putIp fd_Mo_187 rfl rfl d_Mo_refresh_76 rfl ?_
      refine kz_memq (N := rr_rf0 M g) (by simp [rr_rf0, rr_rf3, rr_giveJ]) ?_
      refine kz_eta ?_
      refine kz_aload_n d_Mo_refresh_79 rfl rfl ?_
      refine kz_callVv (c_Mo_scrub l (by rw [rr_rf6]; exact hs)) cv_Mo_190 rfl rfl rfl ⟨by decide, by decide⟩ rfl (Nat.le_of_ble_eq_true rfl) d_Mo_refresh_80 rfl ?_
      refine kz_eta ?_
      refine kz_aload_n d_Mo_refresh_83 rfl rfl ?_
      refine kz_callVv (c_Mo_scrub l (rr_scrin (by rw [rr_rf6]; exact hs))) cv_Mo_190 rfl rfl rfl ⟨by decide, by decide⟩ rfl (Nat.le_of_ble_eq_true rfl) d_Mo_refresh_84 rfl ?_
      refine kz_eta ?_
      refine kz_goto (tgt := 99) d_Mo_refresh_87 (by decide) ?_
      exact kz_vret rfl d_Mo_refresh_99 (⟨rfl, by rw [if_pos (by rw [h51, h58]; rfl)]⟩)
set_option maxRecDepth 100000 in
set_option maxHeartbeats 1000000 in
theorem lp_rrf (l : Launch) {M : kz_M} {g : Nat} (hg : g < 2 ^ 31) (hge : M.1 0 4 = nI g) (hs : vp_in (M.1 0 6) 256) : ∀ (m : Nat) (x : Int32) (cl : Bool), x = nI m - 1 → m ≤ 4 → rr_cl M m (m - 1) cl = rr_cl M 4 3 true → kz_G l sR m_Mo_refresh 6 [some (.ref 0), some (.int (rq_ix (rq_fst (rr_mayPre M) (4 - m) m))), some (.int (kz_ib cl)), some (.int x)] [] M (fun v N => v = none ∧ N = rr_ref M g) := by
  intro m
  induction m with
  | zero =>
    intro x cl hx hm hc
    subst hx
    refine kz_iload_n d_Mo_refresh_6 rfl rfl ?_
    refine kz_if_lt (tgt := 50) d_Mo_refresh_7 (by decide) rfl (fun h7 => ?_) (fun h7 => ?_)
    · exact rf_end l hg hge hs hc.symm
    · exact absurd (by decide) h7
  | succ m ih =>
    intro x cl hx hm hc
    rw [nI_pred] at hx
    subst hx
    have hb4 : vp_in (nI m) 4 := vp_in_nI (by omega) (by decide)
    have hcl : (nI m).toNatClampNeg = m := nI_clamp (by omega)
    have go : ∀ (r : Int32) (c2 : Bool), c2 = (cl && decide (M.1 4 m = -1)) → r = (if rr_mayPre M m = true then nI m else rq_ix (rq_fst (rr_mayPre M) (4 - (m + 1)) (m + 1))) → kz_G l sR m_Mo_refresh 6 [some (.ref 0), some (.int r), some (.int (kz_ib c2)), some (.int (nI m - 1))] [] M (fun v N => v = none ∧ N = rr_ref M g) := fun r c2 h2 hr => by
      have h := ih (nI m - 1) c2 rfl (by omega) (by rw [← hc, h2]; rfl)
      rw [show 4 - m = (4 - (m + 1)) + 1 by omega, rq_fst] at h
      by_cases q : rr_mayPre M m = true
      · rw [if_pos q] at hr h
        subst hr
        exact h
      · rw [if_neg q] at hr h
        subst hr
        exact h
    refine kz_iload_n d_Mo_refresh_6 rfl rfl ?_
    refine kz_if_lt (tgt := 50) d_Mo_refresh_7 (by decide) rfl (fun h7 => ?_) (fun h7 => ?_)
    · exact absurd h7 (nI_pos (by omega))
    · refine kz_iload_n d_Mo_refresh_10 rfl rfl ?_
      refine kz_if_eqb (tgt := 28) d_Mo_refresh_11 (by decide) rfl (fun h11 => ?_) (fun h11 => ?_)
      · refine kz_iconst (v := 0) d_Mo_refresh_28 (by decide) rfl ?_
        refine kz_istore_n (i := 2) d_Mo_refresh_29 rfl rfl (Nat.le_of_ble_eq_true rfl) rfl ?_
        refine kz_aload_n d_Mo_refresh_30 rfl rfl ?_
        refine kz_iload_n d_Mo_refresh_31 rfl rfl ?_
        refine kz_callVi (c_Mo_mayPrecharge l hb4) cv_Mo_180 rfl rfl rfl ⟨by decide, by decide⟩ rfl (Nat.le_of_ble_eq_true rfl) d_Mo_refresh_32 rfl ?_
        refine kz_if_eqb (tgt := 42) d_Mo_refresh_35 (by decide) rfl (fun h35 => ?_) (fun h35 => ?_)
        · refine kz_iload_n d_Mo_refresh_42 rfl rfl ?_
          refine kz_istore_n (i := 1) d_Mo_refresh_43 rfl rfl (Nat.le_of_ble_eq_true rfl) rfl ?_
          refine kz_iinc d_Mo_refresh_44 rfl rfl (Nat.le_of_ble_eq_true rfl) (show nI m + Int32.ofInt (-1) = nI m - 1 by rw [Int32.sub_eq_add_neg]; rfl) rfl ?_
          refine kz_goto (tgt := 6) d_Mo_refresh_47 (by decide) ?_
          rw [hcl] at h35
          exact go _ false (by rw [h11]; rfl) (by rw [if_neg (by rw [h35]; decide)])
        · refine kz_iload_n d_Mo_refresh_38 rfl rfl ?_
          refine kz_goto (tgt := 43) d_Mo_refresh_39 (by decide) ?_
          refine kz_istore_n (i := 1) d_Mo_refresh_43 rfl rfl (Nat.le_of_ble_eq_true rfl) rfl ?_
          refine kz_iinc d_Mo_refresh_44 rfl rfl (Nat.le_of_ble_eq_true rfl) (show nI m + Int32.ofInt (-1) = nI m - 1 by rw [Int32.sub_eq_add_neg]; rfl) rfl ?_
          refine kz_goto (tgt := 6) d_Mo_refresh_47 (by decide) ?_
          rw [hcl] at h35
          exact go _ false (by rw [h11]; rfl) (by rw [if_pos h35])
      · refine kz_aload_n d_Mo_refresh_14 rfl rfl ?_
        refine kz_getR fd_Mo_20 rfl rfl rfl d_Mo_refresh_15 rfl ?_
        refine kz_iload_n d_Mo_refresh_18 rfl rfl ?_
        refine kz_ialdp rfl (by first | assumption | exact kz_vin (by decide)) hcl d_Mo_refresh_19 rfl ?_
        refine kz_iconst (v := -1) d_Mo_refresh_20 (by decide) rfl ?_
        refine kz_icmp_ne (tgt := 28) d_Mo_refresh_21 (by decide) rfl (fun h21 => ?_) (fun h21 => ?_)
        · refine kz_iconst (v := 0) d_Mo_refresh_28 (by decide) rfl ?_
          refine kz_istore_n (i := 2) d_Mo_refresh_29 rfl rfl (Nat.le_of_ble_eq_true rfl) rfl ?_
          refine kz_aload_n d_Mo_refresh_30 rfl rfl ?_
          refine kz_iload_n d_Mo_refresh_31 rfl rfl ?_
          refine kz_callVi (c_Mo_mayPrecharge l hb4) cv_Mo_180 rfl rfl rfl ⟨by decide, by decide⟩ rfl (Nat.le_of_ble_eq_true rfl) d_Mo_refresh_32 rfl ?_
          refine kz_if_eqb (tgt := 42) d_Mo_refresh_35 (by decide) rfl (fun h35 => ?_) (fun h35 => ?_)
          · refine kz_iload_n d_Mo_refresh_42 rfl rfl ?_
            refine kz_istore_n (i := 1) d_Mo_refresh_43 rfl rfl (Nat.le_of_ble_eq_true rfl) rfl ?_
            refine kz_iinc d_Mo_refresh_44 rfl rfl (Nat.le_of_ble_eq_true rfl) (show nI m + Int32.ofInt (-1) = nI m - 1 by rw [Int32.sub_eq_add_neg]; rfl) rfl ?_
            refine kz_goto (tgt := 6) d_Mo_refresh_47 (by decide) ?_
            rw [hcl] at h35
            exact go _ false (by rw [decide_eq_false h21, Bool.and_false]) (by rw [if_neg (by rw [h35]; decide)])
          · refine kz_iload_n d_Mo_refresh_38 rfl rfl ?_
            refine kz_goto (tgt := 43) d_Mo_refresh_39 (by decide) ?_
            refine kz_istore_n (i := 1) d_Mo_refresh_43 rfl rfl (Nat.le_of_ble_eq_true rfl) rfl ?_
            refine kz_iinc d_Mo_refresh_44 rfl rfl (Nat.le_of_ble_eq_true rfl) (show nI m + Int32.ofInt (-1) = nI m - 1 by rw [Int32.sub_eq_add_neg]; rfl) rfl ?_
            refine kz_goto (tgt := 6) d_Mo_refresh_47 (by decide) ?_
            rw [hcl] at h35
            exact go _ false (by rw [decide_eq_false h21, Bool.and_false]) (by rw [if_pos h35])
        · refine kz_iconst (v := 1) d_Mo_refresh_24 (by decide) rfl ?_
          refine kz_goto (tgt := 29) d_Mo_refresh_25 (by decide) ?_
          refine kz_istore_n (i := 2) d_Mo_refresh_29 rfl rfl (Nat.le_of_ble_eq_true rfl) rfl ?_
          refine kz_aload_n d_Mo_refresh_30 rfl rfl ?_
          refine kz_iload_n d_Mo_refresh_31 rfl rfl ?_
          refine kz_callVi (c_Mo_mayPrecharge l hb4) cv_Mo_180 rfl rfl rfl ⟨by decide, by decide⟩ rfl (Nat.le_of_ble_eq_true rfl) d_Mo_refresh_32 rfl ?_
          refine kz_if_eqb (tgt := 42) d_Mo_refresh_35 (by decide) rfl (fun h35 => ?_) (fun h35 => ?_)
          · refine kz_iload_n d_Mo_refresh_42 rfl rfl ?_
            refine kz_istore_n (i := 1) d_Mo_refresh_43 rfl rfl (Nat.le_of_ble_eq_true rfl) rfl ?_
            refine kz_iinc d_Mo_refresh_44 rfl rfl (Nat.le_of_ble_eq_true rfl) (show nI m + Int32.ofInt (-1) = nI m - 1 by rw [Int32.sub_eq_add_neg]; rfl) rfl ?_
            refine kz_goto (tgt := 6) d_Mo_refresh_47 (by decide) ?_
            rw [hcl] at h35
            exact go _ true (by rw [h11, decide_eq_true h21]; rfl) (by rw [if_neg (by rw [h35]; decide)])
          · refine kz_iload_n d_Mo_refresh_38 rfl rfl ?_
            refine kz_goto (tgt := 43) d_Mo_refresh_39 (by decide) ?_
            refine kz_istore_n (i := 1) d_Mo_refresh_43 rfl rfl (Nat.le_of_ble_eq_true rfl) rfl ?_
            refine kz_iinc d_Mo_refresh_44 rfl rfl (Nat.le_of_ble_eq_true rfl) (show nI m + Int32.ofInt (-1) = nI m - 1 by rw [Int32.sub_eq_add_neg]; rfl) rfl ?_
            refine kz_goto (tgt := 6) d_Mo_refresh_47 (by decide) ?_
            rw [hcl] at h35
            exact go _ true (by rw [h11, decide_eq_true h21]; rfl) (by rw [if_pos h35])
set_option maxRecDepth 100000 in
set_option maxHeartbeats 1000000 in
theorem c_Mo_refresh (l : Launch) {M : kz_M} {g : Nat} (hg : g < 2 ^ 31) (hge : M.1 0 4 = nI g) (hs : vp_in (M.1 0 6) 256) : kz_Dt l sR m_Mo_refresh [.ref 0] M none (rr_ref M g) := by
  refine kz_intro (by decide +kernel) (Nat.le_of_ble_eq_true rfl) ?_
  show kz_G l sR m_Mo_refresh 0 [some (.ref 0), none, none, none] [] M _
  refine kz_iconst (v := -1) d_Mo_refresh_0 (by decide) rfl ?_
  refine kz_istore_n (i := 1) d_Mo_refresh_1 rfl rfl (Nat.le_of_ble_eq_true rfl) rfl ?_
  refine kz_iconst (v := 1) d_Mo_refresh_2 (by decide) rfl ?_
  refine kz_istore_n (i := 2) d_Mo_refresh_3 rfl rfl (Nat.le_of_ble_eq_true rfl) rfl ?_
  refine kz_iconst (v := 3) d_Mo_refresh_4 (by decide) rfl ?_
  refine kz_istore_n (i := 3) d_Mo_refresh_5 rfl rfl (Nat.le_of_ble_eq_true rfl) rfl ?_
  exact lp_rrf l hg hge hs 4 3 true (by decide) (by decide) rfl
