/-! Contracts of the class: what a cycle does but for the queues. -/
theorem kl_19 : kl_ok 19 := Or.inl rfl
theorem kl_21 : kl_ok 21 := Or.inr (Or.inl rfl)
theorem kl_23 : kl_ok 23 := Or.inr (Or.inr rfl)
def co_owe (M : kz_M) : kz_M := if M.1 0 10 < M.1 2 13 then (kz_u M.1 0 10 (M.1 0 10 + 1), M.2) else (kz_u (kz_u M.1 0 11 (M.1 0 11 + 1)) 0 10 (0 + 1), M.2)
def co_fst (M : kz_M) : Bool := decide (6 ≤ M.1 0 11) || (!decide (M.1 0 11 < 1) && (decide (M.1 19 1 = 0) && decide (M.1 21 1 = 0)))
def co_pre (M : kz_M) (n : Nat) (b : Int32) : kz_M := cj_ent (cb_pre M b (M.1 0 9)) (27 + n) 1 b (-1) (M.1 0 9) (-1)
def co_act (M : kz_M) (n : Nat) (b r : Int32) : kz_M := cj_ent (cb_act M b r (M.1 0 9)) (27 + n) 0 b r (M.1 0 9) (-1)
def co_drv (M : kz_M) : Bool := if M.1 0 12 = 0 then ((!decide (M.1 21 1 ≤ 0) && decide (M.1 19 1 = 0)) || !decide (M.1 21 1 < M.1 0 0)) else (!decide (M.1 21 1 ≤ 0) && (decide (M.1 19 1 = 0) || !decide (2 * M.1 21 1 ≤ M.1 0 0)))
def co_dr (M : kz_M) : kz_M := (kz_u M.1 0 12 (kz_ib (co_drv M)), M.2)
def co_scr (M : kz_M) : kz_M := (kz_u (if bt_fault (cw_get M (M.1 0 14).toNatClampNeg) < 0 then (cw_right M (M.1 0 14).toNatClampNeg).1 else kz_u (cw_right M (M.1 0 14).toNatClampNeg).1 0 13 (M.1 0 13 + 1)) 0 14 (M.1 0 14 + 1 - (M.1 0 14 + 1) / 256 * 256), (cw_right M (M.1 0 14).toNatClampNeg).2)
def co_rf0 (M : kz_M) (n : Nat) : kz_M := (kz_u (cj_ent (kz_u M.1 1 9 (M.1 0 9), M.2) (27 + n) 4 (-1) (-1) (M.1 0 9) (-1)).1 0 11 (M.1 0 11 - 1), M.2)
def co_ref (M : kz_M) (n : Nat) : kz_M := co_scr (co_scr (co_rf0 M n))
set_option maxRecDepth 100000 in
set_option maxHeartbeats 1000000 in
theorem c_Bk_oweRefreshInTime (l : Launch) {M : kz_M}  : kz_Dt l sC m_Bk_oweRefreshInTime [.ref 0] M none (co_owe M) := by
  refine kz_intro (by decide +kernel) (Nat.le_of_ble_eq_true rfl) ?_
  show kz_G l sC m_Bk_oweRefreshInTime 0 [some (.ref 0)] [] M _
  refine kz_aload_n d_Bk_oweRefreshInTime_0 rfl rfl ?_
  refine kz_getIp fd_Bk_178 rfl rfl (Or.inl rfl) d_Bk_oweRefreshInTime_1 rfl ?_
  refine kz_aload_n d_Bk_oweRefreshInTime_4 rfl rfl ?_
  refine kz_getR fd_Bk_28 rfl rfl rfl d_Bk_oweRefreshInTime_5 rfl ?_
  refine kz_callVi (c_Ba_refreshInterval l) cv_Bk_181 rfl rfl rfl ⟨by decide, by decide⟩ rfl (Nat.le_of_ble_eq_true rfl) d_Bk_oweRefreshInTime_8 rfl ?_
  refine kz_icmp_lt (tgt := 29) d_Bk_oweRefreshInTime_11 (by decide) rfl (fun h11 => ?_) (fun h11 => ?_)
  · refine kz_aload_n d_Bk_oweRefreshInTime_29 rfl rfl ?_
    refine kz_dup d_Bk_oweRefreshInTime_30 rfl rfl ?_
    refine kz_getIp fd_Bk_178 rfl rfl (Or.inl rfl) d_Bk_oweRefreshInTime_31 rfl ?_
    refine kz_iconst (v := 1) d_Bk_oweRefreshInTime_34 (by decide) rfl ?_
    refine kz_iadd d_Bk_oweRefreshInTime_35 rfl ?_
    refine kz_putIp fd_Bk_178 rfl rfl d_Bk_oweRefreshInTime_36 rfl ?_
    exact kz_vret rfl d_Bk_oweRefreshInTime_39 (⟨rfl, by simp [co_owe, kz_u_same, kz_u_ne, kz_u_u, *]⟩)
  · refine kz_aload_n d_Bk_oweRefreshInTime_14 rfl rfl ?_
    refine kz_dup d_Bk_oweRefreshInTime_15 rfl rfl ?_
    refine kz_getIp fd_Bk_128 rfl rfl (Or.inl rfl) d_Bk_oweRefreshInTime_16 rfl ?_
    refine kz_iconst (v := 1) d_Bk_oweRefreshInTime_19 (by decide) rfl ?_
    refine kz_iadd d_Bk_oweRefreshInTime_20 rfl ?_
    refine kz_putIp fd_Bk_128 rfl rfl d_Bk_oweRefreshInTime_21 rfl ?_
    refine kz_aload_n d_Bk_oweRefreshInTime_24 rfl rfl ?_
    refine kz_iconst (v := 0) d_Bk_oweRefreshInTime_25 (by decide) rfl ?_
    refine kz_putIp fd_Bk_178 rfl rfl d_Bk_oweRefreshInTime_26 rfl ?_
    refine kz_aload_n d_Bk_oweRefreshInTime_29 rfl rfl ?_
    refine kz_dup d_Bk_oweRefreshInTime_30 rfl rfl ?_
    refine kz_getIp fd_Bk_178 rfl rfl (Or.inl rfl) d_Bk_oweRefreshInTime_31 rfl ?_
    refine kz_iconst (v := 1) d_Bk_oweRefreshInTime_34 (by decide) rfl ?_
    refine kz_iadd d_Bk_oweRefreshInTime_35 rfl ?_
    refine kz_putIp fd_Bk_178 rfl rfl d_Bk_oweRefreshInTime_36 rfl ?_
    exact kz_vret rfl d_Bk_oweRefreshInTime_39 (⟨rfl, by simp [co_owe, kz_u_same, kz_u_ne, kz_u_u, *]⟩)
set_option maxRecDepth 100000 in
set_option maxHeartbeats 1000000 in
theorem c_Bk_refreshGoesFirst (l : Launch) {M : kz_M}  : kz_Dt l sC m_Bk_refreshGoesFirst [.ref 0] M (some (.int (kz_ib (co_fst M)))) M := by
  refine kz_intro (by decide +kernel) (Nat.le_of_ble_eq_true rfl) ?_
  show kz_G l sC m_Bk_refreshGoesFirst 0 [some (.ref 0), none] [] M _
  refine kz_aload_n d_Bk_refreshGoesFirst_0 rfl rfl ?_
  refine kz_getR fd_Bk_49 rfl rfl rfl d_Bk_refreshGoesFirst_1 rfl ?_
  refine kz_callVi (c_Li_size l (by first | exact kl_19 | exact kl_21 | exact kl_23)) cv_Bk_81 rfl rfl rfl ⟨by decide, by decide⟩ rfl (Nat.le_of_ble_eq_true rfl) d_Bk_refreshGoesFirst_4 rfl ?_
  refine kz_if_ne (tgt := 24) d_Bk_refreshGoesFirst_7 (by decide) rfl (fun h7 => ?_) (fun h7 => ?_)
  · refine kz_iconst (v := 0) d_Bk_refreshGoesFirst_24 (by decide) rfl ?_
    refine kz_istore_n (i := 1) d_Bk_refreshGoesFirst_25 rfl rfl (Nat.le_of_ble_eq_true rfl) rfl ?_
    refine kz_aload_n d_Bk_refreshGoesFirst_26 rfl rfl ?_
    refine kz_getIp fd_Bk_128 rfl rfl (Or.inl rfl) d_Bk_refreshGoesFirst_27 rfl ?_
    refine kz_bipush (v := 6) d_Bk_refreshGoesFirst_30 (by decide) rfl ?_
    refine kz_icmp_ge (tgt := 47) d_Bk_refreshGoesFirst_32 (by decide) rfl (fun h32 => ?_) (fun h32 => ?_)
    · refine kz_iconst (v := 1) d_Bk_refreshGoesFirst_47 (by decide) rfl ?_
      refine kz_goto (tgt := 52) d_Bk_refreshGoesFirst_48 (by decide) ?_
      exact kz_zret rfl d_Bk_refreshGoesFirst_52 (by first | assumption | decide | exact kz_ib_or _) (⟨by first | exact absurd rfl h44 | exact absurd h44 (by decide) | (simp [co_fst, kz_ib, *]; done), rfl⟩)
    · refine kz_aload_n d_Bk_refreshGoesFirst_35 rfl rfl ?_
      refine kz_getIp fd_Bk_128 rfl rfl (Or.inl rfl) d_Bk_refreshGoesFirst_36 rfl ?_
      refine kz_iconst (v := 1) d_Bk_refreshGoesFirst_39 (by decide) rfl ?_
      refine kz_icmp_lt (tgt := 51) d_Bk_refreshGoesFirst_40 (by decide) rfl (fun h40 => ?_) (fun h40 => ?_)
      · refine kz_iconst (v := 0) d_Bk_refreshGoesFirst_51 (by decide) rfl ?_
        exact kz_zret rfl d_Bk_refreshGoesFirst_52 (by first | assumption | decide | exact kz_ib_or _) (⟨by first | exact absurd rfl h44 | exact absurd h44 (by decide) | (simp [co_fst, kz_ib, *]; done), rfl⟩)
      · refine kz_iload_n d_Bk_refreshGoesFirst_43 rfl rfl ?_
        refine kz_if_eq (tgt := 51) d_Bk_refreshGoesFirst_44 (by decide) rfl (fun h44 => ?_) (fun h44 => ?_)
        · refine kz_iconst (v := 0) d_Bk_refreshGoesFirst_51 (by decide) rfl ?_
          exact kz_zret rfl d_Bk_refreshGoesFirst_52 (by first | assumption | decide | exact kz_ib_or _) (⟨by first | exact absurd rfl h44 | exact absurd h44 (by decide) | (simp [co_fst, kz_ib, *]; done), rfl⟩)
        · refine kz_iconst (v := 1) d_Bk_refreshGoesFirst_47 (by decide) rfl ?_
          refine kz_goto (tgt := 52) d_Bk_refreshGoesFirst_48 (by decide) ?_
          exact kz_zret rfl d_Bk_refreshGoesFirst_52 (by first | assumption | decide | exact kz_ib_or _) (⟨by first | exact absurd rfl h44 | exact absurd h44 (by decide) | (simp [co_fst, kz_ib, *]; done), rfl⟩)
  · refine kz_aload_n d_Bk_refreshGoesFirst_10 rfl rfl ?_
    refine kz_getR fd_Bk_53 rfl rfl rfl d_Bk_refreshGoesFirst_11 rfl ?_
    refine kz_callVi (c_Li_size l (by first | exact kl_19 | exact kl_21 | exact kl_23)) cv_Bk_81 rfl rfl rfl ⟨by decide, by decide⟩ rfl (Nat.le_of_ble_eq_true rfl) d_Bk_refreshGoesFirst_14 rfl ?_
    refine kz_if_ne (tgt := 24) d_Bk_refreshGoesFirst_17 (by decide) rfl (fun h17 => ?_) (fun h17 => ?_)
    · refine kz_iconst (v := 0) d_Bk_refreshGoesFirst_24 (by decide) rfl ?_
      refine kz_istore_n (i := 1) d_Bk_refreshGoesFirst_25 rfl rfl (Nat.le_of_ble_eq_true rfl) rfl ?_
      refine kz_aload_n d_Bk_refreshGoesFirst_26 rfl rfl ?_
      refine kz_getIp fd_Bk_128 rfl rfl (Or.inl rfl) d_Bk_refreshGoesFirst_27 rfl ?_
      refine kz_bipush (v := 6) d_Bk_refreshGoesFirst_30 (by decide) rfl ?_
      refine kz_icmp_ge (tgt := 47) d_Bk_refreshGoesFirst_32 (by decide) rfl (fun h32 => ?_) (fun h32 => ?_)
      · refine kz_iconst (v := 1) d_Bk_refreshGoesFirst_47 (by decide) rfl ?_
        refine kz_goto (tgt := 52) d_Bk_refreshGoesFirst_48 (by decide) ?_
        exact kz_zret rfl d_Bk_refreshGoesFirst_52 (by first | assumption | decide | exact kz_ib_or _) (⟨by first | exact absurd rfl h44 | exact absurd h44 (by decide) | (simp [co_fst, kz_ib, *]; done), rfl⟩)
      · refine kz_aload_n d_Bk_refreshGoesFirst_35 rfl rfl ?_
        refine kz_getIp fd_Bk_128 rfl rfl (Or.inl rfl) d_Bk_refreshGoesFirst_36 rfl ?_
        refine kz_iconst (v := 1) d_Bk_refreshGoesFirst_39 (by decide) rfl ?_
        refine kz_icmp_lt (tgt := 51) d_Bk_refreshGoesFirst_40 (by decide) rfl (fun h40 => ?_) (fun h40 => ?_)
        · refine kz_iconst (v := 0) d_Bk_refreshGoesFirst_51 (by decide) rfl ?_
          exact kz_zret rfl d_Bk_refreshGoesFirst_52 (by first | assumption | decide | exact kz_ib_or _) (⟨by first | exact absurd rfl h44 | exact absurd h44 (by decide) | (simp [co_fst, kz_ib, *]; done), rfl⟩)
        · refine kz_iload_n d_Bk_refreshGoesFirst_43 rfl rfl ?_
          refine kz_if_eq (tgt := 51) d_Bk_refreshGoesFirst_44 (by decide) rfl (fun h44 => ?_) (fun h44 => ?_)
          · refine kz_iconst (v := 0) d_Bk_refreshGoesFirst_51 (by decide) rfl ?_
            exact kz_zret rfl d_Bk_refreshGoesFirst_52 (by first | assumption | decide | exact kz_ib_or _) (⟨by first | exact absurd rfl h44 | exact absurd h44 (by decide) | (simp [co_fst, kz_ib, *]; done), rfl⟩)
          · refine kz_iconst (v := 1) d_Bk_refreshGoesFirst_47 (by decide) rfl ?_
            refine kz_goto (tgt := 52) d_Bk_refreshGoesFirst_48 (by decide) ?_
            exact kz_zret rfl d_Bk_refreshGoesFirst_52 (by first | assumption | decide | exact kz_ib_or _) (⟨by first | exact absurd rfl h44 | exact absurd h44 (by decide) | (simp [co_fst, kz_ib, *]; done), rfl⟩)
    · refine kz_iconst (v := 1) d_Bk_refreshGoesFirst_20 (by decide) rfl ?_
      refine kz_goto (tgt := 25) d_Bk_refreshGoesFirst_21 (by decide) ?_
      refine kz_istore_n (i := 1) d_Bk_refreshGoesFirst_25 rfl rfl (Nat.le_of_ble_eq_true rfl) rfl ?_
      refine kz_aload_n d_Bk_refreshGoesFirst_26 rfl rfl ?_
      refine kz_getIp fd_Bk_128 rfl rfl (Or.inl rfl) d_Bk_refreshGoesFirst_27 rfl ?_
      refine kz_bipush (v := 6) d_Bk_refreshGoesFirst_30 (by decide) rfl ?_
      refine kz_icmp_ge (tgt := 47) d_Bk_refreshGoesFirst_32 (by decide) rfl (fun h32 => ?_) (fun h32 => ?_)
      · refine kz_iconst (v := 1) d_Bk_refreshGoesFirst_47 (by decide) rfl ?_
        refine kz_goto (tgt := 52) d_Bk_refreshGoesFirst_48 (by decide) ?_
        exact kz_zret rfl d_Bk_refreshGoesFirst_52 (by first | assumption | decide | exact kz_ib_or _) (⟨by first | exact absurd rfl h44 | exact absurd h44 (by decide) | (simp [co_fst, kz_ib, *]; done), rfl⟩)
      · refine kz_aload_n d_Bk_refreshGoesFirst_35 rfl rfl ?_
        refine kz_getIp fd_Bk_128 rfl rfl (Or.inl rfl) d_Bk_refreshGoesFirst_36 rfl ?_
        refine kz_iconst (v := 1) d_Bk_refreshGoesFirst_39 (by decide) rfl ?_
        refine kz_icmp_lt (tgt := 51) d_Bk_refreshGoesFirst_40 (by decide) rfl (fun h40 => ?_) (fun h40 => ?_)
        · refine kz_iconst (v := 0) d_Bk_refreshGoesFirst_51 (by decide) rfl ?_
          exact kz_zret rfl d_Bk_refreshGoesFirst_52 (by first | assumption | decide | exact kz_ib_or _) (⟨by first | exact absurd rfl h44 | exact absurd h44 (by decide) | (simp [co_fst, kz_ib, *]; done), rfl⟩)
        · refine kz_iload_n d_Bk_refreshGoesFirst_43 rfl rfl ?_
          refine kz_if_eq (tgt := 51) d_Bk_refreshGoesFirst_44 (by decide) rfl (fun h44 => ?_) (fun h44 => ?_)
          · refine kz_iconst (v := 0) d_Bk_refreshGoesFirst_51 (by decide) rfl ?_
            exact kz_zret rfl d_Bk_refreshGoesFirst_52 (by first | assumption | decide | exact kz_ib_or _) (⟨by first | exact absurd rfl h44 | exact absurd h44 (by decide) | (simp [co_fst, kz_ib, *]; done), rfl⟩)
          · refine kz_iconst (v := 1) d_Bk_refreshGoesFirst_47 (by decide) rfl ?_
            refine kz_goto (tgt := 52) d_Bk_refreshGoesFirst_48 (by decide) ?_
            exact kz_zret rfl d_Bk_refreshGoesFirst_52 (by first | assumption | decide | exact kz_ib_or _) (⟨by first | exact absurd rfl h44 | exact absurd h44 (by decide) | (simp [co_fst, kz_ib, *]; done), rfl⟩)
set_option maxRecDepth 100000 in
set_option maxHeartbeats 1000000 in
theorem c_Bk_beginOrEndDraining (l : Launch) {M : kz_M}  : kz_Dt l sC m_Bk_beginOrEndDraining [.ref 0] M none (co_dr M) := by
  refine kz_intro (by decide +kernel) (Nat.le_of_ble_eq_true rfl) ?_
  show kz_G l sC m_Bk_beginOrEndDraining 0 [some (.ref 0), none, none] [] M _
  refine kz_aload_n d_Bk_beginOrEndDraining_0 rfl rfl ?_
  refine kz_getR fd_Bk_49 rfl rfl rfl d_Bk_beginOrEndDraining_1 rfl ?_
  refine kz_callVi (c_Li_size l (by first | exact kl_19 | exact kl_21 | exact kl_23)) cv_Bk_81 rfl rfl rfl ⟨by decide, by decide⟩ rfl (Nat.le_of_ble_eq_true rfl) d_Bk_beginOrEndDraining_4 rfl ?_
  refine kz_istore_n (i := 1) d_Bk_beginOrEndDraining_7 rfl rfl (Nat.le_of_ble_eq_true rfl) rfl ?_
  refine kz_aload_n d_Bk_beginOrEndDraining_8 rfl rfl ?_
  refine kz_getR fd_Bk_53 rfl rfl rfl d_Bk_beginOrEndDraining_9 rfl ?_
  refine kz_callVi (c_Li_size l (by first | exact kl_19 | exact kl_21 | exact kl_23)) cv_Bk_81 rfl rfl rfl ⟨by decide, by decide⟩ rfl (Nat.le_of_ble_eq_true rfl) d_Bk_beginOrEndDraining_12 rfl ?_
  refine kz_istore_n (i := 2) d_Bk_beginOrEndDraining_15 rfl rfl (Nat.le_of_ble_eq_true rfl) rfl ?_
  refine kz_aload_n d_Bk_beginOrEndDraining_16 rfl rfl ?_
  refine kz_getIp fd_Bk_131 rfl rfl (Or.inr rfl) d_Bk_beginOrEndDraining_17 rfl ?_
  refine kz_if_eq (tgt := 53) d_Bk_beginOrEndDraining_20 (by decide) rfl (fun h20 => ?_) (fun h20 => ?_)
  · refine kz_aload_n d_Bk_beginOrEndDraining_53 rfl rfl ?_
    refine kz_iload_n d_Bk_beginOrEndDraining_54 rfl rfl ?_
    refine kz_if_le (tgt := 62) d_Bk_beginOrEndDraining_55 (by decide) rfl (fun h55 => ?_) (fun h55 => ?_)
    · refine kz_iload_n d_Bk_beginOrEndDraining_62 rfl rfl ?_
      refine kz_aload_n d_Bk_beginOrEndDraining_63 rfl rfl ?_
      refine kz_getIp fd_Bk_18 rfl rfl (Or.inl rfl) d_Bk_beginOrEndDraining_64 rfl ?_
      refine kz_icmp_lt (tgt := 74) d_Bk_beginOrEndDraining_67 (by decide) rfl (fun h67 => ?_) (fun h67 => ?_)
      · refine kz_iconst (v := 0) d_Bk_beginOrEndDraining_74 (by decide) rfl ?_
        refine kz_putZp fd_Bk_131 rfl rfl (by first | assumption | decide | exact kz_ib_or _) d_Bk_beginOrEndDraining_75 rfl ?_
        exact kz_vret rfl d_Bk_beginOrEndDraining_78 (⟨rfl, by simp [co_dr, co_drv, kz_ib, *]⟩)
      · refine kz_iconst (v := 1) d_Bk_beginOrEndDraining_70 (by decide) rfl ?_
        refine kz_goto (tgt := 75) d_Bk_beginOrEndDraining_71 (by decide) ?_
        refine kz_putZp fd_Bk_131 rfl rfl (by first | assumption | decide | exact kz_ib_or _) d_Bk_beginOrEndDraining_75 rfl ?_
        exact kz_vret rfl d_Bk_beginOrEndDraining_78 (⟨rfl, by simp [co_dr, co_drv, kz_ib, *]⟩)
    · refine kz_iload_n d_Bk_beginOrEndDraining_58 rfl rfl ?_
      refine kz_if_eq (tgt := 70) d_Bk_beginOrEndDraining_59 (by decide) rfl (fun h59 => ?_) (fun h59 => ?_)
      · refine kz_iconst (v := 1) d_Bk_beginOrEndDraining_70 (by decide) rfl ?_
        refine kz_goto (tgt := 75) d_Bk_beginOrEndDraining_71 (by decide) ?_
        refine kz_putZp fd_Bk_131 rfl rfl (by first | assumption | decide | exact kz_ib_or _) d_Bk_beginOrEndDraining_75 rfl ?_
        exact kz_vret rfl d_Bk_beginOrEndDraining_78 (⟨rfl, by simp [co_dr, co_drv, kz_ib, *]⟩)
      · refine kz_iload_n d_Bk_beginOrEndDraining_62 rfl rfl ?_
        refine kz_aload_n d_Bk_beginOrEndDraining_63 rfl rfl ?_
        refine kz_getIp fd_Bk_18 rfl rfl (Or.inl rfl) d_Bk_beginOrEndDraining_64 rfl ?_
        refine kz_icmp_lt (tgt := 74) d_Bk_beginOrEndDraining_67 (by decide) rfl (fun h67 => ?_) (fun h67 => ?_)
        · refine kz_iconst (v := 0) d_Bk_beginOrEndDraining_74 (by decide) rfl ?_
          refine kz_putZp fd_Bk_131 rfl rfl (by first | assumption | decide | exact kz_ib_or _) d_Bk_beginOrEndDraining_75 rfl ?_
          exact kz_vret rfl d_Bk_beginOrEndDraining_78 (⟨rfl, by simp [co_dr, co_drv, kz_ib, *]⟩)
        · refine kz_iconst (v := 1) d_Bk_beginOrEndDraining_70 (by decide) rfl ?_
          refine kz_goto (tgt := 75) d_Bk_beginOrEndDraining_71 (by decide) ?_
          refine kz_putZp fd_Bk_131 rfl rfl (by first | assumption | decide | exact kz_ib_or _) d_Bk_beginOrEndDraining_75 rfl ?_
          exact kz_vret rfl d_Bk_beginOrEndDraining_78 (⟨rfl, by simp [co_dr, co_drv, kz_ib, *]⟩)
  · refine kz_aload_n d_Bk_beginOrEndDraining_23 rfl rfl ?_
    refine kz_iload_n d_Bk_beginOrEndDraining_24 rfl rfl ?_
    refine kz_if_le (tgt := 46) d_Bk_beginOrEndDraining_25 (by decide) rfl (fun h25 => ?_) (fun h25 => ?_)
    · refine kz_iconst (v := 0) d_Bk_beginOrEndDraining_46 (by decide) rfl ?_
      refine kz_putZp fd_Bk_131 rfl rfl (by first | assumption | decide | exact kz_ib_or _) d_Bk_beginOrEndDraining_47 rfl ?_
      refine kz_goto (tgt := 78) d_Bk_beginOrEndDraining_50 (by decide) ?_
      exact kz_vret rfl d_Bk_beginOrEndDraining_78 (⟨rfl, by simp [co_dr, co_drv, kz_ib, *]⟩)
    · refine kz_iload_n d_Bk_beginOrEndDraining_28 rfl rfl ?_
      refine kz_if_eq (tgt := 42) d_Bk_beginOrEndDraining_29 (by decide) rfl (fun h29 => ?_) (fun h29 => ?_)
      · refine kz_iconst (v := 1) d_Bk_beginOrEndDraining_42 (by decide) rfl ?_
        refine kz_goto (tgt := 47) d_Bk_beginOrEndDraining_43 (by decide) ?_
        refine kz_putZp fd_Bk_131 rfl rfl (by first | assumption | decide | exact kz_ib_or _) d_Bk_beginOrEndDraining_47 rfl ?_
        refine kz_goto (tgt := 78) d_Bk_beginOrEndDraining_50 (by decide) ?_
        exact kz_vret rfl d_Bk_beginOrEndDraining_78 (⟨rfl, by simp [co_dr, co_drv, kz_ib, *]⟩)
      · refine kz_iconst (v := 2) d_Bk_beginOrEndDraining_32 (by decide) rfl ?_
        refine kz_iload_n d_Bk_beginOrEndDraining_33 rfl rfl ?_
        refine kz_imul d_Bk_beginOrEndDraining_34 rfl ?_
        refine kz_aload_n d_Bk_beginOrEndDraining_35 rfl rfl ?_
        refine kz_getIp fd_Bk_18 rfl rfl (Or.inl rfl) d_Bk_beginOrEndDraining_36 rfl ?_
        refine kz_icmp_le (tgt := 46) d_Bk_beginOrEndDraining_39 (by decide) rfl (fun h39 => ?_) (fun h39 => ?_)
        · refine kz_iconst (v := 0) d_Bk_beginOrEndDraining_46 (by decide) rfl ?_
          refine kz_putZp fd_Bk_131 rfl rfl (by first | assumption | decide | exact kz_ib_or _) d_Bk_beginOrEndDraining_47 rfl ?_
          refine kz_goto (tgt := 78) d_Bk_beginOrEndDraining_50 (by decide) ?_
          exact kz_vret rfl d_Bk_beginOrEndDraining_78 (⟨rfl, by simp [co_dr, co_drv, kz_ib, *]⟩)
        · refine kz_iconst (v := 1) d_Bk_beginOrEndDraining_42 (by decide) rfl ?_
          refine kz_goto (tgt := 47) d_Bk_beginOrEndDraining_43 (by decide) ?_
          refine kz_putZp fd_Bk_131 rfl rfl (by first | assumption | decide | exact kz_ib_or _) d_Bk_beginOrEndDraining_47 rfl ?_
          refine kz_goto (tgt := 78) d_Bk_beginOrEndDraining_50 (by decide) ?_
          exact kz_vret rfl d_Bk_beginOrEndDraining_78 (⟨rfl, by simp [co_dr, co_drv, kz_ib, *]⟩)
set_option maxRecDepth 100000 in
set_option maxHeartbeats 1000000 in
theorem c_Bk_precharge (l : Launch) {M : kz_M} {b : Int32} {n : Nat} (hb : vp_in b 4) (hn : n < 32) (hnx : M.1 25 1 = nI n) : kz_Dt l sC m_Bk_precharge [.ref 0, .int b] M none (co_pre M n b) := by
  refine kz_intro (by decide +kernel) (Nat.le_of_ble_eq_true rfl) ?_
  show kz_G l sC m_Bk_precharge 0 [some (.ref 0), some (.int b)] [] M _
  refine kz_aload_n d_Bk_precharge_0 rfl rfl ?_
  refine kz_getR fd_Bk_28 rfl rfl rfl d_Bk_precharge_1 rfl ?_
  refine kz_iload_n d_Bk_precharge_4 rfl rfl ?_
  refine kz_aload_n d_Bk_precharge_5 rfl rfl ?_
  refine kz_getIp fd_Bk_66 rfl rfl (Or.inl rfl) d_Bk_precharge_6 rfl ?_
  refine kz_callVv (c_Ba_precharge l (by assumption)) cv_Bk_205 rfl rfl rfl ⟨by decide, by decide⟩ rfl (Nat.le_of_ble_eq_true rfl) d_Bk_precharge_9 rfl ?_
  refine kz_eta ?_
  refine kz_aload_n d_Bk_precharge_12 rfl rfl ?_
  refine kz_getR fd_Bk_62 rfl rfl rfl d_Bk_precharge_13 rfl ?_
  refine kz_iconst (v := 1) d_Bk_precharge_16 (by decide) rfl ?_
  refine kz_iload_n d_Bk_precharge_17 rfl rfl ?_
  refine kz_iconst (v := -1) d_Bk_precharge_18 (by decide) rfl ?_
  refine kz_aload_n d_Bk_precharge_19 rfl rfl ?_
  refine kz_getIp fd_Bk_66 rfl rfl (Or.inl rfl) d_Bk_precharge_20 rfl ?_
  refine kz_iconst (v := -1) d_Bk_precharge_23 (by decide) rfl ?_
  refine kz_callVv (c_Jo_enter l hn (n := n) (by first | exact hnx | (simp [cb_pre, cb_act, kz_u_ne]; exact hnx))) cv_Bk_198 rfl rfl rfl ⟨by decide, by decide⟩ rfl (Nat.le_of_ble_eq_true rfl) d_Bk_precharge_24 rfl ?_
  refine kz_eta ?_
  exact kz_vret rfl d_Bk_precharge_27 (⟨rfl, by simp [co_pre, cb_pre, kz_u_ne]⟩)
set_option maxRecDepth 100000 in
set_option maxHeartbeats 1000000 in
theorem c_Bk_activate (l : Launch) {M : kz_M} {b r : Int32} {n : Nat} (hb : vp_in b 4) (hn : n < 32) (hnx : M.1 25 1 = nI n) : kz_Dt l sC m_Bk_activate [.ref 0, .int b, .int r] M none (co_act M n b r) := by
  refine kz_intro (by decide +kernel) (Nat.le_of_ble_eq_true rfl) ?_
  show kz_G l sC m_Bk_activate 0 [some (.ref 0), some (.int b), some (.int r)] [] M _
  refine kz_aload_n d_Bk_activate_0 rfl rfl ?_
  refine kz_getR fd_Bk_28 rfl rfl rfl d_Bk_activate_1 rfl ?_
  refine kz_iload_n d_Bk_activate_4 rfl rfl ?_
  refine kz_iload_n d_Bk_activate_5 rfl rfl ?_
  refine kz_aload_n d_Bk_activate_6 rfl rfl ?_
  refine kz_getIp fd_Bk_66 rfl rfl (Or.inl rfl) d_Bk_activate_7 rfl ?_
  refine kz_callVv (c_Ba_activate l (by assumption)) cv_Bk_207 rfl rfl rfl ⟨by decide, by decide⟩ rfl (Nat.le_of_ble_eq_true rfl) d_Bk_activate_10 rfl ?_
  refine kz_eta ?_
  refine kz_aload_n d_Bk_activate_13 rfl rfl ?_
  refine kz_getR fd_Bk_62 rfl rfl rfl d_Bk_activate_14 rfl ?_
  refine kz_iconst (v := 0) d_Bk_activate_17 (by decide) rfl ?_
  refine kz_iload_n d_Bk_activate_18 rfl rfl ?_
  refine kz_iload_n d_Bk_activate_19 rfl rfl ?_
  refine kz_aload_n d_Bk_activate_20 rfl rfl ?_
  refine kz_getIp fd_Bk_66 rfl rfl (Or.inl rfl) d_Bk_activate_21 rfl ?_
  refine kz_iconst (v := -1) d_Bk_activate_24 (by decide) rfl ?_
  refine kz_callVv (c_Jo_enter l hn (n := n) (by first | exact hnx | (simp [cb_pre, cb_act, kz_u_ne]; exact hnx))) cv_Bk_198 rfl rfl rfl ⟨by decide, by decide⟩ rfl (Nat.le_of_ble_eq_true rfl) d_Bk_activate_25 rfl ?_
  refine kz_eta ?_
  exact kz_vret rfl d_Bk_activate_28 (⟨rfl, by simp [co_act, cb_act, kz_u_ne]⟩)
set_option maxRecDepth 100000 in
set_option maxHeartbeats 1000000 in
theorem lp_scr (l : Launch) {M : kz_M} {i i2 : Int32} (hs : vp_in (M.1 0 14) 256) (hi : ¬ 2 ≤ i) (h2 : i + Int32.ofInt 1 = i2) {Q : Option Value → kz_M → Prop} (k : kz_G l sC m_Bk_refresh 38 [some (.ref 0), some (.int i2)] [] (co_scr M) Q) : kz_G l sC m_Bk_refresh 38 [some (.ref 0), some (.int i)] [] M Q := by
  subst h2
  have e13 : (cw_right M (M.1 0 14).toNatClampNeg).1 0 13 = M.1 0 13 := by unfold cw_right; split <;> simp [cw_put, kz_u_ne]
  have e14 : (cw_right M (M.1 0 14).toNatClampNeg).1 0 14 = M.1 0 14 := by unfold cw_right; split <;> simp [cw_put, kz_u_ne]
  refine kz_iload_n d_Bk_refresh_38 rfl rfl ?_
  refine kz_iconst (v := 2) d_Bk_refresh_39 (by decide) rfl ?_
  refine kz_icmp_ge (tgt := 87) d_Bk_refresh_40 (by decide) rfl (fun h40 => ?_) (fun h40 => ?_)
  · exact absurd h40 hi
  · refine kz_aload_n d_Bk_refresh_43 rfl rfl ?_
    refine kz_getR fd_Bk_35 rfl rfl rfl d_Bk_refresh_44 rfl ?_
    refine kz_aload_n d_Bk_refresh_47 rfl rfl ?_
    refine kz_getIp fd_Bk_138 rfl rfl (Or.inl rfl) d_Bk_refresh_48 rfl ?_
    refine kz_callVi (c_St_putRight l (by assumption)) cv_Bk_202 rfl rfl rfl ⟨by decide, by decide⟩ rfl (Nat.le_of_ble_eq_true rfl) d_Bk_refresh_51 rfl ?_
    refine kz_eta ?_
    refine kz_if_eqb (tgt := 67) d_Bk_refresh_54 (by decide) rfl (fun h54 => ?_) (fun h54 => ?_)
    · refine kz_aload_n d_Bk_refresh_67 rfl rfl ?_
      refine kz_aload_n d_Bk_refresh_68 rfl rfl ?_
      refine kz_getIp fd_Bk_138 rfl rfl (Or.inl rfl) d_Bk_refresh_69 rfl ?_
      refine kz_iconst (v := 1) d_Bk_refresh_72 (by decide) rfl ?_
      refine kz_iadd d_Bk_refresh_73 rfl ?_
      refine kz_sipush (v := 256) d_Bk_refresh_74 (by decide) rfl ?_
      refine kz_irem d_Bk_refresh_77 (by first | assumption | decide) rfl ?_
      refine kz_putIp fd_Bk_138 rfl rfl d_Bk_refresh_78 rfl ?_
      refine kz_iinc d_Bk_refresh_81 rfl rfl (Nat.le_of_ble_eq_true rfl) rfl rfl ?_
      refine kz_goto (tgt := 38) d_Bk_refresh_84 (by decide) ?_
      refine kz_memq (N := co_scr M) ?_ k
      have q54 := h54
      simp only [Bool.not_eq_true', Bool.not_eq_false', decide_eq_true_eq, decide_eq_false_iff_not] at q54
      simp [co_scr, q54, e13, e14, kz_u_ne]
    · refine kz_aload_n d_Bk_refresh_57 rfl rfl ?_
      refine kz_dup d_Bk_refresh_58 rfl rfl ?_
      refine kz_getIp fd_Bk_135 rfl rfl (Or.inl rfl) d_Bk_refresh_59 rfl ?_
      refine kz_iconst (v := 1) d_Bk_refresh_62 (by decide) rfl ?_
      refine kz_iadd d_Bk_refresh_63 rfl ?_
      refine kz_putIp fd_Bk_135 rfl rfl d_Bk_refresh_64 rfl ?_
      refine kz_aload_n d_Bk_refresh_67 rfl rfl ?_
      refine kz_aload_n d_Bk_refresh_68 rfl rfl ?_
      refine kz_getIp fd_Bk_138 rfl rfl (Or.inl rfl) d_Bk_refresh_69 rfl ?_
      refine kz_iconst (v := 1) d_Bk_refresh_72 (by decide) rfl ?_
      refine kz_iadd d_Bk_refresh_73 rfl ?_
      refine kz_sipush (v := 256) d_Bk_refresh_74 (by decide) rfl ?_
      refine kz_irem d_Bk_refresh_77 (by first | assumption | decide) rfl ?_
      refine kz_putIp fd_Bk_138 rfl rfl d_Bk_refresh_78 rfl ?_
      refine kz_iinc d_Bk_refresh_81 rfl rfl (Nat.le_of_ble_eq_true rfl) rfl rfl ?_
      refine kz_goto (tgt := 38) d_Bk_refresh_84 (by decide) ?_
      refine kz_memq (N := co_scr M) ?_ k
      have q54 := h54
      simp only [Bool.not_eq_true', Bool.not_eq_false', decide_eq_true_eq, decide_eq_false_iff_not] at q54
      simp [co_scr, q54, e13, e14, kz_u_ne]
theorem co_rf14 (M : kz_M) (n : Nat) : (co_rf0 M n).1 0 14 = M.1 0 14 := by
  have e : ∀ (f : Nat → Nat → Int32) (j : Nat) (x : Int32), kz_u f (27 + n) j x 0 = f 0 := fun f j x => kz_u_off _ _ _ _ (by omega)
  simp [co_rf0, cj_ent, kz_u_ne, e]
theorem co_scrin {M : kz_M} (h : vp_in (M.1 0 14) 256) : vp_in ((co_scr M).1 0 14) 256 := by
  obtain ⟨a, ha, he⟩ := vp_in_of h (by decide)
  have e : (co_scr M).1 0 14 = nI ((a + 1) % 256) := by
    have e0 : (co_scr M).1 0 14 = M.1 0 14 + 1 - (M.1 0 14 + 1) / 256 * 256 := by simp [co_scr, kz_u_same]
    rw [e0, he, nI_1]
    exact pk_rem (a := a + 1) (d := 256) (by omega) (by decide) (by decide)
  rw [e]
  exact vp_in_nI (Nat.mod_lt _ (by decide)) (by decide)
set_option maxRecDepth 100000 in
set_option maxHeartbeats 1000000 in
theorem c_Bk_refresh (l : Launch) {M : kz_M} {n : Nat} (hn : n < 32) (hnx : M.1 25 1 = nI n) (hs : vp_in (M.1 0 14) 256) : kz_Dt l sC m_Bk_refresh [.ref 0] M none (co_ref M n) := by
  refine kz_intro (by decide +kernel) (Nat.le_of_ble_eq_true rfl) ?_
  show kz_G l sC m_Bk_refresh 0 [some (.ref 0), none] [] M _
  refine kz_aload_n d_Bk_refresh_0 rfl rfl ?_
  refine kz_getR fd_Bk_28 rfl rfl rfl d_Bk_refresh_1 rfl ?_
  refine kz_aload_n d_Bk_refresh_4 rfl rfl ?_
  refine kz_getIp fd_Bk_66 rfl rfl (Or.inl rfl) d_Bk_refresh_5 rfl ?_
  refine kz_callVv (c_Ba_refresh l) cv_Bk_196 rfl rfl rfl ⟨by decide, by decide⟩ rfl (Nat.le_of_ble_eq_true rfl) d_Bk_refresh_8 rfl ?_
  refine kz_eta ?_
  refine kz_aload_n d_Bk_refresh_11 rfl rfl ?_
  refine kz_getR fd_Bk_62 rfl rfl rfl d_Bk_refresh_12 rfl ?_
  refine kz_iconst (v := 4) d_Bk_refresh_15 (by decide) rfl ?_
  refine kz_iconst (v := -1) d_Bk_refresh_16 (by decide) rfl ?_
  refine kz_iconst (v := -1) d_Bk_refresh_17 (by decide) rfl ?_
  refine kz_aload_n d_Bk_refresh_18 rfl rfl ?_
  refine kz_getIp fd_Bk_66 rfl rfl (Or.inl rfl) d_Bk_refresh_19 rfl ?_
  refine kz_iconst (v := -1) d_Bk_refresh_22 (by decide) rfl ?_
  refine kz_callVv (c_Jo_enter l hn (n := n) (by first | exact hnx | (simp [cb_pre, cb_act, kz_u_ne]; exact hnx))) cv_Bk_198 rfl rfl rfl ⟨by decide, by decide⟩ rfl (Nat.le_of_ble_eq_true rfl) d_Bk_refresh_23 rfl ?_
  refine kz_eta ?_
  refine kz_aload_n d_Bk_refresh_26 rfl rfl ?_
  refine kz_dup d_Bk_refresh_27 rfl rfl ?_
  refine kz_getIp fd_Bk_128 rfl rfl (Or.inl rfl) d_Bk_refresh_28 rfl ?_
  refine kz_iconst (v := 1) d_Bk_refresh_31 (by decide) rfl ?_
  refine kz_isub d_Bk_refresh_32 rfl ?_
  refine kz_putIp fd_Bk_128 rfl rfl d_Bk_refresh_33 rfl ?_
  refine kz_iconst (v := 0) d_Bk_refresh_36 (by decide) rfl ?_
  refine kz_istore_n (i := 1) d_Bk_refresh_37 rfl rfl (Nat.le_of_ble_eq_true rfl) rfl ?_
  have hs0 : (co_rf0 M n).1 0 14 = M.1 0 14 := co_rf14 M n
  refine kz_memq (N := co_rf0 M n) ?_ ?_
  · have e : ∀ (f : Nat → Nat → Int32) (j : Nat) (x : Int32), kz_u f (27 + n) j x 0 = f 0 := fun f j x => kz_u_off _ _ _ _ (by omega)
    simp [co_rf0, cj_ent, kz_u_ne, e]
  refine lp_scr l (by rw [hs0]; exact hs) (by decide) (by decide : (0 : Int32) + Int32.ofInt 1 = 1) ?_
  refine lp_scr l (co_scrin (by rw [hs0]; exact hs)) (by decide) (by decide : (1 : Int32) + Int32.ofInt 1 = 2) ?_
  refine kz_iload_n d_Bk_refresh_38 rfl rfl ?_
  refine kz_iconst (v := 2) d_Bk_refresh_39 (by decide) rfl ?_
  refine kz_icmp_ge (tgt := 87) d_Bk_refresh_40 (by decide) rfl (fun h40 => ?_) (fun h40 => ?_)
  · exact kz_vret rfl d_Bk_refresh_87 (⟨rfl, rfl⟩)
  · exact absurd (by decide) h40
/-- the lowest bank from b on that may be closed -/
def co_low (M : kz_M) : Nat → Nat → Option Nat
  | 0, _ => none
  | k + 1, b => if cb_mayPre M (nI b) (M.1 0 9) = true then some b else co_low M k (b + 1)
def co_roc (M : kz_M) (n : Nat) : kz_M := if cb_mayRef M (M.1 0 9) = true then co_ref M n else match co_low M 4 0 with
  | some b => co_pre M n (nI b)
  | none => M
set_option maxRecDepth 100000 in
set_option maxHeartbeats 1000000 in
theorem lp_roc (l : Launch) {M : kz_M} {n : Nat} (hn : n < 32) (hnx : M.1 25 1 = nI n) : ∀ (k b : Nat), b + k = 4 → kz_G l sC m_Bk_refreshOrClose 21 [some (.ref 0), some (.int (nI b))] [] M (fun v N => v = none ∧ N = match co_low M k b with
    | some b => co_pre M n (nI b)
    | none => M) := by
  intro k
  induction k with
  | zero =>
    intro b hb
    obtain rfl : b = 4 := by omega
    refine kz_iload_n d_Bk_refreshOrClose_21 rfl rfl ?_
    refine kz_iconst (v := 4) d_Bk_refreshOrClose_22 (by decide) rfl ?_
    refine kz_icmp_ge (tgt := 53) d_Bk_refreshOrClose_23 (by decide) rfl (fun h23 => ?_) (fun h23 => ?_)
    · exact kz_vret rfl d_Bk_refreshOrClose_53 (⟨rfl, rfl⟩)
    · exact absurd (Int32.le_refl _) h23
  | succ k ih =>
    intro b hb
    have hb4 : vp_in (nI b) 4 := vp_in_nI (by omega) (by decide)
    refine kz_iload_n d_Bk_refreshOrClose_21 rfl rfl ?_
    refine kz_iconst (v := 4) d_Bk_refreshOrClose_22 (by decide) rfl ?_
    refine kz_icmp_ge (tgt := 53) d_Bk_refreshOrClose_23 (by decide) rfl (fun h23 => ?_) (fun h23 => ?_)
    · exact absurd h23 (nI_ge (a := b) (b := 4) (by omega) (by decide))
    · refine kz_aload_n d_Bk_refreshOrClose_26 rfl rfl ?_
      refine kz_getR fd_Bk_28 rfl rfl rfl d_Bk_refreshOrClose_27 rfl ?_
      refine kz_iload_n d_Bk_refreshOrClose_30 rfl rfl ?_
      refine kz_aload_n d_Bk_refreshOrClose_31 rfl rfl ?_
      refine kz_getIp fd_Bk_66 rfl rfl (Or.inl rfl) d_Bk_refreshOrClose_32 rfl ?_
      refine kz_callVi (c_Ba_mayPrecharge l (by assumption)) cv_Bk_190 rfl rfl rfl ⟨by decide, by decide⟩ rfl (Nat.le_of_ble_eq_true rfl) d_Bk_refreshOrClose_35 rfl ?_
      refine kz_if_eqb (tgt := 47) d_Bk_refreshOrClose_38 (by decide) rfl (fun h38 => ?_) (fun h38 => ?_)
      · refine kz_iinc d_Bk_refreshOrClose_47 rfl rfl (Nat.le_of_ble_eq_true rfl) (kz_inc b) rfl ?_
        refine kz_goto (tgt := 21) d_Bk_refreshOrClose_50 (by decide) ?_
        have h := ih (b + 1) (by omega)
        rw [co_low, if_neg (by rw [h38]; decide)]
        exact h
      · refine kz_aload_n d_Bk_refreshOrClose_41 rfl rfl ?_
        refine kz_iload_n d_Bk_refreshOrClose_42 rfl rfl ?_
        refine kz_callVv (c_Bk_precharge l (by assumption) hn hnx) cv_Bk_193 rfl rfl rfl ⟨by decide, by decide⟩ rfl (Nat.le_of_ble_eq_true rfl) d_Bk_refreshOrClose_43 rfl ?_
        refine kz_eta ?_
        exact kz_vret rfl d_Bk_refreshOrClose_46 (⟨rfl, by rw [co_low, if_pos h38]⟩)
set_option maxRecDepth 100000 in
set_option maxHeartbeats 1000000 in
theorem c_Bk_refreshOrClose (l : Launch) {M : kz_M} {n : Nat} (hn : n < 32) (hnx : M.1 25 1 = nI n) (hs : vp_in (M.1 0 14) 256) : kz_Dt l sC m_Bk_refreshOrClose [.ref 0] M none (co_roc M n) := by
  refine kz_intro (by decide +kernel) (Nat.le_of_ble_eq_true rfl) ?_
  show kz_G l sC m_Bk_refreshOrClose 0 [some (.ref 0), none] [] M _
  refine kz_aload_n d_Bk_refreshOrClose_0 rfl rfl ?_
  refine kz_getR fd_Bk_28 rfl rfl rfl d_Bk_refreshOrClose_1 rfl ?_
  refine kz_aload_n d_Bk_refreshOrClose_4 rfl rfl ?_
  refine kz_getIp fd_Bk_66 rfl rfl (Or.inl rfl) d_Bk_refreshOrClose_5 rfl ?_
  refine kz_callVi (c_Ba_mayRefresh l) cv_Bk_184 rfl rfl rfl ⟨by decide, by decide⟩ rfl (Nat.le_of_ble_eq_true rfl) d_Bk_refreshOrClose_8 rfl ?_
  refine kz_if_eqb (tgt := 19) d_Bk_refreshOrClose_11 (by decide) rfl (fun h11 => ?_) (fun h11 => ?_)
  · refine kz_iconst (v := 0) d_Bk_refreshOrClose_19 (by decide) rfl ?_
    refine kz_istore_n (i := 1) d_Bk_refreshOrClose_20 rfl rfl (Nat.le_of_ble_eq_true rfl) rfl ?_
    have h := lp_roc l hn hnx (M := M) 4 0 (by decide)
    unfold co_roc
    rw [if_neg (by rw [h11]; decide)]
    exact h
  · refine kz_aload_n d_Bk_refreshOrClose_14 rfl rfl ?_
    refine kz_callVv (c_Bk_refresh l hn hnx hs) cv_Bk_187 rfl rfl rfl ⟨by decide, by decide⟩ rfl (Nat.le_of_ble_eq_true rfl) d_Bk_refreshOrClose_15 rfl ?_
    refine kz_eta ?_
    exact kz_vret rfl d_Bk_refreshOrClose_18 (⟨rfl, by rw [co_roc, if_pos h11]⟩)
