/-! Contracts of the class, the leaves: Line, Requests, Banks. -/
def kl_ok (k : Nat) : Prop := k = 19 ∨ k = 21 ∨ k = 23
theorem kl_facts {k : Nat} (h : kl_ok k) : sC.2.1[k]? = some (.inr (2, [3, 0])) ∧ sC.2.2.1 k 0 = some (k + 1) ∧ sC.2.1[k + 1]? = some (.inl (0, 8)) := by
  rcases h with rfl | rfl | rfl <;> exact ⟨rfl, rfl, rfl⟩
set_option maxRecDepth 100000 in
set_option maxHeartbeats 1000000 in
theorem c_Li_size (l : Launch) {M : kz_M} {k : Nat} (hk : kl_ok k) : kz_Dt l sC m_Li_size [.ref k] M (some (.int (M.1 k 1))) M := by
  obtain ⟨hs1, hs2, hs3⟩ := kl_facts hk
  refine kz_intro (by decide +kernel) (Nat.le_of_ble_eq_true rfl) ?_
  show kz_G l sC m_Li_size 0 [some (.ref k)] [] M _
  refine kz_aload_n d_Li_size_0 rfl rfl ?_
  refine kz_getIp fd_Li_15 hs1 rfl (Or.inl rfl) d_Li_size_1 rfl ?_
  exact kz_iret rfl d_Li_size_4 (⟨rfl, rfl⟩)
set_option maxRecDepth 100000 in
set_option maxHeartbeats 1000000 in
theorem c_Li_at (l : Launch) {M : kz_M} {k : Nat} {i : Int32} (hk : kl_ok k) (hi : vp_in i 8) : kz_Dt l sC m_Li_at [.ref k, .int i] M (some (.int (M.1 (k + 1) i.toNatClampNeg))) M := by
  obtain ⟨hs1, hs2, hs3⟩ := kl_facts hk
  refine kz_intro (by decide +kernel) (Nat.le_of_ble_eq_true rfl) ?_
  show kz_G l sC m_Li_at 0 [some (.ref k), some (.int i)] [] M _
  refine kz_aload_n d_Li_at_0 rfl rfl ?_
  refine kz_getR fd_Li_9 hs1 rfl hs2 d_Li_at_1 rfl ?_
  refine kz_iload_n d_Li_at_4 rfl rfl ?_
  refine kz_ialdp hs3 (by first | assumption | exact kz_vin (by decide)) rfl d_Li_at_5 rfl ?_
  exact kz_iret rfl d_Li_at_6 (⟨rfl, rfl⟩)
set_option maxRecDepth 100000 in
set_option maxHeartbeats 1000000 in
theorem c_Li_append (l : Launch) {M : kz_M} {k : Nat} {t : Int32} (hk : kl_ok k) (hi : vp_in (M.1 k 1) 8) (hi2 : ¬ Int32.ofNat 8 ≤ M.1 k 1) : kz_Dt l sC m_Li_append [.ref k, .int t] M none (kz_u (kz_u M.1 (k + 1) (M.1 k 1).toNatClampNeg t) k 1 (M.1 k 1 + 1), M.2) := by
  obtain ⟨hs1, hs2, hs3⟩ := kl_facts hk
  refine kz_intro (by decide +kernel) (Nat.le_of_ble_eq_true rfl) ?_
  show kz_G l sC m_Li_append 0 [some (.ref k), some (.int t)] [] M _
  refine kz_aload_n d_Li_append_0 rfl rfl ?_
  refine kz_getIp fd_Li_15 hs1 rfl (Or.inl rfl) d_Li_append_1 rfl ?_
  refine kz_aload_n d_Li_append_4 rfl rfl ?_
  refine kz_getR fd_Li_9 hs1 rfl hs2 d_Li_append_5 rfl ?_
  refine kz_alen hs3 (by decide) rfl d_Li_append_8 rfl ?_
  refine kz_icmp_ge (tgt := 32) d_Li_append_9 (by decide) rfl (fun h9 => ?_) (fun h9 => ?_)
  · exact kz_vret rfl d_Li_append_32 (by first | exact absurd h9 hi2 | exact ⟨rfl, by simp only [kz_u_off _ _ _ _ (Nat.ne_of_lt (Nat.lt_succ_self k))]⟩)
  · refine kz_aload_n d_Li_append_12 rfl rfl ?_
    refine kz_getR fd_Li_9 hs1 rfl hs2 d_Li_append_13 rfl ?_
    refine kz_aload_n d_Li_append_16 rfl rfl ?_
    refine kz_getIp fd_Li_15 hs1 rfl (Or.inl rfl) d_Li_append_17 rfl ?_
    refine kz_iload_n d_Li_append_20 rfl rfl ?_
    refine kz_iastp hs3 (by first | assumption | exact kz_vin (by decide)) rfl d_Li_append_21 rfl ?_
    refine kz_aload_n d_Li_append_22 rfl rfl ?_
    refine kz_dup d_Li_append_23 rfl rfl ?_
    refine kz_getIp fd_Li_15 hs1 rfl (Or.inl rfl) d_Li_append_24 rfl ?_
    refine kz_iconst (v := 1) d_Li_append_27 (by decide) rfl ?_
    refine kz_iadd d_Li_append_28 rfl ?_
    refine kz_putIp fd_Li_15 hs1 rfl d_Li_append_29 rfl ?_
    exact kz_vret rfl d_Li_append_32 (by first | exact absurd h9 hi2 | exact ⟨rfl, by simp only [kz_u_off _ _ _ _ (Nat.ne_of_lt (Nat.lt_succ_self k))]⟩)
set_option maxRecDepth 100000 in
set_option maxHeartbeats 1000000 in
theorem c_Li_keepFirst (l : Launch) {M : kz_M} {k : Nat} (hk : kl_ok k) : kz_Dt l sC m_Li_keepFirst [.ref k] M none (kz_u M.1 k 1 (if 1 < M.1 k 1 then 1 else M.1 k 1), M.2) := by
  obtain ⟨hs1, hs2, hs3⟩ := kl_facts hk
  refine kz_intro (by decide +kernel) (Nat.le_of_ble_eq_true rfl) ?_
  show kz_G l sC m_Li_keepFirst 0 [some (.ref k)] [] M _
  refine kz_aload_n d_Li_keepFirst_0 rfl rfl ?_
  refine kz_aload_n d_Li_keepFirst_1 rfl rfl ?_
  refine kz_getIp fd_Li_15 hs1 rfl (Or.inl rfl) d_Li_keepFirst_2 rfl ?_
  refine kz_iconst (v := 1) d_Li_keepFirst_5 (by decide) rfl ?_
  refine kz_min ⟨bw_mem2 147 rfl rfl, bw_mem1 21 rfl rfl, bw_mem1 2 rfl rfl, bw_mem1 22 rfl rfl⟩ ⟨by decide, by decide⟩ (Nat.le_of_ble_eq_true rfl) d_Li_keepFirst_6 rfl ?_
  refine kz_putIp fd_Li_15 hs1 rfl d_Li_keepFirst_9 rfl ?_
  exact kz_vret rfl d_Li_keepFirst_12 (⟨rfl, rfl⟩)
set_option maxRecDepth 100000 in
set_option maxHeartbeats 1000000 in
theorem c_Li_clear (l : Launch) {M : kz_M} {k : Nat} (hk : kl_ok k) : kz_Dt l sC m_Li_clear [.ref k] M none (kz_u M.1 k 1 0, M.2) := by
  obtain ⟨hs1, hs2, hs3⟩ := kl_facts hk
  refine kz_intro (by decide +kernel) (Nat.le_of_ble_eq_true rfl) ?_
  show kz_G l sC m_Li_clear 0 [some (.ref k)] [] M _
  refine kz_aload_n d_Li_clear_0 rfl rfl ?_
  refine kz_iconst (v := 0) d_Li_clear_1 (by decide) rfl ?_
  refine kz_putIp fd_Li_15 hs1 rfl d_Li_clear_2 rfl ?_
  exact kz_vret rfl d_Li_clear_5 (⟨rfl, rfl⟩)
/-- requests -/
def cq_take (M : kz_M) (a : Int32) (w : Bool) (t : Int32) : kz_M := (kz_u (kz_u (kz_u (kz_u M.1 13 (M.1 12 6).toNatClampNeg a) 14 (M.1 12 6).toNatClampNeg (kz_ib w)) 15 (M.1 12 6).toNatClampNeg t) 12 6 (M.1 12 6 + 1), M.2)
def cq_word (M : kz_M) (t : Int32) (w : Int64) : kz_M := (M.1, kz_u M.2 16 t.toNatClampNeg w)
def cq_fin (M : kz_M) (t : Int32) (w : Int64) (st e : Int32) : kz_M := (kz_u (kz_u M.1 17 t.toNatClampNeg st) 18 t.toNatClampNeg e, kz_u M.2 16 t.toNatClampNeg w)
def cq_out (M : kz_M) : Bool := !decide (M.1 12 6 < 400)
def cq_has (M : kz_M) (t : Int32) : Bool := !decide (t < 0) && !decide (M.1 12 6 ≤ t)
def cq_stage (M : kz_M) (t now : Int32) : Int32 := if M.1 17 t.toNatClampNeg = 0 then 0 else if now ≤ M.1 18 t.toNatClampNeg then 1 else M.1 17 t.toNatClampNeg
set_option maxRecDepth 100000 in
set_option maxHeartbeats 1000000 in
theorem c_Re_count (l : Launch) {M : kz_M}  : kz_Dt l sC m_Re_count [.ref 12] M (some (.int (M.1 12 6))) M := by
  refine kz_intro (by decide +kernel) (Nat.le_of_ble_eq_true rfl) ?_
  show kz_G l sC m_Re_count 0 [some (.ref 12)] [] M _
  refine kz_aload_n d_Re_count_0 rfl rfl ?_
  refine kz_getIp fd_Re_32 rfl rfl (Or.inl rfl) d_Re_count_1 rfl ?_
  exact kz_iret rfl d_Re_count_4 (⟨rfl, rfl⟩)
set_option maxRecDepth 100000 in
set_option maxHeartbeats 1000000 in
theorem c_Re_areOut (l : Launch) {M : kz_M}  : kz_Dt l sC m_Re_areOut [.ref 12] M (some (.int (kz_ib (cq_out M)))) M := by
  refine kz_intro (by decide +kernel) (Nat.le_of_ble_eq_true rfl) ?_
  show kz_G l sC m_Re_areOut 0 [some (.ref 12)] [] M _
  refine kz_aload_n d_Re_areOut_0 rfl rfl ?_
  refine kz_getIp fd_Re_32 rfl rfl (Or.inl rfl) d_Re_areOut_1 rfl ?_
  refine kz_sipush (v := 400) d_Re_areOut_4 (by decide) rfl ?_
  refine kz_icmp_lt (tgt := 14) d_Re_areOut_7 (by decide) rfl (fun h7 => ?_) (fun h7 => ?_)
  · refine kz_iconst (v := 0) d_Re_areOut_14 (by decide) rfl ?_
    exact kz_zret rfl d_Re_areOut_15 (by first | assumption | decide | exact kz_ib_or _) (⟨by simp [cq_out, kz_ib, *], rfl⟩)
  · refine kz_iconst (v := 1) d_Re_areOut_10 (by decide) rfl ?_
    refine kz_goto (tgt := 15) d_Re_areOut_11 (by decide) ?_
    exact kz_zret rfl d_Re_areOut_15 (by first | assumption | decide | exact kz_ib_or _) (⟨by simp [cq_out, kz_ib, *], rfl⟩)
set_option maxRecDepth 100000 in
set_option maxHeartbeats 1000000 in
theorem c_Re_has (l : Launch) {M : kz_M} {t : Int32} : kz_Dt l sC m_Re_has [.ref 12, .int t] M (some (.int (kz_ib (cq_has M t)))) M := by
  refine kz_intro (by decide +kernel) (Nat.le_of_ble_eq_true rfl) ?_
  show kz_G l sC m_Re_has 0 [some (.ref 12), some (.int t)] [] M _
  refine kz_iload_n d_Re_has_0 rfl rfl ?_
  refine kz_if_lt (tgt := 16) d_Re_has_1 (by decide) rfl (fun h1 => ?_) (fun h1 => ?_)
  · refine kz_iconst (v := 0) d_Re_has_16 (by decide) rfl ?_
    exact kz_zret rfl d_Re_has_17 (by first | assumption | decide | exact kz_ib_or _) (⟨by simp [cq_has, kz_ib, *], rfl⟩)
  · refine kz_iload_n d_Re_has_4 rfl rfl ?_
    refine kz_aload_n d_Re_has_5 rfl rfl ?_
    refine kz_getIp fd_Re_32 rfl rfl (Or.inl rfl) d_Re_has_6 rfl ?_
    refine kz_icmp_ge (tgt := 16) d_Re_has_9 (by decide) rfl (fun h9 => ?_) (fun h9 => ?_)
    · refine kz_iconst (v := 0) d_Re_has_16 (by decide) rfl ?_
      exact kz_zret rfl d_Re_has_17 (by first | assumption | decide | exact kz_ib_or _) (⟨by simp [cq_has, kz_ib, *], rfl⟩)
    · refine kz_iconst (v := 1) d_Re_has_12 (by decide) rfl ?_
      refine kz_goto (tgt := 17) d_Re_has_13 (by decide) ?_
      exact kz_zret rfl d_Re_has_17 (by first | assumption | decide | exact kz_ib_or _) (⟨by simp [cq_has, kz_ib, *], rfl⟩)
set_option maxRecDepth 100000 in
set_option maxHeartbeats 1000000 in
theorem c_Re_take (l : Launch) {M : kz_M} {a t : Int32} {w : Bool} (hi : vp_in (M.1 12 6) 400) : kz_Dt l sC m_Re_take [.ref 12, .int a, .int (kz_ib w), .int t] M (some (.int (M.1 12 6))) (cq_take M a w t) := by
  refine kz_intro (by decide +kernel) (Nat.le_of_ble_eq_true rfl) ?_
  show kz_G l sC m_Re_take 0 [some (.ref 12), some (.int a), some (.int (kz_ib w)), some (.int t), none] [] M _
  refine kz_aload_n d_Re_take_0 rfl rfl ?_
  refine kz_getIp fd_Re_32 rfl rfl (Or.inl rfl) d_Re_take_1 rfl ?_
  refine kz_istore d_Re_take_4 rfl (Nat.le_of_ble_eq_true rfl) rfl ?_
  refine kz_aload_n d_Re_take_6 rfl rfl ?_
  refine kz_getR fd_Re_9 rfl rfl rfl d_Re_take_7 rfl ?_
  refine kz_iload d_Re_take_10 rfl rfl ?_
  refine kz_iload_n d_Re_take_12 rfl rfl ?_
  refine kz_iastp rfl (by first | assumption | exact kz_vin (by decide)) rfl d_Re_take_13 rfl ?_
  refine kz_aload_n d_Re_take_14 rfl rfl ?_
  refine kz_getR fd_Re_15 rfl rfl rfl d_Re_take_15 rfl ?_
  refine kz_iload d_Re_take_18 rfl rfl ?_
  refine kz_iload_n d_Re_take_20 rfl rfl ?_
  refine kz_zastp rfl (by first | assumption | exact kz_vin (by decide)) rfl (by first | assumption | decide | exact kz_ib_or _) d_Re_take_21 rfl ?_
  refine kz_aload_n d_Re_take_22 rfl rfl ?_
  refine kz_getR fd_Re_19 rfl rfl rfl d_Re_take_23 rfl ?_
  refine kz_iload d_Re_take_26 rfl rfl ?_
  refine kz_iload_n d_Re_take_28 rfl rfl ?_
  refine kz_iastp rfl (by first | assumption | exact kz_vin (by decide)) rfl d_Re_take_29 rfl ?_
  refine kz_aload_n d_Re_take_30 rfl rfl ?_
  refine kz_dup d_Re_take_31 rfl rfl ?_
  refine kz_getIp fd_Re_32 rfl rfl (Or.inl rfl) d_Re_take_32 rfl ?_
  refine kz_iconst (v := 1) d_Re_take_35 (by decide) rfl ?_
  refine kz_iadd d_Re_take_36 rfl ?_
  refine kz_putIp fd_Re_32 rfl rfl d_Re_take_37 rfl ?_
  refine kz_iload d_Re_take_40 rfl rfl ?_
  exact kz_iret rfl d_Re_take_42 (⟨rfl, by simp [cq_take, kz_u_ne]⟩)
set_option maxRecDepth 100000 in
set_option maxHeartbeats 1000000 in
theorem c_Re_setWord (l : Launch) {M : kz_M} {t : Int32} {w : Int64} (hi : vp_in t 400) : kz_Dt l sC m_Re_setWord [.ref 12, .int t, .long w] M none (cq_word M t w) := by
  refine kz_intro (by decide +kernel) (Nat.le_of_ble_eq_true rfl) ?_
  show kz_G l sC m_Re_setWord 0 [some (.ref 12), some (.int t), some (.long w), none] [] M _
  refine kz_aload_n d_Re_setWord_0 rfl rfl ?_
  refine kz_getR fd_Re_22 rfl rfl rfl d_Re_setWord_1 rfl ?_
  refine kz_iload_n d_Re_setWord_4 rfl rfl ?_
  refine kz_lload_n d_Re_setWord_5 rfl rfl ?_
  refine kz_lastp rfl (by first | assumption | exact kz_vin (by decide)) rfl d_Re_setWord_6 rfl ?_
  exact kz_vret rfl d_Re_setWord_7 (⟨rfl, rfl⟩)
set_option maxRecDepth 100000 in
set_option maxHeartbeats 1000000 in
theorem c_Re_finish (l : Launch) {M : kz_M} {t : Int32} {w : Int64} {st e : Int32} (hi : vp_in t 400) : kz_Dt l sC m_Re_finish [.ref 12, .int t, .long w, .int st, .int e] M none (cq_fin M t w st e) := by
  refine kz_intro (by decide +kernel) (Nat.le_of_ble_eq_true rfl) ?_
  show kz_G l sC m_Re_finish 0 [some (.ref 12), some (.int t), some (.long w), none, some (.int st), some (.int e)] [] M _
  refine kz_aload_n d_Re_finish_0 rfl rfl ?_
  refine kz_getR fd_Re_22 rfl rfl rfl d_Re_finish_1 rfl ?_
  refine kz_iload_n d_Re_finish_4 rfl rfl ?_
  refine kz_lload_n d_Re_finish_5 rfl rfl ?_
  refine kz_lastp rfl (by first | assumption | exact kz_vin (by decide)) rfl d_Re_finish_6 rfl ?_
  refine kz_aload_n d_Re_finish_7 rfl rfl ?_
  refine kz_getR fd_Re_26 rfl rfl rfl d_Re_finish_8 rfl ?_
  refine kz_iload_n d_Re_finish_11 rfl rfl ?_
  refine kz_iload d_Re_finish_12 rfl rfl ?_
  refine kz_iastp rfl (by first | assumption | exact kz_vin (by decide)) rfl d_Re_finish_14 rfl ?_
  refine kz_aload_n d_Re_finish_15 rfl rfl ?_
  refine kz_getR fd_Re_29 rfl rfl rfl d_Re_finish_16 rfl ?_
  refine kz_iload_n d_Re_finish_19 rfl rfl ?_
  refine kz_iload d_Re_finish_20 rfl rfl ?_
  refine kz_iastp rfl (by first | assumption | exact kz_vin (by decide)) rfl d_Re_finish_22 rfl ?_
  exact kz_vret rfl d_Re_finish_23 (⟨rfl, rfl⟩)
set_option maxRecDepth 100000 in
set_option maxHeartbeats 1000000 in
theorem c_Re_addressOf (l : Launch) {M : kz_M} {t : Int32} (hi : vp_in t 400) : kz_Dt l sC m_Re_addressOf [.ref 12, .int t] M (some (.int (M.1 13 t.toNatClampNeg))) M := by
  refine kz_intro (by decide +kernel) (Nat.le_of_ble_eq_true rfl) ?_
  show kz_G l sC m_Re_addressOf 0 [some (.ref 12), some (.int t)] [] M _
  refine kz_aload_n d_Re_addressOf_0 rfl rfl ?_
  refine kz_getR fd_Re_9 rfl rfl rfl d_Re_addressOf_1 rfl ?_
  refine kz_iload_n d_Re_addressOf_4 rfl rfl ?_
  refine kz_ialdp rfl (by first | assumption | exact kz_vin (by decide)) rfl d_Re_addressOf_5 rfl ?_
  exact kz_iret rfl d_Re_addressOf_6 (⟨rfl, rfl⟩)
set_option maxRecDepth 100000 in
set_option maxHeartbeats 1000000 in
theorem c_Re_isWriting (l : Launch) {M : kz_M} {t : Int32} {w : Bool} (hi : vp_in t 400) (hw : M.1 14 t.toNatClampNeg = kz_ib w) : kz_Dt l sC m_Re_isWriting [.ref 12, .int t] M (some (.int (kz_ib w))) M := by
  refine kz_intro (by decide +kernel) (Nat.le_of_ble_eq_true rfl) ?_
  show kz_G l sC m_Re_isWriting 0 [some (.ref 12), some (.int t)] [] M _
  refine kz_aload_n d_Re_isWriting_0 rfl rfl ?_
  refine kz_getR fd_Re_15 rfl rfl rfl d_Re_isWriting_1 rfl ?_
  refine kz_iload_n d_Re_isWriting_4 rfl rfl ?_
  refine kz_zaldp rfl (by first | assumption | exact kz_vin (by decide)) rfl d_Re_isWriting_5 rfl ?_
  rw [hw]
  exact kz_zret rfl d_Re_isWriting_6 (kz_ib_or _) ⟨rfl, rfl⟩
set_option maxRecDepth 100000 in
set_option maxHeartbeats 1000000 in
theorem c_Re_comingOf (l : Launch) {M : kz_M} {t : Int32} (hi : vp_in t 400) : kz_Dt l sC m_Re_comingOf [.ref 12, .int t] M (some (.int (M.1 15 t.toNatClampNeg))) M := by
  refine kz_intro (by decide +kernel) (Nat.le_of_ble_eq_true rfl) ?_
  show kz_G l sC m_Re_comingOf 0 [some (.ref 12), some (.int t)] [] M _
  refine kz_aload_n d_Re_comingOf_0 rfl rfl ?_
  refine kz_getR fd_Re_19 rfl rfl rfl d_Re_comingOf_1 rfl ?_
  refine kz_iload_n d_Re_comingOf_4 rfl rfl ?_
  refine kz_ialdp rfl (by first | assumption | exact kz_vin (by decide)) rfl d_Re_comingOf_5 rfl ?_
  exact kz_iret rfl d_Re_comingOf_6 (⟨rfl, rfl⟩)
set_option maxRecDepth 100000 in
set_option maxHeartbeats 1000000 in
theorem c_Re_wordOf (l : Launch) {M : kz_M} {t : Int32} (hi : vp_in t 400) : kz_Dt l sC m_Re_wordOf [.ref 12, .int t] M (some (.long (M.2 16 t.toNatClampNeg))) M := by
  refine kz_intro (by decide +kernel) (Nat.le_of_ble_eq_true rfl) ?_
  show kz_G l sC m_Re_wordOf 0 [some (.ref 12), some (.int t)] [] M _
  refine kz_aload_n d_Re_wordOf_0 rfl rfl ?_
  refine kz_getR fd_Re_22 rfl rfl rfl d_Re_wordOf_1 rfl ?_
  refine kz_iload_n d_Re_wordOf_4 rfl rfl ?_
  refine kz_laldp rfl (by first | assumption | exact kz_vin (by decide)) rfl d_Re_wordOf_5 rfl ?_
  exact kz_lret rfl d_Re_wordOf_6 (⟨rfl, rfl⟩)
set_option maxRecDepth 100000 in
set_option maxHeartbeats 1000000 in
theorem c_Re_stageOf (l : Launch) {M : kz_M} {t now : Int32} (hi : vp_in t 400) : kz_Dt l sC m_Re_stageOf [.ref 12, .int t, .int now] M (some (.int (cq_stage M t now))) M := by
  refine kz_intro (by decide +kernel) (Nat.le_of_ble_eq_true rfl) ?_
  show kz_G l sC m_Re_stageOf 0 [some (.ref 12), some (.int t), some (.int now)] [] M _
  refine kz_aload_n d_Re_stageOf_0 rfl rfl ?_
  refine kz_getR fd_Re_26 rfl rfl rfl d_Re_stageOf_1 rfl ?_
  refine kz_iload_n d_Re_stageOf_4 rfl rfl ?_
  refine kz_ialdp rfl (by first | assumption | exact kz_vin (by decide)) rfl d_Re_stageOf_5 rfl ?_
  refine kz_if_ne (tgt := 11) d_Re_stageOf_6 (by decide) rfl (fun h6 => ?_) (fun h6 => ?_)
  · refine kz_iload_n d_Re_stageOf_11 rfl rfl ?_
    refine kz_aload_n d_Re_stageOf_12 rfl rfl ?_
    refine kz_getR fd_Re_29 rfl rfl rfl d_Re_stageOf_13 rfl ?_
    refine kz_iload_n d_Re_stageOf_16 rfl rfl ?_
    refine kz_ialdp rfl (by first | assumption | exact kz_vin (by decide)) rfl d_Re_stageOf_17 rfl ?_
    refine kz_icmp_le (tgt := 30) d_Re_stageOf_18 (by decide) rfl (fun h18 => ?_) (fun h18 => ?_)
    · refine kz_iconst (v := 1) d_Re_stageOf_30 (by decide) rfl ?_
      exact kz_iret rfl d_Re_stageOf_31 (⟨by simp [cq_stage, *], rfl⟩)
    · refine kz_aload_n d_Re_stageOf_21 rfl rfl ?_
      refine kz_getR fd_Re_26 rfl rfl rfl d_Re_stageOf_22 rfl ?_
      refine kz_iload_n d_Re_stageOf_25 rfl rfl ?_
      refine kz_ialdp rfl (by first | assumption | exact kz_vin (by decide)) rfl d_Re_stageOf_26 rfl ?_
      refine kz_goto (tgt := 31) d_Re_stageOf_27 (by decide) ?_
      exact kz_iret rfl d_Re_stageOf_31 (⟨by simp [cq_stage, *], rfl⟩)
  · refine kz_iconst (v := 0) d_Re_stageOf_9 (by decide) rfl ?_
    exact kz_iret rfl d_Re_stageOf_10 (⟨by simp [cq_stage, *], rfl⟩)
/-- banks -/
def cb_set (M : kz_M) (i v : Int32) : Bool := !decide (i < 0) && (decide (i < 14) && (!decide (v < if i = 13 then 60 else 1) && decide (v ≤ if i = 13 then 400 else 30)))
def cb_mayAct (M : kz_M) (b t : Int32) : Bool := decide (M.1 3 b.toNatClampNeg = -1) && (!decide (t - M.1 5 b.toNatClampNeg < M.1 2 1) && (!decide (t - M.1 4 b.toNatClampNeg < M.1 2 3) && (!decide (t - M.1 8 0 < M.1 2 4) && (!decide (t - M.1 8 3 < M.1 2 5) && !decide (t - M.1 1 9 < M.1 2 12)))))
def cb_act (M : kz_M) (b r t : Int32) : kz_M := ((fun k j => if k = 8 then (if j = 0 then t else if j < 4 then M.1 8 (j - 1) else M.1 8 j) else kz_u (kz_u M.1 3 b.toNatClampNeg r) 4 b.toNatClampNeg t k j), M.2)
def cb_mayPre (M : kz_M) (b t : Int32) : Bool := !decide (M.1 3 b.toNatClampNeg = -1) && (!decide (t - M.1 4 b.toNatClampNeg < M.1 2 2) && (!decide (t - M.1 6 b.toNatClampNeg < M.1 2 9) && !decide (t - M.1 7 b.toNatClampNeg < M.1 2 11 + 4 + M.1 2 7)))
def cb_pre (M : kz_M) (b t : Int32) : kz_M := (kz_u (kz_u M.1 3 b.toNatClampNeg (-1)) 5 b.toNatClampNeg t, M.2)
def cb_beg (M : kz_M) (w : Bool) (t : Int32) : Int32 := t + (if w = true then M.1 2 11 else M.1 2 10)
def cb_bus (M : kz_M) (w : Bool) : Int32 := M.1 1 10 + 4 + (if kz_ib w = M.1 1 11 then 0 else 1)
def cb_mayTr (M : kz_M) (b r : Int32) (w : Bool) (t : Int32) : Bool := decide (M.1 3 b.toNatClampNeg = r) && (!decide (t - M.1 4 b.toNatClampNeg < M.1 2 0) && (!decide (t - M.1 1 7 < M.1 2 6) && ((w || !decide (t - M.1 1 8 < M.1 2 11 + 4 + M.1 2 8)) && !decide (cb_beg M w t < cb_bus M w))))
def cb_tr (M : kz_M) (b : Int32) (w : Bool) (t : Int32) : kz_M := (if w = true then kz_u (kz_u (kz_u (kz_u (kz_u M.1 1 7 t) 1 10 (cb_beg M w t)) 1 11 (kz_ib w)) 7 b.toNatClampNeg t) 1 8 t else kz_u (kz_u (kz_u (kz_u M.1 1 7 t) 1 10 (cb_beg M w t)) 1 11 (kz_ib w)) 6 b.toNatClampNeg t, M.2)
def cb_pok (M : kz_M) (b : Nat) (t : Int32) : Bool := decide (M.1 3 b = -1) && decide (M.1 2 1 ≤ t - M.1 5 b)
def cb_mayRef (M : kz_M) (t : Int32) : Bool := cb_pok M 0 t && (cb_pok M 1 t && (cb_pok M 2 t && (cb_pok M 3 t && !decide (t - M.1 1 9 < M.1 2 12))))
set_option maxRecDepth 100000 in
set_option maxHeartbeats 1000000 in
theorem c_Ba_refreshInterval (l : Launch) {M : kz_M}  : kz_Dt l sC m_Ba_refreshInterval [.ref 1] M (some (.int (M.1 2 13))) M := by
  refine kz_intro (by decide +kernel) (Nat.le_of_ble_eq_true rfl) ?_
  show kz_G l sC m_Ba_refreshInterval 0 [some (.ref 1)] [] M _
  refine kz_aload_n d_Ba_refreshInterval_0 rfl rfl ?_
  refine kz_getR fd_Ba_18 rfl rfl rfl d_Ba_refreshInterval_1 rfl ?_
  refine kz_bipush (v := 13) d_Ba_refreshInterval_4 (by decide) rfl ?_
  refine kz_ialdp rfl (by first | assumption | exact kz_vin (by decide)) (j := 13) (by decide) d_Ba_refreshInterval_6 rfl ?_
  exact kz_iret rfl d_Ba_refreshInterval_7 (⟨rfl, rfl⟩)
set_option maxRecDepth 100000 in
set_option maxHeartbeats 1000000 in
theorem c_Ba_openRow (l : Launch) {M : kz_M} {b : Int32} (hb : vp_in b 4) : kz_Dt l sC m_Ba_openRow [.ref 1, .int b] M (some (.int (M.1 3 b.toNatClampNeg))) M := by
  refine kz_intro (by decide +kernel) (Nat.le_of_ble_eq_true rfl) ?_
  show kz_G l sC m_Ba_openRow 0 [some (.ref 1), some (.int b)] [] M _
  refine kz_aload_n d_Ba_openRow_0 rfl rfl ?_
  refine kz_getR fd_Ba_23 rfl rfl rfl d_Ba_openRow_1 rfl ?_
  refine kz_iload_n d_Ba_openRow_4 rfl rfl ?_
  refine kz_ialdp rfl (by first | assumption | exact kz_vin (by decide)) rfl d_Ba_openRow_5 rfl ?_
  exact kz_iret rfl d_Ba_openRow_6 (⟨rfl, rfl⟩)
set_option maxRecDepth 100000 in
set_option maxHeartbeats 1000000 in
theorem c_Ba_mayActivate (l : Launch) {M : kz_M} {b t : Int32} (hb : vp_in b 4) : kz_Dt l sC m_Ba_mayActivate [.ref 1, .int b, .int t] M (some (.int (kz_ib (cb_mayAct M b t)))) M := by
  refine kz_intro (by decide +kernel) (Nat.le_of_ble_eq_true rfl) ?_
  show kz_G l sC m_Ba_mayActivate 0 [some (.ref 1), some (.int b), some (.int t)] [] M _
  refine kz_aload_n d_Ba_mayActivate_0 rfl rfl ?_
  refine kz_getR fd_Ba_23 rfl rfl rfl d_Ba_mayActivate_1 rfl ?_
  refine kz_iload_n d_Ba_mayActivate_4 rfl rfl ?_
  refine kz_ialdp rfl (by first | assumption | exact kz_vin (by decide)) rfl d_Ba_mayActivate_5 rfl ?_
  refine kz_iconst (v := -1) d_Ba_mayActivate_6 (by decide) rfl ?_
  refine kz_icmp_ne (tgt := 98) d_Ba_mayActivate_7 (by decide) rfl (fun h7 => ?_) (fun h7 => ?_)
  · refine kz_iconst (v := 0) d_Ba_mayActivate_98 (by decide) rfl ?_
    exact kz_zret rfl d_Ba_mayActivate_99 (by first | assumption | decide | exact kz_ib_or _) (⟨by simp [cb_mayAct, kz_ib, *], rfl⟩)
  · refine kz_iload_n d_Ba_mayActivate_10 rfl rfl ?_
    refine kz_aload_n d_Ba_mayActivate_11 rfl rfl ?_
    refine kz_getR fd_Ba_29 rfl rfl rfl d_Ba_mayActivate_12 rfl ?_
    refine kz_iload_n d_Ba_mayActivate_15 rfl rfl ?_
    refine kz_ialdp rfl (by first | assumption | exact kz_vin (by decide)) rfl d_Ba_mayActivate_16 rfl ?_
    refine kz_isub d_Ba_mayActivate_17 rfl ?_
    refine kz_aload_n d_Ba_mayActivate_18 rfl rfl ?_
    refine kz_getR fd_Ba_18 rfl rfl rfl d_Ba_mayActivate_19 rfl ?_
    refine kz_iconst (v := 1) d_Ba_mayActivate_22 (by decide) rfl ?_
    refine kz_ialdp rfl (by first | assumption | exact kz_vin (by decide)) (j := 1) (by decide) d_Ba_mayActivate_23 rfl ?_
    refine kz_icmp_lt (tgt := 98) d_Ba_mayActivate_24 (by decide) rfl (fun h24 => ?_) (fun h24 => ?_)
    · refine kz_iconst (v := 0) d_Ba_mayActivate_98 (by decide) rfl ?_
      exact kz_zret rfl d_Ba_mayActivate_99 (by first | assumption | decide | exact kz_ib_or _) (⟨by simp [cb_mayAct, kz_ib, *], rfl⟩)
    · refine kz_iload_n d_Ba_mayActivate_27 rfl rfl ?_
      refine kz_aload_n d_Ba_mayActivate_28 rfl rfl ?_
      refine kz_getR fd_Ba_26 rfl rfl rfl d_Ba_mayActivate_29 rfl ?_
      refine kz_iload_n d_Ba_mayActivate_32 rfl rfl ?_
      refine kz_ialdp rfl (by first | assumption | exact kz_vin (by decide)) rfl d_Ba_mayActivate_33 rfl ?_
      refine kz_isub d_Ba_mayActivate_34 rfl ?_
      refine kz_aload_n d_Ba_mayActivate_35 rfl rfl ?_
      refine kz_getR fd_Ba_18 rfl rfl rfl d_Ba_mayActivate_36 rfl ?_
      refine kz_iconst (v := 3) d_Ba_mayActivate_39 (by decide) rfl ?_
      refine kz_ialdp rfl (by first | assumption | exact kz_vin (by decide)) (j := 3) (by decide) d_Ba_mayActivate_40 rfl ?_
      refine kz_icmp_lt (tgt := 98) d_Ba_mayActivate_41 (by decide) rfl (fun h41 => ?_) (fun h41 => ?_)
      · refine kz_iconst (v := 0) d_Ba_mayActivate_98 (by decide) rfl ?_
        exact kz_zret rfl d_Ba_mayActivate_99 (by first | assumption | decide | exact kz_ib_or _) (⟨by simp [cb_mayAct, kz_ib, *], rfl⟩)
      · refine kz_iload_n d_Ba_mayActivate_44 rfl rfl ?_
        refine kz_aload_n d_Ba_mayActivate_45 rfl rfl ?_
        refine kz_getR fd_Ba_38 rfl rfl rfl d_Ba_mayActivate_46 rfl ?_
        refine kz_iconst (v := 0) d_Ba_mayActivate_49 (by decide) rfl ?_
        refine kz_ialdp rfl (by first | assumption | exact kz_vin (by decide)) (j := 0) (by decide) d_Ba_mayActivate_50 rfl ?_
        refine kz_isub d_Ba_mayActivate_51 rfl ?_
        refine kz_aload_n d_Ba_mayActivate_52 rfl rfl ?_
        refine kz_getR fd_Ba_18 rfl rfl rfl d_Ba_mayActivate_53 rfl ?_
        refine kz_iconst (v := 4) d_Ba_mayActivate_56 (by decide) rfl ?_
        refine kz_ialdp rfl (by first | assumption | exact kz_vin (by decide)) (j := 4) (by decide) d_Ba_mayActivate_57 rfl ?_
        refine kz_icmp_lt (tgt := 98) d_Ba_mayActivate_58 (by decide) rfl (fun h58 => ?_) (fun h58 => ?_)
        · refine kz_iconst (v := 0) d_Ba_mayActivate_98 (by decide) rfl ?_
          exact kz_zret rfl d_Ba_mayActivate_99 (by first | assumption | decide | exact kz_ib_or _) (⟨by simp [cb_mayAct, kz_ib, *], rfl⟩)
        · refine kz_iload_n d_Ba_mayActivate_61 rfl rfl ?_
          refine kz_aload_n d_Ba_mayActivate_62 rfl rfl ?_
          refine kz_getR fd_Ba_38 rfl rfl rfl d_Ba_mayActivate_63 rfl ?_
          refine kz_iconst (v := 3) d_Ba_mayActivate_66 (by decide) rfl ?_
          refine kz_ialdp rfl (by first | assumption | exact kz_vin (by decide)) (j := 3) (by decide) d_Ba_mayActivate_67 rfl ?_
          refine kz_isub d_Ba_mayActivate_68 rfl ?_
          refine kz_aload_n d_Ba_mayActivate_69 rfl rfl ?_
          refine kz_getR fd_Ba_18 rfl rfl rfl d_Ba_mayActivate_70 rfl ?_
          refine kz_iconst (v := 5) d_Ba_mayActivate_73 (by decide) rfl ?_
          refine kz_ialdp rfl (by first | assumption | exact kz_vin (by decide)) (j := 5) (by decide) d_Ba_mayActivate_74 rfl ?_
          refine kz_icmp_lt (tgt := 98) d_Ba_mayActivate_75 (by decide) rfl (fun h75 => ?_) (fun h75 => ?_)
          · refine kz_iconst (v := 0) d_Ba_mayActivate_98 (by decide) rfl ?_
            exact kz_zret rfl d_Ba_mayActivate_99 (by first | assumption | decide | exact kz_ib_or _) (⟨by simp [cb_mayAct, kz_ib, *], rfl⟩)
          · refine kz_iload_n d_Ba_mayActivate_78 rfl rfl ?_
            refine kz_aload_n d_Ba_mayActivate_79 rfl rfl ?_
            refine kz_getIp fd_Ba_49 rfl rfl (Or.inl rfl) d_Ba_mayActivate_80 rfl ?_
            refine kz_isub d_Ba_mayActivate_83 rfl ?_
            refine kz_aload_n d_Ba_mayActivate_84 rfl rfl ?_
            refine kz_getR fd_Ba_18 rfl rfl rfl d_Ba_mayActivate_85 rfl ?_
            refine kz_bipush (v := 12) d_Ba_mayActivate_88 (by decide) rfl ?_
            refine kz_ialdp rfl (by first | assumption | exact kz_vin (by decide)) (j := 12) (by decide) d_Ba_mayActivate_90 rfl ?_
            refine kz_icmp_lt (tgt := 98) d_Ba_mayActivate_91 (by decide) rfl (fun h91 => ?_) (fun h91 => ?_)
            · refine kz_iconst (v := 0) d_Ba_mayActivate_98 (by decide) rfl ?_
              exact kz_zret rfl d_Ba_mayActivate_99 (by first | assumption | decide | exact kz_ib_or _) (⟨by simp [cb_mayAct, kz_ib, *], rfl⟩)
            · refine kz_iconst (v := 1) d_Ba_mayActivate_94 (by decide) rfl ?_
              refine kz_goto (tgt := 99) d_Ba_mayActivate_95 (by decide) ?_
              exact kz_zret rfl d_Ba_mayActivate_99 (by first | assumption | decide | exact kz_ib_or _) (⟨by simp [cb_mayAct, kz_ib, *], rfl⟩)
theorem kz_actm {M : kz_M} {b r t : Int32} (k j : Nat) : kz_u (fun a c => if a = 8 then va_cpy (kz_u (kz_u M.1 3 b.toNatClampNeg r) 4 b.toNatClampNeg t 8) (kz_u (kz_u M.1 3 b.toNatClampNeg r) 4 b.toNatClampNeg t 8) ((0 : Int32).toNatClampNeg) ((1 : Int32).toNatClampNeg) ((3 : Int32).toNatClampNeg) c else kz_u (kz_u M.1 3 b.toNatClampNeg r) 4 b.toNatClampNeg t a c) 8 0 t k j = (cb_act M b r t).1 k j := by
  have e0 : (0 : Int32).toNatClampNeg = 0 := by decide
  have e1 : (1 : Int32).toNatClampNeg = 1 := by decide
  have e3 : (3 : Int32).toNatClampNeg = 3 := by decide
  have e8 : kz_u (kz_u M.1 3 b.toNatClampNeg r) 4 b.toNatClampNeg t 8 = M.1 8 := by rw [kz_u_off _ _ _ _ (by decide), kz_u_off _ _ _ _ (by decide)]
  rw [e0, e1, e3, e8]
  unfold cb_act
  by_cases hk : k = 8
  · subst hk
    by_cases hj : j = 0
    · subst hj
      simp [kz_u_same]
    · rw [kz_u_ne _ _ _ _ (fun q => hj q.2)]
      simp only [if_true, if_neg hj, va_cpy]
      by_cases h4 : j < 4
      · rw [if_pos h4, if_pos (by omega), Nat.zero_add]
      · rw [if_neg h4, if_neg (by omega)]
  · rw [kz_u_ne _ _ _ _ (fun q => hk q.1)]
    simp only [if_neg hk]
set_option maxRecDepth 100000 in
set_option maxHeartbeats 1000000 in
theorem c_Ba_activate (l : Launch) {M : kz_M} {b r t : Int32} (hb : vp_in b 4) : kz_Dt l sC m_Ba_activate [.ref 1, .int b, .int r, .int t] M none (cb_act M b r t) := by
  refine kz_intro (by decide +kernel) (Nat.le_of_ble_eq_true rfl) ?_
  show kz_G l sC m_Ba_activate 0 [some (.ref 1), some (.int b), some (.int r), some (.int t)] [] M _
  refine kz_aload_n d_Ba_activate_0 rfl rfl ?_
  refine kz_getR fd_Ba_23 rfl rfl rfl d_Ba_activate_1 rfl ?_
  refine kz_iload_n d_Ba_activate_4 rfl rfl ?_
  refine kz_iload_n d_Ba_activate_5 rfl rfl ?_
  refine kz_iastp rfl (by first | assumption | exact kz_vin (by decide)) rfl d_Ba_activate_6 rfl ?_
  refine kz_aload_n d_Ba_activate_7 rfl rfl ?_
  refine kz_getR fd_Ba_26 rfl rfl rfl d_Ba_activate_8 rfl ?_
  refine kz_iload_n d_Ba_activate_11 rfl rfl ?_
  refine kz_iload_n d_Ba_activate_12 rfl rfl ?_
  refine kz_iastp rfl (by first | assumption | exact kz_vin (by decide)) rfl d_Ba_activate_13 rfl ?_
  refine kz_aload_n d_Ba_activate_14 rfl rfl ?_
  refine kz_getR fd_Ba_38 rfl rfl rfl d_Ba_activate_15 rfl ?_
  refine kz_iconst (v := 0) d_Ba_activate_18 (by decide) rfl ?_
  refine kz_aload_n d_Ba_activate_19 rfl rfl ?_
  refine kz_getR fd_Ba_38 rfl rfl rfl d_Ba_activate_20 rfl ?_
  refine kz_iconst (v := 1) d_Ba_activate_23 (by decide) rfl ?_
  refine kz_iconst (v := 3) d_Ba_activate_24 (by decide) rfl ?_
  refine kz_copy ⟨bw_mem2 225 rfl rfl, bw_mem2 227 rfl rfl, bw_mem2 226 rfl rfl, bw_mem1 11 rfl rfl⟩ rfl (by decide) (by decide) (by decide) (by decide) (by decide) ⟨by decide, by decide⟩ (Nat.le_of_ble_eq_true rfl) d_Ba_activate_25 rfl ?_
  refine kz_aload_n d_Ba_activate_28 rfl rfl ?_
  refine kz_getR fd_Ba_38 rfl rfl rfl d_Ba_activate_29 rfl ?_
  refine kz_iconst (v := 0) d_Ba_activate_32 (by decide) rfl ?_
  refine kz_iload_n d_Ba_activate_33 rfl rfl ?_
  refine kz_iastp rfl (by first | assumption | exact kz_vin (by decide)) (j := 0) (by decide) d_Ba_activate_34 rfl ?_
  exact kz_vret rfl d_Ba_activate_35 (by refine ⟨rfl, Prod.ext (funext fun k => funext fun j => ?_) rfl⟩; exact kz_actm k j)
set_option maxRecDepth 100000 in
set_option maxHeartbeats 1000000 in
theorem c_Ba_mayPrecharge (l : Launch) {M : kz_M} {b t : Int32} (hb : vp_in b 4) : kz_Dt l sC m_Ba_mayPrecharge [.ref 1, .int b, .int t] M (some (.int (kz_ib (cb_mayPre M b t)))) M := by
  refine kz_intro (by decide +kernel) (Nat.le_of_ble_eq_true rfl) ?_
  show kz_G l sC m_Ba_mayPrecharge 0 [some (.ref 1), some (.int b), some (.int t)] [] M _
  refine kz_aload_n d_Ba_mayPrecharge_0 rfl rfl ?_
  refine kz_getR fd_Ba_23 rfl rfl rfl d_Ba_mayPrecharge_1 rfl ?_
  refine kz_iload_n d_Ba_mayPrecharge_4 rfl rfl ?_
  refine kz_ialdp rfl (by first | assumption | exact kz_vin (by decide)) rfl d_Ba_mayPrecharge_5 rfl ?_
  refine kz_iconst (v := -1) d_Ba_mayPrecharge_6 (by decide) rfl ?_
  refine kz_icmp_eq (tgt := 77) d_Ba_mayPrecharge_7 (by decide) rfl (fun h7 => ?_) (fun h7 => ?_)
  · refine kz_iconst (v := 0) d_Ba_mayPrecharge_77 (by decide) rfl ?_
    exact kz_zret rfl d_Ba_mayPrecharge_78 (by first | assumption | decide | exact kz_ib_or _) (⟨by simp [cb_mayPre, kz_ib, *], rfl⟩)
  · refine kz_iload_n d_Ba_mayPrecharge_10 rfl rfl ?_
    refine kz_aload_n d_Ba_mayPrecharge_11 rfl rfl ?_
    refine kz_getR fd_Ba_26 rfl rfl rfl d_Ba_mayPrecharge_12 rfl ?_
    refine kz_iload_n d_Ba_mayPrecharge_15 rfl rfl ?_
    refine kz_ialdp rfl (by first | assumption | exact kz_vin (by decide)) rfl d_Ba_mayPrecharge_16 rfl ?_
    refine kz_isub d_Ba_mayPrecharge_17 rfl ?_
    refine kz_aload_n d_Ba_mayPrecharge_18 rfl rfl ?_
    refine kz_getR fd_Ba_18 rfl rfl rfl d_Ba_mayPrecharge_19 rfl ?_
    refine kz_iconst (v := 2) d_Ba_mayPrecharge_22 (by decide) rfl ?_
    refine kz_ialdp rfl (by first | assumption | exact kz_vin (by decide)) (j := 2) (by decide) d_Ba_mayPrecharge_23 rfl ?_
    refine kz_icmp_lt (tgt := 77) d_Ba_mayPrecharge_24 (by decide) rfl (fun h24 => ?_) (fun h24 => ?_)
    · refine kz_iconst (v := 0) d_Ba_mayPrecharge_77 (by decide) rfl ?_
      exact kz_zret rfl d_Ba_mayPrecharge_78 (by first | assumption | decide | exact kz_ib_or _) (⟨by simp [cb_mayPre, kz_ib, *], rfl⟩)
    · refine kz_iload_n d_Ba_mayPrecharge_27 rfl rfl ?_
      refine kz_aload_n d_Ba_mayPrecharge_28 rfl rfl ?_
      refine kz_getR fd_Ba_32 rfl rfl rfl d_Ba_mayPrecharge_29 rfl ?_
      refine kz_iload_n d_Ba_mayPrecharge_32 rfl rfl ?_
      refine kz_ialdp rfl (by first | assumption | exact kz_vin (by decide)) rfl d_Ba_mayPrecharge_33 rfl ?_
      refine kz_isub d_Ba_mayPrecharge_34 rfl ?_
      refine kz_aload_n d_Ba_mayPrecharge_35 rfl rfl ?_
      refine kz_getR fd_Ba_18 rfl rfl rfl d_Ba_mayPrecharge_36 rfl ?_
      refine kz_bipush (v := 9) d_Ba_mayPrecharge_39 (by decide) rfl ?_
      refine kz_ialdp rfl (by first | assumption | exact kz_vin (by decide)) (j := 9) (by decide) d_Ba_mayPrecharge_41 rfl ?_
      refine kz_icmp_lt (tgt := 77) d_Ba_mayPrecharge_42 (by decide) rfl (fun h42 => ?_) (fun h42 => ?_)
      · refine kz_iconst (v := 0) d_Ba_mayPrecharge_77 (by decide) rfl ?_
        exact kz_zret rfl d_Ba_mayPrecharge_78 (by first | assumption | decide | exact kz_ib_or _) (⟨by simp [cb_mayPre, kz_ib, *], rfl⟩)
      · refine kz_iload_n d_Ba_mayPrecharge_45 rfl rfl ?_
        refine kz_aload_n d_Ba_mayPrecharge_46 rfl rfl ?_
        refine kz_getR fd_Ba_35 rfl rfl rfl d_Ba_mayPrecharge_47 rfl ?_
        refine kz_iload_n d_Ba_mayPrecharge_50 rfl rfl ?_
        refine kz_ialdp rfl (by first | assumption | exact kz_vin (by decide)) rfl d_Ba_mayPrecharge_51 rfl ?_
        refine kz_isub d_Ba_mayPrecharge_52 rfl ?_
        refine kz_aload_n d_Ba_mayPrecharge_53 rfl rfl ?_
        refine kz_getR fd_Ba_18 rfl rfl rfl d_Ba_mayPrecharge_54 rfl ?_
        refine kz_bipush (v := 11) d_Ba_mayPrecharge_57 (by decide) rfl ?_
        refine kz_ialdp rfl (by first | assumption | exact kz_vin (by decide)) (j := 11) (by decide) d_Ba_mayPrecharge_59 rfl ?_
        refine kz_iconst (v := 4) d_Ba_mayPrecharge_60 (by decide) rfl ?_
        refine kz_iadd d_Ba_mayPrecharge_61 rfl ?_
        refine kz_aload_n d_Ba_mayPrecharge_62 rfl rfl ?_
        refine kz_getR fd_Ba_18 rfl rfl rfl d_Ba_mayPrecharge_63 rfl ?_
        refine kz_bipush (v := 7) d_Ba_mayPrecharge_66 (by decide) rfl ?_
        refine kz_ialdp rfl (by first | assumption | exact kz_vin (by decide)) (j := 7) (by decide) d_Ba_mayPrecharge_68 rfl ?_
        refine kz_iadd d_Ba_mayPrecharge_69 rfl ?_
        refine kz_icmp_lt (tgt := 77) d_Ba_mayPrecharge_70 (by decide) rfl (fun h70 => ?_) (fun h70 => ?_)
        · refine kz_iconst (v := 0) d_Ba_mayPrecharge_77 (by decide) rfl ?_
          exact kz_zret rfl d_Ba_mayPrecharge_78 (by first | assumption | decide | exact kz_ib_or _) (⟨by simp [cb_mayPre, kz_ib, *], rfl⟩)
        · refine kz_iconst (v := 1) d_Ba_mayPrecharge_73 (by decide) rfl ?_
          refine kz_goto (tgt := 78) d_Ba_mayPrecharge_74 (by decide) ?_
          exact kz_zret rfl d_Ba_mayPrecharge_78 (by first | assumption | decide | exact kz_ib_or _) (⟨by simp [cb_mayPre, kz_ib, *], rfl⟩)
set_option maxRecDepth 100000 in
set_option maxHeartbeats 1000000 in
theorem c_Ba_precharge (l : Launch) {M : kz_M} {b t : Int32} (hb : vp_in b 4) : kz_Dt l sC m_Ba_precharge [.ref 1, .int b, .int t] M none (cb_pre M b t) := by
  refine kz_intro (by decide +kernel) (Nat.le_of_ble_eq_true rfl) ?_
  show kz_G l sC m_Ba_precharge 0 [some (.ref 1), some (.int b), some (.int t)] [] M _
  refine kz_aload_n d_Ba_precharge_0 rfl rfl ?_
  refine kz_getR fd_Ba_23 rfl rfl rfl d_Ba_precharge_1 rfl ?_
  refine kz_iload_n d_Ba_precharge_4 rfl rfl ?_
  refine kz_iconst (v := -1) d_Ba_precharge_5 (by decide) rfl ?_
  refine kz_iastp rfl (by first | assumption | exact kz_vin (by decide)) rfl d_Ba_precharge_6 rfl ?_
  refine kz_aload_n d_Ba_precharge_7 rfl rfl ?_
  refine kz_getR fd_Ba_29 rfl rfl rfl d_Ba_precharge_8 rfl ?_
  refine kz_iload_n d_Ba_precharge_11 rfl rfl ?_
  refine kz_iload_n d_Ba_precharge_12 rfl rfl ?_
  refine kz_iastp rfl (by first | assumption | exact kz_vin (by decide)) rfl d_Ba_precharge_13 rfl ?_
  exact kz_vret rfl d_Ba_precharge_14 (⟨rfl, rfl⟩)
set_option maxRecDepth 100000 in
set_option maxHeartbeats 1000000 in
theorem c_Ba_beginOfBurst (l : Launch) {M : kz_M} {w : Bool} {t : Int32} : kz_Dt l sC m_Ba_beginOfBurst [.ref 1, .int (kz_ib w), .int t] M (some (.int (cb_beg M w t))) M := by
  refine kz_intro (by decide +kernel) (Nat.le_of_ble_eq_true rfl) ?_
  show kz_G l sC m_Ba_beginOfBurst 0 [some (.ref 1), some (.int (kz_ib w)), some (.int t)] [] M _
  refine kz_iload_n d_Ba_beginOfBurst_0 rfl rfl ?_
  refine kz_iload_n d_Ba_beginOfBurst_1 rfl rfl ?_
  refine kz_if_eqb (tgt := 15) d_Ba_beginOfBurst_2 (by decide) rfl (fun h2 => ?_) (fun h2 => ?_)
  · refine kz_aload_n d_Ba_beginOfBurst_15 rfl rfl ?_
    refine kz_getR fd_Ba_18 rfl rfl rfl d_Ba_beginOfBurst_16 rfl ?_
    refine kz_bipush (v := 10) d_Ba_beginOfBurst_19 (by decide) rfl ?_
    refine kz_ialdp rfl (by first | assumption | exact kz_vin (by decide)) (j := 10) (by decide) d_Ba_beginOfBurst_21 rfl ?_
    refine kz_iadd d_Ba_beginOfBurst_22 rfl ?_
    exact kz_iret rfl d_Ba_beginOfBurst_23 (⟨by simp [cb_beg, *], rfl⟩)
  · refine kz_aload_n d_Ba_beginOfBurst_5 rfl rfl ?_
    refine kz_getR fd_Ba_18 rfl rfl rfl d_Ba_beginOfBurst_6 rfl ?_
    refine kz_bipush (v := 11) d_Ba_beginOfBurst_9 (by decide) rfl ?_
    refine kz_ialdp rfl (by first | assumption | exact kz_vin (by decide)) (j := 11) (by decide) d_Ba_beginOfBurst_11 rfl ?_
    refine kz_goto (tgt := 22) d_Ba_beginOfBurst_12 (by decide) ?_
    refine kz_iadd d_Ba_beginOfBurst_22 rfl ?_
    exact kz_iret rfl d_Ba_beginOfBurst_23 (⟨by simp [cb_beg, *], rfl⟩)
set_option maxRecDepth 100000 in
set_option maxHeartbeats 1000000 in
theorem c_Ba_endOfBurst (l : Launch) {M : kz_M}  : kz_Dt l sC m_Ba_endOfBurst [.ref 1] M (some (.int (M.1 1 10 + 4))) M := by
  refine kz_intro (by decide +kernel) (Nat.le_of_ble_eq_true rfl) ?_
  show kz_G l sC m_Ba_endOfBurst 0 [some (.ref 1)] [] M _
  refine kz_aload_n d_Ba_endOfBurst_0 rfl rfl ?_
  refine kz_getIp fd_Ba_52 rfl rfl (Or.inl rfl) d_Ba_endOfBurst_1 rfl ?_
  refine kz_iconst (v := 4) d_Ba_endOfBurst_4 (by decide) rfl ?_
  refine kz_iadd d_Ba_endOfBurst_5 rfl ?_
  exact kz_iret rfl d_Ba_endOfBurst_6 (⟨rfl, rfl⟩)
set_option maxRecDepth 100000 in
set_option maxHeartbeats 1000000 in
theorem c_Ba_busFreeFrom (l : Launch) {M : kz_M} {w : Bool} : kz_Dt l sC m_Ba_busFreeFrom [.ref 1, .int (kz_ib w)] M (some (.int (cb_bus M w))) M := by
  refine kz_intro (by decide +kernel) (Nat.le_of_ble_eq_true rfl) ?_
  show kz_G l sC m_Ba_busFreeFrom 0 [some (.ref 1), some (.int (kz_ib w))] [] M _
  refine kz_aload_n d_Ba_busFreeFrom_0 rfl rfl ?_
  refine kz_callVi (c_Ba_endOfBurst l) cv_Ba_69 rfl rfl rfl ⟨by decide, by decide⟩ rfl (Nat.le_of_ble_eq_true rfl) d_Ba_busFreeFrom_1 rfl ?_
  refine kz_iload_n d_Ba_busFreeFrom_4 rfl rfl ?_
  refine kz_aload_n d_Ba_busFreeFrom_5 rfl rfl ?_
  refine kz_getIp fd_Ba_73 rfl rfl (Or.inr rfl) d_Ba_busFreeFrom_6 rfl ?_
  refine kz_icmp_ne (tgt := 16) d_Ba_busFreeFrom_9 (by decide) rfl (fun h9 => ?_) (fun h9 => ?_)
  · refine kz_iconst (v := 1) d_Ba_busFreeFrom_16 (by decide) rfl ?_
    refine kz_iadd d_Ba_busFreeFrom_17 rfl ?_
    exact kz_iret rfl d_Ba_busFreeFrom_18 (⟨by simp [cb_bus, *], rfl⟩)
  · refine kz_iconst (v := 0) d_Ba_busFreeFrom_12 (by decide) rfl ?_
    refine kz_goto (tgt := 17) d_Ba_busFreeFrom_13 (by decide) ?_
    refine kz_iadd d_Ba_busFreeFrom_17 rfl ?_
    exact kz_iret rfl d_Ba_busFreeFrom_18 (⟨by simp [cb_bus, *], rfl⟩)
set_option maxRecDepth 100000 in
set_option maxHeartbeats 1000000 in
theorem c_Ba_mayTransfer (l : Launch) {M : kz_M} {b r t : Int32} {w : Bool} (hb : vp_in b 4) : kz_Dt l sC m_Ba_mayTransfer [.ref 1, .int b, .int r, .int (kz_ib w), .int t] M (some (.int (kz_ib (cb_mayTr M b r w t)))) M := by
  refine kz_intro (by decide +kernel) (Nat.le_of_ble_eq_true rfl) ?_
  show kz_G l sC m_Ba_mayTransfer 0 [some (.ref 1), some (.int b), some (.int r), some (.int (kz_ib w)), some (.int t)] [] M _
  refine kz_aload_n d_Ba_mayTransfer_0 rfl rfl ?_
  refine kz_getR fd_Ba_23 rfl rfl rfl d_Ba_mayTransfer_1 rfl ?_
  refine kz_iload_n d_Ba_mayTransfer_4 rfl rfl ?_
  refine kz_ialdp rfl (by first | assumption | exact kz_vin (by decide)) rfl d_Ba_mayTransfer_5 rfl ?_
  refine kz_iload_n d_Ba_mayTransfer_6 rfl rfl ?_
  refine kz_icmp_ne (tgt := 95) d_Ba_mayTransfer_7 (by decide) rfl (fun h7 => ?_) (fun h7 => ?_)
  · refine kz_iconst (v := 0) d_Ba_mayTransfer_95 (by decide) rfl ?_
    exact kz_zret rfl d_Ba_mayTransfer_96 (by first | assumption | decide | exact kz_ib_or _) (⟨by first | (simp [cb_mayTr, kz_ib, *]; done) | (subst h46; simp [cb_mayTr, kz_ib, *]; done), rfl⟩)
  · refine kz_iload d_Ba_mayTransfer_10 rfl rfl ?_
    refine kz_aload_n d_Ba_mayTransfer_12 rfl rfl ?_
    refine kz_getR fd_Ba_26 rfl rfl rfl d_Ba_mayTransfer_13 rfl ?_
    refine kz_iload_n d_Ba_mayTransfer_16 rfl rfl ?_
    refine kz_ialdp rfl (by first | assumption | exact kz_vin (by decide)) rfl d_Ba_mayTransfer_17 rfl ?_
    refine kz_isub d_Ba_mayTransfer_18 rfl ?_
    refine kz_aload_n d_Ba_mayTransfer_19 rfl rfl ?_
    refine kz_getR fd_Ba_18 rfl rfl rfl d_Ba_mayTransfer_20 rfl ?_
    refine kz_iconst (v := 0) d_Ba_mayTransfer_23 (by decide) rfl ?_
    refine kz_ialdp rfl (by first | assumption | exact kz_vin (by decide)) (j := 0) (by decide) d_Ba_mayTransfer_24 rfl ?_
    refine kz_icmp_lt (tgt := 95) d_Ba_mayTransfer_25 (by decide) rfl (fun h25 => ?_) (fun h25 => ?_)
    · refine kz_iconst (v := 0) d_Ba_mayTransfer_95 (by decide) rfl ?_
      exact kz_zret rfl d_Ba_mayTransfer_96 (by first | assumption | decide | exact kz_ib_or _) (⟨by first | (simp [cb_mayTr, kz_ib, *]; done) | (subst h46; simp [cb_mayTr, kz_ib, *]; done), rfl⟩)
    · refine kz_iload d_Ba_mayTransfer_28 rfl rfl ?_
      refine kz_aload_n d_Ba_mayTransfer_30 rfl rfl ?_
      refine kz_getIp fd_Ba_42 rfl rfl (Or.inl rfl) d_Ba_mayTransfer_31 rfl ?_
      refine kz_isub d_Ba_mayTransfer_34 rfl ?_
      refine kz_aload_n d_Ba_mayTransfer_35 rfl rfl ?_
      refine kz_getR fd_Ba_18 rfl rfl rfl d_Ba_mayTransfer_36 rfl ?_
      refine kz_bipush (v := 6) d_Ba_mayTransfer_39 (by decide) rfl ?_
      refine kz_ialdp rfl (by first | assumption | exact kz_vin (by decide)) (j := 6) (by decide) d_Ba_mayTransfer_41 rfl ?_
      refine kz_icmp_lt (tgt := 95) d_Ba_mayTransfer_42 (by decide) rfl (fun h42 => ?_) (fun h42 => ?_)
      · refine kz_iconst (v := 0) d_Ba_mayTransfer_95 (by decide) rfl ?_
        exact kz_zret rfl d_Ba_mayTransfer_96 (by first | assumption | decide | exact kz_ib_or _) (⟨by first | (simp [cb_mayTr, kz_ib, *]; done) | (subst h46; simp [cb_mayTr, kz_ib, *]; done), rfl⟩)
      · refine kz_iload_n d_Ba_mayTransfer_45 rfl rfl ?_
        refine kz_if_neb (tgt := 76) d_Ba_mayTransfer_46 (by decide) rfl (fun h46 => ?_) (fun h46 => ?_)
        · refine kz_aload_n d_Ba_mayTransfer_76 rfl rfl ?_
          refine kz_iload_n d_Ba_mayTransfer_77 rfl rfl ?_
          refine kz_iload d_Ba_mayTransfer_78 rfl rfl ?_
          refine kz_callVi (c_Ba_beginOfBurst l) cv_Ba_61 rfl rfl rfl ⟨by decide, by decide⟩ rfl (Nat.le_of_ble_eq_true rfl) d_Ba_mayTransfer_80 rfl ?_
          refine kz_aload_n d_Ba_mayTransfer_83 rfl rfl ?_
          refine kz_iload_n d_Ba_mayTransfer_84 rfl rfl ?_
          refine kz_callVi (c_Ba_busFreeFrom l) cv_Ba_65 rfl rfl rfl ⟨by decide, by decide⟩ rfl (Nat.le_of_ble_eq_true rfl) d_Ba_mayTransfer_85 rfl ?_
          refine kz_icmp_lt (tgt := 95) d_Ba_mayTransfer_88 (by decide) rfl (fun h88 => ?_) (fun h88 => ?_)
          · refine kz_iconst (v := 0) d_Ba_mayTransfer_95 (by decide) rfl ?_
            exact kz_zret rfl d_Ba_mayTransfer_96 (by first | assumption | decide | exact kz_ib_or _) (⟨by first | (simp [cb_mayTr, kz_ib, *]; done) | (subst h46; simp [cb_mayTr, kz_ib, *]; done), rfl⟩)
          · refine kz_iconst (v := 1) d_Ba_mayTransfer_91 (by decide) rfl ?_
            refine kz_goto (tgt := 96) d_Ba_mayTransfer_92 (by decide) ?_
            exact kz_zret rfl d_Ba_mayTransfer_96 (by first | assumption | decide | exact kz_ib_or _) (⟨by first | (simp [cb_mayTr, kz_ib, *]; done) | (subst h46; simp [cb_mayTr, kz_ib, *]; done), rfl⟩)
        · refine kz_iload d_Ba_mayTransfer_49 rfl rfl ?_
          refine kz_aload_n d_Ba_mayTransfer_51 rfl rfl ?_
          refine kz_getIp fd_Ba_46 rfl rfl (Or.inl rfl) d_Ba_mayTransfer_52 rfl ?_
          refine kz_isub d_Ba_mayTransfer_55 rfl ?_
          refine kz_aload_n d_Ba_mayTransfer_56 rfl rfl ?_
          refine kz_getR fd_Ba_18 rfl rfl rfl d_Ba_mayTransfer_57 rfl ?_
          refine kz_bipush (v := 11) d_Ba_mayTransfer_60 (by decide) rfl ?_
          refine kz_ialdp rfl (by first | assumption | exact kz_vin (by decide)) (j := 11) (by decide) d_Ba_mayTransfer_62 rfl ?_
          refine kz_iconst (v := 4) d_Ba_mayTransfer_63 (by decide) rfl ?_
          refine kz_iadd d_Ba_mayTransfer_64 rfl ?_
          refine kz_aload_n d_Ba_mayTransfer_65 rfl rfl ?_
          refine kz_getR fd_Ba_18 rfl rfl rfl d_Ba_mayTransfer_66 rfl ?_
          refine kz_bipush (v := 8) d_Ba_mayTransfer_69 (by decide) rfl ?_
          refine kz_ialdp rfl (by first | assumption | exact kz_vin (by decide)) (j := 8) (by decide) d_Ba_mayTransfer_71 rfl ?_
          refine kz_iadd d_Ba_mayTransfer_72 rfl ?_
          refine kz_icmp_lt (tgt := 95) d_Ba_mayTransfer_73 (by decide) rfl (fun h73 => ?_) (fun h73 => ?_)
          · refine kz_iconst (v := 0) d_Ba_mayTransfer_95 (by decide) rfl ?_
            exact kz_zret rfl d_Ba_mayTransfer_96 (by first | assumption | decide | exact kz_ib_or _) (⟨by first | (simp [cb_mayTr, kz_ib, *]; done) | (subst h46; simp [cb_mayTr, kz_ib, *]; done), rfl⟩)
          · refine kz_aload_n d_Ba_mayTransfer_76 rfl rfl ?_
            refine kz_iload_n d_Ba_mayTransfer_77 rfl rfl ?_
            refine kz_iload d_Ba_mayTransfer_78 rfl rfl ?_
            refine kz_callVi (c_Ba_beginOfBurst l) cv_Ba_61 rfl rfl rfl ⟨by decide, by decide⟩ rfl (Nat.le_of_ble_eq_true rfl) d_Ba_mayTransfer_80 rfl ?_
            refine kz_aload_n d_Ba_mayTransfer_83 rfl rfl ?_
            refine kz_iload_n d_Ba_mayTransfer_84 rfl rfl ?_
            refine kz_callVi (c_Ba_busFreeFrom l) cv_Ba_65 rfl rfl rfl ⟨by decide, by decide⟩ rfl (Nat.le_of_ble_eq_true rfl) d_Ba_mayTransfer_85 rfl ?_
            refine kz_icmp_lt (tgt := 95) d_Ba_mayTransfer_88 (by decide) rfl (fun h88 => ?_) (fun h88 => ?_)
            · refine kz_iconst (v := 0) d_Ba_mayTransfer_95 (by decide) rfl ?_
              exact kz_zret rfl d_Ba_mayTransfer_96 (by first | assumption | decide | exact kz_ib_or _) (⟨by first | (simp [cb_mayTr, kz_ib, *]; done) | (subst h46; simp [cb_mayTr, kz_ib, *]; done), rfl⟩)
            · refine kz_iconst (v := 1) d_Ba_mayTransfer_91 (by decide) rfl ?_
              refine kz_goto (tgt := 96) d_Ba_mayTransfer_92 (by decide) ?_
              exact kz_zret rfl d_Ba_mayTransfer_96 (by first | assumption | decide | exact kz_ib_or _) (⟨by first | (simp [cb_mayTr, kz_ib, *]; done) | (subst h46; simp [cb_mayTr, kz_ib, *]; done), rfl⟩)
set_option maxRecDepth 100000 in
set_option maxHeartbeats 1000000 in
theorem c_Ba_transfer (l : Launch) {M : kz_M} {b t : Int32} {w : Bool} (hb : vp_in b 4) : kz_Dt l sC m_Ba_transfer [.ref 1, .int b, .int (kz_ib w), .int t] M none (cb_tr M b w t) := by
  refine kz_intro (by decide +kernel) (Nat.le_of_ble_eq_true rfl) ?_
  show kz_G l sC m_Ba_transfer 0 [some (.ref 1), some (.int b), some (.int (kz_ib w)), some (.int t)] [] M _
  refine kz_aload_n d_Ba_transfer_0 rfl rfl ?_
  refine kz_iload_n d_Ba_transfer_1 rfl rfl ?_
  refine kz_putIp fd_Ba_42 rfl rfl d_Ba_transfer_2 rfl ?_
  refine kz_aload_n d_Ba_transfer_5 rfl rfl ?_
  refine kz_aload_n d_Ba_transfer_6 rfl rfl ?_
  refine kz_iload_n d_Ba_transfer_7 rfl rfl ?_
  refine kz_iload_n d_Ba_transfer_8 rfl rfl ?_
  refine kz_callVi (c_Ba_beginOfBurst l) cv_Ba_61 rfl rfl rfl ⟨by decide, by decide⟩ rfl (Nat.le_of_ble_eq_true rfl) d_Ba_transfer_9 rfl ?_
  refine kz_putIp fd_Ba_52 rfl rfl d_Ba_transfer_12 rfl ?_
  refine kz_aload_n d_Ba_transfer_15 rfl rfl ?_
  refine kz_iload_n d_Ba_transfer_16 rfl rfl ?_
  refine kz_putZp fd_Ba_73 rfl rfl (by first | assumption | decide | exact kz_ib_or _) d_Ba_transfer_17 rfl ?_
  refine kz_iload_n d_Ba_transfer_20 rfl rfl ?_
  refine kz_if_eqb (tgt := 39) d_Ba_transfer_21 (by decide) rfl (fun h21 => ?_) (fun h21 => ?_)
  · refine kz_aload_n d_Ba_transfer_39 rfl rfl ?_
    refine kz_getR fd_Ba_32 rfl rfl rfl d_Ba_transfer_40 rfl ?_
    refine kz_iload_n d_Ba_transfer_43 rfl rfl ?_
    refine kz_iload_n d_Ba_transfer_44 rfl rfl ?_
    refine kz_iastp rfl (by first | assumption | exact kz_vin (by decide)) rfl d_Ba_transfer_45 rfl ?_
    exact kz_vret rfl d_Ba_transfer_46 (⟨rfl, by simp [cb_tr, cb_beg, kz_u_ne, *]⟩)
  · refine kz_aload_n d_Ba_transfer_24 rfl rfl ?_
    refine kz_getR fd_Ba_35 rfl rfl rfl d_Ba_transfer_25 rfl ?_
    refine kz_iload_n d_Ba_transfer_28 rfl rfl ?_
    refine kz_iload_n d_Ba_transfer_29 rfl rfl ?_
    refine kz_iastp rfl (by first | assumption | exact kz_vin (by decide)) rfl d_Ba_transfer_30 rfl ?_
    refine kz_aload_n d_Ba_transfer_31 rfl rfl ?_
    refine kz_iload_n d_Ba_transfer_32 rfl rfl ?_
    refine kz_putIp fd_Ba_46 rfl rfl d_Ba_transfer_33 rfl ?_
    refine kz_goto (tgt := 46) d_Ba_transfer_36 (by decide) ?_
    exact kz_vret rfl d_Ba_transfer_46 (⟨rfl, by simp [cb_tr, cb_beg, kz_u_ne, *]⟩)
set_option maxRecDepth 100000 in
set_option maxHeartbeats 1000000 in
theorem c_Ba_refresh (l : Launch) {M : kz_M} {t : Int32} : kz_Dt l sC m_Ba_refresh [.ref 1, .int t] M none (kz_u M.1 1 9 t, M.2) := by
  refine kz_intro (by decide +kernel) (Nat.le_of_ble_eq_true rfl) ?_
  show kz_G l sC m_Ba_refresh 0 [some (.ref 1), some (.int t)] [] M _
  refine kz_aload_n d_Ba_refresh_0 rfl rfl ?_
  refine kz_iload_n d_Ba_refresh_1 rfl rfl ?_
  refine kz_putIp fd_Ba_49 rfl rfl d_Ba_refresh_2 rfl ?_
  exact kz_vret rfl d_Ba_refresh_5 (⟨rfl, rfl⟩)
