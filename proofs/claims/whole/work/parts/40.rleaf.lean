/-! Contracts of the reference: the leaves. -/
def rb_bit (x : bt_T) (p : Int32) : Int32 := if 64 ≤ p then (x.2 >>> ((p - 64) &&& 31)) &&& 1 else ((x.1 >>> (p.toInt64 &&& 63)) &&& 1).toInt32
def rw_get (M : kz_M) (a : Nat) : bt_T := (M.2 2 a, M.1 3 a)
def rw_put (M : kz_M) (a : Nat) (x : bt_T) : kz_M := (kz_u M.1 3 a x.2, kz_u M.2 2 a x.1)
theorem rw_gp (M : kz_M) (a : Nat) (x : bt_T) : rw_get (rw_put M a x) a = x := by simp [rw_get, rw_put, kz_u_same]
theorem rw_pp (M : kz_M) (a : Nat) (x y : bt_T) : rw_put (rw_put M a x) a y = rw_put M a y := by simp [rw_put, kz_u_u]
def rr_bh (M : kz_M) (x T : Int32) : Bool := !decide (M.1 0 2 < x + T)
def rr_bus (M : kz_M) (k w : Int32) : Bool := !decide (M.1 0 2 + w < M.1 0 16 + (if M.1 0 17 = -1 then 0 else if M.1 0 17 = k then 0 else 1))
def rr_mayPre (M : kz_M) (b : Nat) : Bool := !decide (M.1 4 b = -1) && (rr_bh M (M.1 5 (5 * b)) (M.1 1 2) && (rr_bh M (M.1 5 (5 * b + 2)) (M.1 1 9) && rr_bh M (M.1 5 (5 * b + 3)) (M.1 1 11 + 4 + M.1 1 7)))
def rr_mayAct (M : kz_M) (b : Nat) : Bool := decide (M.1 4 b = -1) && (rr_bh M (M.1 5 (5 * b + 1)) (M.1 1 1) && (rr_bh M (M.1 5 (5 * b)) (M.1 1 3) && (rr_bh M (M.1 6 0) (M.1 1 4) && (rr_bh M (M.1 7 0) (M.1 1 5) && rr_bh M (M.1 6 4) (M.1 1 12)))))
def rr_near (M : kz_M) (b : Nat) : Bool := rr_bh M (M.1 5 (5 * b)) (M.1 1 0) && (rr_bh M (M.1 6 2) (M.1 1 6) && rr_bh M (M.1 6 3) (M.1 1 6))
def rr_mayMv (M : kz_M) (b : Nat) (w : Bool) : Bool := if w = true then rr_near M b && rr_bus M 3 (M.1 1 11) else rr_near M b && (rr_bh M (M.1 6 3) (M.1 1 11 + 4 + M.1 1 8) && rr_bus M 2 (M.1 1 10))
theorem rr_i0 {b : Int32} (h : vp_in b 4) : (5 * b + 0).toNatClampNeg = 5 * b.toNatClampNeg ∧ vp_in (5 * b + 0) 20 := by
  obtain ⟨j, hj, rfl⟩ := vp_in_of h (by decide)
  have : ∀ j, j < 4 → (5 * nI j + 0).toNatClampNeg = 5 * (nI j).toNatClampNeg ∧ ¬ (5 * nI j + 0 < 0 ∨ 20 ≤ (5 * nI j + 0).toNatClampNeg) := by decide
  exact this j hj
theorem rr_i1 {b : Int32} (h : vp_in b 4) : (5 * b + 1).toNatClampNeg = 5 * b.toNatClampNeg + 1 ∧ vp_in (5 * b + 1) 20 := by
  obtain ⟨j, hj, rfl⟩ := vp_in_of h (by decide)
  have : ∀ j, j < 4 → (5 * nI j + 1).toNatClampNeg = 5 * (nI j).toNatClampNeg + 1 ∧ ¬ (5 * nI j + 1 < 0 ∨ 20 ≤ (5 * nI j + 1).toNatClampNeg) := by decide
  exact this j hj
theorem rr_i2 {b : Int32} (h : vp_in b 4) : (5 * b + 2).toNatClampNeg = 5 * b.toNatClampNeg + 2 ∧ vp_in (5 * b + 2) 20 := by
  obtain ⟨j, hj, rfl⟩ := vp_in_of h (by decide)
  have : ∀ j, j < 4 → (5 * nI j + 2).toNatClampNeg = 5 * (nI j).toNatClampNeg + 2 ∧ ¬ (5 * nI j + 2 < 0 ∨ 20 ≤ (5 * nI j + 2).toNatClampNeg) := by decide
  exact this j hj
theorem rr_i3 {b : Int32} (h : vp_in b 4) : (5 * b + 3).toNatClampNeg = 5 * b.toNatClampNeg + 3 ∧ vp_in (5 * b + 3) 20 := by
  obtain ⟨j, hj, rfl⟩ := vp_in_of h (by decide)
  have : ∀ j, j < 4 → (5 * nI j + 3).toNatClampNeg = 5 * (nI j).toNatClampNeg + 3 ∧ ¬ (5 * nI j + 3 < 0 ∨ 20 ≤ (5 * nI j + 3).toNatClampNeg) := by decide
  exact this j hj
theorem rr_bk {a : Int32} (h : vp_in a 256) : (a >>> ((3 : Int32) &&& 31)) &&& 3 = ck_bank a ∧ a >>> ((5 : Int32) &&& 31) = ck_row a ∧ a &&& 7 = ck_col a := by
  obtain ⟨j, hj, rfl⟩ := vp_in_of h (by decide)
  have : ∀ j, j < 256 → (nI j >>> ((3 : Int32) &&& 31)) &&& 3 = ck_bank (nI j) ∧ nI j >>> ((5 : Int32) &&& 31) = ck_row (nI j) ∧ nI j &&& 7 = ck_col (nI j) := by decide +kernel
  exact this j hj
set_option maxRecDepth 100000 in
set_option maxHeartbeats 1000000 in
theorem c_Mo_bitAt (l : Launch) {M : kz_M} {a p : Int32} (ha : vp_in a 256) : kz_Dt l sR m_Mo_bitAt [.ref 0, .int a, .int p] M (some (.int (rb_bit (rw_get M a.toNatClampNeg) p))) M := by
  refine kz_intro (by decide +kernel) (Nat.le_of_ble_eq_true rfl) ?_
  show kz_G l sR m_Mo_bitAt 0 [some (.ref 0), some (.int a), some (.int p)] [] M _
  refine kz_iload_n d_Mo_bitAt_0 rfl rfl ?_
  refine kz_bipush (v := 64) d_Mo_bitAt_1 (by decide) rfl ?_
  refine kz_icmp_ge (tgt := 20) d_Mo_bitAt_3 (by decide) rfl (fun h3 => ?_) (fun h3 => ?_)
  · refine kz_aload_n d_Mo_bitAt_20 rfl rfl ?_
    refine kz_getR fd_Mo_17 rfl rfl rfl d_Mo_bitAt_21 rfl ?_
    refine kz_iload_n d_Mo_bitAt_24 rfl rfl ?_
    refine kz_ialdp rfl (by first | assumption | exact kz_vin (by decide)) rfl d_Mo_bitAt_25 rfl ?_
    refine kz_iload_n d_Mo_bitAt_26 rfl rfl ?_
    refine kz_bipush (v := 64) d_Mo_bitAt_27 (by decide) rfl ?_
    refine kz_isub d_Mo_bitAt_29 rfl ?_
    refine kz_ishr d_Mo_bitAt_30 rfl ?_
    refine kz_iconst (v := 1) d_Mo_bitAt_31 (by decide) rfl ?_
    refine kz_iand d_Mo_bitAt_32 rfl ?_
    exact kz_iret rfl d_Mo_bitAt_33 (⟨by simp [rb_bit, rw_get, *], rfl⟩)
  · refine kz_aload_n d_Mo_bitAt_6 rfl rfl ?_
    refine kz_getR fd_Mo_13 rfl rfl rfl d_Mo_bitAt_7 rfl ?_
    refine kz_iload_n d_Mo_bitAt_10 rfl rfl ?_
    refine kz_laldp rfl (by first | assumption | exact kz_vin (by decide)) rfl d_Mo_bitAt_11 rfl ?_
    refine kz_iload_n d_Mo_bitAt_12 rfl rfl ?_
    refine kz_lshr d_Mo_bitAt_13 rfl ?_
    refine kz_lconst (v := 1) d_Mo_bitAt_14 (by decide) rfl ?_
    refine kz_land d_Mo_bitAt_15 rfl ?_
    refine kz_l2i d_Mo_bitAt_16 rfl ?_
    refine kz_goto (tgt := 33) d_Mo_bitAt_17 (by decide) ?_
    exact kz_iret rfl d_Mo_bitAt_33 (⟨by simp [rb_bit, rw_get, *], rfl⟩)
set_option maxRecDepth 100000 in
set_option maxHeartbeats 1000000 in
theorem c_Mo_turn (l : Launch) {M : kz_M} {a p : Int32} (ha : vp_in a 256) : kz_Dt l sR m_Mo_turn [.ref 0, .int a, .int p] M none (rw_put M a.toNatClampNeg (bt_turn (rw_get M a.toNatClampNeg) p)) := by
  refine kz_intro (by decide +kernel) (Nat.le_of_ble_eq_true rfl) ?_
  show kz_G l sR m_Mo_turn 0 [some (.ref 0), some (.int a), some (.int p)] [] M _
  refine kz_iload_n d_Mo_turn_0 rfl rfl ?_
  refine kz_bipush (v := 64) d_Mo_turn_1 (by decide) rfl ?_
  refine kz_icmp_ge (tgt := 21) d_Mo_turn_3 (by decide) rfl (fun h3 => ?_) (fun h3 => ?_)
  · refine kz_aload_n d_Mo_turn_21 rfl rfl ?_
    refine kz_getR fd_Mo_17 rfl rfl rfl d_Mo_turn_22 rfl ?_
    refine kz_iload_n d_Mo_turn_25 rfl rfl ?_
    refine kz_dup2_11 d_Mo_turn_26 rfl rfl rfl ?_
    refine kz_ialdp rfl (by first | assumption | exact kz_vin (by decide)) rfl d_Mo_turn_27 rfl ?_
    refine kz_iconst (v := 1) d_Mo_turn_28 (by decide) rfl ?_
    refine kz_iload_n d_Mo_turn_29 rfl rfl ?_
    refine kz_bipush (v := 64) d_Mo_turn_30 (by decide) rfl ?_
    refine kz_isub d_Mo_turn_32 rfl ?_
    refine kz_ishl d_Mo_turn_33 rfl ?_
    refine kz_ixor d_Mo_turn_34 rfl ?_
    refine kz_iastp rfl (by first | assumption | exact kz_vin (by decide)) rfl d_Mo_turn_35 rfl ?_
    exact kz_vret rfl d_Mo_turn_36 (⟨rfl, by simp [rw_put, bt_turn, rw_get, kz_u_id, *]⟩)
  · refine kz_aload_n d_Mo_turn_6 rfl rfl ?_
    refine kz_getR fd_Mo_13 rfl rfl rfl d_Mo_turn_7 rfl ?_
    refine kz_iload_n d_Mo_turn_10 rfl rfl ?_
    refine kz_dup2_11 d_Mo_turn_11 rfl rfl rfl ?_
    refine kz_laldp rfl (by first | assumption | exact kz_vin (by decide)) rfl d_Mo_turn_12 rfl ?_
    refine kz_lconst (v := 1) d_Mo_turn_13 (by decide) rfl ?_
    refine kz_iload_n d_Mo_turn_14 rfl rfl ?_
    refine kz_lshl d_Mo_turn_15 rfl ?_
    refine kz_lxor d_Mo_turn_16 rfl ?_
    refine kz_lastp rfl (by first | assumption | exact kz_vin (by decide)) rfl d_Mo_turn_17 rfl ?_
    refine kz_goto (tgt := 36) d_Mo_turn_18 (by decide) ?_
    exact kz_vret rfl d_Mo_turn_36 (⟨rfl, by simp [rw_put, bt_turn, rw_get, kz_u_id, *]⟩)
set_option maxRecDepth 100000 in
set_option maxHeartbeats 1000000 in
theorem c_Mo_isCheck (l : Launch) {M : kz_M} {p : Int32} : kz_Dt l sR m_Mo_isCheck [.int p] M (some (.int (kz_ib (bt_chk p)))) M := by
  refine kz_intro (by decide +kernel) (Nat.le_of_ble_eq_true rfl) ?_
  show kz_G l sR m_Mo_isCheck 0 [some (.int p)] [] M _
  refine kz_iload_n d_Mo_isCheck_0 rfl rfl ?_
  refine kz_iload_n d_Mo_isCheck_1 rfl rfl ?_
  refine kz_iconst (v := 1) d_Mo_isCheck_2 (by decide) rfl ?_
  refine kz_isub d_Mo_isCheck_3 rfl ?_
  refine kz_iand d_Mo_isCheck_4 rfl ?_
  refine kz_if_ne (tgt := 12) d_Mo_isCheck_5 (by decide) rfl (fun h5 => ?_) (fun h5 => ?_)
  · refine kz_iconst (v := 0) d_Mo_isCheck_12 (by decide) rfl ?_
    exact kz_zret rfl d_Mo_isCheck_13 (by first | assumption | decide | exact kz_ib_or _) (⟨by simp [bt_chk, kz_ib, *], rfl⟩)
  · refine kz_iconst (v := 1) d_Mo_isCheck_8 (by decide) rfl ?_
    refine kz_goto (tgt := 13) d_Mo_isCheck_9 (by decide) ?_
    exact kz_zret rfl d_Mo_isCheck_13 (by first | assumption | decide | exact kz_ib_or _) (⟨by simp [bt_chk, kz_ib, *], rfl⟩)
set_option maxRecDepth 100000 in
set_option maxHeartbeats 1000000 in
theorem c_Mo_bankAt (l : Launch) {M : kz_M} {a : Int32} (ha : vp_in a 256) : kz_Dt l sR m_Mo_bankAt [.int a] M (some (.int (ck_bank a))) M := by
  refine kz_intro (by decide +kernel) (Nat.le_of_ble_eq_true rfl) ?_
  show kz_G l sR m_Mo_bankAt 0 [some (.int a)] [] M _
  refine kz_iload_n d_Mo_bankAt_0 rfl rfl ?_
  refine kz_iconst (v := 3) d_Mo_bankAt_1 (by decide) rfl ?_
  refine kz_ishr d_Mo_bankAt_2 rfl ?_
  refine kz_iconst (v := 3) d_Mo_bankAt_3 (by decide) rfl ?_
  refine kz_iand d_Mo_bankAt_4 rfl ?_
  exact kz_iret rfl d_Mo_bankAt_5 (⟨congrArg (fun z => some (Value.int z)) (rr_bk ha).1, rfl⟩)
set_option maxRecDepth 100000 in
set_option maxHeartbeats 1000000 in
theorem c_Mo_rowAt (l : Launch) {M : kz_M} {a : Int32} (ha : vp_in a 256) : kz_Dt l sR m_Mo_rowAt [.int a] M (some (.int (ck_row a))) M := by
  refine kz_intro (by decide +kernel) (Nat.le_of_ble_eq_true rfl) ?_
  show kz_G l sR m_Mo_rowAt 0 [some (.int a)] [] M _
  refine kz_iload_n d_Mo_rowAt_0 rfl rfl ?_
  refine kz_iconst (v := 5) d_Mo_rowAt_1 (by decide) rfl ?_
  refine kz_ishr d_Mo_rowAt_2 rfl ?_
  exact kz_iret rfl d_Mo_rowAt_3 (⟨congrArg (fun z => some (Value.int z)) (rr_bk ha).2.1, rfl⟩)
set_option maxRecDepth 100000 in
set_option maxHeartbeats 1000000 in
theorem c_Mo_isBehind (l : Launch) {M : kz_M} {x y : Int32} : kz_Dt l sR m_Mo_isBehind [.ref 0, .int x, .int y] M (some (.int (kz_ib (rr_bh M x y)))) M := by
  refine kz_intro (by decide +kernel) (Nat.le_of_ble_eq_true rfl) ?_
  show kz_G l sR m_Mo_isBehind 0 [some (.ref 0), some (.int x), some (.int y)] [] M _
  refine kz_aload_n d_Mo_isBehind_0 rfl rfl ?_
  refine kz_getIp fd_Mo_96 rfl rfl (Or.inl rfl) d_Mo_isBehind_1 rfl ?_
  refine kz_iload_n d_Mo_isBehind_4 rfl rfl ?_
  refine kz_iload_n d_Mo_isBehind_5 rfl rfl ?_
  refine kz_iadd d_Mo_isBehind_6 rfl ?_
  refine kz_icmp_lt (tgt := 14) d_Mo_isBehind_7 (by decide) rfl (fun h7 => ?_) (fun h7 => ?_)
  · refine kz_iconst (v := 0) d_Mo_isBehind_14 (by decide) rfl ?_
    exact kz_zret rfl d_Mo_isBehind_15 (by first | assumption | decide | exact kz_ib_or _) (⟨by simp [rr_bh, kz_ib, *], rfl⟩)
  · refine kz_iconst (v := 1) d_Mo_isBehind_10 (by decide) rfl ?_
    refine kz_goto (tgt := 15) d_Mo_isBehind_11 (by decide) ?_
    exact kz_zret rfl d_Mo_isBehind_15 (by first | assumption | decide | exact kz_ib_or _) (⟨by simp [rr_bh, kz_ib, *], rfl⟩)
set_option maxRecDepth 100000 in
set_option maxHeartbeats 1000000 in
theorem c_Mo_isBusFree (l : Launch) {M : kz_M} {x y : Int32} : kz_Dt l sR m_Mo_isBusFree [.ref 0, .int x, .int y] M (some (.int (kz_ib (rr_bus M x y)))) M := by
  refine kz_intro (by decide +kernel) (Nat.le_of_ble_eq_true rfl) ?_
  show kz_G l sR m_Mo_isBusFree 0 [some (.ref 0), some (.int x), some (.int y)] [] M _
  refine kz_aload_n d_Mo_isBusFree_0 rfl rfl ?_
  refine kz_getIp fd_Mo_96 rfl rfl (Or.inl rfl) d_Mo_isBusFree_1 rfl ?_
  refine kz_iload_n d_Mo_isBusFree_4 rfl rfl ?_
  refine kz_iadd d_Mo_isBusFree_5 rfl ?_
  refine kz_aload_n d_Mo_isBusFree_6 rfl rfl ?_
  refine kz_getIp fd_Mo_33 rfl rfl (Or.inl rfl) d_Mo_isBusFree_7 rfl ?_
  refine kz_aload_n d_Mo_isBusFree_10 rfl rfl ?_
  refine kz_getIp fd_Mo_37 rfl rfl (Or.inl rfl) d_Mo_isBusFree_11 rfl ?_
  refine kz_iconst (v := -1) d_Mo_isBusFree_14 (by decide) rfl ?_
  refine kz_icmp_eq (tgt := 30) d_Mo_isBusFree_15 (by decide) rfl (fun h15 => ?_) (fun h15 => ?_)
  · refine kz_iconst (v := 0) d_Mo_isBusFree_30 (by decide) rfl ?_
    refine kz_iadd d_Mo_isBusFree_31 rfl ?_
    refine kz_icmp_lt (tgt := 39) d_Mo_isBusFree_32 (by decide) rfl (fun h32 => ?_) (fun h32 => ?_)
    · refine kz_iconst (v := 0) d_Mo_isBusFree_39 (by decide) rfl ?_
      exact kz_zret rfl d_Mo_isBusFree_40 (by first | assumption | decide | exact kz_ib_or _) (⟨by first | (simp [rr_bus, kz_ib, *]; done) | (rw [Int32.add_zero] at h32; simp [rr_bus, kz_ib, *]; done), rfl⟩)
    · refine kz_iconst (v := 1) d_Mo_isBusFree_35 (by decide) rfl ?_
      refine kz_goto (tgt := 40) d_Mo_isBusFree_36 (by decide) ?_
      exact kz_zret rfl d_Mo_isBusFree_40 (by first | assumption | decide | exact kz_ib_or _) (⟨by first | (simp [rr_bus, kz_ib, *]; done) | (rw [Int32.add_zero] at h32; simp [rr_bus, kz_ib, *]; done), rfl⟩)
  · refine kz_aload_n d_Mo_isBusFree_18 rfl rfl ?_
    refine kz_getIp fd_Mo_37 rfl rfl (Or.inl rfl) d_Mo_isBusFree_19 rfl ?_
    refine kz_iload_n d_Mo_isBusFree_22 rfl rfl ?_
    refine kz_icmp_eq (tgt := 30) d_Mo_isBusFree_23 (by decide) rfl (fun h23 => ?_) (fun h23 => ?_)
    · refine kz_iconst (v := 0) d_Mo_isBusFree_30 (by decide) rfl ?_
      refine kz_iadd d_Mo_isBusFree_31 rfl ?_
      refine kz_icmp_lt (tgt := 39) d_Mo_isBusFree_32 (by decide) rfl (fun h32 => ?_) (fun h32 => ?_)
      · refine kz_iconst (v := 0) d_Mo_isBusFree_39 (by decide) rfl ?_
        exact kz_zret rfl d_Mo_isBusFree_40 (by first | assumption | decide | exact kz_ib_or _) (⟨by first | (simp [rr_bus, kz_ib, *]; done) | (rw [Int32.add_zero] at h32; simp [rr_bus, kz_ib, *]; done), rfl⟩)
      · refine kz_iconst (v := 1) d_Mo_isBusFree_35 (by decide) rfl ?_
        refine kz_goto (tgt := 40) d_Mo_isBusFree_36 (by decide) ?_
        exact kz_zret rfl d_Mo_isBusFree_40 (by first | assumption | decide | exact kz_ib_or _) (⟨by first | (simp [rr_bus, kz_ib, *]; done) | (rw [Int32.add_zero] at h32; simp [rr_bus, kz_ib, *]; done), rfl⟩)
    · refine kz_iconst (v := 1) d_Mo_isBusFree_26 (by decide) rfl ?_
      refine kz_goto (tgt := 31) d_Mo_isBusFree_27 (by decide) ?_
      refine kz_iadd d_Mo_isBusFree_31 rfl ?_
      refine kz_icmp_lt (tgt := 39) d_Mo_isBusFree_32 (by decide) rfl (fun h32 => ?_) (fun h32 => ?_)
      · refine kz_iconst (v := 0) d_Mo_isBusFree_39 (by decide) rfl ?_
        exact kz_zret rfl d_Mo_isBusFree_40 (by first | assumption | decide | exact kz_ib_or _) (⟨by first | (simp [rr_bus, kz_ib, *]; done) | (rw [Int32.add_zero] at h32; simp [rr_bus, kz_ib, *]; done), rfl⟩)
      · refine kz_iconst (v := 1) d_Mo_isBusFree_35 (by decide) rfl ?_
        refine kz_goto (tgt := 40) d_Mo_isBusFree_36 (by decide) ?_
        exact kz_zret rfl d_Mo_isBusFree_40 (by first | assumption | decide | exact kz_ib_or _) (⟨by first | (simp [rr_bus, kz_ib, *]; done) | (rw [Int32.add_zero] at h32; simp [rr_bus, kz_ib, *]; done), rfl⟩)
set_option maxRecDepth 100000 in
set_option maxHeartbeats 1000000 in
theorem c_Mo_mayPrecharge (l : Launch) {M : kz_M} {b : Int32} (hb : vp_in b 4) : kz_Dt l sR m_Mo_mayPrecharge [.ref 0, .int b] M (some (.int (kz_ib (rr_mayPre M b.toNatClampNeg)))) M := by
  refine kz_intro (by decide +kernel) (Nat.le_of_ble_eq_true rfl) ?_
  show kz_G l sR m_Mo_mayPrecharge 0 [some (.ref 0), some (.int b)] [] M _
  refine kz_aload_n d_Mo_mayPrecharge_0 rfl rfl ?_
  refine kz_getR fd_Mo_20 rfl rfl rfl d_Mo_mayPrecharge_1 rfl ?_
  refine kz_iload_n d_Mo_mayPrecharge_4 rfl rfl ?_
  refine kz_ialdp rfl (by first | assumption | exact kz_vin (by decide)) rfl d_Mo_mayPrecharge_5 rfl ?_
  refine kz_iconst (v := -1) d_Mo_mayPrecharge_6 (by decide) rfl ?_
  refine kz_icmp_eq (tgt := 95) d_Mo_mayPrecharge_7 (by decide) rfl (fun h7 => ?_) (fun h7 => ?_)
  · refine kz_iconst (v := 0) d_Mo_mayPrecharge_95 (by decide) rfl ?_
    exact kz_zret rfl d_Mo_mayPrecharge_96 (by first | assumption | decide | exact kz_ib_or _) (⟨by simp [rr_mayPre, kz_ib, *], rfl⟩)
  · refine kz_aload_n d_Mo_mayPrecharge_10 rfl rfl ?_
    refine kz_aload_n d_Mo_mayPrecharge_11 rfl rfl ?_
    refine kz_getR fd_Mo_23 rfl rfl rfl d_Mo_mayPrecharge_12 rfl ?_
    refine kz_iconst (v := 5) d_Mo_mayPrecharge_15 (by decide) rfl ?_
    refine kz_iload_n d_Mo_mayPrecharge_16 rfl rfl ?_
    refine kz_imul d_Mo_mayPrecharge_17 rfl ?_
    refine kz_iconst (v := 0) d_Mo_mayPrecharge_18 (by decide) rfl ?_
    refine kz_iadd d_Mo_mayPrecharge_19 rfl ?_
    refine kz_ialdp rfl (rr_i0 hb).2 (rr_i0 hb).1 d_Mo_mayPrecharge_20 rfl ?_
    refine kz_aload_n d_Mo_mayPrecharge_21 rfl rfl ?_
    refine kz_getR fd_Mo_7 rfl rfl rfl d_Mo_mayPrecharge_22 rfl ?_
    refine kz_iconst (v := 2) d_Mo_mayPrecharge_25 (by decide) rfl ?_
    refine kz_ialdp rfl (by first | assumption | exact kz_vin (by decide)) (j := 2) (by decide) d_Mo_mayPrecharge_26 rfl ?_
    refine kz_callVi (c_Mo_isBehind l) cv_Mo_153 rfl rfl rfl ⟨by decide, by decide⟩ rfl (Nat.le_of_ble_eq_true rfl) d_Mo_mayPrecharge_27 rfl ?_
    refine kz_if_eqb (tgt := 95) d_Mo_mayPrecharge_30 (by decide) rfl (fun h30 => ?_) (fun h30 => ?_)
    · refine kz_iconst (v := 0) d_Mo_mayPrecharge_95 (by decide) rfl ?_
      exact kz_zret rfl d_Mo_mayPrecharge_96 (by first | assumption | decide | exact kz_ib_or _) (⟨by simp [rr_mayPre, kz_ib, *], rfl⟩)
    · refine kz_aload_n d_Mo_mayPrecharge_33 rfl rfl ?_
      refine kz_aload_n d_Mo_mayPrecharge_34 rfl rfl ?_
      refine kz_getR fd_Mo_23 rfl rfl rfl d_Mo_mayPrecharge_35 rfl ?_
      refine kz_iconst (v := 5) d_Mo_mayPrecharge_38 (by decide) rfl ?_
      refine kz_iload_n d_Mo_mayPrecharge_39 rfl rfl ?_
      refine kz_imul d_Mo_mayPrecharge_40 rfl ?_
      refine kz_iconst (v := 2) d_Mo_mayPrecharge_41 (by decide) rfl ?_
      refine kz_iadd d_Mo_mayPrecharge_42 rfl ?_
      refine kz_ialdp rfl (rr_i2 hb).2 (rr_i2 hb).1 d_Mo_mayPrecharge_43 rfl ?_
      refine kz_aload_n d_Mo_mayPrecharge_44 rfl rfl ?_
      refine kz_getR fd_Mo_7 rfl rfl rfl d_Mo_mayPrecharge_45 rfl ?_
      refine kz_bipush (v := 9) d_Mo_mayPrecharge_48 (by decide) rfl ?_
      refine kz_ialdp rfl (by first | assumption | exact kz_vin (by decide)) (j := 9) (by decide) d_Mo_mayPrecharge_50 rfl ?_
      refine kz_callVi (c_Mo_isBehind l) cv_Mo_153 rfl rfl rfl ⟨by decide, by decide⟩ rfl (Nat.le_of_ble_eq_true rfl) d_Mo_mayPrecharge_51 rfl ?_
      refine kz_if_eqb (tgt := 95) d_Mo_mayPrecharge_54 (by decide) rfl (fun h54 => ?_) (fun h54 => ?_)
      · refine kz_iconst (v := 0) d_Mo_mayPrecharge_95 (by decide) rfl ?_
        exact kz_zret rfl d_Mo_mayPrecharge_96 (by first | assumption | decide | exact kz_ib_or _) (⟨by simp [rr_mayPre, kz_ib, *], rfl⟩)
      · refine kz_aload_n d_Mo_mayPrecharge_57 rfl rfl ?_
        refine kz_aload_n d_Mo_mayPrecharge_58 rfl rfl ?_
        refine kz_getR fd_Mo_23 rfl rfl rfl d_Mo_mayPrecharge_59 rfl ?_
        refine kz_iconst (v := 5) d_Mo_mayPrecharge_62 (by decide) rfl ?_
        refine kz_iload_n d_Mo_mayPrecharge_63 rfl rfl ?_
        refine kz_imul d_Mo_mayPrecharge_64 rfl ?_
        refine kz_iconst (v := 3) d_Mo_mayPrecharge_65 (by decide) rfl ?_
        refine kz_iadd d_Mo_mayPrecharge_66 rfl ?_
        refine kz_ialdp rfl (rr_i3 hb).2 (rr_i3 hb).1 d_Mo_mayPrecharge_67 rfl ?_
        refine kz_aload_n d_Mo_mayPrecharge_68 rfl rfl ?_
        refine kz_getR fd_Mo_7 rfl rfl rfl d_Mo_mayPrecharge_69 rfl ?_
        refine kz_bipush (v := 11) d_Mo_mayPrecharge_72 (by decide) rfl ?_
        refine kz_ialdp rfl (by first | assumption | exact kz_vin (by decide)) (j := 11) (by decide) d_Mo_mayPrecharge_74 rfl ?_
        refine kz_iconst (v := 4) d_Mo_mayPrecharge_75 (by decide) rfl ?_
        refine kz_iadd d_Mo_mayPrecharge_76 rfl ?_
        refine kz_aload_n d_Mo_mayPrecharge_77 rfl rfl ?_
        refine kz_getR fd_Mo_7 rfl rfl rfl d_Mo_mayPrecharge_78 rfl ?_
        refine kz_bipush (v := 7) d_Mo_mayPrecharge_81 (by decide) rfl ?_
        refine kz_ialdp rfl (by first | assumption | exact kz_vin (by decide)) (j := 7) (by decide) d_Mo_mayPrecharge_83 rfl ?_
        refine kz_iadd d_Mo_mayPrecharge_84 rfl ?_
        refine kz_callVi (c_Mo_isBehind l) cv_Mo_153 rfl rfl rfl ⟨by decide, by decide⟩ rfl (Nat.le_of_ble_eq_true rfl) d_Mo_mayPrecharge_85 rfl ?_
        refine kz_if_eqb (tgt := 95) d_Mo_mayPrecharge_88 (by decide) rfl (fun h88 => ?_) (fun h88 => ?_)
        · refine kz_iconst (v := 0) d_Mo_mayPrecharge_95 (by decide) rfl ?_
          exact kz_zret rfl d_Mo_mayPrecharge_96 (by first | assumption | decide | exact kz_ib_or _) (⟨by simp [rr_mayPre, kz_ib, *], rfl⟩)
        · refine kz_iconst (v := 1) d_Mo_mayPrecharge_91 (by decide) rfl ?_
          refine kz_goto (tgt := 96) d_Mo_mayPrecharge_92 (by decide) ?_
          exact kz_zret rfl d_Mo_mayPrecharge_96 (by first | assumption | decide | exact kz_ib_or _) (⟨by simp [rr_mayPre, kz_ib, *], rfl⟩)
set_option maxRecDepth 100000 in
set_option maxHeartbeats 1000000 in
theorem c_Mo_mayActivate (l : Launch) {M : kz_M} {b : Int32} (hb : vp_in b 4) : kz_Dt l sR m_Mo_mayActivate [.ref 0, .int b] M (some (.int (kz_ib (rr_mayAct M b.toNatClampNeg)))) M := by
  refine kz_intro (by decide +kernel) (Nat.le_of_ble_eq_true rfl) ?_
  show kz_G l sR m_Mo_mayActivate 0 [some (.ref 0), some (.int b), none] [] M _
  refine kz_aload_n d_Mo_mayActivate_0 rfl rfl ?_
  refine kz_getR fd_Mo_20 rfl rfl rfl d_Mo_mayActivate_1 rfl ?_
  refine kz_iload_n d_Mo_mayActivate_4 rfl rfl ?_
  refine kz_ialdp rfl (by first | assumption | exact kz_vin (by decide)) rfl d_Mo_mayActivate_5 rfl ?_
  refine kz_iconst (v := -1) d_Mo_mayActivate_6 (by decide) rfl ?_
  refine kz_icmp_ne (tgt := 60) d_Mo_mayActivate_7 (by decide) rfl (fun h7 => ?_) (fun h7 => ?_)
  · refine kz_iconst (v := 0) d_Mo_mayActivate_60 (by decide) rfl ?_
    refine kz_istore_n (i := 2) d_Mo_mayActivate_61 rfl rfl (Nat.le_of_ble_eq_true rfl) rfl ?_
    refine kz_iload_n d_Mo_mayActivate_62 rfl rfl ?_
    refine kz_if_eq (tgt := 128) d_Mo_mayActivate_63 (by decide) rfl (fun _ => ?_) (fun h => absurd h (by decide))
    refine kz_iconst (v := 0) d_Mo_mayActivate_128 (by decide) rfl ?_
    exact kz_zret rfl d_Mo_mayActivate_129 (by first | assumption | decide | exact kz_ib_or _) (⟨by simp [rr_mayAct, kz_ib, *], rfl⟩)
  · refine kz_aload_n d_Mo_mayActivate_10 rfl rfl ?_
    refine kz_aload_n d_Mo_mayActivate_11 rfl rfl ?_
    refine kz_getR fd_Mo_23 rfl rfl rfl d_Mo_mayActivate_12 rfl ?_
    refine kz_iconst (v := 5) d_Mo_mayActivate_15 (by decide) rfl ?_
    refine kz_iload_n d_Mo_mayActivate_16 rfl rfl ?_
    refine kz_imul d_Mo_mayActivate_17 rfl ?_
    refine kz_iconst (v := 1) d_Mo_mayActivate_18 (by decide) rfl ?_
    refine kz_iadd d_Mo_mayActivate_19 rfl ?_
    refine kz_ialdp rfl (rr_i1 hb).2 (rr_i1 hb).1 d_Mo_mayActivate_20 rfl ?_
    refine kz_aload_n d_Mo_mayActivate_21 rfl rfl ?_
    refine kz_getR fd_Mo_7 rfl rfl rfl d_Mo_mayActivate_22 rfl ?_
    refine kz_iconst (v := 1) d_Mo_mayActivate_25 (by decide) rfl ?_
    refine kz_ialdp rfl (by first | assumption | exact kz_vin (by decide)) (j := 1) (by decide) d_Mo_mayActivate_26 rfl ?_
    refine kz_callVi (c_Mo_isBehind l) cv_Mo_153 rfl rfl rfl ⟨by decide, by decide⟩ rfl (Nat.le_of_ble_eq_true rfl) d_Mo_mayActivate_27 rfl ?_
    refine kz_if_eqb (tgt := 60) d_Mo_mayActivate_30 (by decide) rfl (fun h30 => ?_) (fun h30 => ?_)
    · refine kz_iconst (v := 0) d_Mo_mayActivate_60 (by decide) rfl ?_
      refine kz_istore_n (i := 2) d_Mo_mayActivate_61 rfl rfl (Nat.le_of_ble_eq_true rfl) rfl ?_
      refine kz_iload_n d_Mo_mayActivate_62 rfl rfl ?_
      refine kz_if_eq (tgt := 128) d_Mo_mayActivate_63 (by decide) rfl (fun _ => ?_) (fun h => absurd h (by decide))
      refine kz_iconst (v := 0) d_Mo_mayActivate_128 (by decide) rfl ?_
      exact kz_zret rfl d_Mo_mayActivate_129 (by first | assumption | decide | exact kz_ib_or _) (⟨by simp [rr_mayAct, kz_ib, *], rfl⟩)
    · refine kz_aload_n d_Mo_mayActivate_33 rfl rfl ?_
      refine kz_aload_n d_Mo_mayActivate_34 rfl rfl ?_
      refine kz_getR fd_Mo_23 rfl rfl rfl d_Mo_mayActivate_35 rfl ?_
      refine kz_iconst (v := 5) d_Mo_mayActivate_38 (by decide) rfl ?_
      refine kz_iload_n d_Mo_mayActivate_39 rfl rfl ?_
      refine kz_imul d_Mo_mayActivate_40 rfl ?_
      refine kz_iconst (v := 0) d_Mo_mayActivate_41 (by decide) rfl ?_
      refine kz_iadd d_Mo_mayActivate_42 rfl ?_
      refine kz_ialdp rfl (rr_i0 hb).2 (rr_i0 hb).1 d_Mo_mayActivate_43 rfl ?_
      refine kz_aload_n d_Mo_mayActivate_44 rfl rfl ?_
      refine kz_getR fd_Mo_7 rfl rfl rfl d_Mo_mayActivate_45 rfl ?_
      refine kz_iconst (v := 3) d_Mo_mayActivate_48 (by decide) rfl ?_
      refine kz_ialdp rfl (by first | assumption | exact kz_vin (by decide)) (j := 3) (by decide) d_Mo_mayActivate_49 rfl ?_
      refine kz_callVi (c_Mo_isBehind l) cv_Mo_153 rfl rfl rfl ⟨by decide, by decide⟩ rfl (Nat.le_of_ble_eq_true rfl) d_Mo_mayActivate_50 rfl ?_
      refine kz_if_eqb (tgt := 60) d_Mo_mayActivate_53 (by decide) rfl (fun h53 => ?_) (fun h53 => ?_)
      · refine kz_iconst (v := 0) d_Mo_mayActivate_60 (by decide) rfl ?_
        refine kz_istore_n (i := 2) d_Mo_mayActivate_61 rfl rfl (Nat.le_of_ble_eq_true rfl) rfl ?_
        refine kz_iload_n d_Mo_mayActivate_62 rfl rfl ?_
        refine kz_if_eq (tgt := 128) d_Mo_mayActivate_63 (by decide) rfl (fun _ => ?_) (fun h => absurd h (by decide))
        refine kz_iconst (v := 0) d_Mo_mayActivate_128 (by decide) rfl ?_
        exact kz_zret rfl d_Mo_mayActivate_129 (by first | assumption | decide | exact kz_ib_or _) (⟨by simp [rr_mayAct, kz_ib, *], rfl⟩)
      · refine kz_iconst (v := 1) d_Mo_mayActivate_56 (by decide) rfl ?_
        refine kz_goto (tgt := 61) d_Mo_mayActivate_57 (by decide) ?_
        refine kz_istore_n (i := 2) d_Mo_mayActivate_61 rfl rfl (Nat.le_of_ble_eq_true rfl) rfl ?_
        refine kz_iload_n d_Mo_mayActivate_62 rfl rfl ?_
        refine kz_if_eq (tgt := 128) d_Mo_mayActivate_63 (by decide) rfl (fun h => absurd h (by decide)) (fun _ => ?_)
        refine kz_aload_n d_Mo_mayActivate_66 rfl rfl ?_
        refine kz_aload_n d_Mo_mayActivate_67 rfl rfl ?_
        refine kz_getR fd_Mo_26 rfl rfl rfl d_Mo_mayActivate_68 rfl ?_
        refine kz_iconst (v := 0) d_Mo_mayActivate_71 (by decide) rfl ?_
        refine kz_ialdp rfl (by first | assumption | exact kz_vin (by decide)) (j := 0) (by decide) d_Mo_mayActivate_72 rfl ?_
        refine kz_aload_n d_Mo_mayActivate_73 rfl rfl ?_
        refine kz_getR fd_Mo_7 rfl rfl rfl d_Mo_mayActivate_74 rfl ?_
        refine kz_iconst (v := 4) d_Mo_mayActivate_77 (by decide) rfl ?_
        refine kz_ialdp rfl (by first | assumption | exact kz_vin (by decide)) (j := 4) (by decide) d_Mo_mayActivate_78 rfl ?_
        refine kz_callVi (c_Mo_isBehind l) cv_Mo_153 rfl rfl rfl ⟨by decide, by decide⟩ rfl (Nat.le_of_ble_eq_true rfl) d_Mo_mayActivate_79 rfl ?_
        refine kz_if_eqb (tgt := 128) d_Mo_mayActivate_82 (by decide) rfl (fun h82 => ?_) (fun h82 => ?_)
        · refine kz_iconst (v := 0) d_Mo_mayActivate_128 (by decide) rfl ?_
          exact kz_zret rfl d_Mo_mayActivate_129 (by first | assumption | decide | exact kz_ib_or _) (⟨by simp [rr_mayAct, kz_ib, *], rfl⟩)
        · refine kz_aload_n d_Mo_mayActivate_85 rfl rfl ?_
          refine kz_aload_n d_Mo_mayActivate_86 rfl rfl ?_
          refine kz_getR fd_Mo_29 rfl rfl rfl d_Mo_mayActivate_87 rfl ?_
          refine kz_iconst (v := 0) d_Mo_mayActivate_90 (by decide) rfl ?_
          refine kz_ialdp rfl (by first | assumption | exact kz_vin (by decide)) (j := 0) (by decide) d_Mo_mayActivate_91 rfl ?_
          refine kz_aload_n d_Mo_mayActivate_92 rfl rfl ?_
          refine kz_getR fd_Mo_7 rfl rfl rfl d_Mo_mayActivate_93 rfl ?_
          refine kz_iconst (v := 5) d_Mo_mayActivate_96 (by decide) rfl ?_
          refine kz_ialdp rfl (by first | assumption | exact kz_vin (by decide)) (j := 5) (by decide) d_Mo_mayActivate_97 rfl ?_
          refine kz_callVi (c_Mo_isBehind l) cv_Mo_153 rfl rfl rfl ⟨by decide, by decide⟩ rfl (Nat.le_of_ble_eq_true rfl) d_Mo_mayActivate_98 rfl ?_
          refine kz_if_eqb (tgt := 128) d_Mo_mayActivate_101 (by decide) rfl (fun h101 => ?_) (fun h101 => ?_)
          · refine kz_iconst (v := 0) d_Mo_mayActivate_128 (by decide) rfl ?_
            exact kz_zret rfl d_Mo_mayActivate_129 (by first | assumption | decide | exact kz_ib_or _) (⟨by simp [rr_mayAct, kz_ib, *], rfl⟩)
          · refine kz_aload_n d_Mo_mayActivate_104 rfl rfl ?_
            refine kz_aload_n d_Mo_mayActivate_105 rfl rfl ?_
            refine kz_getR fd_Mo_26 rfl rfl rfl d_Mo_mayActivate_106 rfl ?_
            refine kz_iconst (v := 4) d_Mo_mayActivate_109 (by decide) rfl ?_
            refine kz_ialdp rfl (by first | assumption | exact kz_vin (by decide)) (j := 4) (by decide) d_Mo_mayActivate_110 rfl ?_
            refine kz_aload_n d_Mo_mayActivate_111 rfl rfl ?_
            refine kz_getR fd_Mo_7 rfl rfl rfl d_Mo_mayActivate_112 rfl ?_
            refine kz_bipush (v := 12) d_Mo_mayActivate_115 (by decide) rfl ?_
            refine kz_ialdp rfl (by first | assumption | exact kz_vin (by decide)) (j := 12) (by decide) d_Mo_mayActivate_117 rfl ?_
            refine kz_callVi (c_Mo_isBehind l) cv_Mo_153 rfl rfl rfl ⟨by decide, by decide⟩ rfl (Nat.le_of_ble_eq_true rfl) d_Mo_mayActivate_118 rfl ?_
            refine kz_if_eqb (tgt := 128) d_Mo_mayActivate_121 (by decide) rfl (fun h121 => ?_) (fun h121 => ?_)
            · refine kz_iconst (v := 0) d_Mo_mayActivate_128 (by decide) rfl ?_
              exact kz_zret rfl d_Mo_mayActivate_129 (by first | assumption | decide | exact kz_ib_or _) (⟨by simp [rr_mayAct, kz_ib, *], rfl⟩)
            · refine kz_iconst (v := 1) d_Mo_mayActivate_124 (by decide) rfl ?_
              refine kz_goto (tgt := 129) d_Mo_mayActivate_125 (by decide) ?_
              exact kz_zret rfl d_Mo_mayActivate_129 (by first | assumption | decide | exact kz_ib_or _) (⟨by simp [rr_mayAct, kz_ib, *], rfl⟩)
set_option maxRecDepth 100000 in
set_option maxHeartbeats 1000000 in
theorem c_Mo_mayMove (l : Launch) {M : kz_M} {b : Int32} {w : Bool} (hb : vp_in b 4) : kz_Dt l sR m_Mo_mayMove [.ref 0, .int b, .int (kz_ib w)] M (some (.int (kz_ib (rr_mayMv M b.toNatClampNeg w)))) M := by
  refine kz_intro (by decide +kernel) (Nat.le_of_ble_eq_true rfl) ?_
  show kz_G l sR m_Mo_mayMove 0 [some (.ref 0), some (.int b), some (.int (kz_ib w)), none] [] M _
  refine kz_aload_n d_Mo_mayMove_0 rfl rfl ?_
  refine kz_aload_n d_Mo_mayMove_1 rfl rfl ?_
  refine kz_getR fd_Mo_23 rfl rfl rfl d_Mo_mayMove_2 rfl ?_
  refine kz_iconst (v := 5) d_Mo_mayMove_5 (by decide) rfl ?_
  refine kz_iload_n d_Mo_mayMove_6 rfl rfl ?_
  refine kz_imul d_Mo_mayMove_7 rfl ?_
  refine kz_iconst (v := 0) d_Mo_mayMove_8 (by decide) rfl ?_
  refine kz_iadd d_Mo_mayMove_9 rfl ?_
  refine kz_ialdp rfl (rr_i0 hb).2 (rr_i0 hb).1 d_Mo_mayMove_10 rfl ?_
  refine kz_aload_n d_Mo_mayMove_11 rfl rfl ?_
  refine kz_getR fd_Mo_7 rfl rfl rfl d_Mo_mayMove_12 rfl ?_
  refine kz_iconst (v := 0) d_Mo_mayMove_15 (by decide) rfl ?_
  refine kz_ialdp rfl (by first | assumption | exact kz_vin (by decide)) (j := 0) (by decide) d_Mo_mayMove_16 rfl ?_
  refine kz_callVi (c_Mo_isBehind l) cv_Mo_153 rfl rfl rfl ⟨by decide, by decide⟩ rfl (Nat.le_of_ble_eq_true rfl) d_Mo_mayMove_17 rfl ?_
  refine kz_if_eqb (tgt := 67) d_Mo_mayMove_20 (by decide) rfl (fun h20 => ?_) (fun h20 => ?_)
  · refine kz_iconst (v := 0) d_Mo_mayMove_67 (by decide) rfl ?_
    refine kz_istore_n (i := 3) d_Mo_mayMove_68 rfl rfl (Nat.le_of_ble_eq_true rfl) rfl ?_
    refine kz_iload_n d_Mo_mayMove_69 rfl rfl ?_
    refine kz_if_eqb (tgt := 98) d_Mo_mayMove_70 (by decide) rfl (fun h70 => ?_) (fun h70 => ?_)
    · refine kz_iload_n d_Mo_mayMove_98 rfl rfl ?_
      refine kz_if_eq (tgt := 151) d_Mo_mayMove_99 (by decide) rfl (fun _ => ?_) (fun h => absurd h (by decide))
      refine kz_iconst (v := 0) d_Mo_mayMove_151 (by decide) rfl ?_
      exact kz_zret rfl d_Mo_mayMove_152 (by first | assumption | decide | exact kz_ib_or _) (⟨by simp [rr_mayMv, rr_near, kz_ib, *], rfl⟩)
    · refine kz_iload_n d_Mo_mayMove_73 rfl rfl ?_
      refine kz_if_eq (tgt := 96) d_Mo_mayMove_74 (by decide) rfl (fun _ => ?_) (fun h => absurd h (by decide))
      refine kz_iconst (v := 0) d_Mo_mayMove_96 (by decide) rfl ?_
      exact kz_zret rfl d_Mo_mayMove_97 (by first | assumption | decide | exact kz_ib_or _) (⟨by simp [rr_mayMv, rr_near, kz_ib, *], rfl⟩)
  · refine kz_aload_n d_Mo_mayMove_23 rfl rfl ?_
    refine kz_aload_n d_Mo_mayMove_24 rfl rfl ?_
    refine kz_getR fd_Mo_26 rfl rfl rfl d_Mo_mayMove_25 rfl ?_
    refine kz_iconst (v := 2) d_Mo_mayMove_28 (by decide) rfl ?_
    refine kz_ialdp rfl (by first | assumption | exact kz_vin (by decide)) (j := 2) (by decide) d_Mo_mayMove_29 rfl ?_
    refine kz_aload_n d_Mo_mayMove_30 rfl rfl ?_
    refine kz_getR fd_Mo_7 rfl rfl rfl d_Mo_mayMove_31 rfl ?_
    refine kz_bipush (v := 6) d_Mo_mayMove_34 (by decide) rfl ?_
    refine kz_ialdp rfl (by first | assumption | exact kz_vin (by decide)) (j := 6) (by decide) d_Mo_mayMove_36 rfl ?_
    refine kz_callVi (c_Mo_isBehind l) cv_Mo_153 rfl rfl rfl ⟨by decide, by decide⟩ rfl (Nat.le_of_ble_eq_true rfl) d_Mo_mayMove_37 rfl ?_
    refine kz_if_eqb (tgt := 67) d_Mo_mayMove_40 (by decide) rfl (fun h40 => ?_) (fun h40 => ?_)
    · refine kz_iconst (v := 0) d_Mo_mayMove_67 (by decide) rfl ?_
      refine kz_istore_n (i := 3) d_Mo_mayMove_68 rfl rfl (Nat.le_of_ble_eq_true rfl) rfl ?_
      refine kz_iload_n d_Mo_mayMove_69 rfl rfl ?_
      refine kz_if_eqb (tgt := 98) d_Mo_mayMove_70 (by decide) rfl (fun h70 => ?_) (fun h70 => ?_)
      · refine kz_iload_n d_Mo_mayMove_98 rfl rfl ?_
        refine kz_if_eq (tgt := 151) d_Mo_mayMove_99 (by decide) rfl (fun _ => ?_) (fun h => absurd h (by decide))
        refine kz_iconst (v := 0) d_Mo_mayMove_151 (by decide) rfl ?_
        exact kz_zret rfl d_Mo_mayMove_152 (by first | assumption | decide | exact kz_ib_or _) (⟨by simp [rr_mayMv, rr_near, kz_ib, *], rfl⟩)
      · refine kz_iload_n d_Mo_mayMove_73 rfl rfl ?_
        refine kz_if_eq (tgt := 96) d_Mo_mayMove_74 (by decide) rfl (fun _ => ?_) (fun h => absurd h (by decide))
        refine kz_iconst (v := 0) d_Mo_mayMove_96 (by decide) rfl ?_
        exact kz_zret rfl d_Mo_mayMove_97 (by first | assumption | decide | exact kz_ib_or _) (⟨by simp [rr_mayMv, rr_near, kz_ib, *], rfl⟩)
    · refine kz_aload_n d_Mo_mayMove_43 rfl rfl ?_
      refine kz_aload_n d_Mo_mayMove_44 rfl rfl ?_
      refine kz_getR fd_Mo_26 rfl rfl rfl d_Mo_mayMove_45 rfl ?_
      refine kz_iconst (v := 3) d_Mo_mayMove_48 (by decide) rfl ?_
      refine kz_ialdp rfl (by first | assumption | exact kz_vin (by decide)) (j := 3) (by decide) d_Mo_mayMove_49 rfl ?_
      refine kz_aload_n d_Mo_mayMove_50 rfl rfl ?_
      refine kz_getR fd_Mo_7 rfl rfl rfl d_Mo_mayMove_51 rfl ?_
      refine kz_bipush (v := 6) d_Mo_mayMove_54 (by decide) rfl ?_
      refine kz_ialdp rfl (by first | assumption | exact kz_vin (by decide)) (j := 6) (by decide) d_Mo_mayMove_56 rfl ?_
      refine kz_callVi (c_Mo_isBehind l) cv_Mo_153 rfl rfl rfl ⟨by decide, by decide⟩ rfl (Nat.le_of_ble_eq_true rfl) d_Mo_mayMove_57 rfl ?_
      refine kz_if_eqb (tgt := 67) d_Mo_mayMove_60 (by decide) rfl (fun h60 => ?_) (fun h60 => ?_)
      · refine kz_iconst (v := 0) d_Mo_mayMove_67 (by decide) rfl ?_
        refine kz_istore_n (i := 3) d_Mo_mayMove_68 rfl rfl (Nat.le_of_ble_eq_true rfl) rfl ?_
        refine kz_iload_n d_Mo_mayMove_69 rfl rfl ?_
        refine kz_if_eqb (tgt := 98) d_Mo_mayMove_70 (by decide) rfl (fun h70 => ?_) (fun h70 => ?_)
        · refine kz_iload_n d_Mo_mayMove_98 rfl rfl ?_
          refine kz_if_eq (tgt := 151) d_Mo_mayMove_99 (by decide) rfl (fun _ => ?_) (fun h => absurd h (by decide))
          refine kz_iconst (v := 0) d_Mo_mayMove_151 (by decide) rfl ?_
          exact kz_zret rfl d_Mo_mayMove_152 (by first | assumption | decide | exact kz_ib_or _) (⟨by simp [rr_mayMv, rr_near, kz_ib, *], rfl⟩)
        · refine kz_iload_n d_Mo_mayMove_73 rfl rfl ?_
          refine kz_if_eq (tgt := 96) d_Mo_mayMove_74 (by decide) rfl (fun _ => ?_) (fun h => absurd h (by decide))
          refine kz_iconst (v := 0) d_Mo_mayMove_96 (by decide) rfl ?_
          exact kz_zret rfl d_Mo_mayMove_97 (by first | assumption | decide | exact kz_ib_or _) (⟨by simp [rr_mayMv, rr_near, kz_ib, *], rfl⟩)
      · refine kz_iconst (v := 1) d_Mo_mayMove_63 (by decide) rfl ?_
        refine kz_goto (tgt := 68) d_Mo_mayMove_64 (by decide) ?_
        refine kz_istore_n (i := 3) d_Mo_mayMove_68 rfl rfl (Nat.le_of_ble_eq_true rfl) rfl ?_
        refine kz_iload_n d_Mo_mayMove_69 rfl rfl ?_
        refine kz_if_eqb (tgt := 98) d_Mo_mayMove_70 (by decide) rfl (fun h70 => ?_) (fun h70 => ?_)
        · refine kz_iload_n d_Mo_mayMove_98 rfl rfl ?_
          refine kz_if_eq (tgt := 151) d_Mo_mayMove_99 (by decide) rfl (fun h => absurd h (by decide)) (fun _ => ?_)
          refine kz_aload_n d_Mo_mayMove_102 rfl rfl ?_
          refine kz_aload_n d_Mo_mayMove_103 rfl rfl ?_
          refine kz_getR fd_Mo_26 rfl rfl rfl d_Mo_mayMove_104 rfl ?_
          refine kz_iconst (v := 3) d_Mo_mayMove_107 (by decide) rfl ?_
          refine kz_ialdp rfl (by first | assumption | exact kz_vin (by decide)) (j := 3) (by decide) d_Mo_mayMove_108 rfl ?_
          refine kz_aload_n d_Mo_mayMove_109 rfl rfl ?_
          refine kz_getR fd_Mo_7 rfl rfl rfl d_Mo_mayMove_110 rfl ?_
          refine kz_bipush (v := 11) d_Mo_mayMove_113 (by decide) rfl ?_
          refine kz_ialdp rfl (by first | assumption | exact kz_vin (by decide)) (j := 11) (by decide) d_Mo_mayMove_115 rfl ?_
          refine kz_iconst (v := 4) d_Mo_mayMove_116 (by decide) rfl ?_
          refine kz_iadd d_Mo_mayMove_117 rfl ?_
          refine kz_aload_n d_Mo_mayMove_118 rfl rfl ?_
          refine kz_getR fd_Mo_7 rfl rfl rfl d_Mo_mayMove_119 rfl ?_
          refine kz_bipush (v := 8) d_Mo_mayMove_122 (by decide) rfl ?_
          refine kz_ialdp rfl (by first | assumption | exact kz_vin (by decide)) (j := 8) (by decide) d_Mo_mayMove_124 rfl ?_
          refine kz_iadd d_Mo_mayMove_125 rfl ?_
          refine kz_callVi (c_Mo_isBehind l) cv_Mo_153 rfl rfl rfl ⟨by decide, by decide⟩ rfl (Nat.le_of_ble_eq_true rfl) d_Mo_mayMove_126 rfl ?_
          refine kz_if_eqb (tgt := 151) d_Mo_mayMove_129 (by decide) rfl (fun h129 => ?_) (fun h129 => ?_)
          · refine kz_iconst (v := 0) d_Mo_mayMove_151 (by decide) rfl ?_
            exact kz_zret rfl d_Mo_mayMove_152 (by first | assumption | decide | exact kz_ib_or _) (⟨by simp [rr_mayMv, rr_near, kz_ib, *], rfl⟩)
          · refine kz_aload_n d_Mo_mayMove_132 rfl rfl ?_
            refine kz_iconst (v := 2) d_Mo_mayMove_133 (by decide) rfl ?_
            refine kz_aload_n d_Mo_mayMove_134 rfl rfl ?_
            refine kz_getR fd_Mo_7 rfl rfl rfl d_Mo_mayMove_135 rfl ?_
            refine kz_bipush (v := 10) d_Mo_mayMove_138 (by decide) rfl ?_
            refine kz_ialdp rfl (by first | assumption | exact kz_vin (by decide)) (j := 10) (by decide) d_Mo_mayMove_140 rfl ?_
            refine kz_callVi (c_Mo_isBusFree l) cv_Mo_157 rfl rfl rfl ⟨by decide, by decide⟩ rfl (Nat.le_of_ble_eq_true rfl) d_Mo_mayMove_141 rfl ?_
            refine kz_if_eqb (tgt := 151) d_Mo_mayMove_144 (by decide) rfl (fun h144 => ?_) (fun h144 => ?_)
            · refine kz_iconst (v := 0) d_Mo_mayMove_151 (by decide) rfl ?_
              exact kz_zret rfl d_Mo_mayMove_152 (by first | assumption | decide | exact kz_ib_or _) (⟨by simp [rr_mayMv, rr_near, kz_ib, *], rfl⟩)
            · refine kz_iconst (v := 1) d_Mo_mayMove_147 (by decide) rfl ?_
              refine kz_goto (tgt := 152) d_Mo_mayMove_148 (by decide) ?_
              exact kz_zret rfl d_Mo_mayMove_152 (by first | assumption | decide | exact kz_ib_or _) (⟨by simp [rr_mayMv, rr_near, kz_ib, *], rfl⟩)
        · refine kz_iload_n d_Mo_mayMove_73 rfl rfl ?_
          refine kz_if_eq (tgt := 96) d_Mo_mayMove_74 (by decide) rfl (fun h => absurd h (by decide)) (fun _ => ?_)
          refine kz_aload_n d_Mo_mayMove_77 rfl rfl ?_
          refine kz_iconst (v := 3) d_Mo_mayMove_78 (by decide) rfl ?_
          refine kz_aload_n d_Mo_mayMove_79 rfl rfl ?_
          refine kz_getR fd_Mo_7 rfl rfl rfl d_Mo_mayMove_80 rfl ?_
          refine kz_bipush (v := 11) d_Mo_mayMove_83 (by decide) rfl ?_
          refine kz_ialdp rfl (by first | assumption | exact kz_vin (by decide)) (j := 11) (by decide) d_Mo_mayMove_85 rfl ?_
          refine kz_callVi (c_Mo_isBusFree l) cv_Mo_157 rfl rfl rfl ⟨by decide, by decide⟩ rfl (Nat.le_of_ble_eq_true rfl) d_Mo_mayMove_86 rfl ?_
          refine kz_if_eqb (tgt := 96) d_Mo_mayMove_89 (by decide) rfl (fun h89 => ?_) (fun h89 => ?_)
          · refine kz_iconst (v := 0) d_Mo_mayMove_96 (by decide) rfl ?_
            exact kz_zret rfl d_Mo_mayMove_97 (by first | assumption | decide | exact kz_ib_or _) (⟨by simp [rr_mayMv, rr_near, kz_ib, *], rfl⟩)
          · refine kz_iconst (v := 1) d_Mo_mayMove_92 (by decide) rfl ?_
            refine kz_goto (tgt := 97) d_Mo_mayMove_93 (by decide) ?_
            exact kz_zret rfl d_Mo_mayMove_97 (by first | assumption | decide | exact kz_ib_or _) (⟨by simp [rr_mayMv, rr_near, kz_ib, *], rfl⟩)
