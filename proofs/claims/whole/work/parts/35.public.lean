/-! Contracts of the class: what a caller calls. -/
theorem ck_adr_in {a : Int32} (h : ck_adr a = true) : vp_in a 256 := by
  simp only [ck_adr, Bool.and_eq_true, Bool.not_eq_true', decide_eq_false_iff_not] at h
  rw [vp_in_iff]
  obtain ⟨h1, h2⟩ := h
  rw [Int32.lt_iff_toInt_lt] at h1
  rw [Int32.le_iff_toInt_le] at h2
  have e1 : (0 : Int32).toInt = 0 := by decide
  have e2 : (256 : Int32).toInt = 256 := by decide
  omega
theorem cq_has_in {M : kz_M} {t : Int32} {c : Nat} (hc : c ≤ 400) (he : M.1 12 6 = nI c) (h : cq_has M t = true) : vp_in t 400 := by
  simp only [cq_has, Bool.and_eq_true, Bool.not_eq_true', decide_eq_false_iff_not] at h
  rw [vp_in_iff]
  obtain ⟨h1, h2⟩ := h
  rw [Int32.lt_iff_toInt_lt] at h1
  rw [he, Int32.le_iff_toInt_le, nI_toInt (by omega)] at h2
  have e1 : (0 : Int32).toInt = 0 := by decide
  omega
def cp_tim (M : kz_M) (i v : Int32) : Bool := decide (M.1 0 9 = 0) && cb_set M i v
def cp_bit (M : kz_M) (a p : Int32) : Int32 := if (ck_adr a && ck_plc p) = true then bt_bit (cw_get M a.toNatClampNeg) p else -1
def cp_flip (M : kz_M) (a p : Int32) : kz_M := if (ck_adr a && ck_plc p) = true then cw_put M a.toNatClampNeg (bt_turn (cw_get M a.toNatClampNeg) p) else M
def cp_stat (M : kz_M) (t : Int32) : Int32 := if cq_has M t = true then cq_stage M t (M.1 0 9) else -1
def cp_val (M : kz_M) (t : Int32) : Int64 := if cq_has M t = true then M.2 16 t.toNatClampNeg else 0
def cp_stN (M : kz_M) : Nat → Int32
  | 0 => M.1 0 9
  | 1 => M.1 19 1
  | 2 => M.1 21 1
  | 3 => M.1 0 11
  | 4 => if M.1 0 12 = 0 then 0 else 1
  | 5 => M.1 25 3
  | 6 => M.1 0 13
  | 7 => M.1 0 14
  | 8 => M.1 12 6
  | 10 => M.1 3 0
  | 11 => M.1 3 1
  | 12 => M.1 3 2
  | 13 => M.1 3 3
  | _ => -1
theorem st_cases (x : Int32) : (∃ k, k < 14 ∧ x = nI k) ∨ (x.toInt < 0 ∨ 13 < x.toInt) := by
  by_cases h : x.toInt < 0 ∨ 13 < x.toInt
  · exact Or.inr h
  · obtain ⟨j, hj, rfl⟩ := vp_in_of (x := x) (n := 14) (by rw [vp_in_iff]; omega) (by decide)
    exact Or.inl ⟨j, hj, rfl⟩
def cp_st (M : kz_M) (x : Int32) : Int32 := if x.toInt < 0 ∨ 13 < x.toInt then -1 else cp_stN M x.toNatClampNeg
theorem cp_st_in (M : kz_M) {k : Nat} (h : k < 14) : cp_st M (nI k) = cp_stN M k := by
  unfold cp_st
  rw [nI_toInt (by omega), nI_clamp (by omega), if_neg (by omega)]
set_option maxRecDepth 100000 in
set_option maxHeartbeats 1000000 in
theorem c_Bk_timing (l : Launch) {M : kz_M} {i v : Int32} : kz_Dt l sC m_Bk_timing [.ref 0, .int i, .int v] M (some (.int (kz_ib (cp_tim M i v)))) (if cp_tim M i v = true then (kz_u M.1 2 i.toNatClampNeg v, M.2) else M) := by
  refine kz_intro (by decide +kernel) (Nat.le_of_ble_eq_true rfl) ?_
  show kz_G l sC m_Bk_timing 0 [some (.ref 0), some (.int i), some (.int v)] [] M _
  refine kz_aload_n d_Bk_timing_0 rfl rfl ?_
  refine kz_getIp fd_Bk_66 rfl rfl (Or.inl rfl) d_Bk_timing_1 rfl ?_
  refine kz_if_ne (tgt := 23) d_Bk_timing_4 (by decide) rfl (fun h4 => ?_) (fun h4 => ?_)
  · refine kz_iconst (v := 0) d_Bk_timing_23 (by decide) rfl ?_
    exact kz_zret rfl d_Bk_timing_24 (by first | assumption | decide | exact kz_ib_or _) (⟨by simp [cp_tim, kz_ib, *], by simp [cp_tim, *]⟩)
  · refine kz_aload_n d_Bk_timing_7 rfl rfl ?_
    refine kz_getR fd_Bk_28 rfl rfl rfl d_Bk_timing_8 rfl ?_
    refine kz_iload_n d_Bk_timing_11 rfl rfl ?_
    refine kz_iload_n d_Bk_timing_12 rfl rfl ?_
    refine kz_callVi (c_Ba_setTiming l) cv_Bk_69 rfl rfl rfl ⟨by decide, by decide⟩ rfl (Nat.le_of_ble_eq_true rfl) d_Bk_timing_13 rfl ?_
    refine kz_eta ?_
    refine kz_if_eqb (tgt := 23) d_Bk_timing_16 (by decide) rfl (fun h16 => ?_) (fun h16 => ?_)
    · refine kz_iconst (v := 0) d_Bk_timing_23 (by decide) rfl ?_
      exact kz_zret rfl d_Bk_timing_24 (by first | assumption | decide | exact kz_ib_or _) (⟨by simp [cp_tim, kz_ib, *], by simp [cp_tim, *]⟩)
    · refine kz_iconst (v := 1) d_Bk_timing_19 (by decide) rfl ?_
      refine kz_goto (tgt := 24) d_Bk_timing_20 (by decide) ?_
      exact kz_zret rfl d_Bk_timing_24 (by first | assumption | decide | exact kz_ib_or _) (⟨by simp [cp_tim, kz_ib, *], by simp [cp_tim, *]⟩)
set_option maxRecDepth 100000 in
set_option maxHeartbeats 1000000 in
theorem c_Bk_flip (l : Launch) {M : kz_M} {a p : Int32} : kz_Dt l sC m_Bk_flip [.ref 0, .int a, .int p] M (some (.int (kz_ib (ck_adr a && ck_plc p)))) (cp_flip M a p) := by
  refine kz_intro (by decide +kernel) (Nat.le_of_ble_eq_true rfl) ?_
  show kz_G l sC m_Bk_flip 0 [some (.ref 0), some (.int a), some (.int p)] [] M _
  refine kz_iload_n d_Bk_flip_0 rfl rfl ?_
  refine kz_callSi (c_Bk_isAddress l) cs_Bk_73 rfl ⟨by decide, by decide⟩ rfl (Nat.le_of_ble_eq_true rfl) d_Bk_flip_1 rfl ?_
  refine kz_if_eqb (tgt := 14) d_Bk_flip_4 (by decide) rfl (fun h4 => ?_) (fun h4 => ?_)
  · refine kz_iconst (v := 0) d_Bk_flip_14 (by decide) rfl ?_
    exact kz_zret rfl d_Bk_flip_15 (by first | assumption | decide | exact kz_ib_or _) (⟨by simp [kz_ib, *], by simp [cp_flip, *]⟩)
  · refine kz_iload_n d_Bk_flip_7 rfl rfl ?_
    refine kz_callSi (c_Bk_isPlace l) cs_Bk_115 rfl ⟨by decide, by decide⟩ rfl (Nat.le_of_ble_eq_true rfl) d_Bk_flip_8 rfl ?_
    refine kz_if_neb (tgt := 16) d_Bk_flip_11 (by decide) rfl (fun h11 => ?_) (fun h11 => ?_)
    · refine kz_aload_n d_Bk_flip_16 rfl rfl ?_
      refine kz_getR fd_Bk_35 rfl rfl rfl d_Bk_flip_17 rfl ?_
      refine kz_iload_n d_Bk_flip_20 rfl rfl ?_
      refine kz_iload_n d_Bk_flip_21 rfl rfl ?_
      refine kz_callVv (c_St_turn l (ck_adr_in h4)) cv_Bk_118 rfl rfl rfl ⟨by decide, by decide⟩ rfl (Nat.le_of_ble_eq_true rfl) d_Bk_flip_22 rfl ?_
      refine kz_eta ?_
      refine kz_iconst (v := 1) d_Bk_flip_25 (by decide) rfl ?_
      exact kz_zret rfl d_Bk_flip_26 (by first | assumption | decide | exact kz_ib_or _) (⟨by simp [kz_ib, *], by simp [cp_flip, *]⟩)
    · refine kz_iconst (v := 0) d_Bk_flip_14 (by decide) rfl ?_
      exact kz_zret rfl d_Bk_flip_15 (by first | assumption | decide | exact kz_ib_or _) (⟨by simp [kz_ib, *], by simp [cp_flip, *]⟩)
set_option maxRecDepth 100000 in
set_option maxHeartbeats 1000000 in
theorem c_Bk_bit (l : Launch) {M : kz_M} {a p : Int32} : kz_Dt l sC m_Bk_bit [.ref 0, .int a, .int p] M (some (.int (cp_bit M a p))) M := by
  refine kz_intro (by decide +kernel) (Nat.le_of_ble_eq_true rfl) ?_
  show kz_G l sC m_Bk_bit 0 [some (.ref 0), some (.int a), some (.int p)] [] M _
  refine kz_iload_n d_Bk_bit_0 rfl rfl ?_
  refine kz_callSi (c_Bk_isAddress l) cs_Bk_73 rfl ⟨by decide, by decide⟩ rfl (Nat.le_of_ble_eq_true rfl) d_Bk_bit_1 rfl ?_
  refine kz_if_eqb (tgt := 14) d_Bk_bit_4 (by decide) rfl (fun h4 => ?_) (fun h4 => ?_)
  · refine kz_iconst (v := -1) d_Bk_bit_14 (by decide) rfl ?_
    exact kz_iret rfl d_Bk_bit_15 (⟨by simp [cp_bit, *], rfl⟩)
  · refine kz_iload_n d_Bk_bit_7 rfl rfl ?_
    refine kz_callSi (c_Bk_isPlace l) cs_Bk_115 rfl ⟨by decide, by decide⟩ rfl (Nat.le_of_ble_eq_true rfl) d_Bk_bit_8 rfl ?_
    refine kz_if_neb (tgt := 16) d_Bk_bit_11 (by decide) rfl (fun h11 => ?_) (fun h11 => ?_)
    · refine kz_aload_n d_Bk_bit_16 rfl rfl ?_
      refine kz_getR fd_Bk_35 rfl rfl rfl d_Bk_bit_17 rfl ?_
      refine kz_iload_n d_Bk_bit_20 rfl rfl ?_
      refine kz_iload_n d_Bk_bit_21 rfl rfl ?_
      refine kz_callVi (c_St_bitAt l (ck_adr_in h4)) cv_Bk_148 rfl rfl rfl ⟨by decide, by decide⟩ rfl (Nat.le_of_ble_eq_true rfl) d_Bk_bit_22 rfl ?_
      exact kz_iret rfl d_Bk_bit_25 (⟨by simp [cp_bit, *], rfl⟩)
    · refine kz_iconst (v := -1) d_Bk_bit_14 (by decide) rfl ?_
      exact kz_iret rfl d_Bk_bit_15 (⟨by simp [cp_bit, *], rfl⟩)
set_option maxRecDepth 100000 in
set_option maxHeartbeats 1000000 in
theorem c_Bk_status (l : Launch) {M : kz_M} {t : Int32} {c : Nat} (hc : c ≤ 400) (he : M.1 12 6 = nI c) : kz_Dt l sC m_Bk_status [.ref 0, .int t] M (some (.int (cp_stat M t))) M := by
  refine kz_intro (by decide +kernel) (Nat.le_of_ble_eq_true rfl) ?_
  show kz_G l sC m_Bk_status 0 [some (.ref 0), some (.int t)] [] M _
  refine kz_aload_n d_Bk_status_0 rfl rfl ?_
  refine kz_getR fd_Bk_42 rfl rfl rfl d_Bk_status_1 rfl ?_
  refine kz_iload_n d_Bk_status_4 rfl rfl ?_
  refine kz_callVi (c_Re_has l) cv_Bk_122 rfl rfl rfl ⟨by decide, by decide⟩ rfl (Nat.le_of_ble_eq_true rfl) d_Bk_status_5 rfl ?_
  refine kz_if_eqb (tgt := 26) d_Bk_status_8 (by decide) rfl (fun h8 => ?_) (fun h8 => ?_)
  · refine kz_iconst (v := -1) d_Bk_status_26 (by decide) rfl ?_
    exact kz_iret rfl d_Bk_status_27 (⟨by simp [cp_stat, *], rfl⟩)
  · refine kz_aload_n d_Bk_status_11 rfl rfl ?_
    refine kz_getR fd_Bk_42 rfl rfl rfl d_Bk_status_12 rfl ?_
    refine kz_iload_n d_Bk_status_15 rfl rfl ?_
    refine kz_aload_n d_Bk_status_16 rfl rfl ?_
    refine kz_getIp fd_Bk_66 rfl rfl (Or.inl rfl) d_Bk_status_17 rfl ?_
    refine kz_callVi (c_Re_stageOf l (cq_has_in hc he h8)) cv_Bk_125 rfl rfl rfl ⟨by decide, by decide⟩ rfl (Nat.le_of_ble_eq_true rfl) d_Bk_status_20 rfl ?_
    refine kz_goto (tgt := 27) d_Bk_status_23 (by decide) ?_
    exact kz_iret rfl d_Bk_status_27 (⟨by simp [cp_stat, *], rfl⟩)
set_option maxRecDepth 100000 in
set_option maxHeartbeats 1000000 in
theorem c_Bk_value (l : Launch) {M : kz_M} {t : Int32} {c : Nat} (hc : c ≤ 400) (he : M.1 12 6 = nI c) : kz_Dt l sC m_Bk_value [.ref 0, .int t] M (some (.long (cp_val M t))) M := by
  refine kz_intro (by decide +kernel) (Nat.le_of_ble_eq_true rfl) ?_
  show kz_G l sC m_Bk_value 0 [some (.ref 0), some (.int t)] [] M _
  refine kz_aload_n d_Bk_value_0 rfl rfl ?_
  refine kz_getR fd_Bk_42 rfl rfl rfl d_Bk_value_1 rfl ?_
  refine kz_iload_n d_Bk_value_4 rfl rfl ?_
  refine kz_callVi (c_Re_has l) cv_Bk_122 rfl rfl rfl ⟨by decide, by decide⟩ rfl (Nat.le_of_ble_eq_true rfl) d_Bk_value_5 rfl ?_
  refine kz_if_eqb (tgt := 22) d_Bk_value_8 (by decide) rfl (fun h8 => ?_) (fun h8 => ?_)
  · refine kz_lconst (v := 0) d_Bk_value_22 (by decide) rfl ?_
    exact kz_lret rfl d_Bk_value_23 (⟨by simp [cp_val, *], rfl⟩)
  · refine kz_aload_n d_Bk_value_11 rfl rfl ?_
    refine kz_getR fd_Bk_42 rfl rfl rfl d_Bk_value_12 rfl ?_
    refine kz_iload_n d_Bk_value_15 rfl rfl ?_
    refine kz_callVi (c_Re_wordOf l (cq_has_in hc he h8)) cv_Bk_97 rfl rfl rfl ⟨by decide, by decide⟩ rfl (Nat.le_of_ble_eq_true rfl) d_Bk_value_16 rfl ?_
    refine kz_goto (tgt := 23) d_Bk_value_19 (by decide) ?_
    exact kz_lret rfl d_Bk_value_23 (⟨by simp [cp_val, *], rfl⟩)
set_option maxRecDepth 100000 in
set_option maxHeartbeats 1000000 in
theorem c_Bk_command (l : Launch) {M : kz_M} {n c : Nat} {k i : Int32} (hn : n < 32) (hnx : M.1 25 1 = nI n) (hc : c ≤ 32) (hkp : M.1 25 2 = nI c) : kz_Dt l sC m_Bk_command [.ref 0, .int k, .int i] M (some (.int (cj_at M n k i))) M := by
  refine kz_intro (by decide +kernel) (Nat.le_of_ble_eq_true rfl) ?_
  show kz_G l sC m_Bk_command 0 [some (.ref 0), some (.int k), some (.int i)] [] M _
  refine kz_aload_n d_Bk_command_0 rfl rfl ?_
  refine kz_getR fd_Bk_62 rfl rfl rfl d_Bk_command_1 rfl ?_
  refine kz_iload_n d_Bk_command_4 rfl rfl ?_
  refine kz_iload_n d_Bk_command_5 rfl rfl ?_
  refine kz_callVi (c_Jo_entry l hn hnx hc hkp) cv_Bk_145 rfl rfl rfl ⟨by decide, by decide⟩ rfl (Nat.le_of_ble_eq_true rfl) d_Bk_command_6 rfl ?_
  exact kz_iret rfl d_Bk_command_9 (⟨rfl, rfl⟩)
set_option maxRecDepth 100000 in
set_option maxHeartbeats 1000000 in
theorem c_Bk_state (l : Launch) {M : kz_M} {x : Int32} : kz_Dt l sC m_Bk_state [.ref 0, .int x] M (some (.int (cp_st M x))) M := by
  refine kz_intro (by decide +kernel) (Nat.le_of_ble_eq_true rfl) ?_
  show kz_G l sC m_Bk_state 0 [some (.ref 0), some (.int x)] [] M _
  refine kz_iload_n d_Bk_state_0 rfl rfl ?_
  rcases st_cases x with ⟨k, hk, rfl⟩ | hx
  · rw [cp_st_in M hk]
    rcases (show k = 0 ∨ k = 1 ∨ k = 2 ∨ k = 3 ∨ k = 4 ∨ k = 5 ∨ k = 6 ∨ k = 7 ∨ k = 8 ∨ k = 9 ∨ k = 10 ∨ k = 11 ∨ k = 12 ∨ k = 13 by omega) with rfl | rfl | rfl | rfl | rfl | rfl | rfl | rfl | rfl | rfl | rfl | rfl | rfl | rfl
    · refine kz_tableIn (tgt := 72) d_Bk_state_1 (by decide) (by decide) rfl (by decide) ?_
      refine kz_aload_n d_Bk_state_72 rfl rfl ?_
      refine kz_getIp fd_Bk_66 rfl rfl (Or.inl rfl) d_Bk_state_73 rfl ?_
      exact kz_iret rfl d_Bk_state_76 (⟨rfl, rfl⟩)
    · refine kz_tableIn (tgt := 77) d_Bk_state_1 (by decide) (by decide) rfl (by decide) ?_
      refine kz_aload_n d_Bk_state_77 rfl rfl ?_
      refine kz_getR fd_Bk_49 rfl rfl rfl d_Bk_state_78 rfl ?_
      refine kz_callVi (c_Li_size l (by first | exact kl_19 | exact kl_21 | exact kl_23)) cv_Bk_81 rfl rfl rfl ⟨by decide, by decide⟩ rfl (Nat.le_of_ble_eq_true rfl) d_Bk_state_81 rfl ?_
      exact kz_iret rfl d_Bk_state_84 (⟨rfl, rfl⟩)
    · refine kz_tableIn (tgt := 85) d_Bk_state_1 (by decide) (by decide) rfl (by decide) ?_
      refine kz_aload_n d_Bk_state_85 rfl rfl ?_
      refine kz_getR fd_Bk_53 rfl rfl rfl d_Bk_state_86 rfl ?_
      refine kz_callVi (c_Li_size l (by first | exact kl_19 | exact kl_21 | exact kl_23)) cv_Bk_81 rfl rfl rfl ⟨by decide, by decide⟩ rfl (Nat.le_of_ble_eq_true rfl) d_Bk_state_89 rfl ?_
      exact kz_iret rfl d_Bk_state_92 (⟨rfl, rfl⟩)
    · refine kz_tableIn (tgt := 93) d_Bk_state_1 (by decide) (by decide) rfl (by decide) ?_
      refine kz_aload_n d_Bk_state_93 rfl rfl ?_
      refine kz_getIp fd_Bk_128 rfl rfl (Or.inl rfl) d_Bk_state_94 rfl ?_
      exact kz_iret rfl d_Bk_state_97 (⟨rfl, rfl⟩)
    · refine kz_tableIn (tgt := 98) d_Bk_state_1 (by decide) (by decide) rfl (by decide) ?_
      refine kz_aload_n d_Bk_state_98 rfl rfl ?_
      refine kz_getIp fd_Bk_131 rfl rfl (Or.inr rfl) d_Bk_state_99 rfl ?_
      refine kz_if_eq (tgt := 109) d_Bk_state_102 (by decide) rfl (fun h102 => ?_) (fun h102 => ?_)
      · refine kz_iconst (v := 0) d_Bk_state_109 (by decide) rfl ?_
        exact kz_iret rfl d_Bk_state_110 (⟨by show _ = some (Value.int (if M.1 0 12 = 0 then 0 else 1)); first | rw [if_pos h102] | rw [if_neg h102], rfl⟩)
      · refine kz_iconst (v := 1) d_Bk_state_105 (by decide) rfl ?_
        refine kz_goto (tgt := 110) d_Bk_state_106 (by decide) ?_
        exact kz_iret rfl d_Bk_state_110 (⟨by show _ = some (Value.int (if M.1 0 12 = 0 then 0 else 1)); first | rw [if_pos h102] | rw [if_neg h102], rfl⟩)
    · refine kz_tableIn (tgt := 111) d_Bk_state_1 (by decide) (by decide) rfl (by decide) ?_
      refine kz_aload_n d_Bk_state_111 rfl rfl ?_
      refine kz_getR fd_Bk_62 rfl rfl rfl d_Bk_state_112 rfl ?_
      refine kz_callVi (c_Jo_count l) cv_Bk_109 rfl rfl rfl ⟨by decide, by decide⟩ rfl (Nat.le_of_ble_eq_true rfl) d_Bk_state_115 rfl ?_
      exact kz_iret rfl d_Bk_state_118 (⟨rfl, rfl⟩)
    · refine kz_tableIn (tgt := 119) d_Bk_state_1 (by decide) (by decide) rfl (by decide) ?_
      refine kz_aload_n d_Bk_state_119 rfl rfl ?_
      refine kz_getIp fd_Bk_135 rfl rfl (Or.inl rfl) d_Bk_state_120 rfl ?_
      exact kz_iret rfl d_Bk_state_123 (⟨rfl, rfl⟩)
    · refine kz_tableIn (tgt := 124) d_Bk_state_1 (by decide) (by decide) rfl (by decide) ?_
      refine kz_aload_n d_Bk_state_124 rfl rfl ?_
      refine kz_getIp fd_Bk_138 rfl rfl (Or.inl rfl) d_Bk_state_125 rfl ?_
      exact kz_iret rfl d_Bk_state_128 (⟨rfl, rfl⟩)
    · refine kz_tableIn (tgt := 129) d_Bk_state_1 (by decide) (by decide) rfl (by decide) ?_
      refine kz_aload_n d_Bk_state_129 rfl rfl ?_
      refine kz_getR fd_Bk_42 rfl rfl rfl d_Bk_state_130 rfl ?_
      refine kz_callVi (c_Re_count l) cv_Bk_141 rfl rfl rfl ⟨by decide, by decide⟩ rfl (Nat.le_of_ble_eq_true rfl) d_Bk_state_133 rfl ?_
      exact kz_iret rfl d_Bk_state_136 (⟨rfl, rfl⟩)
    · refine kz_tableIn (tgt := 149) d_Bk_state_1 (by decide) (by decide) rfl (by decide) ?_
      refine kz_iconst (v := -1) d_Bk_state_149 (by decide) rfl ?_
      exact kz_iret rfl d_Bk_state_150 (⟨rfl, rfl⟩)
    · refine kz_tableIn (tgt := 137) d_Bk_state_1 (by decide) (by decide) rfl (by decide) ?_
      refine kz_aload_n d_Bk_state_137 rfl rfl ?_
      refine kz_getR fd_Bk_28 rfl rfl rfl d_Bk_state_138 rfl ?_
      refine kz_iload_n d_Bk_state_141 rfl rfl ?_
      refine kz_bipush (v := 10) d_Bk_state_142 (by decide) rfl ?_
      refine kz_isub d_Bk_state_144 rfl ?_
      refine kz_callVi (c_Ba_openRow l (kz_vin (by decide))) cv_Bk_142 rfl rfl rfl ⟨by decide, by decide⟩ rfl (Nat.le_of_ble_eq_true rfl) d_Bk_state_145 rfl ?_
      exact kz_iret rfl d_Bk_state_148 (⟨rfl, rfl⟩)
    · refine kz_tableIn (tgt := 137) d_Bk_state_1 (by decide) (by decide) rfl (by decide) ?_
      refine kz_aload_n d_Bk_state_137 rfl rfl ?_
      refine kz_getR fd_Bk_28 rfl rfl rfl d_Bk_state_138 rfl ?_
      refine kz_iload_n d_Bk_state_141 rfl rfl ?_
      refine kz_bipush (v := 10) d_Bk_state_142 (by decide) rfl ?_
      refine kz_isub d_Bk_state_144 rfl ?_
      refine kz_callVi (c_Ba_openRow l (kz_vin (by decide))) cv_Bk_142 rfl rfl rfl ⟨by decide, by decide⟩ rfl (Nat.le_of_ble_eq_true rfl) d_Bk_state_145 rfl ?_
      exact kz_iret rfl d_Bk_state_148 (⟨rfl, rfl⟩)
    · refine kz_tableIn (tgt := 137) d_Bk_state_1 (by decide) (by decide) rfl (by decide) ?_
      refine kz_aload_n d_Bk_state_137 rfl rfl ?_
      refine kz_getR fd_Bk_28 rfl rfl rfl d_Bk_state_138 rfl ?_
      refine kz_iload_n d_Bk_state_141 rfl rfl ?_
      refine kz_bipush (v := 10) d_Bk_state_142 (by decide) rfl ?_
      refine kz_isub d_Bk_state_144 rfl ?_
      refine kz_callVi (c_Ba_openRow l (kz_vin (by decide))) cv_Bk_142 rfl rfl rfl ⟨by decide, by decide⟩ rfl (Nat.le_of_ble_eq_true rfl) d_Bk_state_145 rfl ?_
      exact kz_iret rfl d_Bk_state_148 (⟨rfl, rfl⟩)
    · refine kz_tableIn (tgt := 137) d_Bk_state_1 (by decide) (by decide) rfl (by decide) ?_
      refine kz_aload_n d_Bk_state_137 rfl rfl ?_
      refine kz_getR fd_Bk_28 rfl rfl rfl d_Bk_state_138 rfl ?_
      refine kz_iload_n d_Bk_state_141 rfl rfl ?_
      refine kz_bipush (v := 10) d_Bk_state_142 (by decide) rfl ?_
      refine kz_isub d_Bk_state_144 rfl ?_
      refine kz_callVi (c_Ba_openRow l (kz_vin (by decide))) cv_Bk_142 rfl rfl rfl ⟨by decide, by decide⟩ rfl (Nat.le_of_ble_eq_true rfl) d_Bk_state_145 rfl ?_
      exact kz_iret rfl d_Bk_state_148 (⟨rfl, rfl⟩)
  · have e : cp_st M x = -1 := by rw [cp_st, if_pos hx]
    rw [e]
    refine kz_tableOut (tgt := 149) d_Bk_state_1 hx (by decide) ?_
    refine kz_iconst (v := -1) d_Bk_state_149 (by decide) rfl ?_
    exact kz_iret rfl d_Bk_state_150 (⟨rfl, rfl⟩)
