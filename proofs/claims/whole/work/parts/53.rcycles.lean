/-! Contracts of the reference: a cycle, cycles, reading and writing. -/
def rc_od (M : kz_M) : Bool := !decide (M.1 0 2 ≤ 0) && decide (M.1 0 2 - M.1 0 2 / M.1 1 13 * M.1 1 13 = 0)
def rc_ow (M : kz_M) : kz_M := if rc_od M = true then (kz_u M.1 0 3 (M.1 0 3 + 1), M.2) else M
def rc_in (M : kz_M) (c e : Nat) : kz_M := rc_out (rc_ow M) (c - e) e
theorem rc_ow_q {M : kz_M} {wq : List Int32} (hq : rq_at M wq) : rq_at (kz_u M.1 0 3 (M.1 0 3 + 1), M.2) wq := by
  simp only [rq_at]
  rw [show (kz_u M.1 0 3 (M.1 0 3 + 1)) 0 26 = M.1 0 26 by simp [kz_u_ne], show (kz_u M.1 0 3 (M.1 0 3 + 1)) 15 = M.1 15 by simp [kz_u_off], show (kz_u M.1 0 3 (M.1 0 3 + 1)) 9 = M.1 9 by simp [kz_u_off], show (kz_u M.1 0 3 (M.1 0 3 + 1)) 8 = M.1 8 by simp [kz_u_off]]
  exact hq
theorem rc_ow_bs {M : kz_M} {c e : Nat} (h : rc_bs M c e) : rc_bs (kz_u M.1 0 3 (M.1 0 3 + 1), M.2) c e := by
  simp only [rc_bs]
  rw [show (kz_u M.1 0 3 (M.1 0 3 + 1)) 0 30 = M.1 0 30 by simp [kz_u_ne], show (kz_u M.1 0 3 (M.1 0 3 + 1)) 0 31 = M.1 0 31 by simp [kz_u_ne], show (kz_u M.1 0 3 (M.1 0 3 + 1)) 16 = M.1 16 by simp [kz_u_off]]
  exact h
set_option maxRecDepth 100000 in
set_option maxHeartbeats 1000000 in
theorem c_Mo_cycle (l : Launch) {M : kz_M} {wq : List Int32} {g c e : Nat} (hq : rq_at M wq) (hg : g < 2 ^ 31) (hge : M.1 0 4 = nI g) (hc4 : c + wq.length ≤ 400) (hb : rc_bs M c e) (hs : vp_in (M.1 0 6) 256) (hT : ¬ M.1 1 13 = 0) : kz_T l sR m_Mo_cycle [.ref 0] M (fun v N => v = none ∧ rc_R (rc_in M c e) wq g c N) := by
  have h13 : vp_in 13 14 := kz_vin (by decide)
  refine kz_intro (by decide +kernel) (Nat.le_of_ble_eq_true rfl) ?_
  show kz_G l sR m_Mo_cycle 0 [some (.ref 0)] [] M _
  refine kz_aload_n d_Mo_cycle_0 rfl rfl ?_
  refine kz_getIp fd_Mo_96 rfl rfl (Or.inl rfl) d_Mo_cycle_1 rfl ?_
  refine kz_if_le (tgt := 32) d_Mo_cycle_4 (by decide) rfl (fun h4 => ?_) (fun h4 => ?_)
  · have hm : rc_ow M = M := by unfold rc_ow; rw [if_neg (by unfold rc_od; rw [decide_eq_true h4]; simp)]
    rw [rc_in, hm]
    exact lp_rout l hg hc4 (c - e) e M (by have := hb.1; omega) hb hq hge hs
  · refine kz_aload_n d_Mo_cycle_7 rfl rfl ?_
    refine kz_getIp fd_Mo_96 rfl rfl (Or.inl rfl) d_Mo_cycle_8 rfl ?_
    refine kz_aload_n d_Mo_cycle_11 rfl rfl ?_
    refine kz_getR fd_Mo_7 rfl rfl rfl d_Mo_cycle_12 rfl ?_
    refine kz_bipush (v := 13) d_Mo_cycle_15 (by decide) rfl ?_
    refine kz_ialdp rfl (by first | assumption | exact kz_vin (by decide)) (j := 13) (by decide) d_Mo_cycle_17 rfl ?_
    refine kz_irem d_Mo_cycle_18 (by first | assumption | decide) rfl ?_
    refine kz_if_ne (tgt := 32) d_Mo_cycle_19 (by decide) rfl (fun h19 => ?_) (fun h19 => ?_)
    · have hm : rc_ow M = M := by unfold rc_ow; rw [if_neg (by unfold rc_od; rw [decide_eq_false h19]; simp)]
      rw [rc_in, hm]
      exact lp_rout l hg hc4 (c - e) e M (by have := hb.1; omega) hb hq hge hs
    · refine kz_aload_n d_Mo_cycle_22 rfl rfl ?_
      refine kz_dup d_Mo_cycle_23 rfl rfl ?_
      refine kz_getIp fd_Mo_187 rfl rfl (Or.inl rfl) d_Mo_cycle_24 rfl ?_
      refine kz_iconst (v := 1) d_Mo_cycle_27 (by decide) rfl ?_
      refine kz_iadd d_Mo_cycle_28 rfl ?_
      refine kz_putIp fd_Mo_187 rfl rfl d_Mo_cycle_29 rfl ?_
      have hm : rc_ow M = (kz_u M.1 0 3 (M.1 0 3 + 1), M.2) := by unfold rc_ow; rw [if_pos (by unfold rc_od; rw [decide_eq_false h4, decide_eq_true h19]; rfl)]
      rw [rc_in, hm]
      exact lp_rout l hg hc4 (c - e) e _ (by have := hb.1; omega) (rc_ow_bs hb) (rc_ow_q hq) (by simp [kz_u_ne]; exact hge) (by simp [kz_u_ne]; exact hs)
/-- the reference goes along a chain: one cycle of it, from any memory that P holds of, ends at the next -/
def rc_st (P P' : kz_M → Prop) : Prop := ∀ M, P M → ∃ (wq : List Int32) (g c e : Nat), rq_at M wq ∧ g < 2 ^ 31 ∧ M.1 0 4 = nI g ∧ c + wq.length ≤ 400 ∧ rc_bs M c e ∧ vp_in (M.1 0 6) 256 ∧ ¬ M.1 1 13 = 0 ∧ ∀ N, rc_R (rc_in M c e) wq g c N → P' N
set_option maxRecDepth 100000 in
set_option maxHeartbeats 1000000 in
theorem lp_rcs (l : Launch) {P : Nat → kz_M → Prop} {m : Nat} {bf : Int32} (hm : m ≤ 300) (hP : ∀ i, i < m → rc_st (P i) (P (i + 1))) : ∀ (k i : Nat) (M : kz_M), i + k = m → P i M → kz_G l sR m_Mo_cycles 20 [some (.ref 0), some (.int (nI m)), some (.int bf), some (.int (nI i))] [] M (fun v O => v = some (.int (O.1 0 4 - bf)) ∧ P m O) := by
  intro k
  induction k with
  | zero =>
    intro i M hi hM
    obtain rfl : i = m := by omega
    refine kz_eta ?_
    refine kz_iload_n d_Mo_cycles_20 rfl rfl ?_
    refine kz_iload_n d_Mo_cycles_21 rfl rfl ?_
    refine kz_icmp_ge (tgt := 35) d_Mo_cycles_22 (by decide) rfl (fun h22 => ?_) (fun h22 => ?_)
    · refine kz_aload_n d_Mo_cycles_35 rfl rfl ?_
      refine kz_getIp fd_Mo_160 rfl rfl (Or.inl rfl) d_Mo_cycles_36 rfl ?_
      refine kz_iload_n d_Mo_cycles_39 rfl rfl ?_
      refine kz_isub d_Mo_cycles_40 rfl ?_
      exact kz_iret rfl d_Mo_cycles_41 (⟨rfl, hM⟩)
    · exact absurd (Int32.le_refl _) h22
  | succ k ih =>
    intro i M hi hM
    obtain ⟨wq, g, c, e, q1, q2, q3, q4, q5, q6, q7, q8⟩ := hP i (by omega) M hM
    refine kz_eta ?_
    refine kz_iload_n d_Mo_cycles_20 rfl rfl ?_
    refine kz_iload_n d_Mo_cycles_21 rfl rfl ?_
    refine kz_icmp_ge (tgt := 35) d_Mo_cycles_22 (by decide) rfl (fun h22 => ?_) (fun h22 => ?_)
    · exact absurd h22 (nI_ge (by omega) (by omega))
    · refine kz_aload_n d_Mo_cycles_25 rfl rfl ?_
      refine kz_callVr (c_Mo_cycle l q1 q2 q3 q4 q5 q6 q7) cv_Mo_248 rfl rfl rfl ⟨by decide, by decide⟩ rfl (Nat.le_of_ble_eq_true rfl) d_Mo_cycles_26 rfl (fun v26 N26 q26 => ?_)
      obtain ⟨rfl, hR26⟩ := q26
      refine kz_iinc d_Mo_cycles_29 rfl rfl (Nat.le_of_ble_eq_true rfl) (kz_inc i) rfl ?_
      refine kz_goto (tgt := 20) d_Mo_cycles_32 (by decide) ?_
      exact ih (i + 1) _ (by omega) (q8 _ hR26)
set_option maxRecDepth 100000 in
set_option maxHeartbeats 1000000 in
theorem c_Mo_cycles (l : Launch) {M : kz_M} {P : Nat → kz_M → Prop} {m : Nat} (hm : m ≤ 300) (hP : ∀ i, i < m → rc_st (P i) (P (i + 1))) (hM : P 0 M) : kz_T l sR m_Mo_cycles [.ref 0, .int (nI m)] M (fun v O => v = some (.int (O.1 0 4 - M.1 0 4)) ∧ P m O) := by
  refine kz_intro (by decide +kernel) (Nat.le_of_ble_eq_true rfl) ?_
  show kz_G l sR m_Mo_cycles 0 [some (.ref 0), some (.int (nI m)), none, none] [] M _
  refine kz_iload_n d_Mo_cycles_0 rfl rfl ?_
  refine kz_if_lt (tgt := 11) d_Mo_cycles_1 (by decide) rfl (fun h1 => ?_) (fun h1 => ?_)
  · exact absurd h1 (Int32.not_lt.mpr (nI_leI (a := 0) (b := m) (by decide) (by omega) |>.mpr (Nat.zero_le _)))
  · refine kz_iload_n d_Mo_cycles_4 rfl rfl ?_
    refine kz_sipush (v := 300) d_Mo_cycles_5 (by decide) rfl ?_
    refine kz_icmp_le (tgt := 13) d_Mo_cycles_8 (by decide) rfl (fun h8 => ?_) (fun h8 => ?_)
    · refine kz_aload_n d_Mo_cycles_13 rfl rfl ?_
      refine kz_getIp fd_Mo_160 rfl rfl (Or.inl rfl) d_Mo_cycles_14 rfl ?_
      refine kz_istore_n (i := 2) d_Mo_cycles_17 rfl rfl (Nat.le_of_ble_eq_true rfl) rfl ?_
      refine kz_iconst (v := 0) d_Mo_cycles_18 (by decide) rfl ?_
      refine kz_istore_n (i := 3) d_Mo_cycles_19 rfl rfl (Nat.le_of_ble_eq_true rfl) rfl ?_
      exact lp_rcs l hm hP m 0 M (by omega) hM
    · exact absurd (nI_leI (a := m) (b := 300) (by omega) (by decide) |>.mpr hm) h8
set_option maxRecDepth 100000 in
set_option maxHeartbeats 1000000 in
theorem c_Mo_cyclesx (l : Launch) {M : kz_M} {k : Int32} (h : k < 0 ∨ ¬ k ≤ 300) : kz_Dt l sR m_Mo_cycles [.ref 0, .int k] M (some (.int (-1))) M := by
  refine kz_intro (by decide +kernel) (Nat.le_of_ble_eq_true rfl) ?_
  show kz_G l sR m_Mo_cycles 0 [some (.ref 0), some (.int k), none, none] [] M _
  refine kz_iload_n d_Mo_cycles_0 rfl rfl ?_
  refine kz_if_lt (tgt := 11) d_Mo_cycles_1 (by decide) rfl (fun h1 => ?_) (fun h1 => ?_)
  · refine kz_iconst (v := -1) d_Mo_cycles_11 (by decide) rfl ?_
    exact kz_iret rfl d_Mo_cycles_12 (⟨rfl, rfl⟩)
  · refine kz_iload_n d_Mo_cycles_4 rfl rfl ?_
    refine kz_sipush (v := 300) d_Mo_cycles_5 (by decide) rfl ?_
    refine kz_icmp_le (tgt := 13) d_Mo_cycles_8 (by decide) rfl (fun h8 => ?_) (fun h8 => ?_)
    · exact absurd h (fun z => z.elim h1 (fun y => y h8))
    · refine kz_iconst (v := -1) d_Mo_cycles_11 (by decide) rfl ?_
      exact kz_iret rfl d_Mo_cycles_12 (⟨rfl, rfl⟩)
