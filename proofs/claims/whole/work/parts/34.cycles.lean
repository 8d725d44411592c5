/-! Contracts of the class: a cycle, cycles. -/
theorem cy_tkl {M O : kz_M} {rs ws : List Int32} (h : cy_wf M rs ws) (hc : cy_ag O (co_dr (co_owe M))) : cx_tk O (cx_look (co_dr (co_owe M)) rs ws) := by
  intro t ht
  have k2 := cy_k2 h
  have e13 : O.1 13 = M.1 13 := (hc.2 13 (by decide)).trans (k2.1 13 (by unfold cy_pl; omega))
  have e14 : O.1 14 = M.1 14 := (hc.2 14 (by decide)).trans (k2.1 14 (by unfold cy_pl; omega))
  unfold cx_adr
  rw [e13, e14]
  rcases cx_look_mem ht with q | q
  · obtain ⟨a, b, c⟩ := h.2.2.1 t q; exact ⟨a, b, Or.inl c⟩
  · obtain ⟨a, b, c⟩ := h.2.2.2.1 t q; exact ⟨a, b, Or.inr c⟩
set_option maxRecDepth 100000 in
set_option maxHeartbeats 1000000 in
theorem lp_tick (l : Launch) {X : kz_M} {Q : Option Value → kz_M → Prop} (h : Q none (cy_tk X)) : kz_G l sC m_Bk_passCycle 37 [some (.ref 0)] [] X Q := by
  refine kz_eta ?_
  refine kz_aload_n d_Bk_passCycle_37 rfl rfl ?_
  refine kz_dup d_Bk_passCycle_38 rfl rfl ?_
  refine kz_getIp fd_Bk_66 rfl rfl (Or.inl rfl) d_Bk_passCycle_39 rfl ?_
  refine kz_iconst (v := 1) d_Bk_passCycle_42 (by decide) rfl ?_
  refine kz_iadd d_Bk_passCycle_43 rfl ?_
  refine kz_putIp fd_Bk_66 rfl rfl d_Bk_passCycle_44 rfl ?_
  exact kz_vret rfl d_Bk_passCycle_47 (h)
set_option maxRecDepth 100000 in
set_option maxHeartbeats 1000000 in
theorem c_Bk_passCycle (l : Launch) {M : kz_M} {n : Nat} {rs ws : List Int32} (h : cy_wf M rs ws) (hn : n < 32) (hnx : M.1 25 1 = nI n) : kz_T l sC m_Bk_passCycle [.ref 0] M (fun v N => v = none ∧ ∃ rs' ws', cy_R M n rs ws N rs' ws' ∧ cy_wf N rs' ws') := by
  have k1 := cy_owe h.2.2.2.2.1
  have hnx1 : (co_owe M).1 25 1 = nI n := by rw [show (co_owe M).1 25 = M.1 25 by unfold co_owe; split <;> simp [kz_u_off]]; exact hnx
  have hs1 : vp_in ((co_owe M).1 0 14) 256 := k1.2.2.2.2.2
  have k2 := cy_k2 h
  have hr2 := ln_kp h.1 k2 (by decide) (by decide)
  have hw2 := ln_kp h.2.1 k2 (by decide) (by decide)
  have hbr : ∀ r ∈ rs, vp_in r 400 := fun r hq => (h.2.2.1 r hq).1
  have hbw : ∀ r ∈ ws, vp_in r 400 := fun r hq => (h.2.2.2.1 r hq).1
  refine kz_intro (by decide +kernel) (Nat.le_of_ble_eq_true rfl) ?_
  show kz_G l sC m_Bk_passCycle 0 [some (.ref 0)] [] M _
  refine kz_aload_n d_Bk_passCycle_0 rfl rfl ?_
  refine kz_callVv (c_Bk_oweRefreshInTime l) cv_Bk_157 rfl rfl rfl ⟨by decide, by decide⟩ rfl (Nat.le_of_ble_eq_true rfl) d_Bk_passCycle_1 rfl ?_
  refine kz_eta ?_
  refine kz_aload_n d_Bk_passCycle_4 rfl rfl ?_
  refine kz_callVi (c_Bk_refreshGoesFirst l) cv_Bk_160 rfl rfl rfl ⟨by decide, by decide⟩ rfl (Nat.le_of_ble_eq_true rfl) d_Bk_passCycle_5 rfl ?_
  refine kz_if_eqb (tgt := 18) d_Bk_passCycle_8 (by decide) rfl (fun h8 => ?_) (fun h8 => ?_)
  · refine kz_aload_n d_Bk_passCycle_18 rfl rfl ?_
    refine kz_callVv (c_Bk_beginOrEndDraining l) cv_Bk_166 rfl rfl rfl ⟨by decide, by decide⟩ rfl (Nat.le_of_ble_eq_true rfl) d_Bk_passCycle_19 rfl ?_
    refine kz_eta ?_
    refine kz_aload_n d_Bk_passCycle_22 rfl rfl ?_
    refine kz_callVr (c_Bk_lookAtRequests l (rs := rs) (ws := ws) hr2 hw2 hbr hbw) cv_Bk_169 rfl rfl rfl ⟨by decide, by decide⟩ rfl (Nat.le_of_ble_eq_true rfl) d_Bk_passCycle_23 rfl (fun v23 N23 q23 => ?_)
    obtain ⟨rfl, ha23, hk23⟩ := q23
    have ha23 : ln_ag 23 (co_dr (co_owe M)) N23 := ha23
    have hk23 : ln_at N23 23 (cx_look (co_dr (co_owe M)) rs ws) := hk23
    have hc23 := ha23.cy (by decide) (by decide)
    have hrO := hr2.ag ha23 (by decide) (by decide) (by decide)
    have hwO := hw2.ag ha23 (by decide) (by decide) (by decide)
    have hnxO : N23.1 25 1 = nI n := by rw [hc23.2 25 (by decide)]; exact cy_n2 hnx
    have htk := cy_tkl h hc23
    refine kz_aload_n d_Bk_passCycle_26 rfl rfl ?_
    refine kz_callVr (c_Bk_transferOldest l (rs := rs) (ws := ws) hn hnxO hrO hwO hk23 htk) cv_Bk_172 rfl rfl rfl ⟨by decide, by decide⟩ rfl (Nat.le_of_ble_eq_true rfl) d_Bk_passCycle_27 rfl (fun v27 N27 q27 => ?_)
    obtain ⟨rfl, hO27⟩ := q27
    refine kz_if_neb (tgt := 37) d_Bk_passCycle_30 (by decide) rfl (fun h30 => ?_) (fun h30 => ?_)
    · obtain ⟨t, ht⟩ := Option.isSome_iff_exists.mp h30
      have hO27 : ct_O N23 n rs ws N27 ((cx_look (co_dr (co_owe M)) rs ws).find? (cx_may N23)) := hO27
      have ht : (cx_look (co_dr (co_owe M)) rs ws).find? (cx_may N23) = some t := ht
      rw [ht] at hO27
      exact lp_tick l (X := N27) ⟨rfl, cy_e2 h hn hnx h8 ha23 ht hO27⟩
    · have hnone := Option.isNone_iff_eq_none.mp (by rw [← Option.not_isSome, h30]; rfl : ((cx_look (co_dr (co_owe M)) rs ws).find? (cx_may N23)).isNone = true)
      have hO27 : ct_O N23 n rs ws N27 ((cx_look (co_dr (co_owe M)) rs ws).find? (cx_may N23)) := hO27
      rw [hnone] at hO27
      obtain rfl : N27 = N23 := hO27
      refine kz_aload_n d_Bk_passCycle_33 rfl rfl ?_
      refine kz_callVv (c_Bk_openOrCloseForOldest l hn hnxO hk23 htk) cv_Bk_175 rfl rfl rfl ⟨by decide, by decide⟩ rfl (Nat.le_of_ble_eq_true rfl) d_Bk_passCycle_34 rfl ?_
      refine kz_eta ?_
      exact lp_tick l (X := cx_do N27 n ((cx_look (co_dr (co_owe M)) rs ws).find? (cx_go N27 (cx_look (co_dr (co_owe M)) rs ws)))) ⟨rfl, cy_e3 h hn hnx h8 ha23 hnone⟩
  · refine kz_aload_n d_Bk_passCycle_11 rfl rfl ?_
    refine kz_callVv (c_Bk_refreshOrClose l hn hnx1 hs1) cv_Bk_163 rfl rfl rfl ⟨by decide, by decide⟩ rfl (Nat.le_of_ble_eq_true rfl) d_Bk_passCycle_12 rfl ?_
    refine kz_eta ?_
    refine kz_goto (tgt := 37) d_Bk_passCycle_15 (by decide) ?_
    exact lp_tick l (X := co_roc (co_owe M) n) ⟨rfl, cy_e1 h hn hnx h8⟩
/-- k cycles -/
def cy_C (M : kz_M) (rs ws : List Int32) : Nat → kz_M → List Int32 → List Int32 → Prop
  | 0, N, rs', ws' => N = M ∧ rs' = rs ∧ ws' = ws
  | k + 1, N, rs', ws' => ∃ (M1 : kz_M) (rs1 ws1 : List Int32) (n : Nat), cy_C M rs ws k M1 rs1 ws1 ∧ cy_wf M1 rs1 ws1 ∧ n < 32 ∧ M1.1 25 1 = nI n ∧ cy_R M1 n rs1 ws1 N rs' ws'
set_option maxRecDepth 100000 in
set_option maxHeartbeats 1000000 in
theorem lp_cyc (l : Launch) {M : kz_M} {rs ws : List Int32} {m : Nat} {bf : Int32} (hm : m ≤ 300) : ∀ (k i : Nat) (N : kz_M) (rs1 ws1 : List Int32), i + k = m → cy_C M rs ws i N rs1 ws1 → cy_wf N rs1 ws1 → kz_G l sC m_Bk_cycles 23 [some (.ref 0), some (.int (nI m)), some (.int bf), some (.int (nI i))] [] N (fun v O => ∃ rs' ws', v = some (.int (O.1 25 3 - bf)) ∧ cy_C M rs ws m O rs' ws' ∧ cy_wf O rs' ws') := by
  intro k
  induction k with
  | zero =>
    intro i N rs1 ws1 hi hC hwf
    obtain rfl : i = m := by omega
    refine kz_eta ?_
    refine kz_iload_n d_Bk_cycles_23 rfl rfl ?_
    refine kz_iload_n d_Bk_cycles_24 rfl rfl ?_
    refine kz_icmp_ge (tgt := 38) d_Bk_cycles_25 (by decide) rfl (fun h25 => ?_) (fun h25 => ?_)
    · refine kz_aload_n d_Bk_cycles_38 rfl rfl ?_
      refine kz_getR fd_Bk_62 rfl rfl rfl d_Bk_cycles_39 rfl ?_
      refine kz_callVi (c_Jo_count l) cv_Bk_109 rfl rfl rfl ⟨by decide, by decide⟩ rfl (Nat.le_of_ble_eq_true rfl) d_Bk_cycles_42 rfl ?_
      refine kz_iload_n d_Bk_cycles_45 rfl rfl ?_
      refine kz_isub d_Bk_cycles_46 rfl ?_
      exact kz_iret rfl d_Bk_cycles_47 (⟨rs1, ws1, rfl, hC, hwf⟩)
    · exact absurd (Int32.le_refl _) h25
  | succ k ih =>
    intro i N rs1 ws1 hi hC hwf
    obtain ⟨⟨n, hn, hnx⟩, -⟩ := hwf.2.2.2.2.1
    refine kz_eta ?_
    refine kz_iload_n d_Bk_cycles_23 rfl rfl ?_
    refine kz_iload_n d_Bk_cycles_24 rfl rfl ?_
    refine kz_icmp_ge (tgt := 38) d_Bk_cycles_25 (by decide) rfl (fun h25 => ?_) (fun h25 => ?_)
    · exact absurd h25 (nI_ge (by omega) (by omega))
    · refine kz_aload_n d_Bk_cycles_28 rfl rfl ?_
      refine kz_callVr (c_Bk_passCycle l hwf hn hnx) cv_Bk_112 rfl rfl rfl ⟨by decide, by decide⟩ rfl (Nat.le_of_ble_eq_true rfl) d_Bk_cycles_29 rfl (fun v29 N29 q29 => ?_)
      obtain ⟨rfl, rs2, ws2, hR29, hw29⟩ := q29
      refine kz_iinc d_Bk_cycles_32 rfl rfl (Nat.le_of_ble_eq_true rfl) (kz_inc i) rfl ?_
      refine kz_goto (tgt := 23) d_Bk_cycles_35 (by decide) ?_
      exact ih (i + 1) _ rs2 ws2 (by omega) ⟨N, rs1, ws1, n, hC, hwf, hn, hnx, hR29⟩ hw29
set_option maxRecDepth 100000 in
set_option maxHeartbeats 1000000 in
theorem c_Bk_cycles (l : Launch) {M : kz_M} {m : Nat} {rs ws : List Int32} (hm : m ≤ 300) (h : cy_wf M rs ws) : kz_T l sC m_Bk_cycles [.ref 0, .int (nI m)] M (fun v O => ∃ rs' ws', v = some (.int (O.1 25 3 - M.1 25 3)) ∧ cy_C M rs ws m O rs' ws' ∧ cy_wf O rs' ws') := by
  refine kz_intro (by decide +kernel) (Nat.le_of_ble_eq_true rfl) ?_
  show kz_G l sC m_Bk_cycles 0 [some (.ref 0), some (.int (nI m)), none, none] [] M _
  refine kz_iload_n d_Bk_cycles_0 rfl rfl ?_
  refine kz_if_lt (tgt := 11) d_Bk_cycles_1 (by decide) rfl (fun h1 => ?_) (fun h1 => ?_)
  · first | exact absurd h1 (nI_pos (by omega)) | exact absurd (nI_le (a := m) (b := 300) hm (by decide)) h8
  · refine kz_iload_n d_Bk_cycles_4 rfl rfl ?_
    refine kz_sipush (v := 300) d_Bk_cycles_5 (by decide) rfl ?_
    refine kz_icmp_le (tgt := 13) d_Bk_cycles_8 (by decide) rfl (fun h8 => ?_) (fun h8 => ?_)
    · refine kz_aload_n d_Bk_cycles_13 rfl rfl ?_
      refine kz_getR fd_Bk_62 rfl rfl rfl d_Bk_cycles_14 rfl ?_
      refine kz_callVi (c_Jo_count l) cv_Bk_109 rfl rfl rfl ⟨by decide, by decide⟩ rfl (Nat.le_of_ble_eq_true rfl) d_Bk_cycles_17 rfl ?_
      refine kz_istore_n (i := 2) d_Bk_cycles_20 rfl rfl (Nat.le_of_ble_eq_true rfl) rfl ?_
      refine kz_iconst (v := 0) d_Bk_cycles_21 (by decide) rfl ?_
      refine kz_istore_n (i := 3) d_Bk_cycles_22 rfl rfl (Nat.le_of_ble_eq_true rfl) rfl ?_
      exact lp_cyc l hm m 0 M rs ws (by omega) ⟨rfl, rfl, rfl⟩ h
    · first | exact absurd h1 (nI_pos (by omega)) | exact absurd (nI_le (a := m) (b := 300) hm (by decide)) h8
set_option maxRecDepth 100000 in
set_option maxHeartbeats 1000000 in
theorem c_Bk_cyclesx (l : Launch) {M : kz_M} {k : Int32} (h : k < 0 ∨ ¬ k ≤ 300) : kz_Dt l sC m_Bk_cycles [.ref 0, .int k] M (some (.int (-1))) M := by
  refine kz_intro (by decide +kernel) (Nat.le_of_ble_eq_true rfl) ?_
  show kz_G l sC m_Bk_cycles 0 [some (.ref 0), some (.int k), none, none] [] M _
  refine kz_iload_n d_Bk_cycles_0 rfl rfl ?_
  refine kz_if_lt (tgt := 11) d_Bk_cycles_1 (by decide) rfl (fun h1 => ?_) (fun h1 => ?_)
  · refine kz_iconst (v := -1) d_Bk_cycles_11 (by decide) rfl ?_
    exact kz_iret rfl d_Bk_cycles_12 (⟨rfl, rfl⟩)
  · refine kz_iload_n d_Bk_cycles_4 rfl rfl ?_
    refine kz_sipush (v := 300) d_Bk_cycles_5 (by decide) rfl ?_
    refine kz_icmp_le (tgt := 13) d_Bk_cycles_8 (by decide) rfl (fun h8 => ?_) (fun h8 => ?_)
    · exact absurd h8 (h.resolve_left h1)
    · refine kz_iconst (v := -1) d_Bk_cycles_11 (by decide) rfl ?_
      exact kz_iret rfl d_Bk_cycles_12 (⟨rfl, rfl⟩)
