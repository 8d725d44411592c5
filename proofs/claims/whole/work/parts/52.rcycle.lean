/-! Contracts of the reference: a cycle. -/
def rc_o1 (M : kz_M) (e : Nat) : kz_M := (kz_u (kz_u M.1 11 (M.1 16 e).toNatClampNeg (M.1 14 (M.1 16 e).toNatClampNeg)) 0 31 (nI (e + 1)), M.2)
def rc_out (M : kz_M) : Nat → Nat → kz_M
  | 0, _ => M
  | n + 1, e => if M.1 13 (M.1 16 e).toNatClampNeg = M.1 0 2 then rc_out (rc_o1 M e) n (e + 1) else M
def rc_bs (M : kz_M) (c e : Nat) : Prop := e ≤ c ∧ c ≤ 400 ∧ M.1 0 30 = nI c ∧ M.1 0 31 = nI e ∧ ∀ i, i < c → vp_in (M.1 16 i) 400
theorem rc_o1_bs {M : kz_M} {c e : Nat} (h : rc_bs M c e) (hl : e < c) : rc_bs (rc_o1 M e) c (e + 1) := by
  refine ⟨hl, h.2.1, ?_, ?_, fun i hi => ?_⟩
  · simp only [rc_o1]
    rw [kz_u_ne _ _ _ _ (by decide), kz_u_off _ _ _ _ (by decide)]
    exact h.2.2.1
  · simp only [rc_o1]
    rw [kz_u_same]
  · simp only [rc_o1]
    rw [kz_u_off _ _ _ _ (by decide), kz_u_off _ _ _ _ (by decide)]
    exact h.2.2.2.2 i hi
def rc_ge (M : kz_M) (c e : Nat) : kz_M := rc_out M (c - e) e
def rc_b (M : kz_M) : Bool := decide (6 ≤ M.1 0 3) || (!decide (M.1 0 3 ≤ 0) && decide (M.1 0 26 = 0))
def rc_R (M : kz_M) (wq : List Int32) (g c : Nat) (N : kz_M) : Prop := ∃ O, (if rc_b M = true then O = rr_ref M g else rv_R (rv_dr M) wq g c (rq_cap (rv_dr M) wq (rv_fl (rv_dr M) wq (rr_drv M))) O) ∧ N = (kz_u O.1 0 2 (O.1 0 2 + 1), O.2)
set_option maxRecDepth 100000 in
set_option maxHeartbeats 1000000 in
theorem rf_go (l : Launch) {M : kz_M} {wq : List Int32} {g c : Nat} (hq : rq_at M wq) (hg : g < 2 ^ 31) (hge : M.1 0 4 = nI g) (hc4 : c + wq.length ≤ 400) (hce : M.1 0 30 = nI c) (hs : vp_in (M.1 0 6) 256) (hb : rc_b M = true) : kz_G l sR m_Mo_cycle 128 [some (.ref 0)] [] M (fun v N => v = none ∧ rc_R M wq g c N) := by
  refine kz_aload_n d_Mo_cycle_128 rfl rfl ?_
  refine kz_callVv (c_Mo_refresh l hg hge hs) cv_Mo_242 rfl rfl rfl ⟨by decide, by decide⟩ rfl (Nat.le_of_ble_eq_true rfl) d_Mo_cycle_129 rfl ?_
  refine kz_eta ?_
  refine kz_goto (tgt := 139) d_Mo_cycle_132 (by decide) ?_
  refine kz_aload_n d_Mo_cycle_139 rfl rfl ?_
  refine kz_dup d_Mo_cycle_140 rfl rfl ?_
  refine kz_getIp fd_Mo_96 rfl rfl (Or.inl rfl) d_Mo_cycle_141 rfl ?_
  refine kz_iconst (v := 1) d_Mo_cycle_144 (by decide) rfl ?_
  refine kz_iadd d_Mo_cycle_145 rfl ?_
  refine kz_putIp fd_Mo_96 rfl rfl d_Mo_cycle_146 rfl ?_
  exact kz_vret rfl d_Mo_cycle_149 (⟨rfl, _, by rw [if_pos hb], rfl⟩)
set_option maxRecDepth 100000 in
set_option maxHeartbeats 1000000 in
theorem sv_go (l : Launch) {M : kz_M} {wq : List Int32} {g c : Nat} (hq : rq_at M wq) (hg : g < 2 ^ 31) (hge : M.1 0 4 = nI g) (hc4 : c + wq.length ≤ 400) (hce : M.1 0 30 = nI c) (hs : vp_in (M.1 0 6) 256) (hb : rc_b M = false) : kz_G l sR m_Mo_cycle 135 [some (.ref 0)] [] M (fun v N => v = none ∧ rc_R M wq g c N) := by
  refine kz_aload_n d_Mo_cycle_135 rfl rfl ?_
  refine kz_callVr (c_Mo_serve l hq hg hge hc4 hce) cv_Mo_245 rfl rfl rfl ⟨by decide, by decide⟩ rfl (Nat.le_of_ble_eq_true rfl) d_Mo_cycle_136 rfl (fun v136 N136 q136 => ?_)
  obtain ⟨rfl, hR136⟩ := q136
  refine kz_eta ?_
  refine kz_aload_n d_Mo_cycle_139 rfl rfl ?_
  refine kz_dup d_Mo_cycle_140 rfl rfl ?_
  refine kz_getIp fd_Mo_96 rfl rfl (Or.inl rfl) d_Mo_cycle_141 rfl ?_
  refine kz_iconst (v := 1) d_Mo_cycle_144 (by decide) rfl ?_
  refine kz_iadd d_Mo_cycle_145 rfl ?_
  refine kz_putIp fd_Mo_96 rfl rfl d_Mo_cycle_146 rfl ?_
  exact kz_vret rfl d_Mo_cycle_149 (⟨rfl, _, by rw [if_neg (by rw [hb]; decide)]; exact hR136, rfl⟩)
set_option maxRecDepth 100000 in
set_option maxHeartbeats 1000000 in
theorem lp_rcy (l : Launch) {M : kz_M} {wq : List Int32} {g c : Nat} (hq : rq_at M wq) (hg : g < 2 ^ 31) (hge : M.1 0 4 = nI g) (hc4 : c + wq.length ≤ 400) (hce : M.1 0 30 = nI c) (hs : vp_in (M.1 0 6) 256) : kz_G l sR m_Mo_cycle 105 [some (.ref 0)] [] M (fun v N => v = none ∧ rc_R M wq g c N) := by
  refine kz_eta ?_
  refine kz_aload_n d_Mo_cycle_105 rfl rfl ?_
  refine kz_getIp fd_Mo_187 rfl rfl (Or.inl rfl) d_Mo_cycle_106 rfl ?_
  refine kz_bipush (v := 6) d_Mo_cycle_109 (by decide) rfl ?_
  refine kz_icmp_ge (tgt := 128) d_Mo_cycle_111 (by decide) rfl (fun h111 => ?_) (fun h111 => ?_)
  · exact rf_go l hq hg hge hc4 hce hs (by unfold rc_b; rw [decide_eq_true h111]; rfl)
  · refine kz_aload_n d_Mo_cycle_114 rfl rfl ?_
    refine kz_getIp fd_Mo_187 rfl rfl (Or.inl rfl) d_Mo_cycle_115 rfl ?_
    refine kz_if_le (tgt := 135) d_Mo_cycle_118 (by decide) rfl (fun h118 => ?_) (fun h118 => ?_)
    · exact sv_go l hq hg hge hc4 hce hs (by unfold rc_b; rw [decide_eq_false h111, decide_eq_true h118]; rfl)
    · refine kz_aload_n d_Mo_cycle_121 rfl rfl ?_
      refine kz_getIp fd_Mo_134 rfl rfl (Or.inl rfl) d_Mo_cycle_122 rfl ?_
      refine kz_if_ne (tgt := 135) d_Mo_cycle_125 (by decide) rfl (fun h125 => ?_) (fun h125 => ?_)
      · exact sv_go l hq hg hge hc4 hce hs (by unfold rc_b; rw [decide_eq_false h111, decide_eq_false h125]; simp)
      · exact rf_go l hq hg hge hc4 hce hs (by unfold rc_b; rw [decide_eq_false h118, decide_eq_true h125]; simp)
theorem rc_o1_q {M : kz_M} {wq : List Int32} {e : Nat} (hq : rq_at M wq) : rq_at (rc_o1 M e) wq := by
  unfold rq_at
  rw [show (rc_o1 M e).1 0 26 = M.1 0 26 by simp [rc_o1, kz_u_ne, kz_u_off], show (rc_o1 M e).1 15 = M.1 15 by simp [rc_o1, kz_u_off], show (rc_o1 M e).1 9 = M.1 9 by simp [rc_o1, kz_u_off], show (rc_o1 M e).1 8 = M.1 8 by simp [rc_o1, kz_u_off]]
  exact hq
def rc_Q (wq : List Int32) (g c : Nat) (X : kz_M) : Option Value → kz_M → Prop := fun v N => v = none ∧ rc_R X wq g c N
set_option maxRecDepth 100000 in
set_option maxHeartbeats 1000000 in
theorem lp_rout (l : Launch) {wq : List Int32} {g c : Nat} (hg : g < 2 ^ 31) (hc4 : c + wq.length ≤ 400) : ∀ (n e : Nat) (M : kz_M), e + n = c → rc_bs M c e → rq_at M wq → M.1 0 4 = nI g → vp_in (M.1 0 6) 256 → kz_G l sR m_Mo_cycle 32 [some (.ref 0)] [] M (fun v N => v = none ∧ rc_R (rc_out M n e) wq g c N) := by
  intro n
  induction n with
  | zero =>
    intro e M he hb hq hge hs
    obtain rfl : e = c := by omega
    refine kz_eta ?_
    refine kz_aload_n d_Mo_cycle_32 rfl rfl ?_
    refine kz_getIp fd_Mo_239 rfl rfl (Or.inl rfl) d_Mo_cycle_33 rfl ?_
    refine kz_aload_n d_Mo_cycle_36 rfl rfl ?_
    refine kz_getIp fd_Mo_177 rfl rfl (Or.inl rfl) d_Mo_cycle_37 rfl ?_
    refine kz_icmp_ge (tgt := 105) d_Mo_cycle_40 (by decide) rfl (fun h40 => ?_) (fun h40 => ?_)
    · exact lp_rcy l hq hg hge hc4 hb.2.2.1 hs
    · exact absurd (by rw [hb.2.2.1, hb.2.2.2.1]; exact Int32.le_refl _) h40
  | succ n ih =>
    intro e M he hb hq hge hs
    have hec : e < c := by omega
    have hcl : (nI e).toNatClampNeg = e := nI_clamp (by omega)
    have hin : vp_in (nI e) 400 := vp_in_nI (by omega) (by decide)
    have hv := hb.2.2.2.2 e hec
    refine kz_eta ?_
    refine kz_aload_n d_Mo_cycle_32 rfl rfl ?_
    refine kz_getIp fd_Mo_239 rfl rfl (Or.inl rfl) d_Mo_cycle_33 rfl ?_
    refine kz_aload_n d_Mo_cycle_36 rfl rfl ?_
    refine kz_getIp fd_Mo_177 rfl rfl (Or.inl rfl) d_Mo_cycle_37 rfl ?_
    refine kz_icmp_ge (tgt := 105) d_Mo_cycle_40 (by decide) rfl (fun h40 => ?_) (fun h40 => ?_)
    · exact absurd (by rw [hb.2.2.1, hb.2.2.2.1] at h40; exact h40) (nI_ge (by omega) (by omega))
    · refine kz_aload_n d_Mo_cycle_43 rfl rfl ?_
      refine kz_getR fd_Mo_56 rfl rfl rfl d_Mo_cycle_44 rfl ?_
      refine kz_aload_n d_Mo_cycle_47 rfl rfl ?_
      refine kz_getR fd_Mo_65 rfl rfl rfl d_Mo_cycle_48 rfl ?_
      refine kz_aload_n d_Mo_cycle_51 rfl rfl ?_
      refine kz_getIp fd_Mo_239 rfl rfl (Or.inl rfl) d_Mo_cycle_52 rfl ?_
      refine kz_topi hb.2.2.2.1 ?_
      refine kz_ialdp rfl (by first | assumption | exact kz_vin (by decide)) hcl d_Mo_cycle_55 rfl ?_
      refine kz_ialdp rfl (by first | assumption | exact kz_vin (by decide)) rfl d_Mo_cycle_56 rfl ?_
      refine kz_aload_n d_Mo_cycle_57 rfl rfl ?_
      refine kz_getIp fd_Mo_96 rfl rfl (Or.inl rfl) d_Mo_cycle_58 rfl ?_
      refine kz_icmp_ne (tgt := 105) d_Mo_cycle_61 (by decide) rfl (fun h61 => ?_) (fun h61 => ?_)
      · rw [rc_out, if_neg h61]
        exact lp_rcy l hq hg hge hc4 hb.2.2.1 hs
      · refine kz_aload_n d_Mo_cycle_64 rfl rfl ?_
        refine kz_getR fd_Mo_50 rfl rfl rfl d_Mo_cycle_65 rfl ?_
        refine kz_aload_n d_Mo_cycle_68 rfl rfl ?_
        refine kz_getR fd_Mo_65 rfl rfl rfl d_Mo_cycle_69 rfl ?_
        refine kz_aload_n d_Mo_cycle_72 rfl rfl ?_
        refine kz_getIp fd_Mo_239 rfl rfl (Or.inl rfl) d_Mo_cycle_73 rfl ?_
        refine kz_topi hb.2.2.2.1 ?_
        refine kz_ialdp rfl (by first | assumption | exact kz_vin (by decide)) hcl d_Mo_cycle_76 rfl ?_
        refine kz_aload_n d_Mo_cycle_77 rfl rfl ?_
        refine kz_getR fd_Mo_59 rfl rfl rfl d_Mo_cycle_78 rfl ?_
        refine kz_aload_n d_Mo_cycle_81 rfl rfl ?_
        refine kz_getR fd_Mo_65 rfl rfl rfl d_Mo_cycle_82 rfl ?_
        refine kz_aload_n d_Mo_cycle_85 rfl rfl ?_
        refine kz_getIp fd_Mo_239 rfl rfl (Or.inl rfl) d_Mo_cycle_86 rfl ?_
        refine kz_topi hb.2.2.2.1 ?_
        refine kz_ialdp rfl (by first | assumption | exact kz_vin (by decide)) hcl d_Mo_cycle_89 rfl ?_
        refine kz_ialdp rfl (by first | assumption | exact kz_vin (by decide)) rfl d_Mo_cycle_90 rfl ?_
        refine kz_iastp rfl (by first | assumption | exact kz_vin (by decide)) rfl d_Mo_cycle_91 rfl ?_
        refine kz_aload_n d_Mo_cycle_92 rfl rfl ?_
        refine kz_dup d_Mo_cycle_93 rfl rfl ?_
        refine kz_getIp fd_Mo_239 rfl rfl (Or.inl rfl) d_Mo_cycle_94 rfl ?_
        refine kz_topi (y := nI e) (by rw [kz_u_off _ _ _ _ (by decide)]; exact hb.2.2.2.1) ?_
        refine kz_iconst (v := 1) d_Mo_cycle_97 (by decide) rfl ?_
        refine kz_iadd d_Mo_cycle_98 rfl ?_
        refine kz_topi (kz_inc e) ?_
        refine kz_putIp fd_Mo_239 rfl rfl d_Mo_cycle_99 rfl ?_
        refine kz_goto (tgt := 32) d_Mo_cycle_102 (by decide) ?_
        rw [rc_out, if_pos h61]
        exact ih (e + 1) (rc_o1 M e) (by omega) (rc_o1_bs hb hec) (rc_o1_q hq) (by simp [rc_o1, kz_u_ne, kz_u_off]; exact hge) (by simp [rc_o1, kz_u_ne, kz_u_off]; exact hs)
