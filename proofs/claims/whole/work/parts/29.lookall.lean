/-! Contracts of the class: looking. -/
theorem cx_pick_mem {M : kz_M} {rs ws : List Int32} {r : Int32} (h : r ∈ cx_pick M rs ws) : r ∈ rs ∨ r ∈ ws := by
  unfold cx_pick at h
  have hf : ∀ r, r ∈ cx_free M rs ws → r ∈ ws := fun r h => (List.mem_filter.mp h).1
  split at h
  · split at h
    · exact Or.inr (hf r h)
    · exact Or.inl h
  · split at h
    · exact Or.inl h
    · exact Or.inr (hf r h)
theorem cx_look_mem {M : kz_M} {rs ws : List Int32} {r : Int32} (h : r ∈ cx_look M rs ws) : r ∈ rs ∨ r ∈ ws := by
  rw [cx_look_eq] at h
  apply cx_pick_mem (M := M)
  unfold cx_cap at h
  split at h
  · cases h
  · rename_i t q e
    rw [e]
    split at h
    · exact h
    · rw [List.mem_singleton.mp h]
      exact List.mem_cons_self
set_option maxRecDepth 100000 in
set_option maxHeartbeats 1000000 in
theorem cr_Li_clear (l : Launch) {M : kz_M} {k : Nat} (hk : kl_ok k) : kz_T l sC m_Li_clear [.ref k] M (fun v O => v = none ∧ ln_ag k M O ∧ ln_at O k []) := by
  obtain ⟨hs1, hs2, hs3⟩ := kl_facts hk
  refine kz_intro (by decide +kernel) (Nat.le_of_ble_eq_true rfl) ?_
  show kz_G l sC m_Li_clear 0 [some (.ref k)] [] M _
  refine kz_aload_n d_Li_clear_0 rfl rfl ?_
  refine kz_iconst (v := 0) d_Li_clear_1 (by decide) rfl ?_
  refine kz_putIp fd_Li_15 hs1 rfl d_Li_clear_2 rfl ?_
  exact kz_vret rfl d_Li_clear_5 (⟨rfl, ln_clear.2, ln_clear.1⟩)
set_option maxRecDepth 100000 in
set_option maxHeartbeats 1000000 in
theorem cr_Li_keepFirst (l : Launch) {M : kz_M} {k : Nat} {t : Int32} {xs : List Int32} (hk : kl_ok k) (hx : ln_at M k (t :: xs)) : kz_T l sC m_Li_keepFirst [.ref k] M (fun v O => v = none ∧ ln_ag k M O ∧ ln_at O k [t]) := by
  obtain ⟨hs1, hs2, hs3⟩ := kl_facts hk
  refine kz_intro (by decide +kernel) (Nat.le_of_ble_eq_true rfl) ?_
  show kz_G l sC m_Li_keepFirst 0 [some (.ref k)] [] M _
  refine kz_aload_n d_Li_keepFirst_0 rfl rfl ?_
  refine kz_aload_n d_Li_keepFirst_1 rfl rfl ?_
  refine kz_getIp fd_Li_15 hs1 rfl (Or.inl rfl) d_Li_keepFirst_2 rfl ?_
  refine kz_iconst (v := 1) d_Li_keepFirst_5 (by decide) rfl ?_
  refine kz_min ⟨bw_mem2 147 rfl rfl, bw_mem1 21 rfl rfl, bw_mem1 2 rfl rfl, bw_mem1 22 rfl rfl⟩ ⟨by decide, by decide⟩ (Nat.le_of_ble_eq_true rfl) d_Li_keepFirst_6 rfl ?_
  refine kz_putIp fd_Li_15 hs1 rfl d_Li_keepFirst_9 rfl ?_
  exact kz_vret rfl d_Li_keepFirst_12 (⟨rfl, (ln_first hx).2, (ln_first hx).1⟩)
set_option maxRecDepth 100000 in
set_option maxHeartbeats 1000000 in
theorem cr_Li_append (l : Launch) {M : kz_M} {k : Nat} {t : Int32} {xs : List Int32} (hk : kl_ok k) (hx : ln_at M k xs) (h8 : xs.length < 8) : kz_T l sC m_Li_append [.ref k, .int t] M (fun v O => v = none ∧ ln_ag k M O ∧ ln_at O k (xs ++ [t])) := by
  obtain ⟨hs1, hs2, hs3⟩ := kl_facts hk
  refine kz_intro (by decide +kernel) (Nat.le_of_ble_eq_true rfl) ?_
  show kz_G l sC m_Li_append 0 [some (.ref k), some (.int t)] [] M _
  refine kz_aload_n d_Li_append_0 rfl rfl ?_
  refine kz_getIp fd_Li_15 hs1 rfl (Or.inl rfl) d_Li_append_1 rfl ?_
  refine kz_aload_n d_Li_append_4 rfl rfl ?_
  refine kz_getR fd_Li_9 hs1 rfl hs2 d_Li_append_5 rfl ?_
  refine kz_alen hs3 (by decide) rfl d_Li_append_8 rfl ?_
  refine kz_icmp_ge (tgt := 32) d_Li_append_9 (by decide) rfl (fun h9 => ?_) (fun h9 => ?_)
  · exact kz_vret rfl d_Li_append_32 (by first | exact absurd h9 (ln_room hx h8).2 | (rw [kz_u_off _ _ _ _ (Nat.ne_of_lt (Nat.lt_succ_self k))]; exact ⟨rfl, (ln_app hx h8).2, (ln_app hx h8).1⟩))
  · refine kz_aload_n d_Li_append_12 rfl rfl ?_
    refine kz_getR fd_Li_9 hs1 rfl hs2 d_Li_append_13 rfl ?_
    refine kz_aload_n d_Li_append_16 rfl rfl ?_
    refine kz_getIp fd_Li_15 hs1 rfl (Or.inl rfl) d_Li_append_17 rfl ?_
    refine kz_iload_n d_Li_append_20 rfl rfl ?_
    refine kz_iastp hs3 (ln_room hx h8).1 rfl d_Li_append_21 rfl ?_
    refine kz_aload_n d_Li_append_22 rfl rfl ?_
    refine kz_dup d_Li_append_23 rfl rfl ?_
    refine kz_getIp fd_Li_15 hs1 rfl (Or.inl rfl) d_Li_append_24 rfl ?_
    refine kz_iconst (v := 1) d_Li_append_27 (by decide) rfl ?_
    refine kz_iadd d_Li_append_28 rfl ?_
    refine kz_putIp fd_Li_15 hs1 rfl d_Li_append_29 rfl ?_
    exact kz_vret rfl d_Li_append_32 (by first | exact absurd h9 (ln_room hx h8).2 | (rw [kz_u_off _ _ _ _ (Nat.ne_of_lt (Nat.lt_succ_self k))]; exact ⟨rfl, (ln_app hx h8).2, (ln_app hx h8).1⟩))
set_option maxRecDepth 100000 in
set_option maxHeartbeats 1000000 in
theorem lk_end (l : Launch) {M : kz_M} {q : List Int32} (hq4 : ∀ r ∈ q, vp_in r 400) (N : kz_M) (ha : ln_ag 23 M N) (hk : ln_at N 23 q) : kz_G l sC m_Bk_lookAtRequests 53 [some (.ref 0)] [] N (fun v O => v = none ∧ ln_ag 23 M O ∧ ln_at O 23 (cx_cap M q)) := by
  have h8 := hk.2.1
  have e0 : N.1 0 = M.1 0 := ha.2 0 (by decide) (by decide)
  have e15 : N.1 15 = M.1 15 := ha.2 15 (by decide) (by decide)
  cases q with
  | nil =>
    refine kz_aload_n d_Bk_lookAtRequests_53 rfl rfl ?_
    refine kz_getR fd_Bk_56 rfl rfl rfl d_Bk_lookAtRequests_54 rfl ?_
    refine kz_callVi (c_Li_size l (by first | exact kl_19 | exact kl_21 | exact kl_23)) cv_Bk_81 rfl rfl rfl ⟨by decide, by decide⟩ rfl (Nat.le_of_ble_eq_true rfl) d_Bk_lookAtRequests_57 rfl ?_
    refine kz_topi hk.1 ?_
    refine kz_if_le (tgt := 97) d_Bk_lookAtRequests_60 (by decide) rfl (fun h60 => ?_) (fun h60 => ?_)
    · exact kz_vret rfl d_Bk_lookAtRequests_97 (⟨rfl, ha, hk⟩)
    · exact absurd (by decide) h60
  | cons t r =>
    have hi8 : vp_in (0 : Int32) 8 := kz_vin (by decide)
    have ht4 : vp_in t 400 := hq4 t List.mem_cons_self
    have hr0 : N.1 (23 + 1) (0 : Int32).toNatClampNeg = t := hk.2.2 0 t rfl
    refine kz_aload_n d_Bk_lookAtRequests_53 rfl rfl ?_
    refine kz_getR fd_Bk_56 rfl rfl rfl d_Bk_lookAtRequests_54 rfl ?_
    refine kz_callVi (c_Li_size l (by first | exact kl_19 | exact kl_21 | exact kl_23)) cv_Bk_81 rfl rfl rfl ⟨by decide, by decide⟩ rfl (Nat.le_of_ble_eq_true rfl) d_Bk_lookAtRequests_57 rfl ?_
    refine kz_topi hk.1 ?_
    refine kz_if_le (tgt := 97) d_Bk_lookAtRequests_60 (by decide) rfl (fun h60 => ?_) (fun h60 => ?_)
    · exact kz_vret rfl d_Bk_lookAtRequests_97 (by first | (have := nI_le0 h8 h60; rw [List.length_cons] at this; omega) | (rw [e0, e15] at h87; first | exact ⟨rfl, ha, by rw [cx_cap, if_pos h87]; exact hk⟩ | exact ⟨rfl, ha.tr ha94, by rw [cx_cap, if_neg h87]; exact hk94⟩))
    · refine kz_aload_n d_Bk_lookAtRequests_63 rfl rfl ?_
      refine kz_getIp fd_Bk_66 rfl rfl (Or.inl rfl) d_Bk_lookAtRequests_64 rfl ?_
      refine kz_aload_n d_Bk_lookAtRequests_67 rfl rfl ?_
      refine kz_getR fd_Bk_42 rfl rfl rfl d_Bk_lookAtRequests_68 rfl ?_
      refine kz_aload_n d_Bk_lookAtRequests_71 rfl rfl ?_
      refine kz_getR fd_Bk_56 rfl rfl rfl d_Bk_lookAtRequests_72 rfl ?_
      refine kz_iconst (v := 0) d_Bk_lookAtRequests_75 (by decide) rfl ?_
      refine kz_callVi (c_Li_at l (by first | exact kl_19 | exact kl_21 | exact kl_23) (by assumption)) cv_Bk_151 rfl rfl rfl ⟨by decide, by decide⟩ rfl (Nat.le_of_ble_eq_true rfl) d_Bk_lookAtRequests_76 rfl ?_
      refine kz_topi hr0 ?_
      refine kz_callVi (c_Re_comingOf l (by assumption)) cv_Bk_220 rfl rfl rfl ⟨by decide, by decide⟩ rfl (Nat.le_of_ble_eq_true rfl) d_Bk_lookAtRequests_79 rfl ?_
      refine kz_isub d_Bk_lookAtRequests_82 rfl ?_
      refine kz_aload_n d_Bk_lookAtRequests_83 rfl rfl ?_
      refine kz_getIp fd_Bk_22 rfl rfl (Or.inl rfl) d_Bk_lookAtRequests_84 rfl ?_
      refine kz_icmp_le (tgt := 97) d_Bk_lookAtRequests_87 (by decide) rfl (fun h87 => ?_) (fun h87 => ?_)
      · exact kz_vret rfl d_Bk_lookAtRequests_97 (by first | (have := nI_le0 h8 h60; rw [List.length_cons] at this; omega) | (rw [e0, e15] at h87; first | exact ⟨rfl, ha, by rw [cx_cap, if_pos h87]; exact hk⟩ | exact ⟨rfl, ha.tr ha94, by rw [cx_cap, if_neg h87]; exact hk94⟩))
      · refine kz_aload_n d_Bk_lookAtRequests_90 rfl rfl ?_
        refine kz_getR fd_Bk_56 rfl rfl rfl d_Bk_lookAtRequests_91 rfl ?_
        refine kz_callVr (cr_Li_keepFirst l (by first | exact kl_19 | exact kl_21 | exact kl_23) hk) cv_Bk_223 rfl rfl rfl ⟨by decide, by decide⟩ rfl (Nat.le_of_ble_eq_true rfl) d_Bk_lookAtRequests_94 rfl (fun v94 N94 q94 => ?_)
        obtain ⟨rfl, ha94, hk94⟩ := q94
        exact kz_vret rfl d_Bk_lookAtRequests_97 (by first | (have := nI_le0 h8 h60; rw [List.length_cons] at this; omega) | (rw [e0, e15] at h87; first | exact ⟨rfl, ha, by rw [cx_cap, if_pos h87]; exact hk⟩ | exact ⟨rfl, ha.tr ha94, by rw [cx_cap, if_neg h87]; exact hk94⟩))
set_option maxRecDepth 100000 in
set_option maxHeartbeats 1000000 in
theorem lk_2r (l : Launch) {M : kz_M} {rs ws : List Int32} (hr : ln_at M 19 rs) (hw : ln_at M 21 ws) (hbr : ∀ r ∈ rs, vp_in r 400) (hbw : ∀ r ∈ ws, vp_in r 400) (hq4 : ∀ r ∈ cx_pick M rs ws, vp_in r 400) (N : kz_M) (ha : ln_ag 23 M N) (hk : ln_at N 23 []) (hp : cx_pick M rs ws = rs) : kz_G l sC m_Bk_lookAtRequests 42 [some (.ref 0)] [] N (fun v O => v = none ∧ ln_ag 23 M O ∧ ln_at O 23 (cx_cap M (cx_pick M rs ws))) := by
  have hrN := hr.ag ha (by decide) (by decide) (by decide)
  have hwN := hw.ag ha (by decide) (by decide) (by decide)
  refine kz_eta ?_
  refine kz_aload_n d_Bk_lookAtRequests_42 rfl rfl ?_
  refine kz_callVr (c_Bk_lookAtReadings l (by assumption) (by assumption)) cv_Bk_217 rfl rfl rfl ⟨by decide, by decide⟩ rfl (Nat.le_of_ble_eq_true rfl) d_Bk_lookAtRequests_43 rfl (fun v43 N43 q43 => ?_)
  obtain ⟨rfl, ha43, hk43⟩ := q43
  refine kz_goto (tgt := 53) d_Bk_lookAtRequests_46 (by decide) ?_
  exact lk_end l hq4 _ (ha.tr ha43) (by rw [hp]; exact hk43)
set_option maxRecDepth 100000 in
set_option maxHeartbeats 1000000 in
theorem lk_2w (l : Launch) {M : kz_M} {rs ws : List Int32} (hr : ln_at M 19 rs) (hw : ln_at M 21 ws) (hbr : ∀ r ∈ rs, vp_in r 400) (hbw : ∀ r ∈ ws, vp_in r 400) (hq4 : ∀ r ∈ cx_pick M rs ws, vp_in r 400) (N : kz_M) (ha : ln_ag 23 M N) (hk : ln_at N 23 []) (hp : cx_pick M rs ws = cx_free M rs ws) : kz_G l sC m_Bk_lookAtRequests 49 [some (.ref 0)] [] N (fun v O => v = none ∧ ln_ag 23 M O ∧ ln_at O 23 (cx_cap M (cx_pick M rs ws))) := by
  have hrN := hr.ag ha (by decide) (by decide) (by decide)
  have hwN := hw.ag ha (by decide) (by decide) (by decide)
  refine kz_eta ?_
  refine kz_aload_n d_Bk_lookAtRequests_49 rfl rfl ?_
  refine kz_callVr (c_Bk_lookAtWritings l (rs := rs) (ws := ws) (by assumption) (by assumption) hbr hbw (by assumption)) cv_Bk_214 rfl rfl rfl ⟨by decide, by decide⟩ rfl (Nat.le_of_ble_eq_true rfl) d_Bk_lookAtRequests_50 rfl (fun v50 N50 q50 => ?_)
  obtain ⟨rfl, ha50, hk50⟩ := q50
  exact lk_end l hq4 _ (ha.tr ha50) (by rw [hp, ← cx_free_ag ha]; exact hk50)
set_option maxRecDepth 100000 in
set_option maxHeartbeats 1000000 in
theorem c_Bk_lookAtRequests (l : Launch) {M : kz_M} {rs ws : List Int32} (hr : ln_at M 19 rs) (hw : ln_at M 21 ws) (hbr : ∀ r ∈ rs, vp_in r 400) (hbw : ∀ r ∈ ws, vp_in r 400) : kz_T l sC m_Bk_lookAtRequests [.ref 0] M (fun v O => v = none ∧ ln_ag 23 M O ∧ ln_at O 23 (cx_look M rs ws)) := by
  have hq4 : ∀ r ∈ cx_pick M rs ws, vp_in r 400 := fun r h => (cx_pick_mem h).elim (hbr r) (hbw r)
  rw [cx_look_eq]
  refine kz_intro (by decide +kernel) (Nat.le_of_ble_eq_true rfl) ?_
  show kz_G l sC m_Bk_lookAtRequests 0 [some (.ref 0)] [] M _
  refine kz_aload_n d_Bk_lookAtRequests_0 rfl rfl ?_
  refine kz_getR fd_Bk_56 rfl rfl rfl d_Bk_lookAtRequests_1 rfl ?_
  refine kz_callVr (cr_Li_clear l (by first | exact kl_19 | exact kl_21 | exact kl_23)) cv_Bk_211 rfl rfl rfl ⟨by decide, by decide⟩ rfl (Nat.le_of_ble_eq_true rfl) d_Bk_lookAtRequests_4 rfl (fun v4 N4 q4 => ?_)
  obtain ⟨rfl, ha4, hk4⟩ := q4
  have hr4 := hr.ag ha4 (by decide) (by decide) (by decide)
  have hw4 := hw.ag ha4 (by decide) (by decide) (by decide)
  have e4 : N4.1 0 12 = M.1 0 12 := by rw [ha4.2 0 (by decide) (by decide)]
  refine kz_aload_n d_Bk_lookAtRequests_7 rfl rfl ?_
  refine kz_getIp fd_Bk_131 rfl rfl (Or.inr rfl) d_Bk_lookAtRequests_8 rfl ?_
  refine kz_if_eq (tgt := 21) d_Bk_lookAtRequests_11 (by decide) rfl (fun h11 => ?_) (fun h11 => ?_)
  · refine kz_aload_n d_Bk_lookAtRequests_21 rfl rfl ?_
    refine kz_callVr (c_Bk_lookAtReadings l (by assumption) (by assumption)) cv_Bk_217 rfl rfl rfl ⟨by decide, by decide⟩ rfl (Nat.le_of_ble_eq_true rfl) d_Bk_lookAtRequests_22 rfl (fun v22 N22 q22 => ?_)
    obtain ⟨rfl, ha22, hk22⟩ := q22
    have hb22 := ha4.tr ha22
    have hr22 := hr.ag hb22 (by decide) (by decide) (by decide)
    have hw22 := hw.ag hb22 (by decide) (by decide) (by decide)
    have e22 : N22.1 0 12 = M.1 0 12 := by rw [hb22.2 0 (by decide) (by decide)]
    refine kz_aload_n d_Bk_lookAtRequests_25 rfl rfl ?_
    refine kz_getR fd_Bk_56 rfl rfl rfl d_Bk_lookAtRequests_26 rfl ?_
    refine kz_callVi (c_Li_size l (by first | exact kl_19 | exact kl_21 | exact kl_23)) cv_Bk_81 rfl rfl rfl ⟨by decide, by decide⟩ rfl (Nat.le_of_ble_eq_true rfl) d_Bk_lookAtRequests_29 rfl ?_
    first | refine kz_topi hk15.1 ?_ | refine kz_topi hk22.1 ?_
    refine kz_if_ne (tgt := 53) d_Bk_lookAtRequests_32 (by decide) rfl (fun h32 => ?_) (fun h32 => ?_)
    · first | exact lk_end l hq4 _ hb15 (by rw [cx_pick, if_neg (by rw [← e4]; exact h11), if_neg (fun z => h32 (by rw [z]; rfl))]; exact hk15) | exact lk_end l hq4 _ hb22 (by rw [cx_pick, if_pos (by rw [← e4]; exact h11), if_neg (fun z => h32 (by rw [z]; rfl))]; exact hk22)
    · refine kz_aload_n d_Bk_lookAtRequests_35 rfl rfl ?_
      refine kz_getIp fd_Bk_131 rfl rfl (Or.inr rfl) d_Bk_lookAtRequests_36 rfl ?_
      refine kz_if_eq (tgt := 49) d_Bk_lookAtRequests_39 (by decide) rfl (fun h39 => ?_) (fun h39 => ?_)
      · first | exact absurd ((e4.trans e15.symm).trans h39) h11 | (have hz := List.length_eq_zero_iff.mp (nI_len0 hk22.2.1 h32); exact lk_2w l hr hw hbr hbw hq4 _ hb22 (by rw [hz] at hk22; exact hk22) (by rw [cx_pick, if_pos (by rw [← e4]; exact h11), if_pos hz]))
      · first | exact absurd ((e22.trans e4.symm).trans h11) h39 | (have hz := List.length_eq_zero_iff.mp (nI_len0 hk15.2.1 h32); exact lk_2r l hr hw hbr hbw hq4 _ hb15 (by rw [hz] at hk15; exact hk15) (by rw [cx_pick, if_neg (by rw [← e4]; exact h11), if_pos hz]))
  · refine kz_aload_n d_Bk_lookAtRequests_14 rfl rfl ?_
    refine kz_callVr (c_Bk_lookAtWritings l (rs := rs) (ws := ws) (by assumption) (by assumption) hbr hbw (by assumption)) cv_Bk_214 rfl rfl rfl ⟨by decide, by decide⟩ rfl (Nat.le_of_ble_eq_true rfl) d_Bk_lookAtRequests_15 rfl (fun v15 N15 q15 => ?_)
    obtain ⟨rfl, ha15, hk15⟩ := q15
    have hb15 := ha4.tr ha15
    have hr15 := hr.ag hb15 (by decide) (by decide) (by decide)
    have hw15 := hw.ag hb15 (by decide) (by decide) (by decide)
    rw [cx_free_ag ha4] at hk15
    have e15 : N15.1 0 12 = M.1 0 12 := by rw [hb15.2 0 (by decide) (by decide)]
    refine kz_goto (tgt := 25) d_Bk_lookAtRequests_18 (by decide) ?_
    refine kz_aload_n d_Bk_lookAtRequests_25 rfl rfl ?_
    refine kz_getR fd_Bk_56 rfl rfl rfl d_Bk_lookAtRequests_26 rfl ?_
    refine kz_callVi (c_Li_size l (by first | exact kl_19 | exact kl_21 | exact kl_23)) cv_Bk_81 rfl rfl rfl ⟨by decide, by decide⟩ rfl (Nat.le_of_ble_eq_true rfl) d_Bk_lookAtRequests_29 rfl ?_
    first | refine kz_topi hk15.1 ?_ | refine kz_topi hk22.1 ?_
    refine kz_if_ne (tgt := 53) d_Bk_lookAtRequests_32 (by decide) rfl (fun h32 => ?_) (fun h32 => ?_)
    · first | exact lk_end l hq4 _ hb15 (by rw [cx_pick, if_neg (by rw [← e4]; exact h11), if_neg (fun z => h32 (by rw [z]; rfl))]; exact hk15) | exact lk_end l hq4 _ hb22 (by rw [cx_pick, if_pos (by rw [← e4]; exact h11), if_neg (fun z => h32 (by rw [z]; rfl))]; exact hk22)
    · refine kz_aload_n d_Bk_lookAtRequests_35 rfl rfl ?_
      refine kz_getIp fd_Bk_131 rfl rfl (Or.inr rfl) d_Bk_lookAtRequests_36 rfl ?_
      refine kz_if_eq (tgt := 49) d_Bk_lookAtRequests_39 (by decide) rfl (fun h39 => ?_) (fun h39 => ?_)
      · first | exact absurd ((e4.trans e15.symm).trans h39) h11 | (have hz := List.length_eq_zero_iff.mp (nI_len0 hk22.2.1 h32); exact lk_2w l hr hw hbr hbw hq4 _ hb22 (by rw [hz] at hk22; exact hk22) (by rw [cx_pick, if_pos (by rw [← e4]; exact h11), if_pos hz]))
      · first | exact absurd ((e22.trans e4.symm).trans h11) h39 | (have hz := List.length_eq_zero_iff.mp (nI_len0 hk15.2.1 h32); exact lk_2r l hr hw hbr hbw hq4 _ hb15 (by rw [hz] at hk15; exact hk15) (by rw [cx_pick, if_neg (by rw [← e4]; exact h11), if_pos hz]))
