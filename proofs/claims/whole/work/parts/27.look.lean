/-! Contracts of the class: the requests that are looked at. -/
theorem cx_held_ag {M N : kz_M} (h : ln_ag 23 M N) (rs : List Int32) (w : Int32) : cx_held N rs w = cx_held M rs w := by
  have e : ∀ t, cx_adr N t = cx_adr M t := fun t => by unfold cx_adr; rw [h.2 13 (by decide) (by decide)]
  unfold cx_held
  simp only [e]
theorem cx_free_ag {M N : kz_M} (h : ln_ag 23 M N) (rs ws : List Int32) : cx_free N rs ws = cx_free M rs ws := by
  unfold cx_free
  simp only [cx_held_ag h]
set_option maxRecDepth 100000 in
set_option maxHeartbeats 1000000 in
theorem lp_lkr (l : Launch) {M : kz_M} {rs : List Int32} (hr : ln_at M 19 rs) : ∀ (ys : List Int32) (i : Nat) (N : kz_M) (lk : List Int32), rs.drop i = ys → i ≤ 8 → ln_ag 23 M N → ln_at N 23 lk → lk.length + ys.length ≤ 8 → kz_G l sC m_Bk_lookAtReadings 2 [some (.ref 0), some (.int (nI i))] [] N (fun v O => v = none ∧ ln_ag 23 M O ∧ ln_at O 23 (lk ++ ys)) := by
  intro ys
  have h8 := hr.2.1
  induction ys with
  | nil =>
    intro i N lk hd hi ha hk hle
    have hl := ln_drop0 hd
    have hrN : ln_at N 19 rs := hr.ag ha (by decide) (by decide) (by decide)
    refine kz_iload_n d_Bk_lookAtReadings_2 rfl rfl ?_
    refine kz_aload_n d_Bk_lookAtReadings_3 rfl rfl ?_
    refine kz_getR fd_Bk_49 rfl rfl rfl d_Bk_lookAtReadings_4 rfl ?_
    refine kz_callVi (c_Li_size l (by first | exact kl_19 | exact kl_21 | exact kl_23)) cv_Bk_81 rfl rfl rfl ⟨by decide, by decide⟩ rfl (Nat.le_of_ble_eq_true rfl) d_Bk_lookAtReadings_7 rfl ?_
    refine kz_topi hrN.1 ?_
    refine kz_icmp_ge (tgt := 34) d_Bk_lookAtReadings_10 (by decide) rfl (fun h10 => ?_) (fun h10 => ?_)
    · exact kz_vret rfl d_Bk_lookAtReadings_34 (⟨rfl, ha, by rw [List.append_nil]; exact hk⟩)
    · exact absurd (nI_le hl (by omega)) h10
  | cons y ys ih =>
    intro i N lk hd hi ha hk hle
    obtain ⟨hl, hy, hd2⟩ := ln_drop hd
    rw [List.length_cons] at hle
    have hrN : ln_at N 19 rs := hr.ag ha (by decide) (by decide) (by decide)
    have hi8 : vp_in (nI i) 8 := ln_in8 hl h8
    obtain ⟨hq1, hq2⟩ := ln_room hk (by omega)
    obtain ⟨hp1, hp2⟩ := ln_app (t := y) hk (by omega)
    refine kz_iload_n d_Bk_lookAtReadings_2 rfl rfl ?_
    refine kz_aload_n d_Bk_lookAtReadings_3 rfl rfl ?_
    refine kz_getR fd_Bk_49 rfl rfl rfl d_Bk_lookAtReadings_4 rfl ?_
    refine kz_callVi (c_Li_size l (by first | exact kl_19 | exact kl_21 | exact kl_23)) cv_Bk_81 rfl rfl rfl ⟨by decide, by decide⟩ rfl (Nat.le_of_ble_eq_true rfl) d_Bk_lookAtReadings_7 rfl ?_
    refine kz_topi hrN.1 ?_
    refine kz_icmp_ge (tgt := 34) d_Bk_lookAtReadings_10 (by decide) rfl (fun h10 => ?_) (fun h10 => ?_)
    · exact absurd h10 (nI_ge hl (by omega))
    · refine kz_aload_n d_Bk_lookAtReadings_13 rfl rfl ?_
      refine kz_getR fd_Bk_56 rfl rfl rfl d_Bk_lookAtReadings_14 rfl ?_
      refine kz_aload_n d_Bk_lookAtReadings_17 rfl rfl ?_
      refine kz_getR fd_Bk_49 rfl rfl rfl d_Bk_lookAtReadings_18 rfl ?_
      refine kz_iload_n d_Bk_lookAtReadings_21 rfl rfl ?_
      refine kz_callVi (c_Li_at l (by first | exact kl_19 | exact kl_21 | exact kl_23) (by assumption)) cv_Bk_151 rfl rfl rfl ⟨by decide, by decide⟩ rfl (Nat.le_of_ble_eq_true rfl) d_Bk_lookAtReadings_22 rfl ?_
      refine kz_topi (ln_read hrN hy) ?_
      refine kz_callVv (c_Li_append l (by first | exact kl_19 | exact kl_21 | exact kl_23) (by assumption) (by assumption)) cv_Bk_93 rfl rfl rfl ⟨by decide, by decide⟩ rfl (Nat.le_of_ble_eq_true rfl) d_Bk_lookAtReadings_25 rfl ?_
      refine kz_eta ?_
      refine kz_iinc d_Bk_lookAtReadings_28 rfl rfl (Nat.le_of_ble_eq_true rfl) (kz_inc i) rfl ?_
      refine kz_goto (tgt := 2) d_Bk_lookAtReadings_31 (by decide) ?_
      have h := ih (i + 1) _ (lk ++ [y]) hd2 (by omega) (ha.tr hp2) hp1 (by rw [List.length_append]; simp; omega)
      rw [List.append_assoc] at h
      exact h
set_option maxRecDepth 100000 in
set_option maxHeartbeats 1000000 in
theorem c_Bk_lookAtReadings (l : Launch) {M : kz_M} {rs : List Int32} (hr : ln_at M 19 rs) (hk : ln_at M 23 []) : kz_T l sC m_Bk_lookAtReadings [.ref 0] M (fun v O => v = none ∧ ln_ag 23 M O ∧ ln_at O 23 rs) := by
  refine kz_intro (by decide +kernel) (Nat.le_of_ble_eq_true rfl) ?_
  show kz_G l sC m_Bk_lookAtReadings 0 [some (.ref 0), none] [] M _
  refine kz_iconst (v := 0) d_Bk_lookAtReadings_0 (by decide) rfl ?_
  refine kz_istore_n (i := 1) d_Bk_lookAtReadings_1 rfl rfl (Nat.le_of_ble_eq_true rfl) rfl ?_
  have h := lp_lkr l hr rs 0 M [] rfl (by decide) ln_ag.rf hk (by have := hr.2.1; simpa using this)
  exact h
set_option maxRecDepth 100000 in
set_option maxHeartbeats 1000000 in
theorem lp_lkw (l : Launch) {M : kz_M} {rs ws : List Int32} (hr : ln_at M 19 rs) (hw : ln_at M 21 ws) (hbr : ∀ r ∈ rs, vp_in r 400) (hbw : ∀ r ∈ ws, vp_in r 400) : ∀ (ys : List Int32) (i : Nat) (N : kz_M) (lk : List Int32), ws.drop i = ys → i ≤ 8 → ln_ag 23 M N → ln_at N 23 lk → lk.length + ys.length ≤ 8 → kz_G l sC m_Bk_lookAtWritings 2 [some (.ref 0), some (.int (nI i))] [] N (fun v O => v = none ∧ ln_ag 23 M O ∧ ln_at O 23 (lk ++ cx_free M rs ys)) := by
  intro ys
  have h8 := hw.2.1
  induction ys with
  | nil =>
    intro i N lk hd hi ha hk hle
    have hl := ln_drop0 hd
    have hwN : ln_at N 21 ws := hw.ag ha (by decide) (by decide) (by decide)
    refine kz_iload_n d_Bk_lookAtWritings_2 rfl rfl ?_
    refine kz_aload_n d_Bk_lookAtWritings_3 rfl rfl ?_
    refine kz_getR fd_Bk_53 rfl rfl rfl d_Bk_lookAtWritings_4 rfl ?_
    refine kz_callVi (c_Li_size l (by first | exact kl_19 | exact kl_21 | exact kl_23)) cv_Bk_81 rfl rfl rfl ⟨by decide, by decide⟩ rfl (Nat.le_of_ble_eq_true rfl) d_Bk_lookAtWritings_7 rfl ?_
    refine kz_topi hwN.1 ?_
    refine kz_icmp_ge (tgt := 49) d_Bk_lookAtWritings_10 (by decide) rfl (fun h10 => ?_) (fun h10 => ?_)
    · exact kz_vret rfl d_Bk_lookAtWritings_49 (⟨rfl, ha, by rw [cx_free, List.filter_nil, List.append_nil]; exact hk⟩)
    · exact absurd (nI_le hl (by omega)) h10
  | cons y ys ih =>
    intro i N lk hd hi ha hk hle
    obtain ⟨hl, hy, hd2⟩ := ln_drop hd
    rw [List.length_cons] at hle
    have hrN : ln_at N 19 rs := hr.ag ha (by decide) (by decide) (by decide)
    have hwN : ln_at N 21 ws := hw.ag ha (by decide) (by decide) (by decide)
    have hi8 : vp_in (nI i) 8 := ln_in8 hl h8
    have hy4 : vp_in y 400 := hbw y (List.mem_of_getElem? hy)
    obtain ⟨hq1, hq2⟩ := ln_room hk (by omega)
    obtain ⟨hp1, hp2⟩ := ln_app (t := y) hk (by omega)
    refine kz_iload_n d_Bk_lookAtWritings_2 rfl rfl ?_
    refine kz_aload_n d_Bk_lookAtWritings_3 rfl rfl ?_
    refine kz_getR fd_Bk_53 rfl rfl rfl d_Bk_lookAtWritings_4 rfl ?_
    refine kz_callVi (c_Li_size l (by first | exact kl_19 | exact kl_21 | exact kl_23)) cv_Bk_81 rfl rfl rfl ⟨by decide, by decide⟩ rfl (Nat.le_of_ble_eq_true rfl) d_Bk_lookAtWritings_7 rfl ?_
    refine kz_topi hwN.1 ?_
    refine kz_icmp_ge (tgt := 49) d_Bk_lookAtWritings_10 (by decide) rfl (fun h10 => ?_) (fun h10 => ?_)
    · exact absurd h10 (nI_ge hl (by omega))
    · refine kz_aload_n d_Bk_lookAtWritings_13 rfl rfl ?_
      refine kz_aload_n d_Bk_lookAtWritings_14 rfl rfl ?_
      refine kz_getR fd_Bk_53 rfl rfl rfl d_Bk_lookAtWritings_15 rfl ?_
      refine kz_iload_n d_Bk_lookAtWritings_18 rfl rfl ?_
      refine kz_callVi (c_Li_at l (by first | exact kl_19 | exact kl_21 | exact kl_23) (by assumption)) cv_Bk_151 rfl rfl rfl ⟨by decide, by decide⟩ rfl (Nat.le_of_ble_eq_true rfl) d_Bk_lookAtWritings_19 rfl ?_
      refine kz_topi (ln_read hwN hy) ?_
      refine kz_callVi (c_Bk_isHeld l hrN hbr hy4) cv_Bk_226 rfl rfl rfl ⟨by decide, by decide⟩ rfl (Nat.le_of_ble_eq_true rfl) d_Bk_lookAtWritings_22 rfl ?_
      refine kz_if_neb (tgt := 43) d_Bk_lookAtWritings_25 (by decide) rfl (fun h25 => ?_) (fun h25 => ?_)
      · refine kz_iinc d_Bk_lookAtWritings_43 rfl rfl (Nat.le_of_ble_eq_true rfl) (kz_inc i) rfl ?_
        refine kz_goto (tgt := 2) d_Bk_lookAtWritings_46 (by decide) ?_
        rw [cx_held_ag ha] at h25
        first | (have h := ih (i + 1) _ lk hd2 (by omega) ha hk (by omega); rw [cx_free, List.filter_cons_of_neg (by rw [h25]; decide)]; exact h) | (have h := ih (i + 1) _ (lk ++ [y]) hd2 (by omega) (ha.tr hp2) hp1 (by rw [List.length_append]; simp; omega); rw [List.append_assoc] at h; rw [cx_free, List.filter_cons_of_pos (by rw [h25]; decide)]; exact h)
      · refine kz_aload_n d_Bk_lookAtWritings_28 rfl rfl ?_
        refine kz_getR fd_Bk_56 rfl rfl rfl d_Bk_lookAtWritings_29 rfl ?_
        refine kz_aload_n d_Bk_lookAtWritings_32 rfl rfl ?_
        refine kz_getR fd_Bk_53 rfl rfl rfl d_Bk_lookAtWritings_33 rfl ?_
        refine kz_iload_n d_Bk_lookAtWritings_36 rfl rfl ?_
        refine kz_callVi (c_Li_at l (by first | exact kl_19 | exact kl_21 | exact kl_23) (by assumption)) cv_Bk_151 rfl rfl rfl ⟨by decide, by decide⟩ rfl (Nat.le_of_ble_eq_true rfl) d_Bk_lookAtWritings_37 rfl ?_
        refine kz_topi (ln_read hwN hy) ?_
        refine kz_callVv (c_Li_append l (by first | exact kl_19 | exact kl_21 | exact kl_23) (by assumption) (by assumption)) cv_Bk_93 rfl rfl rfl ⟨by decide, by decide⟩ rfl (Nat.le_of_ble_eq_true rfl) d_Bk_lookAtWritings_40 rfl ?_
        refine kz_eta ?_
        refine kz_iinc d_Bk_lookAtWritings_43 rfl rfl (Nat.le_of_ble_eq_true rfl) (kz_inc i) rfl ?_
        refine kz_goto (tgt := 2) d_Bk_lookAtWritings_46 (by decide) ?_
        rw [cx_held_ag ha] at h25
        first | (have h := ih (i + 1) _ lk hd2 (by omega) ha hk (by omega); rw [cx_free, List.filter_cons_of_neg (by rw [h25]; decide)]; exact h) | (have h := ih (i + 1) _ (lk ++ [y]) hd2 (by omega) (ha.tr hp2) hp1 (by rw [List.length_append]; simp; omega); rw [List.append_assoc] at h; rw [cx_free, List.filter_cons_of_pos (by rw [h25]; decide)]; exact h)
set_option maxRecDepth 100000 in
set_option maxHeartbeats 1000000 in
theorem c_Bk_lookAtWritings (l : Launch) {M : kz_M} {rs ws : List Int32} (hr : ln_at M 19 rs) (hw : ln_at M 21 ws) (hbr : ∀ r ∈ rs, vp_in r 400) (hbw : ∀ r ∈ ws, vp_in r 400) (hk : ln_at M 23 []) : kz_T l sC m_Bk_lookAtWritings [.ref 0] M (fun v O => v = none ∧ ln_ag 23 M O ∧ ln_at O 23 (cx_free M rs ws)) := by
  refine kz_intro (by decide +kernel) (Nat.le_of_ble_eq_true rfl) ?_
  show kz_G l sC m_Bk_lookAtWritings 0 [some (.ref 0), none] [] M _
  refine kz_iconst (v := 0) d_Bk_lookAtWritings_0 (by decide) rfl ?_
  refine kz_istore_n (i := 1) d_Bk_lookAtWritings_1 rfl rfl (Nat.le_of_ble_eq_true rfl) rfl ?_
  have h := lp_lkw l hr hw hbr hbw ws 0 M [] rfl (by decide) ln_ag.rf hk (by have := hw.2.1; simpa using this)
  exact h
/-! a ticket leaves a line -/
theorem rm_put1 {N : kz_M} {k : Nat} {dn : List Int32} {y : Int32} (hcd : (nI dn.length).toNatClampNeg = dn.length) (hdn : ∀ (j : Nat) (x : Int32), dn[j]? = some x → N.1 (k + 1) j = x) (j : Nat) (x : Int32) (hj : (dn ++ [y])[j]? = some x) : kz_u N.1 (k + 1) (nI dn.length).toNatClampNeg y (k + 1) j = x := by
  rw [hcd]
  by_cases q : j < dn.length
  · rw [kz_u_ne _ _ _ _ (fun z => by omega)]
    rw [List.getElem?_append_left q] at hj
    exact hdn j x hj
  · rw [List.getElem?_append_right (by omega)] at hj
    have hz : j - dn.length < 1 := (List.getElem?_eq_some_iff.mp hj).1
    obtain rfl : j = dn.length := by omega
    rw [Nat.sub_self] at hj
    cases hj
    rw [kz_u_same]
theorem rm_put2 {M N : kz_M} {k i : Nat} {dn : List Int32} {y : Int32} (hcd : (nI dn.length).toNatClampNeg = dn.length) (hdl : dn.length ≤ i) (hrest : ∀ j, i ≤ j → N.1 (k + 1) j = M.1 (k + 1) j) (j : Nat) (hj : i + 1 ≤ j) : kz_u N.1 (k + 1) (nI dn.length).toNatClampNeg y (k + 1) j = M.1 (k + 1) j := by
  rw [hcd, kz_u_ne _ _ _ _ (fun z => by omega)]
  exact hrest j (by omega)
set_option maxRecDepth 100000 in
set_option maxHeartbeats 1000000 in
theorem lp_rem (l : Launch) {M : kz_M} {k : Nat} {xs : List Int32} {t : Int32} (hkl : kl_ok k) (hx : ln_at M k xs) : ∀ (ys : List Int32) (i : Nat) (N : kz_M) (dn : List Int32), xs.drop i = ys → i ≤ 8 → dn.length ≤ i → N.2 = M.2 → (∀ j, j ≠ k + 1 → N.1 j = M.1 j) → (∀ (j : Nat) (x : Int32), dn[j]? = some x → N.1 (k + 1) j = x) → (∀ j, i ≤ j → N.1 (k + 1) j = M.1 (k + 1) j) → kz_G l sC m_Li_remove 4 [some (.ref k), some (.int t), some (.int (nI dn.length)), some (.int (nI i))] [] N (fun v O => v = none ∧ ln_ag k M O ∧ ln_at O k (dn ++ ys.filter (fun y => !decide (y = t)))) := by
  obtain ⟨hs1, hs2, hs3⟩ := kl_facts hkl
  intro ys
  have h8 := hx.2.1
  induction ys with
  | nil =>
    intro i N dn hd hi hdl hJ ho hdn hrest
    have hl := ln_drop0 hd
    have hsz : N.1 k 1 = nI xs.length := by rw [ho k (by omega)]; exact hx.1
    refine kz_iload_n d_Li_remove_4 rfl rfl ?_
    refine kz_aload_n d_Li_remove_5 rfl rfl ?_
    refine kz_getIp fd_Li_15 hs1 rfl (Or.inl rfl) d_Li_remove_6 rfl ?_
    refine kz_topi hsz ?_
    refine kz_icmp_ge (tgt := 43) d_Li_remove_9 (by decide) rfl (fun h9 => ?_) (fun h9 => ?_)
    · refine kz_aload_n d_Li_remove_43 rfl rfl ?_
      refine kz_iload_n d_Li_remove_44 rfl rfl ?_
      refine kz_putIp fd_Li_15 hs1 rfl d_Li_remove_45 rfl ?_
      exact kz_vret rfl d_Li_remove_48 (by refine ⟨rfl, ⟨hJ, fun j h1 h2 => (kz_u_off _ _ _ _ h1).trans (ho j h2)⟩, kz_u_same _ _ _ _ |>.trans (by simp), by simp; omega, fun j x hj => ?_⟩; rw [List.filter_nil, List.append_nil] at hj; exact (congrFun (kz_u_off N.1 k 1 _ (show k + 1 ≠ k by omega)) j).trans (hdn j x hj))
    · exact absurd (nI_le hl (by omega)) h9
  | cons y ys ih =>
    intro i N dn hd hi hdl hJ ho hdn hrest
    obtain ⟨hl, hy, hd2⟩ := ln_drop hd
    have hsz : N.1 k 1 = nI xs.length := by rw [ho k (by omega)]; exact hx.1
    have hi8 : vp_in (nI i) 8 := ln_in8 hl h8
    have hj8 : vp_in (nI dn.length) 8 := ln_in8 (n := xs.length) (by omega) h8
    have hcl : (nI i).toNatClampNeg = i := nI_clamp (by omega)
    have hcd : (nI dn.length).toNatClampNeg = dn.length := nI_clamp (by omega)
    have hry : N.1 (k + 1) (nI i).toNatClampNeg = y := by rw [hcl, hrest i (Nat.le_refl _)]; exact hx.2.2 i y hy
    refine kz_iload_n d_Li_remove_4 rfl rfl ?_
    refine kz_aload_n d_Li_remove_5 rfl rfl ?_
    refine kz_getIp fd_Li_15 hs1 rfl (Or.inl rfl) d_Li_remove_6 rfl ?_
    refine kz_topi hsz ?_
    refine kz_icmp_ge (tgt := 43) d_Li_remove_9 (by decide) rfl (fun h9 => ?_) (fun h9 => ?_)
    · exact absurd h9 (nI_ge hl (by omega))
    · refine kz_aload_n d_Li_remove_12 rfl rfl ?_
      refine kz_getR fd_Li_9 hs1 rfl hs2 d_Li_remove_13 rfl ?_
      refine kz_iload_n d_Li_remove_16 rfl rfl ?_
      refine kz_ialdp hs3 (by first | assumption | exact kz_vin (by decide)) rfl d_Li_remove_17 rfl ?_
      refine kz_topi hry ?_
      refine kz_iload_n d_Li_remove_18 rfl rfl ?_
      refine kz_icmp_eq (tgt := 37) d_Li_remove_19 (by decide) rfl (fun h19 => ?_) (fun h19 => ?_)
      · refine kz_iinc d_Li_remove_37 rfl rfl (Nat.le_of_ble_eq_true rfl) (kz_inc i) rfl ?_
        refine kz_goto (tgt := 4) d_Li_remove_40 (by decide) ?_
        first | (rw [List.filter_cons_of_neg (by rw [decide_eq_true h19]; decide)]; exact ih (i + 1) N dn hd2 (by omega) (by omega) hJ ho hdn (fun j hj => hrest j (by omega))) | (rw [List.filter_cons_of_pos (by rw [decide_eq_false h19]; decide)]; have h := ih (i + 1) (kz_u N.1 (k + 1) (nI dn.length).toNatClampNeg y, N.2) (dn ++ [y]) hd2 (by omega) (by rw [List.length_append]; simp; omega) hJ (fun j hj => (kz_u_off _ _ _ _ hj).trans (ho j hj)) (rm_put1 hcd hdn) (rm_put2 hcd hdl hrest); rw [List.append_assoc, List.length_append] at h; exact h)
      · refine kz_aload_n d_Li_remove_22 rfl rfl ?_
        refine kz_getR fd_Li_9 hs1 rfl hs2 d_Li_remove_23 rfl ?_
        refine kz_iload_n d_Li_remove_26 rfl rfl ?_
        refine kz_aload_n d_Li_remove_27 rfl rfl ?_
        refine kz_getR fd_Li_9 hs1 rfl hs2 d_Li_remove_28 rfl ?_
        refine kz_iload_n d_Li_remove_31 rfl rfl ?_
        refine kz_ialdp hs3 (by first | assumption | exact kz_vin (by decide)) rfl d_Li_remove_32 rfl ?_
        refine kz_topi hry ?_
        refine kz_iastp hs3 (by first | assumption | exact kz_vin (by decide)) rfl d_Li_remove_33 rfl ?_
        refine kz_iinc d_Li_remove_34 rfl rfl (Nat.le_of_ble_eq_true rfl) (kz_inc _) rfl ?_
        refine kz_iinc d_Li_remove_37 rfl rfl (Nat.le_of_ble_eq_true rfl) (kz_inc i) rfl ?_
        refine kz_goto (tgt := 4) d_Li_remove_40 (by decide) ?_
        first | (rw [List.filter_cons_of_neg (by rw [decide_eq_true h19]; decide)]; exact ih (i + 1) N dn hd2 (by omega) (by omega) hJ ho hdn (fun j hj => hrest j (by omega))) | (rw [List.filter_cons_of_pos (by rw [decide_eq_false h19]; decide)]; have h := ih (i + 1) (kz_u N.1 (k + 1) (nI dn.length).toNatClampNeg y, N.2) (dn ++ [y]) hd2 (by omega) (by rw [List.length_append]; simp; omega) hJ (fun j hj => (kz_u_off _ _ _ _ hj).trans (ho j hj)) (rm_put1 hcd hdn) (rm_put2 hcd hdl hrest); rw [List.append_assoc, List.length_append] at h; exact h)
set_option maxRecDepth 100000 in
set_option maxHeartbeats 1000000 in
theorem c_Li_remove (l : Launch) {M : kz_M} {k : Nat} {xs : List Int32} {t : Int32} (hkl : kl_ok k) (hx : ln_at M k xs) : kz_T l sC m_Li_remove [.ref k, .int t] M (fun v O => v = none ∧ ln_ag k M O ∧ ln_at O k (xs.filter (fun y => !decide (y = t)))) := by
  refine kz_intro (by decide +kernel) (Nat.le_of_ble_eq_true rfl) ?_
  show kz_G l sC m_Li_remove 0 [some (.ref k), some (.int t), none, none] [] M _
  refine kz_iconst (v := 0) d_Li_remove_0 (by decide) rfl ?_
  refine kz_istore_n (i := 2) d_Li_remove_1 rfl rfl (Nat.le_of_ble_eq_true rfl) rfl ?_
  refine kz_iconst (v := 0) d_Li_remove_2 (by decide) rfl ?_
  refine kz_istore_n (i := 3) d_Li_remove_3 rfl rfl (Nat.le_of_ble_eq_true rfl) rfl ?_
  exact lp_rem l hkl hx xs 0 M [] rfl (by decide) (by decide) rfl (fun _ _ => rfl) (fun j x h => by simp at h) (fun _ _ => rfl)
