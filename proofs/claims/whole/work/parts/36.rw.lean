/-! Contracts of the class: read and write. -/
theorem wf_new {M O : kz_M} {rs ws rs' ws' : List Int32} (h : cy_wf M rs ws) {c q : Nat} (hcc : c < 400) (hc : M.1 12 6 = nI c) (hq : M.1 0 0 = nI q) (hq8 : q ≤ 8) {a : Int32} (ha : vp_in a 256) {w : Bool} (e12 : O.1 12 6 = nI (c + 1)) (e13 : ∀ j, O.1 13 j = if j = c then a else M.1 13 j) (e14 : ∀ j, O.1 14 j = if j = c then kz_ib w else M.1 14 j) (e0 : O.1 0 0 = M.1 0 0) (hj : cy_jk O) (hr : ln_at O 19 rs') (hw : ln_at O 21 ws') (h1 : ∀ t ∈ rs', t ∈ rs ∨ (t = nI c ∧ w = false)) (h2 : ∀ t ∈ ws', t ∈ ws ∨ (t = nI c ∧ w = true)) (l1 : rs'.length ≤ q) (l2 : ws'.length ≤ q) : cy_wf O rs' ws' := by
  obtain ⟨-, -, a3, a4, -, -, c', c1, c2, c3, c4⟩ := h
  have ec : c' = c := by
    have := c2.symm.trans hc
    exact (nI_eq (by omega) (by omega)).mp this
  subst ec
  have hcl : (nI c').toNatClampNeg = c' := nI_clamp (by omega)
  have old : ∀ t j, j < c' → t = nI j → O.1 13 t.toNatClampNeg = M.1 13 t.toNatClampNeg ∧ O.1 14 t.toNatClampNeg = M.1 14 t.toNatClampNeg := fun t j hj ht => by
    subst ht
    rw [nI_clamp (by omega), e13, e14, if_neg (by omega), if_neg (by omega)]
    exact ⟨rfl, rfl⟩
  have hin : vp_in (nI c') 400 := vp_in_nI hcc (by decide)
  refine ⟨hr, hw, fun t ht => ?_, fun t ht => ?_, hj, ⟨q, hq8, by rw [e0]; exact hq, l1, l2⟩, c' + 1, by omega, e12, fun t ht => ?_, fun t ht => ?_⟩
  · rcases h1 t ht with z | ⟨rfl, rfl⟩
    · obtain ⟨j, hj, hje⟩ := c3 t z
      obtain ⟨o1, o2⟩ := old t j hj hje
      unfold cx_adr
      rw [o1, o2]
      exact a3 t z
    · unfold cx_adr
      rw [hcl, e13, e14, if_pos rfl, if_pos rfl]
      exact ⟨hin, ha, rfl⟩
  · rcases h2 t ht with z | ⟨rfl, rfl⟩
    · obtain ⟨j, hj, hje⟩ := c4 t z
      obtain ⟨o1, o2⟩ := old t j hj hje
      unfold cx_adr
      rw [o1, o2]
      exact a4 t z
    · unfold cx_adr
      rw [hcl, e13, e14, if_pos rfl, if_pos rfl]
      exact ⟨hin, ha, rfl⟩
  · rcases h1 t ht with z | ⟨rfl, -⟩
    · obtain ⟨j, hj, hje⟩ := c3 t z; exact ⟨j, by omega, hje⟩
    · exact ⟨c', by omega, rfl⟩
  · rcases h2 t ht with z | ⟨rfl, -⟩
    · obtain ⟨j, hj, hje⟩ := c4 t z; exact ⟨j, by omega, hje⟩
    · exact ⟨c', by omega, rfl⟩
/-- what a new ticket leaves as it was -/
theorem tk_off {M : kz_M} {a : Int32} {w : Bool} {t : Int32} (k : Nat) (h : k < 12 ∨ 16 ≤ k) : (cq_take M a w t).1 k = M.1 k := by
  simp only [cq_take]
  rw [kz_u_off _ _ _ _ (by omega), kz_u_off _ _ _ _ (by omega), kz_u_off _ _ _ _ (by omega), kz_u_off _ _ _ _ (by omega)]
theorem tk_12 {M : kz_M} {a : Int32} {w : Bool} {t : Int32} {c : Nat} (hc : M.1 12 6 = nI c) : (cq_take M a w t).1 12 6 = nI (c + 1) := by
  simp only [cq_take]
  rw [kz_u_same, hc, nI_1]
theorem tk_13 {M : kz_M} {a : Int32} {w : Bool} {t : Int32} {c : Nat} (hcc : c < 400) (hc : M.1 12 6 = nI c) (j : Nat) : (cq_take M a w t).1 13 j = if j = c then a else M.1 13 j := by
  simp only [cq_take]
  rw [hc, nI_clamp (by omega), kz_u_off _ _ _ _ (by decide), kz_u_off _ _ _ _ (by decide), kz_u_off _ _ _ _ (by decide), kz_u_row]
theorem tk_14 {M : kz_M} {a : Int32} {w : Bool} {t : Int32} {c : Nat} (hcc : c < 400) (hc : M.1 12 6 = nI c) (j : Nat) : (cq_take M a w t).1 14 j = if j = c then kz_ib w else M.1 14 j := by
  simp only [cq_take]
  rw [hc, nI_clamp (by omega), kz_u_off _ _ _ _ (by decide), kz_u_off _ _ _ _ (by decide), kz_u_row]
  by_cases e : j = c
  · simp [e]
  · simp only [if_neg e]
    rw [kz_u_off _ _ _ _ (by decide)]
theorem tk_jk {M O : kz_M} (h : cy_jk M) (h0 : O.1 0 = M.1 0) (h25 : O.1 25 = M.1 25) : cy_jk O := by
  obtain ⟨⟨n, a, b⟩, ⟨c, d, e⟩, f⟩ := h
  exact ⟨⟨n, a, by rw [h25]; exact b⟩, ⟨c, d, by rw [h25]; exact e⟩, by rw [h0]; exact f⟩
theorem cx_last_mem {M : kz_M} {ws : List Int32} {a : Int32} (h : ¬ cx_last M ws a = -1) : cx_last M ws a ∈ ws := by
  unfold cx_last at h ⊢
  cases hf : ws.reverse.find? (fun t => decide (cx_adr M t = a)) with
  | none => rw [hf] at h; exact absurd rfl h
  | some t =>
    have := List.mem_of_find?_eq_some hf
    exact List.mem_reverse.mp this
theorem out_in {M : kz_M} {c : Nat} (hc4 : c ≤ 400) (hc : M.1 12 6 = nI c) (h : cq_out M = false) : c < 400 := by
  simp only [cq_out, Bool.not_eq_false', decide_eq_true_eq] at h
  rw [hc] at h
  exact (nI_ltI (a := c) (b := 400) (by omega) (by decide)).mp h
theorem tk_ln {M : kz_M} {a : Int32} {w : Bool} {t : Int32} {k : Nat} {xs : List Int32} (h : ln_at M k xs) (hk : 16 ≤ k) : ln_at (cq_take M a w t) k xs :=
  ⟨by rw [tk_off k (by omega)]; exact h.1, h.2.1, fun i x hx => by rw [tk_off (k + 1) (by omega)]; exact h.2.2 i x hx⟩
/-- read, said of the class -/
def cp_rd (M : kz_M) (rs ws : List Int32) (a : Int32) (O : kz_M) (rs' : List Int32) (r : Int32) : Prop :=
  if ck_adr a = false then r = -1 ∧ O = M ∧ rs' = rs
  else if cx_last M ws a = -1 ∧ ¬ M.1 19 1 < M.1 0 0 then r = -2 ∧ O = M ∧ rs' = rs
  else if cq_out M = true then r = -3 ∧ O = M ∧ rs' = rs
  else r = M.1 12 6 ∧ if cx_last M ws a = -1 then cy_ag O (cq_take M a false (M.1 0 9)) ∧ rs' = rs ++ [M.1 12 6]
    else O = cq_fin (cq_take M a false (M.1 0 9)) (M.1 12 6) (M.2 16 (cx_last M ws a).toNatClampNeg) 2 (-1) ∧ rs' = rs
def cp_wr (M : kz_M) (ws : List Int32) (a : Int32) (w : Int64) (O : kz_M) (ws' : List Int32) (r : Int32) : Prop :=
  if ck_adr a = false then r = -1 ∧ O = M ∧ ws' = ws
  else if ¬ M.1 21 1 < M.1 0 0 then r = -2 ∧ O = M ∧ ws' = ws
  else if cq_out M = true then r = -3 ∧ O = M ∧ ws' = ws
  else r = M.1 12 6 ∧ cy_ag O (cq_word (cq_take M a true (M.1 0 9)) (M.1 12 6) w) ∧ ws' = ws ++ [M.1 12 6]
theorem rd_app {M O : kz_M} {rs ws : List Int32} {a : Int32} (h : cy_wf M rs ws) (ha : ck_adr a = true) (hl : cx_last M ws a = -1) (hs : M.1 19 1 < M.1 0 0) (ho : cq_out M = false) (hg : ln_ag 19 (cq_take M a false (M.1 0 9)) O) (hk : ln_at O 19 (rs ++ [M.1 12 6])) : ∃ rs' r, some (Value.int (M.1 12 6)) = some (.int r) ∧ cp_rd M rs ws a O rs' r ∧ cy_wf O rs' ws := by
  refine ⟨rs ++ [M.1 12 6], M.1 12 6, rfl, ?_, ?_⟩
  · unfold cp_rd
    rw [if_neg (by rw [ha]; decide), if_neg (fun z => z.2 hs), if_neg (by rw [ho]; decide), if_pos hl]
    exact ⟨rfl, hg.cy (by decide) (by decide), rfl⟩
  · obtain ⟨h1, h2, h3, h4, h5, ⟨q, q8, qe, ql, qw⟩, c, c4, ce, -⟩ := id h
    have hcc := out_in c4 ce ho
    have hlt : rs.length < q := by
      rw [h1.1, qe] at hs
      exact (nI_ltI (by omega) (by omega)).mp hs
    have e : ∀ k, k ≠ 19 → k ≠ 20 → O.1 k = (cq_take M a false (M.1 0 9)).1 k := fun k x y => hg.2 k x y
    refine wf_new h hcc ce qe q8 (ck_adr_in ha) (w := false) (by rw [e 12 (by decide) (by decide)]; exact tk_12 ce) (fun j => by rw [e 13 (by decide) (by decide)]; exact tk_13 hcc ce j) (fun j => by rw [e 14 (by decide) (by decide)]; exact tk_14 hcc ce j) (by rw [e 0 (by decide) (by decide), tk_off 0 (by decide)]) (tk_jk h5 (by rw [e 0 (by decide) (by decide), tk_off 0 (by decide)]) (by rw [e 25 (by decide) (by decide), tk_off 25 (by decide)])) hk ((tk_ln h2 (by decide)).ag hg (by decide) (by decide) (by decide)) (fun t ht => ?_) (fun t ht => Or.inl ht) (by rw [List.length_append]; simp; omega) qw
    rcases List.mem_append.mp ht with z | z
    · exact Or.inl z
    · rw [List.mem_singleton.mp z, ce]; exact Or.inr ⟨rfl, rfl⟩
theorem rd_fin {M : kz_M} {rs ws : List Int32} {a : Int32} (h : cy_wf M rs ws) (ha : ck_adr a = true) (hl : ¬ cx_last M ws a = -1) (ho : cq_out M = false) : ∃ rs' r, some (Value.int (M.1 12 6)) = some (.int r) ∧ cp_rd M rs ws a (cq_fin (cq_take M a false (M.1 0 9)) (M.1 12 6) (M.2 16 (cx_last M ws a).toNatClampNeg) 2 (-1)) rs' r ∧ cy_wf (cq_fin (cq_take M a false (M.1 0 9)) (M.1 12 6) (M.2 16 (cx_last M ws a).toNatClampNeg) 2 (-1)) rs' ws := by
  refine ⟨rs, M.1 12 6, rfl, ?_, ?_⟩
  · unfold cp_rd
    rw [if_neg (by rw [ha]; decide), if_neg (fun z => hl z.1), if_neg (by rw [ho]; decide), if_neg hl]
    exact ⟨rfl, rfl, rfl⟩
  · obtain ⟨h1, h2, h3, h4, h5, ⟨q, q8, qe, ql, qw⟩, c, c4, ce, -⟩ := id h
    have hcc := out_in c4 ce ho
    have e : ∀ k, k ≠ 17 → k ≠ 18 → (cq_fin (cq_take M a false (M.1 0 9)) (M.1 12 6) (M.2 16 (cx_last M ws a).toNatClampNeg) 2 (-1)).1 k = (cq_take M a false (M.1 0 9)).1 k := fun k x y => by
      simp only [cq_fin]
      rw [kz_u_off _ _ _ _ y, kz_u_off _ _ _ _ x]
    exact wf_new h hcc ce qe q8 (ck_adr_in ha) (w := false) (by rw [e 12 (by decide) (by decide)]; exact tk_12 ce) (fun j => by rw [e 13 (by decide) (by decide)]; exact tk_13 hcc ce j) (fun j => by rw [e 14 (by decide) (by decide)]; exact tk_14 hcc ce j) (by rw [e 0 (by decide) (by decide), tk_off 0 (by decide)]) (tk_jk h5 (by rw [e 0 (by decide) (by decide), tk_off 0 (by decide)]) (by rw [e 25 (by decide) (by decide), tk_off 25 (by decide)])) (ln_fin (tk_ln h1 (by decide)) (by decide) (by decide) (by decide) _ _ _ _) (ln_fin (tk_ln h2 (by decide)) (by decide) (by decide) (by decide) _ _ _ _) (fun t ht => Or.inl ht) (fun t ht => Or.inl ht) ql qw
theorem wr_app {M O : kz_M} {rs ws : List Int32} {a : Int32} {wd : Int64} (h : cy_wf M rs ws) (ha : ck_adr a = true) (hs : M.1 21 1 < M.1 0 0) (ho : cq_out M = false) (hg : ln_ag 21 (cq_word (cq_take M a true (M.1 0 9)) (M.1 12 6) wd) O) (hk : ln_at O 21 (ws ++ [M.1 12 6])) : ∃ ws' r, some (Value.int (M.1 12 6)) = some (.int r) ∧ cp_wr M ws a wd O ws' r ∧ cy_wf O rs ws' := by
  refine ⟨ws ++ [M.1 12 6], M.1 12 6, rfl, ?_, ?_⟩
  · unfold cp_wr
    rw [if_neg (by rw [ha]; decide), if_neg (fun z => z hs), if_neg (by rw [ho]; decide)]
    exact ⟨rfl, hg.cy (by decide) (by decide), rfl⟩
  · obtain ⟨h1, h2, h3, h4, h5, ⟨q, q8, qe, ql, qw⟩, c, c4, ce, -⟩ := id h
    have hcc := out_in c4 ce ho
    have hlt : ws.length < q := by
      rw [h2.1, qe] at hs
      exact (nI_ltI (by omega) (by omega)).mp hs
    have e : ∀ k, k ≠ 21 → k ≠ 22 → O.1 k = (cq_take M a true (M.1 0 9)).1 k := fun k x y => hg.2 k x y
    have hr2 : ln_at (cq_word (cq_take M a true (M.1 0 9)) (M.1 12 6) wd) 19 rs := tk_ln (a := a) (w := true) (t := M.1 0 9) h1 (by decide)
    refine wf_new h hcc ce qe q8 (ck_adr_in ha) (w := true) (by rw [e 12 (by decide) (by decide)]; exact tk_12 ce) (fun j => by rw [e 13 (by decide) (by decide)]; exact tk_13 hcc ce j) (fun j => by rw [e 14 (by decide) (by decide)]; exact tk_14 hcc ce j) (by rw [e 0 (by decide) (by decide), tk_off 0 (by decide)]) (tk_jk h5 (by rw [e 0 (by decide) (by decide), tk_off 0 (by decide)]) (by rw [e 25 (by decide) (by decide), tk_off 25 (by decide)])) (hr2.ag hg (by decide) (by decide) (by decide)) hk (fun t ht => Or.inl ht) (fun t ht => ?_) ql (by rw [List.length_append]; simp; omega)
    rcases List.mem_append.mp ht with z | z
    · exact Or.inl z
    · rw [List.mem_singleton.mp z, ce]; exact Or.inr ⟨rfl, rfl⟩
set_option maxRecDepth 100000 in
set_option maxHeartbeats 1000000 in
theorem c_Bk_read (l : Launch) {M : kz_M} {rs ws : List Int32} {a : Int32} (h : cy_wf M rs ws) : kz_T l sC m_Bk_read [.ref 0, .int a] M (fun v O => ∃ rs' r, v = some (.int r) ∧ cp_rd M rs ws a O rs' r ∧ cy_wf O rs' ws) := by
  obtain ⟨h1w, h2w, h3w, h4w, h5w, ⟨q, q8, qe, ql, qw⟩, c, c4, ce, -⟩ := id h
  have hbw : ∀ r ∈ ws, vp_in r 400 := fun r hq => (h4w r hq).1
  refine kz_intro (by decide +kernel) (Nat.le_of_ble_eq_true rfl) ?_
  show kz_G l sC m_Bk_read 0 [some (.ref 0), some (.int a), none, none] [] M _
  refine kz_iload_n d_Bk_read_0 rfl rfl ?_
  refine kz_callSi (c_Bk_isAddress l) cs_Bk_73 rfl ⟨by decide, by decide⟩ rfl (Nat.le_of_ble_eq_true rfl) d_Bk_read_1 rfl ?_
  refine kz_if_neb (tgt := 9) d_Bk_read_4 (by decide) rfl (fun h4 => ?_) (fun h4 => ?_)
  · refine kz_aload_n d_Bk_read_9 rfl rfl ?_
    refine kz_iload_n d_Bk_read_10 rfl rfl ?_
    refine kz_callVi (c_Bk_latestWritingOf l h2w hbw) cv_Bk_77 rfl rfl rfl ⟨by decide, by decide⟩ rfl (Nat.le_of_ble_eq_true rfl) d_Bk_read_11 rfl ?_
    refine kz_istore_n (i := 2) d_Bk_read_14 rfl rfl (Nat.le_of_ble_eq_true rfl) rfl ?_
    refine kz_iload_n d_Bk_read_15 rfl rfl ?_
    refine kz_iconst (v := -1) d_Bk_read_16 (by decide) rfl ?_
    refine kz_icmp_ne (tgt := 37) d_Bk_read_17 (by decide) rfl (fun h17 => ?_) (fun h17 => ?_)
    · refine kz_aload_n d_Bk_read_37 rfl rfl ?_
      refine kz_getR fd_Bk_42 rfl rfl rfl d_Bk_read_38 rfl ?_
      refine kz_callVi (c_Re_areOut l) cv_Bk_85 rfl rfl rfl ⟨by decide, by decide⟩ rfl (Nat.le_of_ble_eq_true rfl) d_Bk_read_41 rfl ?_
      refine kz_if_eqb (tgt := 50) d_Bk_read_44 (by decide) rfl (fun h44 => ?_) (fun h44 => ?_)
      · refine kz_aload_n d_Bk_read_50 rfl rfl ?_
        refine kz_getR fd_Bk_42 rfl rfl rfl d_Bk_read_51 rfl ?_
        refine kz_iload_n d_Bk_read_54 rfl rfl ?_
        refine kz_iconst (v := kz_ib false) d_Bk_read_55 (by decide) rfl ?_
        refine kz_aload_n d_Bk_read_56 rfl rfl ?_
        refine kz_getIp fd_Bk_66 rfl rfl (Or.inl rfl) d_Bk_read_57 rfl ?_
        refine kz_callVi (c_Re_take l (by rw [ce]; exact vp_in_nI (out_in c4 ce h44) (by decide))) cv_Bk_89 rfl rfl rfl ⟨by decide, by decide⟩ rfl (Nat.le_of_ble_eq_true rfl) d_Bk_read_60 rfl ?_
        refine kz_eta ?_
        refine kz_istore_n (i := 3) d_Bk_read_63 rfl rfl (Nat.le_of_ble_eq_true rfl) rfl ?_
        refine kz_iload_n d_Bk_read_64 rfl rfl ?_
        refine kz_iconst (v := -1) d_Bk_read_65 (by decide) rfl ?_
        refine kz_icmp_ne (tgt := 80) d_Bk_read_66 (by decide) rfl (fun h66 => ?_) (fun h66 => ?_)
        · refine kz_aload_n d_Bk_read_80 rfl rfl ?_
          refine kz_getR fd_Bk_42 rfl rfl rfl d_Bk_read_81 rfl ?_
          refine kz_iload_n d_Bk_read_84 rfl rfl ?_
          refine kz_aload_n d_Bk_read_85 rfl rfl ?_
          refine kz_getR fd_Bk_42 rfl rfl rfl d_Bk_read_86 rfl ?_
          refine kz_iload_n d_Bk_read_89 rfl rfl ?_
          refine kz_callVi (c_Re_wordOf l (hbw _ (cx_last_mem h17))) cv_Bk_97 rfl rfl rfl ⟨by decide, by decide⟩ rfl (Nat.le_of_ble_eq_true rfl) d_Bk_read_90 rfl ?_
          refine kz_iconst (v := 2) d_Bk_read_93 (by decide) rfl ?_
          refine kz_iconst (v := -1) d_Bk_read_94 (by decide) rfl ?_
          refine kz_callVv (c_Re_finish l (by rw [ce]; exact vp_in_nI (out_in c4 ce h44) (by decide))) cv_Bk_101 rfl rfl rfl ⟨by decide, by decide⟩ rfl (Nat.le_of_ble_eq_true rfl) d_Bk_read_95 rfl ?_
          refine kz_eta ?_
          refine kz_iload_n d_Bk_read_98 rfl rfl ?_
          exact kz_iret rfl d_Bk_read_99 (by first | exact absurd h66 h17 | exact absurd h17 h66 | exact rd_app h h4 h17 h31 h44 ha74 hk74 | exact rd_fin h h4 h17 h44)
        · exact absurd h66 h17
      · refine kz_bipush (v := -3) d_Bk_read_47 (by decide) rfl ?_
        exact kz_iret rfl d_Bk_read_49 (⟨rs, -3, rfl, by first | (rw [cp_rd, if_neg (by rw [h4]; decide), if_neg (fun z => h17 z.1), if_pos h44]; exact ⟨rfl, rfl, rfl⟩) | (rw [cp_rd, if_neg (by rw [h4]; decide), if_neg (fun z => z.2 h31), if_pos h44]; exact ⟨rfl, rfl, rfl⟩), h⟩)
    · refine kz_aload_n d_Bk_read_20 rfl rfl ?_
      refine kz_getR fd_Bk_49 rfl rfl rfl d_Bk_read_21 rfl ?_
      refine kz_callVi (c_Li_size l (by first | exact kl_19 | exact kl_21 | exact kl_23)) cv_Bk_81 rfl rfl rfl ⟨by decide, by decide⟩ rfl (Nat.le_of_ble_eq_true rfl) d_Bk_read_24 rfl ?_
      refine kz_aload_n d_Bk_read_27 rfl rfl ?_
      refine kz_getIp fd_Bk_18 rfl rfl (Or.inl rfl) d_Bk_read_28 rfl ?_
      refine kz_icmp_lt (tgt := 37) d_Bk_read_31 (by decide) rfl (fun h31 => ?_) (fun h31 => ?_)
      · refine kz_aload_n d_Bk_read_37 rfl rfl ?_
        refine kz_getR fd_Bk_42 rfl rfl rfl d_Bk_read_38 rfl ?_
        refine kz_callVi (c_Re_areOut l) cv_Bk_85 rfl rfl rfl ⟨by decide, by decide⟩ rfl (Nat.le_of_ble_eq_true rfl) d_Bk_read_41 rfl ?_
        refine kz_if_eqb (tgt := 50) d_Bk_read_44 (by decide) rfl (fun h44 => ?_) (fun h44 => ?_)
        · refine kz_aload_n d_Bk_read_50 rfl rfl ?_
          refine kz_getR fd_Bk_42 rfl rfl rfl d_Bk_read_51 rfl ?_
          refine kz_iload_n d_Bk_read_54 rfl rfl ?_
          refine kz_iconst (v := kz_ib false) d_Bk_read_55 (by decide) rfl ?_
          refine kz_aload_n d_Bk_read_56 rfl rfl ?_
          refine kz_getIp fd_Bk_66 rfl rfl (Or.inl rfl) d_Bk_read_57 rfl ?_
          refine kz_callVi (c_Re_take l (by rw [ce]; exact vp_in_nI (out_in c4 ce h44) (by decide))) cv_Bk_89 rfl rfl rfl ⟨by decide, by decide⟩ rfl (Nat.le_of_ble_eq_true rfl) d_Bk_read_60 rfl ?_
          refine kz_eta ?_
          refine kz_istore_n (i := 3) d_Bk_read_63 rfl rfl (Nat.le_of_ble_eq_true rfl) rfl ?_
          refine kz_iload_n d_Bk_read_64 rfl rfl ?_
          refine kz_iconst (v := -1) d_Bk_read_65 (by decide) rfl ?_
          refine kz_icmp_ne (tgt := 80) d_Bk_read_66 (by decide) rfl (fun h66 => ?_) (fun h66 => ?_)
          · exact absurd h17 h66
          · refine kz_aload_n d_Bk_read_69 rfl rfl ?_
            refine kz_getR fd_Bk_49 rfl rfl rfl d_Bk_read_70 rfl ?_
            refine kz_iload_n d_Bk_read_73 rfl rfl ?_
            refine kz_callVr (cr_Li_append l kl_19 (tk_ln h1w (by decide)) (by rw [h1w.1, qe] at h31; have := (nI_ltI (by omega) (by omega)).mp h31; omega)) cv_Bk_93 rfl rfl rfl ⟨by decide, by decide⟩ rfl (Nat.le_of_ble_eq_true rfl) d_Bk_read_74 rfl (fun v74 N74 q74 => ?_)
            obtain ⟨rfl, ha74, hk74⟩ := q74
            refine kz_goto (tgt := 98) d_Bk_read_77 (by decide) ?_
            refine kz_iload_n d_Bk_read_98 rfl rfl ?_
            exact kz_iret rfl d_Bk_read_99 (by first | exact absurd h66 h17 | exact absurd h17 h66 | exact rd_app h h4 h17 h31 h44 ha74 hk74 | exact rd_fin h h4 h17 h44)
        · refine kz_bipush (v := -3) d_Bk_read_47 (by decide) rfl ?_
          exact kz_iret rfl d_Bk_read_49 (⟨rs, -3, rfl, by first | (rw [cp_rd, if_neg (by rw [h4]; decide), if_neg (fun z => h17 z.1), if_pos h44]; exact ⟨rfl, rfl, rfl⟩) | (rw [cp_rd, if_neg (by rw [h4]; decide), if_neg (fun z => z.2 h31), if_pos h44]; exact ⟨rfl, rfl, rfl⟩), h⟩)
      · refine kz_bipush (v := -2) d_Bk_read_34 (by decide) rfl ?_
        exact kz_iret rfl d_Bk_read_36 (⟨rs, -2, rfl, by rw [cp_rd, if_neg (by rw [h4]; decide), if_pos ⟨h17, h31⟩]; exact ⟨rfl, rfl, rfl⟩, h⟩)
  · refine kz_iconst (v := -1) d_Bk_read_7 (by decide) rfl ?_
    exact kz_iret rfl d_Bk_read_8 (⟨rs, -1, rfl, by rw [cp_rd, if_pos h4]; exact ⟨rfl, rfl, rfl⟩, h⟩)
set_option maxRecDepth 100000 in
set_option maxHeartbeats 1000000 in
theorem c_Bk_write (l : Launch) {M : kz_M} {rs ws : List Int32} {a : Int32} {wd : Int64} (h : cy_wf M rs ws) : kz_T l sC m_Bk_write [.ref 0, .int a, .long wd] M (fun v O => ∃ ws' r, v = some (.int r) ∧ cp_wr M ws a wd O ws' r ∧ cy_wf O rs ws') := by
  obtain ⟨h1w, h2w, h3w, h4w, h5w, ⟨q, q8, qe, ql, qw⟩, c, c4, ce, -⟩ := id h
  have hbw : ∀ r ∈ ws, vp_in r 400 := fun r hq => (h4w r hq).1
  refine kz_intro (by decide +kernel) (Nat.le_of_ble_eq_true rfl) ?_
  show kz_G l sC m_Bk_write 0 [some (.ref 0), some (.int a), some (.long wd), none, none] [] M _
  refine kz_iload_n d_Bk_write_0 rfl rfl ?_
  refine kz_callSi (c_Bk_isAddress l) cs_Bk_73 rfl ⟨by decide, by decide⟩ rfl (Nat.le_of_ble_eq_true rfl) d_Bk_write_1 rfl ?_
  refine kz_if_neb (tgt := 9) d_Bk_write_4 (by decide) rfl (fun h4 => ?_) (fun h4 => ?_)
  · refine kz_aload_n d_Bk_write_9 rfl rfl ?_
    refine kz_getR fd_Bk_53 rfl rfl rfl d_Bk_write_10 rfl ?_
    refine kz_callVi (c_Li_size l (by first | exact kl_19 | exact kl_21 | exact kl_23)) cv_Bk_81 rfl rfl rfl ⟨by decide, by decide⟩ rfl (Nat.le_of_ble_eq_true rfl) d_Bk_write_13 rfl ?_
    refine kz_aload_n d_Bk_write_16 rfl rfl ?_
    refine kz_getIp fd_Bk_18 rfl rfl (Or.inl rfl) d_Bk_write_17 rfl ?_
    refine kz_icmp_lt (tgt := 26) d_Bk_write_20 (by decide) rfl (fun h20 => ?_) (fun h20 => ?_)
    · refine kz_aload_n d_Bk_write_26 rfl rfl ?_
      refine kz_getR fd_Bk_42 rfl rfl rfl d_Bk_write_27 rfl ?_
      refine kz_callVi (c_Re_areOut l) cv_Bk_85 rfl rfl rfl ⟨by decide, by decide⟩ rfl (Nat.le_of_ble_eq_true rfl) d_Bk_write_30 rfl ?_
      refine kz_if_eqb (tgt := 39) d_Bk_write_33 (by decide) rfl (fun h33 => ?_) (fun h33 => ?_)
      · refine kz_aload_n d_Bk_write_39 rfl rfl ?_
        refine kz_getR fd_Bk_42 rfl rfl rfl d_Bk_write_40 rfl ?_
        refine kz_iload_n d_Bk_write_43 rfl rfl ?_
        refine kz_iconst (v := kz_ib true) d_Bk_write_44 (by decide) rfl ?_
        refine kz_aload_n d_Bk_write_45 rfl rfl ?_
        refine kz_getIp fd_Bk_66 rfl rfl (Or.inl rfl) d_Bk_write_46 rfl ?_
        refine kz_callVi (c_Re_take l (by rw [ce]; exact vp_in_nI (out_in c4 ce h33) (by decide))) cv_Bk_89 rfl rfl rfl ⟨by decide, by decide⟩ rfl (Nat.le_of_ble_eq_true rfl) d_Bk_write_49 rfl ?_
        refine kz_eta ?_
        refine kz_istore d_Bk_write_52 rfl (Nat.le_of_ble_eq_true rfl) rfl ?_
        refine kz_aload_n d_Bk_write_54 rfl rfl ?_
        refine kz_getR fd_Bk_42 rfl rfl rfl d_Bk_write_55 rfl ?_
        refine kz_iload d_Bk_write_58 rfl rfl ?_
        refine kz_lload_n d_Bk_write_60 rfl rfl ?_
        refine kz_callVv (c_Re_setWord l (by rw [ce]; exact vp_in_nI (out_in c4 ce h33) (by decide))) cv_Bk_105 rfl rfl rfl ⟨by decide, by decide⟩ rfl (Nat.le_of_ble_eq_true rfl) d_Bk_write_61 rfl ?_
        refine kz_eta ?_
        refine kz_aload_n d_Bk_write_64 rfl rfl ?_
        refine kz_getR fd_Bk_53 rfl rfl rfl d_Bk_write_65 rfl ?_
        refine kz_iload d_Bk_write_68 rfl rfl ?_
        refine kz_callVr (cr_Li_append l (M := cq_word (cq_take M a true (M.1 0 9)) (M.1 12 6) wd) kl_21 (tk_ln h2w (by decide) : ln_at (cq_take M a true (M.1 0 9)) 21 ws) (by rw [h2w.1, qe] at h20; have := (nI_ltI (by omega) (by omega)).mp h20; omega)) cv_Bk_93 rfl rfl rfl ⟨by decide, by decide⟩ rfl (Nat.le_of_ble_eq_true rfl) d_Bk_write_70 rfl (fun v70 N70 q70 => ?_)
        obtain ⟨rfl, ha70, hk70⟩ := q70
        refine kz_iload d_Bk_write_73 rfl rfl ?_
        exact kz_iret rfl d_Bk_write_75 (wr_app h h4 h20 h33 ha70 hk70)
      · refine kz_bipush (v := -3) d_Bk_write_36 (by decide) rfl ?_
        exact kz_iret rfl d_Bk_write_38 (⟨ws, -3, rfl, by rw [cp_wr, if_neg (by rw [h4]; decide), if_neg (fun z => z h20), if_pos h33]; exact ⟨rfl, rfl, rfl⟩, h⟩)
    · refine kz_bipush (v := -2) d_Bk_write_23 (by decide) rfl ?_
      exact kz_iret rfl d_Bk_write_25 (⟨ws, -2, rfl, by rw [cp_wr, if_neg (by rw [h4]; decide), if_pos h20]; exact ⟨rfl, rfl, rfl⟩, h⟩)
  · refine kz_iconst (v := -1) d_Bk_write_7 (by decide) rfl ?_
    exact kz_iret rfl d_Bk_write_8 (⟨ws, -1, rfl, by rw [cp_wr, if_pos h4]; exact ⟨rfl, rfl, rfl⟩, h⟩)
