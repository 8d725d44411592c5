/-! Contracts of the reference: the quick one; leaving. -/
def rq_qk (M : kz_M) (wq : List Int32) (f : Nat → Bool) (i : Nat) : Bool := f i && (decide (M.1 4 (ck_bank (rq_a M (wq.getD i 0))).toNatClampNeg = ck_row (rq_a M (wq.getD i 0))) && rr_mayMv M (ck_bank (rq_a M (wq.getD i 0))).toNatClampNeg (rq_w M (wq.getD i 0)))
theorem rq_wb {M : kz_M} {t : Int32} (h : M.1 8 t.toNatClampNeg = 0 ∨ M.1 8 t.toNatClampNeg = 1) : M.1 8 t.toNatClampNeg = kz_ib (rq_w M t) := by
  unfold rq_w
  rcases h with h | h
  · rw [h]; decide
  · rw [h]; decide
set_option maxRecDepth 100000 in
set_option maxHeartbeats 1000000 in
theorem lp_rqk (l : Launch) {M : kz_M} {wq : List Int32} {f : Nat → Bool} (hq : rq_at M wq) (hf : rq_fl M wq.length f) : ∀ (m : Nat) (x : Int32) (z3 z4 : Option Value), (∀ v, z3 = some v → v.category = 1) → x = nI m - 1 → m ≤ wq.length → kz_G l sR m_Mo_quick 9 [some (.ref 0), some (.int (rq_ix (rq_fst (rq_qk M wq f) (wq.length - m) m))), some (.int x), z3, z4] [] M (fun v N => v = some (.int (rq_ix (rq_fst (rq_qk M wq f) wq.length 0))) ∧ N = M) := by
  intro m
  have h16 := hq.2.1
  induction m with
  | zero =>
    intro x z3 z4 hz3 hx hm
    subst hx
    refine kz_iload_n d_Mo_quick_9 rfl rfl ?_
    refine kz_if_lt (tgt := 96) d_Mo_quick_10 (by decide) rfl (fun h10 => ?_) (fun h10 => ?_)
    · refine kz_iload_n d_Mo_quick_96 rfl rfl ?_
      exact kz_iret rfl d_Mo_quick_97 (⟨rfl, rfl⟩)
    · exact absurd (by decide) h10
  | succ m ih =>
    intro x z3 z4 hz3 hx hm
    rw [nI_pred] at hx
    subst hx
    obtain ⟨y, hy⟩ : ∃ y, wq[m]? = some y := ⟨_, List.getElem?_eq_getElem (by omega)⟩
    have hi16 : vp_in (nI m) 16 := rq_in (n := wq.length) (by omega) h16
    have hcl : (nI m).toNatClampNeg = m := nI_clamp (by omega)
    obtain ⟨hy4, hya, hyw⟩ := hq.2.2.2 y (List.mem_of_getElem? hy)
    have hyb := rq_wb hyw
    have hb4 : vp_in (ck_bank (M.1 9 y.toNatClampNeg)) 4 := ck_bank_in hya
    have hg : wq.getD m 0 = y := by rw [List.getD_eq_getElem?_getD, hy]; rfl
    have hr : M.1 17 (nI m).toNatClampNeg = kz_ib (f m) := by rw [hcl]; exact hf m (by omega)
    have hP : rq_qk M wq f m = (f m && (decide (M.1 4 (ck_bank (rq_a M y)).toNatClampNeg = ck_row (rq_a M y)) && rr_mayMv M (ck_bank (rq_a M y)).toNatClampNeg (rq_w M y))) := by unfold rq_qk; rw [hg]
    have go : ∀ (r : Int32) (z4 : Option Value), r = (if rq_qk M wq f m = true then nI m else rq_ix (rq_fst (rq_qk M wq f) (wq.length - (m + 1)) (m + 1))) → kz_G l sR m_Mo_quick 9 [some (.ref 0), some (.int r), some (.int (nI m - 1)), some (.int (M.1 9 y.toNatClampNeg)), z4] [] M (fun v N => v = some (.int (rq_ix (rq_fst (rq_qk M wq f) wq.length 0))) ∧ N = M) := fun r z4 hr => by
      have h := ih (nI m - 1) (some (.int (M.1 9 y.toNatClampNeg))) z4 (fun v e => by cases e; rfl) rfl (by omega)
      rw [show wq.length - m = (wq.length - (m + 1)) + 1 by omega, rq_fst] at h
      by_cases q : rq_qk M wq f m = true
      · rw [if_pos q] at hr h
        subst hr
        exact h
      · rw [if_neg q] at hr h
        subst hr
        exact h
    refine kz_iload_n d_Mo_quick_9 rfl rfl ?_
    refine kz_if_lt (tgt := 96) d_Mo_quick_10 (by decide) rfl (fun h10 => ?_) (fun h10 => ?_)
    · exact absurd h10 (nI_pos (by omega))
    · refine kz_aload_n d_Mo_quick_13 rfl rfl ?_
      refine kz_getR fd_Mo_44 rfl rfl rfl d_Mo_quick_14 rfl ?_
      refine kz_aload_n d_Mo_quick_17 rfl rfl ?_
      refine kz_getR fd_Mo_62 rfl rfl rfl d_Mo_quick_18 rfl ?_
      refine kz_iload_n d_Mo_quick_21 rfl rfl ?_
      refine kz_ialdp rfl (by first | assumption | exact kz_vin (by decide)) rfl d_Mo_quick_22 rfl ?_
      refine kz_topi (rq_read hq hy) ?_
      refine kz_ialdp rfl (by first | assumption | exact kz_vin (by decide)) rfl d_Mo_quick_23 rfl ?_
      refine kz_istore_n (i := 3) d_Mo_quick_24 rfl rfl (Nat.le_of_ble_eq_true rfl) rfl ?_
      refine kz_aload_n d_Mo_quick_25 rfl rfl ?_
      refine kz_getR fd_Mo_68 rfl rfl rfl d_Mo_quick_26 rfl ?_
      refine kz_iload_n d_Mo_quick_29 rfl rfl ?_
      refine kz_zaldp rfl (by first | assumption | exact kz_vin (by decide)) rfl d_Mo_quick_30 rfl ?_
      refine kz_topi hr ?_
      refine kz_if_eqb (tgt := 76) d_Mo_quick_31 (by decide) rfl (fun h31 => ?_) (fun h31 => ?_)
      · refine kz_iconst (v := 0) d_Mo_quick_76 (by decide) rfl ?_
        refine kz_istore d_Mo_quick_77 rfl (Nat.le_of_ble_eq_true rfl) rfl ?_
        refine kz_iload d_Mo_quick_79 rfl rfl ?_
        refine kz_if_eq (tgt := 88) d_Mo_quick_81 (by decide) rfl (fun _ => ?_) (fun h => absurd h (by decide))
        refine kz_iload_n d_Mo_quick_88 rfl rfl ?_
        refine kz_istore_n (i := 1) d_Mo_quick_89 rfl rfl (Nat.le_of_ble_eq_true rfl) rfl ?_
        refine kz_iinc d_Mo_quick_90 rfl rfl (Nat.le_of_ble_eq_true rfl) (show nI m + Int32.ofInt (-1) = nI m - 1 by rw [Int32.sub_eq_add_neg]; rfl) rfl ?_
        refine kz_goto (tgt := 9) d_Mo_quick_93 (by decide) ?_
        exact go _ _ (by rw [if_neg (by rw [hP, h31, Bool.false_and]; decide)])
      · refine kz_aload_n d_Mo_quick_34 rfl rfl ?_
        refine kz_getR fd_Mo_20 rfl rfl rfl d_Mo_quick_35 rfl ?_
        refine kz_iload_n d_Mo_quick_38 rfl rfl ?_
        refine kz_callSi (c_Mo_bankAt l hya) cs_Mo_167 rfl ⟨by decide, by decide⟩ rfl (Nat.le_of_ble_eq_true rfl) d_Mo_quick_39 rfl ?_
        refine kz_ialdp rfl (by first | assumption | exact kz_vin (by decide)) rfl d_Mo_quick_42 rfl ?_
        refine kz_iload_n d_Mo_quick_43 rfl rfl ?_
        refine kz_callSi (c_Mo_rowAt l hya) cs_Mo_203 rfl ⟨by decide, by decide⟩ rfl (Nat.le_of_ble_eq_true rfl) d_Mo_quick_44 rfl ?_
        refine kz_icmp_ne (tgt := 76) d_Mo_quick_47 (by decide) rfl (fun h47 => ?_) (fun h47 => ?_)
        · refine kz_iconst (v := 0) d_Mo_quick_76 (by decide) rfl ?_
          refine kz_istore d_Mo_quick_77 rfl (Nat.le_of_ble_eq_true rfl) rfl ?_
          refine kz_iload d_Mo_quick_79 rfl rfl ?_
          refine kz_if_eq (tgt := 88) d_Mo_quick_81 (by decide) rfl (fun _ => ?_) (fun h => absurd h (by decide))
          refine kz_iload_n d_Mo_quick_88 rfl rfl ?_
          refine kz_istore_n (i := 1) d_Mo_quick_89 rfl rfl (Nat.le_of_ble_eq_true rfl) rfl ?_
          refine kz_iinc d_Mo_quick_90 rfl rfl (Nat.le_of_ble_eq_true rfl) (show nI m + Int32.ofInt (-1) = nI m - 1 by rw [Int32.sub_eq_add_neg]; rfl) rfl ?_
          refine kz_goto (tgt := 9) d_Mo_quick_93 (by decide) ?_
          exact go _ _ (by rw [if_neg (by rw [hP, show decide (M.1 4 (ck_bank (rq_a M y)).toNatClampNeg = ck_row (rq_a M y)) = false from decide_eq_false h47, Bool.false_and, Bool.and_false]; decide)])
        · refine kz_aload_n d_Mo_quick_50 rfl rfl ?_
          refine kz_iload_n d_Mo_quick_51 rfl rfl ?_
          refine kz_callSi (c_Mo_bankAt l hya) cs_Mo_167 rfl ⟨by decide, by decide⟩ rfl (Nat.le_of_ble_eq_true rfl) d_Mo_quick_52 rfl ?_
          refine kz_aload_n d_Mo_quick_55 rfl rfl ?_
          refine kz_getR fd_Mo_40 rfl rfl rfl d_Mo_quick_56 rfl ?_
          refine kz_aload_n d_Mo_quick_59 rfl rfl ?_
          refine kz_getR fd_Mo_62 rfl rfl rfl d_Mo_quick_60 rfl ?_
          refine kz_iload_n d_Mo_quick_63 rfl rfl ?_
          refine kz_ialdp rfl (by first | assumption | exact kz_vin (by decide)) rfl d_Mo_quick_64 rfl ?_
          refine kz_topi (rq_read hq hy) ?_
          refine kz_zaldp rfl (by first | assumption | exact kz_vin (by decide)) rfl d_Mo_quick_65 rfl ?_
          refine kz_topi hyb ?_
          refine kz_callVi (c_Mo_mayMove l hb4) cv_Mo_210 rfl rfl rfl ⟨by decide, by decide⟩ rfl (Nat.le_of_ble_eq_true rfl) d_Mo_quick_66 rfl ?_
          refine kz_if_eqb (tgt := 76) d_Mo_quick_69 (by decide) rfl (fun h69 => ?_) (fun h69 => ?_)
          · refine kz_iconst (v := 0) d_Mo_quick_76 (by decide) rfl ?_
            refine kz_istore d_Mo_quick_77 rfl (Nat.le_of_ble_eq_true rfl) rfl ?_
            refine kz_iload d_Mo_quick_79 rfl rfl ?_
            refine kz_if_eq (tgt := 88) d_Mo_quick_81 (by decide) rfl (fun _ => ?_) (fun h => absurd h (by decide))
            refine kz_iload_n d_Mo_quick_88 rfl rfl ?_
            refine kz_istore_n (i := 1) d_Mo_quick_89 rfl rfl (Nat.le_of_ble_eq_true rfl) rfl ?_
            refine kz_iinc d_Mo_quick_90 rfl rfl (Nat.le_of_ble_eq_true rfl) (show nI m + Int32.ofInt (-1) = nI m - 1 by rw [Int32.sub_eq_add_neg]; rfl) rfl ?_
            refine kz_goto (tgt := 9) d_Mo_quick_93 (by decide) ?_
            exact go _ _ (by rw [if_neg (by rw [hP, show rr_mayMv M (ck_bank (rq_a M y)).toNatClampNeg (rq_w M y) = false from h69, Bool.and_false, Bool.and_false]; decide)])
          · refine kz_iconst (v := 1) d_Mo_quick_72 (by decide) rfl ?_
            refine kz_goto (tgt := 77) d_Mo_quick_73 (by decide) ?_
            refine kz_istore d_Mo_quick_77 rfl (Nat.le_of_ble_eq_true rfl) rfl ?_
            refine kz_iload d_Mo_quick_79 rfl rfl ?_
            refine kz_if_eq (tgt := 88) d_Mo_quick_81 (by decide) rfl (fun h => absurd h (by decide)) (fun _ => ?_)
            refine kz_iload_n d_Mo_quick_84 rfl rfl ?_
            refine kz_goto (tgt := 89) d_Mo_quick_85 (by decide) ?_
            refine kz_istore_n (i := 1) d_Mo_quick_89 rfl rfl (Nat.le_of_ble_eq_true rfl) rfl ?_
            refine kz_iinc d_Mo_quick_90 rfl rfl (Nat.le_of_ble_eq_true rfl) (show nI m + Int32.ofInt (-1) = nI m - 1 by rw [Int32.sub_eq_add_neg]; rfl) rfl ?_
            refine kz_goto (tgt := 9) d_Mo_quick_93 (by decide) ?_
            exact go _ _ (by rw [if_pos (by rw [hP, h31, show decide (M.1 4 (ck_bank (rq_a M y)).toNatClampNeg = ck_row (rq_a M y)) = true from decide_eq_true h47, show rr_mayMv M (ck_bank (rq_a M y)).toNatClampNeg (rq_w M y) = true from h69]; rfl)])
set_option maxRecDepth 100000 in
set_option maxHeartbeats 1000000 in
theorem c_Mo_quick (l : Launch) {M : kz_M} {wq : List Int32} {f : Nat → Bool} (hq : rq_at M wq) (hf : rq_fl M wq.length f) : kz_Dt l sR m_Mo_quick [.ref 0] M (some (.int (rq_ix (rq_fst (rq_qk M wq f) wq.length 0)))) M := by
  refine kz_intro (by decide +kernel) (Nat.le_of_ble_eq_true rfl) ?_
  show kz_G l sR m_Mo_quick 0 [some (.ref 0), none, none, none, none] [] M _
  refine kz_iconst (v := -1) d_Mo_quick_0 (by decide) rfl ?_
  refine kz_istore_n (i := 1) d_Mo_quick_1 rfl rfl (Nat.le_of_ble_eq_true rfl) rfl ?_
  refine kz_aload_n d_Mo_quick_2 rfl rfl ?_
  refine kz_getIp fd_Mo_134 rfl rfl (Or.inl rfl) d_Mo_quick_3 rfl ?_
  refine kz_topi hq.1 ?_
  refine kz_iconst (v := 1) d_Mo_quick_6 (by decide) rfl ?_
  refine kz_isub d_Mo_quick_7 rfl ?_
  refine kz_istore_n (i := 2) d_Mo_quick_8 rfl rfl (Nat.le_of_ble_eq_true rfl) rfl ?_
  have h := lp_rqk l hq hf wq.length _ none none (fun v e => by cases e) rfl (Nat.le_refl _)
  rw [Nat.sub_self] at h
  exact h
def rl_M (M : kz_M) (n : Nat) (w : Bool) : kz_M := (kz_u (if w = true then kz_u M.1 0 28 (M.1 0 28 - 1) else kz_u M.1 0 27 (M.1 0 27 - 1)) 0 26 (nI n), M.2)
def rl_ag (M N : kz_M) : Prop := N.2 = M.2 ∧ ∀ k, k ≠ 15 → N.1 k = M.1 k
set_option maxRecDepth 100000 in
set_option maxHeartbeats 1000000 in
theorem lp_rlv (l : Launch) {X : kz_M} {wq : List Int32} {k n : Nat} {t : Int32} (hn : wq.length = n + 1) (hn16 : n < 16) (hX : X.1 0 26 = nI n) (hk : k ≤ n) : ∀ (m i : Nat) (N : kz_M), i + m = n → k ≤ i → rl_ag X N → (∀ (j : Nat) (x : Int32), (wq.eraseIdx k)[j]? = some x → j < i → N.1 15 j = x) → (∀ (j : Nat) (x : Int32), wq[j]? = some x → i ≤ j → N.1 15 j = x) → kz_G l sR m_Mo_leave 51 [some (.ref 0), some (.int (nI k)), some (.int t), some (.int (nI i))] [] N (fun v O => v = none ∧ rl_ag X O ∧ ∀ (j : Nat) (x : Int32), (wq.eraseIdx k)[j]? = some x → O.1 15 j = x) := by
  intro m
  induction m with
  | zero =>
    intro i N hi hki ha h1 h2
    have hw : N.1 0 26 = nI n := by rw [ha.2 0 (by decide)]; exact hX
    obtain rfl : i = n := by omega
    refine kz_eta ?_
    refine kz_iload_n d_Mo_leave_51 rfl rfl ?_
    refine kz_aload_n d_Mo_leave_52 rfl rfl ?_
    refine kz_getIp fd_Mo_134 rfl rfl (Or.inl rfl) d_Mo_leave_53 rfl ?_
    refine kz_topi hw ?_
    refine kz_icmp_ge (tgt := 79) d_Mo_leave_56 (by decide) rfl (fun h56 => ?_) (fun h56 => ?_)
    · exact kz_vret rfl d_Mo_leave_79 (⟨rfl, ha, fun j x hx => h1 j x hx (by have := (List.getElem?_eq_some_iff.mp hx).1; rw [List.length_eraseIdx_of_lt (by omega)] at this; omega)⟩)
    · exact absurd (Int32.le_refl _) h56
  | succ m ih =>
    intro i N hi hki ha h1 h2
    have hw : N.1 0 26 = nI n := by rw [ha.2 0 (by decide)]; exact hX
    obtain ⟨y, hy⟩ : ∃ y, wq[i + 1]? = some y := ⟨_, List.getElem?_eq_getElem (by omega)⟩
    have hi16 : vp_in (nI i) 16 := vp_in_nI (by omega) (by decide)
    have hj16 : vp_in (nI (i + 1)) 16 := vp_in_nI (by omega) (by decide)
    have hcl : (nI i).toNatClampNeg = i := nI_clamp (by omega)
    have hcj : (nI (i + 1)).toNatClampNeg = i + 1 := nI_clamp (by omega)
    have hr : N.1 15 (i + 1) = y := h2 (i + 1) y hy (by omega)
    have h := ih (i + 1) (kz_u N.1 15 i y, N.2) (by omega) (by omega) ⟨ha.1, fun k hk => (kz_u_off _ _ _ _ hk).trans (ha.2 k hk)⟩ (fun j x hx hj => by
      show kz_u N.1 15 i y 15 j = x
      by_cases q : j = i
      · subst q
        rw [kz_u_same]
        rw [List.getElem?_eraseIdx_of_ge hki, hy] at hx
        exact Option.some.inj hx
      · exact (kz_u_ne _ _ _ _ (fun z => q z.2)).trans (h1 j x hx (by omega))) (fun j x hx hj => by
      show kz_u N.1 15 i y 15 j = x
      exact (kz_u_ne _ _ _ _ (fun z => by omega)).trans (h2 j x hx (by omega)))
    refine kz_eta ?_
    refine kz_iload_n d_Mo_leave_51 rfl rfl ?_
    refine kz_aload_n d_Mo_leave_52 rfl rfl ?_
    refine kz_getIp fd_Mo_134 rfl rfl (Or.inl rfl) d_Mo_leave_53 rfl ?_
    refine kz_topi hw ?_
    refine kz_icmp_ge (tgt := 79) d_Mo_leave_56 (by decide) rfl (fun h56 => ?_) (fun h56 => ?_)
    · exact absurd h56 (nI_ge (by omega) (by omega))
    · refine kz_aload_n d_Mo_leave_59 rfl rfl ?_
      refine kz_getR fd_Mo_62 rfl rfl rfl d_Mo_leave_60 rfl ?_
      refine kz_iload_n d_Mo_leave_63 rfl rfl ?_
      refine kz_aload_n d_Mo_leave_64 rfl rfl ?_
      refine kz_getR fd_Mo_62 rfl rfl rfl d_Mo_leave_65 rfl ?_
      refine kz_iload_n d_Mo_leave_68 rfl rfl ?_
      refine kz_iconst (v := 1) d_Mo_leave_69 (by decide) rfl ?_
      refine kz_iadd d_Mo_leave_70 rfl ?_
      refine kz_topi (nI_1 i) ?_
      refine kz_ialdp rfl hj16 hcj d_Mo_leave_71 rfl ?_
      refine kz_topi hr ?_
      refine kz_iastp rfl (by first | assumption | exact kz_vin (by decide)) hcl d_Mo_leave_72 rfl ?_
      refine kz_iinc d_Mo_leave_73 rfl rfl (Nat.le_of_ble_eq_true rfl) (kz_inc i) rfl ?_
      refine kz_goto (tgt := 51) d_Mo_leave_76 (by decide) ?_
      exact h
set_option maxRecDepth 100000 in
set_option maxHeartbeats 1000000 in
theorem c_Mo_leave (l : Launch) {M : kz_M} {wq : List Int32} {k n : Nat} {t : Int32} (hq : rq_at M wq) (hk : wq[k]? = some t) (hn : wq.length = n + 1) : kz_T l sR m_Mo_leave [.ref 0, .int (nI k)] M (fun v O => v = none ∧ rl_ag (rl_M M n (rq_w M t)) O ∧ ∀ (j : Nat) (x : Int32), (wq.eraseIdx k)[j]? = some x → O.1 15 j = x) := by
  have h16 := hq.2.1
  have hkl : k < wq.length := (List.getElem?_eq_some_iff.mp hk).1
  have hk16 : vp_in (nI k) 16 := rq_in hkl h16
  obtain ⟨hy4, hya, hyw⟩ := hq.2.2.2 t (List.mem_of_getElem? hk)
  have hyb := rq_wb hyw
  refine kz_intro (by decide +kernel) (Nat.le_of_ble_eq_true rfl) ?_
  show kz_G l sR m_Mo_leave 0 [some (.ref 0), some (.int (nI k)), none, none] [] M _
  refine kz_aload_n d_Mo_leave_0 rfl rfl ?_
  refine kz_getR fd_Mo_62 rfl rfl rfl d_Mo_leave_1 rfl ?_
  refine kz_iload_n d_Mo_leave_4 rfl rfl ?_
  refine kz_ialdp rfl (by first | assumption | exact kz_vin (by decide)) rfl d_Mo_leave_5 rfl ?_
  refine kz_topi (rq_read hq hk) ?_
  refine kz_istore_n (i := 2) d_Mo_leave_6 rfl rfl (Nat.le_of_ble_eq_true rfl) rfl ?_
  refine kz_aload_n d_Mo_leave_7 rfl rfl ?_
  refine kz_getR fd_Mo_40 rfl rfl rfl d_Mo_leave_8 rfl ?_
  refine kz_iload_n d_Mo_leave_11 rfl rfl ?_
  refine kz_zaldp rfl (by first | assumption | exact kz_vin (by decide)) rfl d_Mo_leave_12 rfl ?_
  refine kz_topi hyb ?_
  refine kz_if_eqb (tgt := 29) d_Mo_leave_13 (by decide) rfl (fun h13 => ?_) (fun h13 => ?_)
  · refine kz_aload_n d_Mo_leave_29 rfl rfl ?_
    refine kz_dup d_Mo_leave_30 rfl rfl ?_
    refine kz_getIp fd_Mo_140 rfl rfl (Or.inl rfl) d_Mo_leave_31 rfl ?_
    refine kz_iconst (v := 1) d_Mo_leave_34 (by decide) rfl ?_
    refine kz_isub d_Mo_leave_35 rfl ?_
    refine kz_putIp fd_Mo_140 rfl rfl d_Mo_leave_36 rfl ?_
    refine kz_aload_n d_Mo_leave_39 rfl rfl ?_
    refine kz_dup d_Mo_leave_40 rfl rfl ?_
    refine kz_getIp fd_Mo_134 rfl rfl (Or.inl rfl) d_Mo_leave_41 rfl ?_
    refine kz_iconst (v := 1) d_Mo_leave_44 (by decide) rfl ?_
    refine kz_isub d_Mo_leave_45 rfl ?_
    refine kz_topi (y := nI n) (by rw [kz_u_ne _ _ _ _ (by decide), hq.1, hn, nI_pred]) ?_
    refine kz_putIp fd_Mo_134 rfl rfl d_Mo_leave_46 rfl ?_
    refine kz_iload_n d_Mo_leave_49 rfl rfl ?_
    refine kz_istore_n (i := 3) d_Mo_leave_50 rfl rfl (Nat.le_of_ble_eq_true rfl) rfl ?_
    refine kz_memq (N := rl_M M n (rq_w M t)) (by rw [rl_M, h13]; rfl) ?_
    have e15 : (rl_M M n (rq_w M t)).1 15 = M.1 15 := by unfold rl_M; cases rq_w M t <;> simp [kz_u_off]
    exact lp_rlv l hn (by omega) (by simp [rl_M, kz_u_same]) (by omega) (n - k) k _ (by omega) (Nat.le_refl _) ⟨rfl, fun _ _ => rfl⟩ (fun j x hx hj => by rw [List.getElem?_eraseIdx_of_lt hj] at hx; rw [e15]; exact hq.2.2.1 j x hx) (fun j x hx hj => by rw [e15]; exact hq.2.2.1 j x hx)
  · refine kz_aload_n d_Mo_leave_16 rfl rfl ?_
    refine kz_dup d_Mo_leave_17 rfl rfl ?_
    refine kz_getIp fd_Mo_137 rfl rfl (Or.inl rfl) d_Mo_leave_18 rfl ?_
    refine kz_iconst (v := 1) d_Mo_leave_21 (by decide) rfl ?_
    refine kz_isub d_Mo_leave_22 rfl ?_
    refine kz_putIp fd_Mo_137 rfl rfl d_Mo_leave_23 rfl ?_
    refine kz_goto (tgt := 39) d_Mo_leave_26 (by decide) ?_
    refine kz_aload_n d_Mo_leave_39 rfl rfl ?_
    refine kz_dup d_Mo_leave_40 rfl rfl ?_
    refine kz_getIp fd_Mo_134 rfl rfl (Or.inl rfl) d_Mo_leave_41 rfl ?_
    refine kz_iconst (v := 1) d_Mo_leave_44 (by decide) rfl ?_
    refine kz_isub d_Mo_leave_45 rfl ?_
    refine kz_topi (y := nI n) (by rw [kz_u_ne _ _ _ _ (by decide), hq.1, hn, nI_pred]) ?_
    refine kz_putIp fd_Mo_134 rfl rfl d_Mo_leave_46 rfl ?_
    refine kz_iload_n d_Mo_leave_49 rfl rfl ?_
    refine kz_istore_n (i := 3) d_Mo_leave_50 rfl rfl (Nat.le_of_ble_eq_true rfl) rfl ?_
    refine kz_memq (N := rl_M M n (rq_w M t)) (by rw [rl_M, h13]; rfl) ?_
    have e15 : (rl_M M n (rq_w M t)).1 15 = M.1 15 := by unfold rl_M; cases rq_w M t <;> simp [kz_u_off]
    exact lp_rlv l hn (by omega) (by simp [rl_M, kz_u_same]) (by omega) (n - k) k _ (by omega) (Nat.le_refl _) ⟨rfl, fun _ _ => rfl⟩ (fun j x hx hj => by rw [List.getElem?_eraseIdx_of_lt hj] at hx; rw [e15]; exact hq.2.2.1 j x hx) (fun j x hx hj => by rw [e15]; exact hq.2.2.1 j x hx)
