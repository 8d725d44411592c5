/-! Contracts of the reference: the cap; whether a row is wanted; the quick one. -/
theorem rq_fst_lt {f : Nat → Bool} : ∀ (n i k : Nat), rq_fst f n i = some k → i ≤ k ∧ k < i + n
  | 0, i, k, h => by cases h
  | n + 1, i, k, h => by
    unfold rq_fst at h
    split at h
    · cases h; omega
    · have := rq_fst_lt n (i + 1) k h; omega
def rq_capd (M : kz_M) (t : Int32) : Bool := decide (M.1 0 1 < M.1 0 2 - M.1 10 t.toNatClampNeg)
def rq_cut (f : Nat → Bool) (k : Nat) : Nat → Bool := fun j => if j ≤ k then f j else false
def rq_cap (M : kz_M) (wq : List Int32) (f : Nat → Bool) : Nat → Bool := match rq_fst f wq.length 0 with
  | none => f
  | some k => if rq_capd M (wq.getD k 0) = true then rq_cut f k else f
set_option maxRecDepth 100000 in
set_option maxHeartbeats 1000000 in
theorem lp_rcap (l : Launch) {M : kz_M} {wq : List Int32} {f : Nat → Bool} {k : Nat} (hq : rq_at M wq) (hk : k < wq.length) : ∀ (n i : Nat) (N : kz_M), k < i → i + n = wq.length → rq_ag M N → rq_fl N i (rq_cut f k) → kz_G l sR m_Mo_capped 37 [some (.ref 0), some (.int (nI k)), some (.int (nI i))] [] N (fun v O => v = none ∧ rq_ag M O ∧ rq_fl O wq.length (rq_cut f k)) := by
  intro n
  have h16 := hq.2.1
  induction n with
  | zero =>
    intro i N hki hi ha hf
    have hqN := hq.ag ha
    obtain rfl : i = wq.length := by omega
    refine kz_eta ?_
    refine kz_iload_n d_Mo_capped_37 rfl rfl ?_
    refine kz_aload_n d_Mo_capped_38 rfl rfl ?_
    refine kz_getIp fd_Mo_134 rfl rfl (Or.inl rfl) d_Mo_capped_39 rfl ?_
    refine kz_topi hqN.1 ?_
    refine kz_icmp_ge (tgt := 58) d_Mo_capped_42 (by decide) rfl (fun h42 => ?_) (fun h42 => ?_)
    · exact kz_vret rfl d_Mo_capped_58 (⟨rfl, ha, hf⟩)
    · exact absurd (Int32.le_refl _) h42
  | succ n ih =>
    intro i N hki hi ha hf
    have hqN := hq.ag ha
    have hi16 : vp_in (nI i) 16 := rq_in (n := wq.length) (by omega) h16
    have hcl : (nI i).toNatClampNeg = i := nI_clamp (by omega)
    have h := ih (i + 1) (kz_u N.1 17 i 0, N.2) (by omega) (by omega) (ha.put _ _) (fun j hj => by
      show kz_u N.1 17 i 0 17 j = _
      by_cases q : j = i
      · subst q
        rw [kz_u_same, rq_cut, if_neg (by omega)]
        rfl
      · exact (kz_u_ne _ _ _ _ (fun z => q z.2)).trans (hf j (by omega)))
    refine kz_eta ?_
    refine kz_iload_n d_Mo_capped_37 rfl rfl ?_
    refine kz_aload_n d_Mo_capped_38 rfl rfl ?_
    refine kz_getIp fd_Mo_134 rfl rfl (Or.inl rfl) d_Mo_capped_39 rfl ?_
    refine kz_topi hqN.1 ?_
    refine kz_icmp_ge (tgt := 58) d_Mo_capped_42 (by decide) rfl (fun h42 => ?_) (fun h42 => ?_)
    · exact absurd h42 (nI_ge (by omega) (by omega))
    · refine kz_aload_n d_Mo_capped_45 rfl rfl ?_
      refine kz_getR fd_Mo_68 rfl rfl rfl d_Mo_capped_46 rfl ?_
      refine kz_iload_n d_Mo_capped_49 rfl rfl ?_
      refine kz_iconst (v := 0) d_Mo_capped_50 (by decide) rfl ?_
      refine kz_zastp rfl (by first | assumption | exact kz_vin (by decide)) hcl (by first | assumption | decide | exact kz_ib_or _) d_Mo_capped_51 rfl ?_
      refine kz_iinc d_Mo_capped_52 rfl rfl (Nat.le_of_ble_eq_true rfl) (kz_inc i) rfl ?_
      refine kz_goto (tgt := 37) d_Mo_capped_55 (by decide) ?_
      exact h
set_option maxRecDepth 100000 in
set_option maxHeartbeats 1000000 in
theorem c_Mo_capped (l : Launch) {M : kz_M} {wq : List Int32} {f : Nat → Bool} (hq : rq_at M wq) (hf : rq_fl M wq.length f) : kz_T l sR m_Mo_capped [.ref 0] M (fun v O => v = none ∧ rq_ag M O ∧ rq_fl O wq.length (rq_cap M wq f)) := by
  have h16 := hq.2.1
  refine kz_intro (by decide +kernel) (Nat.le_of_ble_eq_true rfl) ?_
  show kz_G l sR m_Mo_capped 0 [some (.ref 0), none, none] [] M _
  cases ho : rq_fst f wq.length 0 with
  | none =>
    have hc : rq_cap M wq f = f := by unfold rq_cap; rw [ho]
    rw [hc]
    refine kz_aload_n d_Mo_capped_0 rfl rfl ?_
    refine kz_callVi (c_Mo_oldest l hq hf) cv_Mo_199 rfl rfl rfl ⟨by decide, by decide⟩ rfl (Nat.le_of_ble_eq_true rfl) d_Mo_capped_1 rfl ?_
    refine kz_topi (y := -1) (by rw [ho]; rfl) ?_
    refine kz_istore_n (i := 1) d_Mo_capped_4 rfl rfl (Nat.le_of_ble_eq_true rfl) rfl ?_
    refine kz_iload_n d_Mo_capped_5 rfl rfl ?_
    refine kz_if_lt (tgt := 32) d_Mo_capped_6 (by decide) rfl (fun h6 => ?_) (fun h6 => ?_)
    · exact kz_vret rfl d_Mo_capped_32 (⟨rfl, rq_ag.rf, hf⟩)
    · exact absurd (by decide) h6
  | some k =>
    obtain ⟨-, hk⟩ := rq_fst_lt _ _ _ ho
    rw [Nat.zero_add] at hk
    obtain ⟨y, hy⟩ : ∃ y, wq[k]? = some y := ⟨_, List.getElem?_eq_getElem hk⟩
    have hk16 : vp_in (nI k) 16 := rq_in hk h16
    obtain ⟨hy4, hya, hyw⟩ := hq.2.2.2 y (List.mem_of_getElem? hy)
    have hg : wq.getD k 0 = y := by rw [List.getD_eq_getElem?_getD, hy]; rfl
    have hc : rq_cap M wq f = if rq_capd M y = true then rq_cut f k else f := by unfold rq_cap; rw [ho]; simp only [hg]
    rw [hc]
    refine kz_aload_n d_Mo_capped_0 rfl rfl ?_
    refine kz_callVi (c_Mo_oldest l hq hf) cv_Mo_199 rfl rfl rfl ⟨by decide, by decide⟩ rfl (Nat.le_of_ble_eq_true rfl) d_Mo_capped_1 rfl ?_
    refine kz_topi (y := nI k) (by rw [ho]; rfl) ?_
    refine kz_istore_n (i := 1) d_Mo_capped_4 rfl rfl (Nat.le_of_ble_eq_true rfl) rfl ?_
    refine kz_iload_n d_Mo_capped_5 rfl rfl ?_
    refine kz_if_lt (tgt := 32) d_Mo_capped_6 (by decide) rfl (fun h6 => ?_) (fun h6 => ?_)
    · exact kz_vret rfl d_Mo_capped_32 (by first | exact absurd h6 (nI_pos (by omega)) | (rw [if_neg (by rw [show rq_capd M y = false from decide_eq_false h29]; decide)]; exact ⟨rfl, rq_ag.rf, hf⟩))
    · refine kz_aload_n d_Mo_capped_9 rfl rfl ?_
      refine kz_getIp fd_Mo_96 rfl rfl (Or.inl rfl) d_Mo_capped_10 rfl ?_
      refine kz_aload_n d_Mo_capped_13 rfl rfl ?_
      refine kz_getR fd_Mo_47 rfl rfl rfl d_Mo_capped_14 rfl ?_
      refine kz_aload_n d_Mo_capped_17 rfl rfl ?_
      refine kz_getR fd_Mo_62 rfl rfl rfl d_Mo_capped_18 rfl ?_
      refine kz_iload_n d_Mo_capped_21 rfl rfl ?_
      refine kz_ialdp rfl (by first | assumption | exact kz_vin (by decide)) rfl d_Mo_capped_22 rfl ?_
      refine kz_topi (rq_read hq hy) ?_
      refine kz_ialdp rfl (by first | assumption | exact kz_vin (by decide)) rfl d_Mo_capped_23 rfl ?_
      refine kz_isub d_Mo_capped_24 rfl ?_
      refine kz_aload_n d_Mo_capped_25 rfl rfl ?_
      refine kz_getIp fd_Mo_89 rfl rfl (Or.inl rfl) d_Mo_capped_26 rfl ?_
      refine kz_icmp_gt (tgt := 33) d_Mo_capped_29 (by decide) rfl (fun h29 => ?_) (fun h29 => ?_)
      · refine kz_iload_n d_Mo_capped_33 rfl rfl ?_
        refine kz_iconst (v := 1) d_Mo_capped_34 (by decide) rfl ?_
        refine kz_iadd d_Mo_capped_35 rfl ?_
        refine kz_topi (nI_1 k) ?_
        refine kz_istore_n (i := 2) d_Mo_capped_36 rfl rfl (Nat.le_of_ble_eq_true rfl) rfl ?_
        rw [if_pos (show rq_capd M y = true from decide_eq_true h29)]
        exact lp_rcap l hq hk (wq.length - (k + 1)) (k + 1) M (by omega) (by omega) rq_ag.rf (fun j hj => by rw [rq_cut, if_pos (by omega)]; exact hf j (by omega))
      · exact kz_vret rfl d_Mo_capped_32 (by first | exact absurd h6 (nI_pos (by omega)) | (rw [if_neg (by rw [show rq_capd M y = false from decide_eq_false h29]; decide)]; exact ⟨rfl, rq_ag.rf, hf⟩))
def rq_an (P : Nat → Bool) : Nat → Nat → Bool
  | 0, _ => false
  | n + 1, i => P i || rq_an P n (i + 1)
def rq_wt (M : kz_M) (wq : List Int32) (f : Nat → Bool) (b : Int32) (i : Nat) : Bool := f i && (decide (ck_bank (rq_a M (wq.getD i 0)) = b) && decide (ck_row (rq_a M (wq.getD i 0)) = M.1 4 b.toNatClampNeg))
set_option maxRecDepth 100000 in
set_option maxHeartbeats 1000000 in
theorem lp_rwant (l : Launch) {M : kz_M} {wq : List Int32} {f : Nat → Bool} {b : Int32} (hq : rq_at M wq) (hf : rq_fl M wq.length f) (hb : vp_in b 4) : ∀ (n i : Nat) (z : Bool), i + n = wq.length → kz_G l sR m_Mo_isWanted 4 [some (.ref 0), some (.int b), some (.int (kz_ib z)), some (.int (nI i))] [] M (fun v N => v = some (.int (kz_ib (z || rq_an (rq_wt M wq f b) n i))) ∧ N = M) := by
  intro n
  have h16 := hq.2.1
  induction n with
  | zero =>
    intro i z hi
    obtain rfl : i = wq.length := by omega
    refine kz_iload_n d_Mo_isWanted_4 rfl rfl ?_
    refine kz_aload_n d_Mo_isWanted_5 rfl rfl ?_
    refine kz_getIp fd_Mo_134 rfl rfl (Or.inl rfl) d_Mo_isWanted_6 rfl ?_
    refine kz_topi hq.1 ?_
    refine kz_icmp_ge (tgt := 78) d_Mo_isWanted_9 (by decide) rfl (fun h9 => ?_) (fun h9 => ?_)
    · refine kz_iload_n d_Mo_isWanted_78 rfl rfl ?_
      exact kz_zret rfl d_Mo_isWanted_79 (by first | assumption | decide | exact kz_ib_or _) (⟨by rw [rq_an, Bool.or_false], rfl⟩)
    · exact absurd (Int32.le_refl _) h9
  | succ n ih =>
    intro i z hi
    obtain ⟨y, hy⟩ : ∃ y, wq[i]? = some y := ⟨_, List.getElem?_eq_getElem (by omega)⟩
    have hi16 : vp_in (nI i) 16 := rq_in (n := wq.length) (by omega) h16
    have hcl : (nI i).toNatClampNeg = i := nI_clamp (by omega)
    obtain ⟨hy4, hya, hyw⟩ := hq.2.2.2 y (List.mem_of_getElem? hy)
    have hg : wq.getD i 0 = y := by rw [List.getD_eq_getElem?_getD, hy]; rfl
    have hr : M.1 17 (nI i).toNatClampNeg = kz_ib (f i) := by rw [hcl]; exact hf i (by omega)
    have hP : rq_wt M wq f b i = (f i && (decide (ck_bank (rq_a M y) = b) && decide (ck_row (rq_a M y) = M.1 4 b.toNatClampNeg))) := by unfold rq_wt; rw [hg]
    refine kz_iload_n d_Mo_isWanted_4 rfl rfl ?_
    refine kz_aload_n d_Mo_isWanted_5 rfl rfl ?_
    refine kz_getIp fd_Mo_134 rfl rfl (Or.inl rfl) d_Mo_isWanted_6 rfl ?_
    refine kz_topi hq.1 ?_
    refine kz_icmp_ge (tgt := 78) d_Mo_isWanted_9 (by decide) rfl (fun h9 => ?_) (fun h9 => ?_)
    · exact absurd h9 (nI_ge (by omega) (by omega))
    · refine kz_iload_n d_Mo_isWanted_12 rfl rfl ?_
      refine kz_if_neb (tgt := 66) d_Mo_isWanted_13 (by decide) rfl (fun h13 => ?_) (fun h13 => ?_)
      · refine kz_iconst (v := 1) d_Mo_isWanted_66 (by decide) rfl ?_
        refine kz_goto (tgt := 71) d_Mo_isWanted_67 (by decide) ?_
        refine kz_istore_n (i := 2) d_Mo_isWanted_71 rfl rfl (Nat.le_of_ble_eq_true rfl) rfl ?_
        refine kz_iinc d_Mo_isWanted_72 rfl rfl (Nat.le_of_ble_eq_true rfl) (kz_inc i) rfl ?_
        refine kz_goto (tgt := 4) d_Mo_isWanted_75 (by decide) ?_
        have h := ih (i + 1) true (by omega)
        subst h13
        rw [Bool.true_or] at h ⊢
        exact h
      · refine kz_aload_n d_Mo_isWanted_16 rfl rfl ?_
        refine kz_getR fd_Mo_68 rfl rfl rfl d_Mo_isWanted_17 rfl ?_
        refine kz_iload_n d_Mo_isWanted_20 rfl rfl ?_
        refine kz_zaldp rfl (by first | assumption | exact kz_vin (by decide)) rfl d_Mo_isWanted_21 rfl ?_
        refine kz_topi hr ?_
        refine kz_if_eqb (tgt := 70) d_Mo_isWanted_22 (by decide) rfl (fun h22 => ?_) (fun h22 => ?_)
        · refine kz_iconst (v := 0) d_Mo_isWanted_70 (by decide) rfl ?_
          refine kz_istore_n (i := 2) d_Mo_isWanted_71 rfl rfl (Nat.le_of_ble_eq_true rfl) rfl ?_
          refine kz_iinc d_Mo_isWanted_72 rfl rfl (Nat.le_of_ble_eq_true rfl) (kz_inc i) rfl ?_
          refine kz_goto (tgt := 4) d_Mo_isWanted_75 (by decide) ?_
          have h := ih (i + 1) false (by omega)
          subst h13
          rw [rq_an, hP, h22, Bool.false_and, Bool.false_or]
          exact h
        · refine kz_aload_n d_Mo_isWanted_25 rfl rfl ?_
          refine kz_getR fd_Mo_44 rfl rfl rfl d_Mo_isWanted_26 rfl ?_
          refine kz_aload_n d_Mo_isWanted_29 rfl rfl ?_
          refine kz_getR fd_Mo_62 rfl rfl rfl d_Mo_isWanted_30 rfl ?_
          refine kz_iload_n d_Mo_isWanted_33 rfl rfl ?_
          refine kz_ialdp rfl (by first | assumption | exact kz_vin (by decide)) rfl d_Mo_isWanted_34 rfl ?_
          refine kz_topi (rq_read hq hy) ?_
          refine kz_ialdp rfl (by first | assumption | exact kz_vin (by decide)) rfl d_Mo_isWanted_35 rfl ?_
          refine kz_callSi (c_Mo_bankAt l hya) cs_Mo_167 rfl ⟨by decide, by decide⟩ rfl (Nat.le_of_ble_eq_true rfl) d_Mo_isWanted_36 rfl ?_
          refine kz_iload_n d_Mo_isWanted_39 rfl rfl ?_
          refine kz_icmp_ne (tgt := 70) d_Mo_isWanted_40 (by decide) rfl (fun h40 => ?_) (fun h40 => ?_)
          · refine kz_iconst (v := 0) d_Mo_isWanted_70 (by decide) rfl ?_
            refine kz_istore_n (i := 2) d_Mo_isWanted_71 rfl rfl (Nat.le_of_ble_eq_true rfl) rfl ?_
            refine kz_iinc d_Mo_isWanted_72 rfl rfl (Nat.le_of_ble_eq_true rfl) (kz_inc i) rfl ?_
            refine kz_goto (tgt := 4) d_Mo_isWanted_75 (by decide) ?_
            have h := ih (i + 1) false (by omega)
            subst h13
            rw [rq_an, hP, show decide (ck_bank (rq_a M y) = b) = false from decide_eq_false h40, Bool.false_and, Bool.and_false, Bool.false_or]
            exact h
          · refine kz_aload_n d_Mo_isWanted_43 rfl rfl ?_
            refine kz_getR fd_Mo_44 rfl rfl rfl d_Mo_isWanted_44 rfl ?_
            refine kz_aload_n d_Mo_isWanted_47 rfl rfl ?_
            refine kz_getR fd_Mo_62 rfl rfl rfl d_Mo_isWanted_48 rfl ?_
            refine kz_iload_n d_Mo_isWanted_51 rfl rfl ?_
            refine kz_ialdp rfl (by first | assumption | exact kz_vin (by decide)) rfl d_Mo_isWanted_52 rfl ?_
            refine kz_topi (rq_read hq hy) ?_
            refine kz_ialdp rfl (by first | assumption | exact kz_vin (by decide)) rfl d_Mo_isWanted_53 rfl ?_
            refine kz_callSi (c_Mo_rowAt l hya) cs_Mo_203 rfl ⟨by decide, by decide⟩ rfl (Nat.le_of_ble_eq_true rfl) d_Mo_isWanted_54 rfl ?_
            refine kz_aload_n d_Mo_isWanted_57 rfl rfl ?_
            refine kz_getR fd_Mo_20 rfl rfl rfl d_Mo_isWanted_58 rfl ?_
            refine kz_iload_n d_Mo_isWanted_61 rfl rfl ?_
            refine kz_ialdp rfl (by first | assumption | exact kz_vin (by decide)) rfl d_Mo_isWanted_62 rfl ?_
            refine kz_icmp_ne (tgt := 70) d_Mo_isWanted_63 (by decide) rfl (fun h63 => ?_) (fun h63 => ?_)
            · refine kz_iconst (v := 0) d_Mo_isWanted_70 (by decide) rfl ?_
              refine kz_istore_n (i := 2) d_Mo_isWanted_71 rfl rfl (Nat.le_of_ble_eq_true rfl) rfl ?_
              refine kz_iinc d_Mo_isWanted_72 rfl rfl (Nat.le_of_ble_eq_true rfl) (kz_inc i) rfl ?_
              refine kz_goto (tgt := 4) d_Mo_isWanted_75 (by decide) ?_
              have h := ih (i + 1) false (by omega)
              subst h13
              rw [rq_an, hP, show decide (ck_row (rq_a M y) = M.1 4 b.toNatClampNeg) = false from decide_eq_false h63, Bool.and_false, Bool.and_false, Bool.false_or]
              exact h
            · refine kz_iconst (v := 1) d_Mo_isWanted_66 (by decide) rfl ?_
              refine kz_goto (tgt := 71) d_Mo_isWanted_67 (by decide) ?_
              refine kz_istore_n (i := 2) d_Mo_isWanted_71 rfl rfl (Nat.le_of_ble_eq_true rfl) rfl ?_
              refine kz_iinc d_Mo_isWanted_72 rfl rfl (Nat.le_of_ble_eq_true rfl) (kz_inc i) rfl ?_
              refine kz_goto (tgt := 4) d_Mo_isWanted_75 (by decide) ?_
              have h := ih (i + 1) true (by omega)
              subst h13
              rw [rq_an, hP, h22, show decide (ck_bank (rq_a M y) = b) = true from decide_eq_true h40, show decide (ck_row (rq_a M y) = M.1 4 b.toNatClampNeg) = true from decide_eq_true h63]
              exact h
set_option maxRecDepth 100000 in
set_option maxHeartbeats 1000000 in
theorem c_Mo_isWanted (l : Launch) {M : kz_M} {wq : List Int32} {f : Nat → Bool} {b : Int32} (hq : rq_at M wq) (hf : rq_fl M wq.length f) (hb : vp_in b 4) : kz_Dt l sR m_Mo_isWanted [.ref 0, .int b] M (some (.int (kz_ib (rq_an (rq_wt M wq f b) wq.length 0)))) M := by
  refine kz_intro (by decide +kernel) (Nat.le_of_ble_eq_true rfl) ?_
  show kz_G l sR m_Mo_isWanted 0 [some (.ref 0), some (.int b), none, none] [] M _
  refine kz_iconst (v := 0) d_Mo_isWanted_0 (by decide) rfl ?_
  refine kz_istore_n (i := 2) d_Mo_isWanted_1 rfl rfl (Nat.le_of_ble_eq_true rfl) rfl ?_
  refine kz_iconst (v := 0) d_Mo_isWanted_2 (by decide) rfl ?_
  refine kz_istore_n (i := 3) d_Mo_isWanted_3 rfl rfl (Nat.le_of_ble_eq_true rfl) rfl ?_
  exact lp_rwant l hq hf hb wq.length 0 false (by omega)
