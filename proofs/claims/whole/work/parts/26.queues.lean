/-! Contracts of the class: the queues, read. -/
set_option maxRecDepth 100000 in
set_option maxHeartbeats 1000000 in
theorem lp_held (l : Launch) {M : kz_M} {rs : List Int32} {w : Int32} (hr : ln_at M 19 rs) (hb : ∀ r ∈ rs, vp_in r 400) : ∀ (ys : List Int32) (i : Nat) (z : Option Value), rs.drop i = ys → i ≤ 8 → kz_G l sC m_Bk_isHeld 11 [some (.ref 0), some (.int w), some (.int (cx_adr M w)), some (.int (nI i)), z] [] M (fun v N => v = some (.int (kz_ib (cx_held M ys w))) ∧ N = M) := by
  intro ys
  have h8 := hr.2.1
  induction ys with
  | nil =>
    intro i z hd hi
    have hl := ln_drop0 hd
    refine kz_iload_n d_Bk_isHeld_11 rfl rfl ?_
    refine kz_aload_n d_Bk_isHeld_12 rfl rfl ?_
    refine kz_getR fd_Bk_49 rfl rfl rfl d_Bk_isHeld_13 rfl ?_
    refine kz_callVi (c_Li_size l (by first | exact kl_19 | exact kl_21 | exact kl_23)) cv_Bk_81 rfl rfl rfl ⟨by decide, by decide⟩ rfl (Nat.le_of_ble_eq_true rfl) d_Bk_isHeld_16 rfl ?_
    refine kz_topi hr.1 ?_
    refine kz_icmp_ge (tgt := 59) d_Bk_isHeld_19 (by decide) rfl (fun h19 => ?_) (fun h19 => ?_)
    · refine kz_iconst (v := 0) d_Bk_isHeld_59 (by decide) rfl ?_
      exact kz_zret rfl d_Bk_isHeld_60 (by first | assumption | decide | exact kz_ib_or _) (⟨rfl, rfl⟩)
    · exact absurd (nI_le hl (by omega)) h19
  | cons y ys ih =>
    intro i z hd hi
    obtain ⟨hl, hy, hd2⟩ := ln_drop hd
    have hi8 : vp_in (nI i) 8 := ln_in8 hl h8
    have hy4 : vp_in y 400 := hb y (List.mem_of_getElem? hy)
    refine kz_iload_n d_Bk_isHeld_11 rfl rfl ?_
    refine kz_aload_n d_Bk_isHeld_12 rfl rfl ?_
    refine kz_getR fd_Bk_49 rfl rfl rfl d_Bk_isHeld_13 rfl ?_
    refine kz_callVi (c_Li_size l (by first | exact kl_19 | exact kl_21 | exact kl_23)) cv_Bk_81 rfl rfl rfl ⟨by decide, by decide⟩ rfl (Nat.le_of_ble_eq_true rfl) d_Bk_isHeld_16 rfl ?_
    refine kz_topi hr.1 ?_
    refine kz_icmp_ge (tgt := 59) d_Bk_isHeld_19 (by decide) rfl (fun h19 => ?_) (fun h19 => ?_)
    · exact absurd h19 (nI_ge hl (by omega))
    · refine kz_aload_n d_Bk_isHeld_22 rfl rfl ?_
      refine kz_getR fd_Bk_49 rfl rfl rfl d_Bk_isHeld_23 rfl ?_
      refine kz_iload_n d_Bk_isHeld_26 rfl rfl ?_
      refine kz_callVi (c_Li_at l (by first | exact kl_19 | exact kl_21 | exact kl_23) (by assumption)) cv_Bk_151 rfl rfl rfl ⟨by decide, by decide⟩ rfl (Nat.le_of_ble_eq_true rfl) d_Bk_isHeld_27 rfl ?_
      refine kz_topi (ln_read hr hy) ?_
      refine kz_istore d_Bk_isHeld_30 rfl (Nat.le_of_ble_eq_true rfl) rfl ?_
      refine kz_iload d_Bk_isHeld_32 rfl rfl ?_
      refine kz_iload_n d_Bk_isHeld_34 rfl rfl ?_
      refine kz_icmp_ge (tgt := 53) d_Bk_isHeld_35 (by decide) rfl (fun h35 => ?_) (fun h35 => ?_)
      · refine kz_iinc d_Bk_isHeld_53 rfl rfl (Nat.le_of_ble_eq_true rfl) (kz_inc i) rfl ?_
        refine kz_goto (tgt := 11) d_Bk_isHeld_56 (by decide) ?_
        have h := ih (i + 1) (some (.int y)) hd2 (by omega)
        first | (rw [cx_held, List.any_cons, decide_eq_true h35]; exact h) | (rw [cx_held, List.any_cons, show decide (cx_adr M y = cx_adr M w) = false from decide_eq_false h48, Bool.and_false]; exact h)
      · refine kz_aload_n d_Bk_isHeld_38 rfl rfl ?_
        refine kz_getR fd_Bk_42 rfl rfl rfl d_Bk_isHeld_39 rfl ?_
        refine kz_iload d_Bk_isHeld_42 rfl rfl ?_
        refine kz_callVi (c_Re_addressOf l (by assumption)) cv_Bk_154 rfl rfl rfl ⟨by decide, by decide⟩ rfl (Nat.le_of_ble_eq_true rfl) d_Bk_isHeld_44 rfl ?_
        refine kz_iload_n d_Bk_isHeld_47 rfl rfl ?_
        refine kz_icmp_ne (tgt := 53) d_Bk_isHeld_48 (by decide) rfl (fun h48 => ?_) (fun h48 => ?_)
        · refine kz_iinc d_Bk_isHeld_53 rfl rfl (Nat.le_of_ble_eq_true rfl) (kz_inc i) rfl ?_
          refine kz_goto (tgt := 11) d_Bk_isHeld_56 (by decide) ?_
          have h := ih (i + 1) (some (.int y)) hd2 (by omega)
          first | (rw [cx_held, List.any_cons, decide_eq_true h35]; exact h) | (rw [cx_held, List.any_cons, show decide (cx_adr M y = cx_adr M w) = false from decide_eq_false h48, Bool.and_false]; exact h)
        · refine kz_iconst (v := 1) d_Bk_isHeld_51 (by decide) rfl ?_
          exact kz_zret rfl d_Bk_isHeld_52 (by first | assumption | decide | exact kz_ib_or _) (⟨by rw [cx_held, List.any_cons, decide_eq_false h35, show decide (cx_adr M y = cx_adr M w) = true from decide_eq_true h48]; rfl, rfl⟩)
set_option maxRecDepth 100000 in
set_option maxHeartbeats 1000000 in
theorem c_Bk_isHeld (l : Launch) {M : kz_M} {rs : List Int32} {w : Int32} (hr : ln_at M 19 rs) (hb : ∀ r ∈ rs, vp_in r 400) (hw : vp_in w 400) : kz_Dt l sC m_Bk_isHeld [.ref 0, .int w] M (some (.int (kz_ib (cx_held M rs w)))) M := by
  refine kz_intro (by decide +kernel) (Nat.le_of_ble_eq_true rfl) ?_
  show kz_G l sC m_Bk_isHeld 0 [some (.ref 0), some (.int w), none, none, none] [] M _
  refine kz_aload_n d_Bk_isHeld_0 rfl rfl ?_
  refine kz_getR fd_Bk_42 rfl rfl rfl d_Bk_isHeld_1 rfl ?_
  refine kz_iload_n d_Bk_isHeld_4 rfl rfl ?_
  refine kz_callVi (c_Re_addressOf l (by assumption)) cv_Bk_154 rfl rfl rfl ⟨by decide, by decide⟩ rfl (Nat.le_of_ble_eq_true rfl) d_Bk_isHeld_5 rfl ?_
  refine kz_istore_n (i := 2) d_Bk_isHeld_8 rfl rfl (Nat.le_of_ble_eq_true rfl) rfl ?_
  refine kz_iconst (v := 0) d_Bk_isHeld_9 (by decide) rfl ?_
  refine kz_istore_n (i := 3) d_Bk_isHeld_10 rfl rfl (Nat.le_of_ble_eq_true rfl) rfl ?_
  exact lp_held l hr hb rs 0 none rfl (by decide)
set_option maxRecDepth 100000 in
set_option maxHeartbeats 1000000 in
theorem lp_want (l : Launch) {M : kz_M} {lk : List Int32} {b : Int32} (hr : ln_at M 23 lk) (hb : ∀ r ∈ lk, vp_in r 400) (hb4 : vp_in b 4) : ∀ (ys : List Int32) (i : Nat) (z : Option Value), lk.drop i = ys → i ≤ 8 → kz_G l sC m_Bk_openRowIsWanted 2 [some (.ref 0), some (.int b), some (.int (nI i)), z] [] M (fun v N => v = some (.int (kz_ib (cx_want M ys b))) ∧ N = M) := by
  intro ys
  have h8 := hr.2.1
  induction ys with
  | nil =>
    intro i z hd hi
    have hl := ln_drop0 hd
    refine kz_iload_n d_Bk_openRowIsWanted_2 rfl rfl ?_
    refine kz_aload_n d_Bk_openRowIsWanted_3 rfl rfl ?_
    refine kz_getR fd_Bk_56 rfl rfl rfl d_Bk_openRowIsWanted_4 rfl ?_
    refine kz_callVi (c_Li_size l (by first | exact kl_19 | exact kl_21 | exact kl_23)) cv_Bk_81 rfl rfl rfl ⟨by decide, by decide⟩ rfl (Nat.le_of_ble_eq_true rfl) d_Bk_openRowIsWanted_7 rfl ?_
    refine kz_topi hr.1 ?_
    refine kz_icmp_ge (tgt := 60) d_Bk_openRowIsWanted_10 (by decide) rfl (fun h10 => ?_) (fun h10 => ?_)
    · refine kz_iconst (v := 0) d_Bk_openRowIsWanted_60 (by decide) rfl ?_
      exact kz_zret rfl d_Bk_openRowIsWanted_61 (by first | assumption | decide | exact kz_ib_or _) (⟨rfl, rfl⟩)
    · exact absurd (nI_le hl (by omega)) h10
  | cons y ys ih =>
    intro i z hd hi
    obtain ⟨hl, hy, hd2⟩ := ln_drop hd
    have hi8 : vp_in (nI i) 8 := ln_in8 hl h8
    have hy4 : vp_in y 400 := hb y (List.mem_of_getElem? hy)
    refine kz_iload_n d_Bk_openRowIsWanted_2 rfl rfl ?_
    refine kz_aload_n d_Bk_openRowIsWanted_3 rfl rfl ?_
    refine kz_getR fd_Bk_56 rfl rfl rfl d_Bk_openRowIsWanted_4 rfl ?_
    refine kz_callVi (c_Li_size l (by first | exact kl_19 | exact kl_21 | exact kl_23)) cv_Bk_81 rfl rfl rfl ⟨by decide, by decide⟩ rfl (Nat.le_of_ble_eq_true rfl) d_Bk_openRowIsWanted_7 rfl ?_
    refine kz_topi hr.1 ?_
    refine kz_icmp_ge (tgt := 60) d_Bk_openRowIsWanted_10 (by decide) rfl (fun h10 => ?_) (fun h10 => ?_)
    · exact absurd h10 (nI_ge hl (by omega))
    · refine kz_aload_n d_Bk_openRowIsWanted_13 rfl rfl ?_
      refine kz_getR fd_Bk_42 rfl rfl rfl d_Bk_openRowIsWanted_14 rfl ?_
      refine kz_aload_n d_Bk_openRowIsWanted_17 rfl rfl ?_
      refine kz_getR fd_Bk_56 rfl rfl rfl d_Bk_openRowIsWanted_18 rfl ?_
      refine kz_iload_n d_Bk_openRowIsWanted_21 rfl rfl ?_
      refine kz_callVi (c_Li_at l (by first | exact kl_19 | exact kl_21 | exact kl_23) (by assumption)) cv_Bk_151 rfl rfl rfl ⟨by decide, by decide⟩ rfl (Nat.le_of_ble_eq_true rfl) d_Bk_openRowIsWanted_22 rfl ?_
      refine kz_topi (ln_read hr hy) ?_
      refine kz_callVi (c_Re_addressOf l (by assumption)) cv_Bk_154 rfl rfl rfl ⟨by decide, by decide⟩ rfl (Nat.le_of_ble_eq_true rfl) d_Bk_openRowIsWanted_25 rfl ?_
      refine kz_istore_n (i := 3) d_Bk_openRowIsWanted_28 rfl rfl (Nat.le_of_ble_eq_true rfl) rfl ?_
      refine kz_iload_n d_Bk_openRowIsWanted_29 rfl rfl ?_
      refine kz_callSi (c_Bk_bankOf l) cs_Bk_232 rfl ⟨by decide, by decide⟩ rfl (Nat.le_of_ble_eq_true rfl) d_Bk_openRowIsWanted_30 rfl ?_
      refine kz_iload_n d_Bk_openRowIsWanted_33 rfl rfl ?_
      refine kz_icmp_ne (tgt := 54) d_Bk_openRowIsWanted_34 (by decide) rfl (fun h34 => ?_) (fun h34 => ?_)
      · refine kz_iinc d_Bk_openRowIsWanted_54 rfl rfl (Nat.le_of_ble_eq_true rfl) (kz_inc i) rfl ?_
        refine kz_goto (tgt := 2) d_Bk_openRowIsWanted_57 (by decide) ?_
        have h := ih (i + 1) (some (.int (cx_adr M y))) hd2 (by omega)
        first | (rw [cx_want, List.any_cons, show decide (ck_bank (cx_adr M y) = b) = false from decide_eq_false h34]; exact h) | (rw [cx_want, List.any_cons, show decide (ck_row (cx_adr M y) = M.1 3 b.toNatClampNeg) = false from decide_eq_false h49, Bool.and_false]; exact h)
      · refine kz_iload_n d_Bk_openRowIsWanted_37 rfl rfl ?_
        refine kz_callSi (c_Bk_rowOf l) cs_Bk_235 rfl ⟨by decide, by decide⟩ rfl (Nat.le_of_ble_eq_true rfl) d_Bk_openRowIsWanted_38 rfl ?_
        refine kz_aload_n d_Bk_openRowIsWanted_41 rfl rfl ?_
        refine kz_getR fd_Bk_28 rfl rfl rfl d_Bk_openRowIsWanted_42 rfl ?_
        refine kz_iload_n d_Bk_openRowIsWanted_45 rfl rfl ?_
        refine kz_callVi (c_Ba_openRow l (by assumption)) cv_Bk_142 rfl rfl rfl ⟨by decide, by decide⟩ rfl (Nat.le_of_ble_eq_true rfl) d_Bk_openRowIsWanted_46 rfl ?_
        refine kz_icmp_ne (tgt := 54) d_Bk_openRowIsWanted_49 (by decide) rfl (fun h49 => ?_) (fun h49 => ?_)
        · refine kz_iinc d_Bk_openRowIsWanted_54 rfl rfl (Nat.le_of_ble_eq_true rfl) (kz_inc i) rfl ?_
          refine kz_goto (tgt := 2) d_Bk_openRowIsWanted_57 (by decide) ?_
          have h := ih (i + 1) (some (.int (cx_adr M y))) hd2 (by omega)
          first | (rw [cx_want, List.any_cons, show decide (ck_bank (cx_adr M y) = b) = false from decide_eq_false h34]; exact h) | (rw [cx_want, List.any_cons, show decide (ck_row (cx_adr M y) = M.1 3 b.toNatClampNeg) = false from decide_eq_false h49, Bool.and_false]; exact h)
        · refine kz_iconst (v := 1) d_Bk_openRowIsWanted_52 (by decide) rfl ?_
          exact kz_zret rfl d_Bk_openRowIsWanted_53 (by first | assumption | decide | exact kz_ib_or _) (⟨by rw [cx_want, List.any_cons, show decide (ck_bank (cx_adr M y) = b) = true from decide_eq_true h34, show decide (ck_row (cx_adr M y) = M.1 3 b.toNatClampNeg) = true from decide_eq_true h49]; rfl, rfl⟩)
set_option maxRecDepth 100000 in
set_option maxHeartbeats 1000000 in
theorem c_Bk_openRowIsWanted (l : Launch) {M : kz_M} {lk : List Int32} {b : Int32} (hr : ln_at M 23 lk) (hb : ∀ r ∈ lk, vp_in r 400) (hb4 : vp_in b 4) : kz_Dt l sC m_Bk_openRowIsWanted [.ref 0, .int b] M (some (.int (kz_ib (cx_want M lk b)))) M := by
  refine kz_intro (by decide +kernel) (Nat.le_of_ble_eq_true rfl) ?_
  show kz_G l sC m_Bk_openRowIsWanted 0 [some (.ref 0), some (.int b), none, none] [] M _
  refine kz_iconst (v := 0) d_Bk_openRowIsWanted_0 (by decide) rfl ?_
  refine kz_istore_n (i := 2) d_Bk_openRowIsWanted_1 rfl rfl (Nat.le_of_ble_eq_true rfl) rfl ?_
  exact lp_want l hr hb hb4 lk 0 none rfl (by decide)
set_option maxRecDepth 100000 in
set_option maxHeartbeats 1000000 in
theorem lp_last (l : Launch) {M : kz_M} {ws : List Int32} {a : Int32} (hr : ln_at M 21 ws) (hb : ∀ r ∈ ws, vp_in r 400) : ∀ (n : Nat) (x : Int32), x = nI n - 1 → n ≤ ws.length → kz_G l sC m_Bk_latestWritingOf 10 [some (.ref 0), some (.int a), some (.int x)] [] M (fun v N => v = some (.int (cx_last M (ws.take n) a)) ∧ N = M) := by
  intro n
  have h8 := hr.2.1
  induction n with
  | zero =>
    intro x hx hn
    subst hx
    refine kz_iload_n d_Bk_latestWritingOf_10 rfl rfl ?_
    refine kz_if_lt (tgt := 48) d_Bk_latestWritingOf_11 (by decide) rfl (fun h11 => ?_) (fun h11 => ?_)
    · refine kz_iconst (v := -1) d_Bk_latestWritingOf_48 (by decide) rfl ?_
      exact kz_iret rfl d_Bk_latestWritingOf_49 (⟨rfl, rfl⟩)
    · exact absurd (by decide) h11
  | succ n ih =>
    intro x hx hn
    rw [nI_pred] at hx
    subst hx
    obtain ⟨y, hy⟩ : ∃ y, ws[n]? = some y := ⟨_, List.getElem?_eq_getElem (by omega)⟩
    have hi8 : vp_in (nI n) 8 := ln_in8 (n := ws.length) (by omega) h8
    have hy4 : vp_in y 400 := hb y (List.mem_of_getElem? hy)
    have ht : (ws.take (n + 1)).reverse = y :: (ws.take n).reverse := by
      rw [List.take_succ, hy, List.reverse_append]; rfl
    refine kz_iload_n d_Bk_latestWritingOf_10 rfl rfl ?_
    refine kz_if_lt (tgt := 48) d_Bk_latestWritingOf_11 (by decide) rfl (fun h11 => ?_) (fun h11 => ?_)
    · exact absurd h11 (nI_pos (by omega))
    · refine kz_aload_n d_Bk_latestWritingOf_14 rfl rfl ?_
      refine kz_getR fd_Bk_42 rfl rfl rfl d_Bk_latestWritingOf_15 rfl ?_
      refine kz_aload_n d_Bk_latestWritingOf_18 rfl rfl ?_
      refine kz_getR fd_Bk_53 rfl rfl rfl d_Bk_latestWritingOf_19 rfl ?_
      refine kz_iload_n d_Bk_latestWritingOf_22 rfl rfl ?_
      refine kz_callVi (c_Li_at l (by first | exact kl_19 | exact kl_21 | exact kl_23) (by assumption)) cv_Bk_151 rfl rfl rfl ⟨by decide, by decide⟩ rfl (Nat.le_of_ble_eq_true rfl) d_Bk_latestWritingOf_23 rfl ?_
      refine kz_topi (ln_read hr hy) ?_
      refine kz_callVi (c_Re_addressOf l (by assumption)) cv_Bk_154 rfl rfl rfl ⟨by decide, by decide⟩ rfl (Nat.le_of_ble_eq_true rfl) d_Bk_latestWritingOf_26 rfl ?_
      refine kz_iload_n d_Bk_latestWritingOf_29 rfl rfl ?_
      refine kz_icmp_ne (tgt := 42) d_Bk_latestWritingOf_30 (by decide) rfl (fun h30 => ?_) (fun h30 => ?_)
      · refine kz_iinc d_Bk_latestWritingOf_42 rfl rfl (Nat.le_of_ble_eq_true rfl) (show nI n + Int32.ofInt (-1) = nI n - 1 by rw [Int32.sub_eq_add_neg]; rfl) rfl ?_
        refine kz_goto (tgt := 10) d_Bk_latestWritingOf_45 (by decide) ?_
        have h := ih (nI n - 1) rfl (by omega)
        rw [cx_last, ht, List.find?_cons, show decide (cx_adr M y = a) = false from decide_eq_false h30]
        exact h
      · refine kz_aload_n d_Bk_latestWritingOf_33 rfl rfl ?_
        refine kz_getR fd_Bk_53 rfl rfl rfl d_Bk_latestWritingOf_34 rfl ?_
        refine kz_iload_n d_Bk_latestWritingOf_37 rfl rfl ?_
        refine kz_callVi (c_Li_at l (by first | exact kl_19 | exact kl_21 | exact kl_23) (by assumption)) cv_Bk_151 rfl rfl rfl ⟨by decide, by decide⟩ rfl (Nat.le_of_ble_eq_true rfl) d_Bk_latestWritingOf_38 rfl ?_
        refine kz_topi (ln_read hr hy) ?_
        exact kz_iret rfl d_Bk_latestWritingOf_41 (⟨by rw [cx_last, ht, List.find?_cons, show decide (cx_adr M y = a) = true from decide_eq_true h30]; rfl, rfl⟩)
set_option maxRecDepth 100000 in
set_option maxHeartbeats 1000000 in
theorem c_Bk_latestWritingOf (l : Launch) {M : kz_M} {ws : List Int32} {a : Int32} (hr : ln_at M 21 ws) (hb : ∀ r ∈ ws, vp_in r 400) : kz_Dt l sC m_Bk_latestWritingOf [.ref 0, .int a] M (some (.int (cx_last M ws a))) M := by
  refine kz_intro (by decide +kernel) (Nat.le_of_ble_eq_true rfl) ?_
  show kz_G l sC m_Bk_latestWritingOf 0 [some (.ref 0), some (.int a), none] [] M _
  refine kz_aload_n d_Bk_latestWritingOf_0 rfl rfl ?_
  refine kz_getR fd_Bk_53 rfl rfl rfl d_Bk_latestWritingOf_1 rfl ?_
  refine kz_callVi (c_Li_size l (by first | exact kl_19 | exact kl_21 | exact kl_23)) cv_Bk_81 rfl rfl rfl ⟨by decide, by decide⟩ rfl (Nat.le_of_ble_eq_true rfl) d_Bk_latestWritingOf_4 rfl ?_
  refine kz_topi hr.1 ?_
  refine kz_iconst (v := 1) d_Bk_latestWritingOf_7 (by decide) rfl ?_
  refine kz_isub d_Bk_latestWritingOf_8 rfl ?_
  refine kz_istore_n (i := 2) d_Bk_latestWritingOf_9 rfl rfl (Nat.le_of_ble_eq_true rfl) rfl ?_
  have h := lp_last l hr hb (a := a) ws.length _ rfl (Nat.le_refl _)
  rw [List.take_length] at h
  exact h
