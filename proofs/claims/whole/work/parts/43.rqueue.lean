/-! Contracts of the reference: the queue. -/
def rq_at (M : kz_M) (wq : List Int32) : Prop := M.1 0 26 = nI wq.length ∧ wq.length ≤ 16 ∧ (∀ (i : Nat) (x : Int32), wq[i]? = some x → M.1 15 i = x) ∧ ∀ t ∈ wq, vp_in t 400 ∧ vp_in (M.1 9 t.toNatClampNeg) 256 ∧ (M.1 8 t.toNatClampNeg = 0 ∨ M.1 8 t.toNatClampNeg = 1)
def rq_w (M : kz_M) (t : Int32) : Bool := !decide (M.1 8 t.toNatClampNeg = 0)
def rq_a (M : kz_M) (t : Int32) : Int32 := M.1 9 t.toNatClampNeg
theorem rq_read {M : kz_M} {wq : List Int32} {i : Nat} {y : Int32} (h : rq_at M wq) (hy : wq[i]? = some y) : M.1 15 (nI i).toNatClampNeg = y := by
  have hl : i < wq.length := (List.getElem?_eq_some_iff.mp hy).1
  have := h.2.1
  rw [nI_clamp (by omega)]
  exact h.2.2.1 i y hy
theorem rq_in {i n : Nat} (h : i < n) (hn : n ≤ 16) : vp_in (nI i) 16 := vp_in_nI (by omega) (by decide)
def rq_last (M : kz_M) (wq : List Int32) (a : Int32) : Int32 := (wq.reverse.find? (fun t => rq_w M t && decide (rq_a M t = a))).getD (-1)
def rq_held (M : kz_M) (xs : List Int32) (a : Int32) : Bool := xs.any (fun r => !rq_w M r && decide (rq_a M r = a))
set_option maxRecDepth 100000 in
set_option maxHeartbeats 1000000 in
theorem lp_rwr (l : Launch) {M : kz_M} {wq : List Int32} {a : Int32} (hq : rq_at M wq) : ∀ (ys : List Int32) (i : Nat), wq.drop i = ys → i ≤ wq.length → kz_G l sR m_Mo_writing 4 [some (.ref 0), some (.int a), some (.int (rq_last M (wq.take i) a)), some (.int (nI i))] [] M (fun v N => v = some (.int (rq_last M wq a)) ∧ N = M) := by
  intro ys
  have h16 := hq.2.1
  induction ys with
  | nil =>
    intro i hd hi
    have hl := ln_drop0 hd
    have he : wq.take i = wq := List.take_of_length_le hl
    rw [he]
    refine kz_iload_n d_Mo_writing_4 rfl rfl ?_
    refine kz_aload_n d_Mo_writing_5 rfl rfl ?_
    refine kz_getIp fd_Mo_134 rfl rfl (Or.inl rfl) d_Mo_writing_6 rfl ?_
    refine kz_topi hq.1 ?_
    refine kz_icmp_ge (tgt := 58) d_Mo_writing_9 (by decide) rfl (fun h9 => ?_) (fun h9 => ?_)
    · refine kz_iload_n d_Mo_writing_58 rfl rfl ?_
      exact kz_iret rfl d_Mo_writing_59 (⟨rfl, rfl⟩)
    · exact absurd (nI_le hl (by omega)) h9
  | cons y ys ih =>
    intro i hd hi
    obtain ⟨hl, hy, hd2⟩ := ln_drop hd
    have hi16 : vp_in (nI i) 16 := rq_in hl h16
    obtain ⟨hy4, hya, hyw⟩ := hq.2.2.2 y (List.mem_of_getElem? hy)
    have ht : (wq.take (i + 1)).reverse = y :: (wq.take i).reverse := by
      rw [List.take_succ, hy, List.reverse_append]; rfl
    have h := ih (i + 1) hd2 (by omega)
    refine kz_iload_n d_Mo_writing_4 rfl rfl ?_
    refine kz_aload_n d_Mo_writing_5 rfl rfl ?_
    refine kz_getIp fd_Mo_134 rfl rfl (Or.inl rfl) d_Mo_writing_6 rfl ?_
    refine kz_topi hq.1 ?_
    refine kz_icmp_ge (tgt := 58) d_Mo_writing_9 (by decide) rfl (fun h9 => ?_) (fun h9 => ?_)
    · exact absurd h9 (nI_ge hl (by omega))
    · refine kz_aload_n d_Mo_writing_12 rfl rfl ?_
      refine kz_getR fd_Mo_40 rfl rfl rfl d_Mo_writing_13 rfl ?_
      refine kz_aload_n d_Mo_writing_16 rfl rfl ?_
      refine kz_getR fd_Mo_62 rfl rfl rfl d_Mo_writing_17 rfl ?_
      refine kz_iload_n d_Mo_writing_20 rfl rfl ?_
      refine kz_ialdp rfl (by first | assumption | exact kz_vin (by decide)) rfl d_Mo_writing_21 rfl ?_
      refine kz_topi (rq_read hq hy) ?_
      refine kz_zaldp rfl (by first | assumption | exact kz_vin (by decide)) rfl d_Mo_writing_22 rfl ?_
      refine kz_if_eq (tgt := 50) d_Mo_writing_23 (by decide) rfl (fun h23 => ?_) (fun h23 => ?_)
      · refine kz_iload_n d_Mo_writing_50 rfl rfl ?_
        refine kz_istore_n (i := 2) d_Mo_writing_51 rfl rfl (Nat.le_of_ble_eq_true rfl) rfl ?_
        refine kz_iinc d_Mo_writing_52 rfl rfl (Nat.le_of_ble_eq_true rfl) (kz_inc i) rfl ?_
        refine kz_goto (tgt := 4) d_Mo_writing_55 (by decide) ?_
        rw [rq_last, ht, List.find?_cons, show rq_w M y = false by (unfold rq_w; rw [decide_eq_true h23]; rfl), Bool.false_and] at h
        exact h
      · refine kz_aload_n d_Mo_writing_26 rfl rfl ?_
        refine kz_getR fd_Mo_44 rfl rfl rfl d_Mo_writing_27 rfl ?_
        refine kz_aload_n d_Mo_writing_30 rfl rfl ?_
        refine kz_getR fd_Mo_62 rfl rfl rfl d_Mo_writing_31 rfl ?_
        refine kz_iload_n d_Mo_writing_34 rfl rfl ?_
        refine kz_ialdp rfl (by first | assumption | exact kz_vin (by decide)) rfl d_Mo_writing_35 rfl ?_
        refine kz_topi (rq_read hq hy) ?_
        refine kz_ialdp rfl (by first | assumption | exact kz_vin (by decide)) rfl d_Mo_writing_36 rfl ?_
        refine kz_iload_n d_Mo_writing_37 rfl rfl ?_
        refine kz_icmp_ne (tgt := 50) d_Mo_writing_38 (by decide) rfl (fun h38 => ?_) (fun h38 => ?_)
        · refine kz_iload_n d_Mo_writing_50 rfl rfl ?_
          refine kz_istore_n (i := 2) d_Mo_writing_51 rfl rfl (Nat.le_of_ble_eq_true rfl) rfl ?_
          refine kz_iinc d_Mo_writing_52 rfl rfl (Nat.le_of_ble_eq_true rfl) (kz_inc i) rfl ?_
          refine kz_goto (tgt := 4) d_Mo_writing_55 (by decide) ?_
          rw [rq_last, ht, List.find?_cons, show decide (rq_a M y = a) = false from decide_eq_false h38, Bool.and_false] at h
          exact h
        · refine kz_aload_n d_Mo_writing_41 rfl rfl ?_
          refine kz_getR fd_Mo_62 rfl rfl rfl d_Mo_writing_42 rfl ?_
          refine kz_iload_n d_Mo_writing_45 rfl rfl ?_
          refine kz_ialdp rfl (by first | assumption | exact kz_vin (by decide)) rfl d_Mo_writing_46 rfl ?_
          refine kz_topi (rq_read hq hy) ?_
          refine kz_goto (tgt := 51) d_Mo_writing_47 (by decide) ?_
          refine kz_istore_n (i := 2) d_Mo_writing_51 rfl rfl (Nat.le_of_ble_eq_true rfl) rfl ?_
          refine kz_iinc d_Mo_writing_52 rfl rfl (Nat.le_of_ble_eq_true rfl) (kz_inc i) rfl ?_
          refine kz_goto (tgt := 4) d_Mo_writing_55 (by decide) ?_
          rw [rq_last, ht, List.find?_cons, show rq_w M y = true by (unfold rq_w; rw [decide_eq_false h23]; rfl), show decide (rq_a M y = a) = true from decide_eq_true h38] at h
          exact h
set_option maxRecDepth 100000 in
set_option maxHeartbeats 1000000 in
theorem c_Mo_writing (l : Launch) {M : kz_M} {wq : List Int32} {a : Int32} (hq : rq_at M wq) : kz_Dt l sR m_Mo_writing [.ref 0, .int a] M (some (.int (rq_last M wq a))) M := by
  refine kz_intro (by decide +kernel) (Nat.le_of_ble_eq_true rfl) ?_
  show kz_G l sR m_Mo_writing 0 [some (.ref 0), some (.int a), none, none] [] M _
  refine kz_iconst (v := -1) d_Mo_writing_0 (by decide) rfl ?_
  refine kz_istore_n (i := 2) d_Mo_writing_1 rfl rfl (Nat.le_of_ble_eq_true rfl) rfl ?_
  refine kz_iconst (v := 0) d_Mo_writing_2 (by decide) rfl ?_
  refine kz_istore_n (i := 3) d_Mo_writing_3 rfl rfl (Nat.le_of_ble_eq_true rfl) rfl ?_
  exact lp_rwr l hq wq 0 rfl (Nat.zero_le _)
set_option maxRecDepth 100000 in
set_option maxHeartbeats 1000000 in
theorem lp_rheld (l : Launch) {M : kz_M} {wq : List Int32} {k : Nat} {t : Int32} (hq : rq_at M wq) (hk : wq[k]? = some t) : ∀ (ys : List Int32) (i : Nat) (z : Bool), (wq.take k).drop i = ys → i ≤ k → kz_G l sR m_Mo_isHeld 4 [some (.ref 0), some (.int (nI k)), some (.int (kz_ib z)), some (.int (nI i))] [] M (fun v N => v = some (.int (kz_ib (z || rq_held M ys (rq_a M t)))) ∧ N = M) := by
  intro ys
  have h16 := hq.2.1
  have hkl : k < wq.length := (List.getElem?_eq_some_iff.mp hk).1
  have hk16 : vp_in (nI k) 16 := rq_in hkl h16
  obtain ⟨ht4, hta, -⟩ := hq.2.2.2 t (List.mem_of_getElem? hk)
  induction ys with
  | nil =>
    intro i z hd hi
    have hl := ln_drop0 hd
    rw [List.length_take] at hl
    obtain rfl : i = k := by omega
    refine kz_iload_n d_Mo_isHeld_4 rfl rfl ?_
    refine kz_iload_n d_Mo_isHeld_5 rfl rfl ?_
    refine kz_icmp_ge (tgt := 64) d_Mo_isHeld_6 (by decide) rfl (fun h6 => ?_) (fun h6 => ?_)
    · refine kz_iload_n d_Mo_isHeld_64 rfl rfl ?_
      exact kz_zret rfl d_Mo_isHeld_65 (by first | assumption | decide | exact kz_ib_or _) (⟨by rw [rq_held, List.any_nil, Bool.or_false], rfl⟩)
    · exact absurd (Int32.le_refl _) h6
  | cons y ys ih =>
    intro i z hd hi
    obtain ⟨hl, hy, hd2⟩ := ln_drop hd
    rw [List.length_take] at hl
    have hy : wq[i]? = some y := by rw [List.getElem?_take_of_lt (by omega)] at hy; exact hy
    have hi16 : vp_in (nI i) 16 := rq_in (n := wq.length) (by omega) h16
    obtain ⟨hy4, hya, hyw⟩ := hq.2.2.2 y (List.mem_of_getElem? hy)
    refine kz_iload_n d_Mo_isHeld_4 rfl rfl ?_
    refine kz_iload_n d_Mo_isHeld_5 rfl rfl ?_
    refine kz_icmp_ge (tgt := 64) d_Mo_isHeld_6 (by decide) rfl (fun h6 => ?_) (fun h6 => ?_)
    · exact absurd h6 (nI_ge (by omega) (by omega))
    · refine kz_iload_n d_Mo_isHeld_9 rfl rfl ?_
      refine kz_if_neb (tgt := 52) d_Mo_isHeld_10 (by decide) rfl (fun h10 => ?_) (fun h10 => ?_)
      · refine kz_iconst (v := 1) d_Mo_isHeld_52 (by decide) rfl ?_
        refine kz_goto (tgt := 57) d_Mo_isHeld_53 (by decide) ?_
        refine kz_istore_n (i := 2) d_Mo_isHeld_57 rfl rfl (Nat.le_of_ble_eq_true rfl) rfl ?_
        refine kz_iinc d_Mo_isHeld_58 rfl rfl (Nat.le_of_ble_eq_true rfl) (kz_inc i) rfl ?_
        refine kz_goto (tgt := 4) d_Mo_isHeld_61 (by decide) ?_
        have h := ih (i + 1) true hd2 (by omega)
        subst h10
        exact h
      · refine kz_aload_n d_Mo_isHeld_13 rfl rfl ?_
        refine kz_getR fd_Mo_40 rfl rfl rfl d_Mo_isHeld_14 rfl ?_
        refine kz_aload_n d_Mo_isHeld_17 rfl rfl ?_
        refine kz_getR fd_Mo_62 rfl rfl rfl d_Mo_isHeld_18 rfl ?_
        refine kz_iload_n d_Mo_isHeld_21 rfl rfl ?_
        refine kz_ialdp rfl (by first | assumption | exact kz_vin (by decide)) rfl d_Mo_isHeld_22 rfl ?_
        refine kz_topi (rq_read hq hy) ?_
        refine kz_zaldp rfl (by first | assumption | exact kz_vin (by decide)) rfl d_Mo_isHeld_23 rfl ?_
        refine kz_if_ne (tgt := 56) d_Mo_isHeld_24 (by decide) rfl (fun h24 => ?_) (fun h24 => ?_)
        · refine kz_iconst (v := 0) d_Mo_isHeld_56 (by decide) rfl ?_
          refine kz_istore_n (i := 2) d_Mo_isHeld_57 rfl rfl (Nat.le_of_ble_eq_true rfl) rfl ?_
          refine kz_iinc d_Mo_isHeld_58 rfl rfl (Nat.le_of_ble_eq_true rfl) (kz_inc i) rfl ?_
          refine kz_goto (tgt := 4) d_Mo_isHeld_61 (by decide) ?_
          have h := ih (i + 1) false hd2 (by omega)
          subst h10
          rw [rq_held, List.any_cons, show rq_w M y = true by (unfold rq_w; rw [decide_eq_false h24]; rfl)]
          exact h
        · refine kz_aload_n d_Mo_isHeld_27 rfl rfl ?_
          refine kz_getR fd_Mo_44 rfl rfl rfl d_Mo_isHeld_28 rfl ?_
          refine kz_aload_n d_Mo_isHeld_31 rfl rfl ?_
          refine kz_getR fd_Mo_62 rfl rfl rfl d_Mo_isHeld_32 rfl ?_
          refine kz_iload_n d_Mo_isHeld_35 rfl rfl ?_
          refine kz_ialdp rfl (by first | assumption | exact kz_vin (by decide)) rfl d_Mo_isHeld_36 rfl ?_
          refine kz_topi (rq_read hq hy) ?_
          refine kz_ialdp rfl (by first | assumption | exact kz_vin (by decide)) rfl d_Mo_isHeld_37 rfl ?_
          refine kz_aload_n d_Mo_isHeld_38 rfl rfl ?_
          refine kz_getR fd_Mo_44 rfl rfl rfl d_Mo_isHeld_39 rfl ?_
          refine kz_aload_n d_Mo_isHeld_42 rfl rfl ?_
          refine kz_getR fd_Mo_62 rfl rfl rfl d_Mo_isHeld_43 rfl ?_
          refine kz_iload_n d_Mo_isHeld_46 rfl rfl ?_
          refine kz_ialdp rfl (by first | assumption | exact kz_vin (by decide)) rfl d_Mo_isHeld_47 rfl ?_
          refine kz_topi (rq_read hq hk) ?_
          refine kz_ialdp rfl (by first | assumption | exact kz_vin (by decide)) rfl d_Mo_isHeld_48 rfl ?_
          refine kz_icmp_ne (tgt := 56) d_Mo_isHeld_49 (by decide) rfl (fun h49 => ?_) (fun h49 => ?_)
          · refine kz_iconst (v := 0) d_Mo_isHeld_56 (by decide) rfl ?_
            refine kz_istore_n (i := 2) d_Mo_isHeld_57 rfl rfl (Nat.le_of_ble_eq_true rfl) rfl ?_
            refine kz_iinc d_Mo_isHeld_58 rfl rfl (Nat.le_of_ble_eq_true rfl) (kz_inc i) rfl ?_
            refine kz_goto (tgt := 4) d_Mo_isHeld_61 (by decide) ?_
            have h := ih (i + 1) false hd2 (by omega)
            subst h10
            rw [rq_held, List.any_cons, show decide (rq_a M y = rq_a M t) = false from decide_eq_false h49, Bool.and_false]
            exact h
          · refine kz_iconst (v := 1) d_Mo_isHeld_52 (by decide) rfl ?_
            refine kz_goto (tgt := 57) d_Mo_isHeld_53 (by decide) ?_
            refine kz_istore_n (i := 2) d_Mo_isHeld_57 rfl rfl (Nat.le_of_ble_eq_true rfl) rfl ?_
            refine kz_iinc d_Mo_isHeld_58 rfl rfl (Nat.le_of_ble_eq_true rfl) (kz_inc i) rfl ?_
            refine kz_goto (tgt := 4) d_Mo_isHeld_61 (by decide) ?_
            have h := ih (i + 1) true hd2 (by omega)
            subst h10
            rw [rq_held, List.any_cons, show rq_w M y = false by (unfold rq_w; rw [decide_eq_true h24]; rfl), show decide (rq_a M y = rq_a M t) = true from decide_eq_true h49]
            exact h
set_option maxRecDepth 100000 in
set_option maxHeartbeats 1000000 in
theorem c_Mo_isHeld (l : Launch) {M : kz_M} {wq : List Int32} {k : Nat} {t : Int32} (hq : rq_at M wq) (hk : wq[k]? = some t) : kz_Dt l sR m_Mo_isHeld [.ref 0, .int (nI k)] M (some (.int (kz_ib (rq_held M (wq.take k) (rq_a M t))))) M := by
  refine kz_intro (by decide +kernel) (Nat.le_of_ble_eq_true rfl) ?_
  show kz_G l sR m_Mo_isHeld 0 [some (.ref 0), some (.int (nI k)), none, none] [] M _
  refine kz_iconst (v := 0) d_Mo_isHeld_0 (by decide) rfl ?_
  refine kz_istore_n (i := 2) d_Mo_isHeld_1 rfl rfl (Nat.le_of_ble_eq_true rfl) rfl ?_
  refine kz_iconst (v := 0) d_Mo_isHeld_2 (by decide) rfl ?_
  refine kz_istore_n (i := 3) d_Mo_isHeld_3 rfl rfl (Nat.le_of_ble_eq_true rfl) rfl ?_
  exact lp_rheld l hq hk (wq.take k) 0 false rfl (Nat.zero_le _)
