/-! Contracts of the reference: who is looked at. -/
def rq_ag (M N : kz_M) : Prop := N.2 = M.2 ∧ ∀ k, k ≠ 17 → N.1 k = M.1 k
theorem rq_ag.rf {M : kz_M} : rq_ag M M := ⟨rfl, fun _ _ => rfl⟩
theorem rq_ag.put {M N : kz_M} (h : rq_ag M N) (j : Nat) (x : Int32) : rq_ag M (kz_u N.1 17 j x, N.2) := ⟨h.1, fun k hk => (kz_u_off _ _ _ _ hk).trans (h.2 k hk)⟩
theorem rq_at.ag {M N : kz_M} {wq : List Int32} (h : rq_at M wq) (ha : rq_ag M N) : rq_at N wq := by
  unfold rq_at
  rw [ha.2 0 (by decide), ha.2 15 (by decide), ha.2 9 (by decide), ha.2 8 (by decide)]
  exact h
theorem rq_held_ag {M N : kz_M} (ha : rq_ag M N) (xs : List Int32) (a : Int32) : rq_held N xs a = rq_held M xs a := by
  unfold rq_held rq_w rq_a
  rw [ha.2 9 (by decide), ha.2 8 (by decide)]
def rq_f (M : kz_M) (wq : List Int32) (w : Bool) (k : Nat) : Bool := match wq[k]? with
  | some t => decide (M.1 8 t.toNatClampNeg = kz_ib w) && (!w || !rq_held M (wq.take k) (rq_a M t))
  | none => false
theorem rq_f_at {M : kz_M} {wq : List Int32} {w : Bool} {k : Nat} {t : Int32} (h : wq[k]? = some t) : rq_f M wq w k = (decide (M.1 8 t.toNatClampNeg = kz_ib w) && (!w || !rq_held M (wq.take k) (rq_a M t))) := by
  unfold rq_f
  rw [h]
def rq_n (f : Nat → Bool) : Nat → Nat → Int32 → Int32
  | 0, _, x => x
  | n + 1, i, x => rq_n f n (i + 1) (x + kz_ib (f i))
set_option maxRecDepth 100000 in
set_option maxHeartbeats 1000000 in
theorem lp_rlook (l : Launch) {M : kz_M} {wq : List Int32} {w : Bool} (hq : rq_at M wq) : ∀ (n i : Nat) (x : Int32) (N : kz_M), i + n = wq.length → rq_ag M N → (∀ j, j < i → N.1 17 j = kz_ib (rq_f M wq w j)) → kz_G l sR m_Mo_look 4 [some (.ref 0), some (.int (kz_ib w)), some (.int x), some (.int (nI i))] [] N (fun v O => v = some (.int (rq_n (rq_f M wq w) n i x)) ∧ rq_ag M O ∧ ∀ j, j < wq.length → O.1 17 j = kz_ib (rq_f M wq w j)) := by
  intro n
  have h16 := hq.2.1
  induction n with
  | zero =>
    intro i x N hi ha hf
    have hqN := hq.ag ha
    obtain rfl : i = wq.length := by omega
    refine kz_eta ?_
    refine kz_iload_n d_Mo_look_4 rfl rfl ?_
    refine kz_aload_n d_Mo_look_5 rfl rfl ?_
    refine kz_getIp fd_Mo_134 rfl rfl (Or.inl rfl) d_Mo_look_6 rfl ?_
    refine kz_topi hqN.1 ?_
    refine kz_icmp_ge (tgt := 73) d_Mo_look_9 (by decide) rfl (fun h9 => ?_) (fun h9 => ?_)
    · refine kz_iload_n d_Mo_look_73 rfl rfl ?_
      exact kz_iret rfl d_Mo_look_74 (⟨rfl, ha, hf⟩)
    · exact absurd (Int32.le_refl _) h9
  | succ n ih =>
    intro i x N hi ha hf
    have hqN := hq.ag ha
    obtain ⟨y, hy⟩ : ∃ y, wq[i]? = some y := ⟨_, List.getElem?_eq_getElem (by omega)⟩
    have hi16 : vp_in (nI i) 16 := rq_in (n := wq.length) (by omega) h16
    have hcl : (nI i).toNatClampNeg = i := nI_clamp (by omega)
    obtain ⟨hy4, hya, hyw⟩ := hqN.2.2.2 y (List.mem_of_getElem? hy)
    have e8 : N.1 8 = M.1 8 := ha.2 8 (by decide)
    have eh : rq_held N (wq.take i) (rq_a N y) = rq_held M (wq.take i) (rq_a M y) := by rw [rq_held_ag ha]; unfold rq_a; rw [ha.2 9 (by decide)]
    have go : ∀ v : Bool, rq_f M wq w i = v → kz_G l sR m_Mo_look 4 [some (.ref 0), some (.int (kz_ib w)), some (.int (x + kz_ib v)), some (.int (nI (i + 1)))] [] (kz_u N.1 17 i (kz_ib v), N.2) (fun v O => v = some (.int (rq_n (rq_f M wq w) (n + 1) i x)) ∧ rq_ag M O ∧ ∀ j, j < wq.length → O.1 17 j = kz_ib (rq_f M wq w j)) := fun v hv => by
      have h := ih (i + 1) (x + kz_ib v) (kz_u N.1 17 i (kz_ib v), N.2) (by omega) (ha.put _ _) (fun j hj => by
        by_cases q : j = i
        · subst q
          rw [hv]
          show kz_u N.1 17 j (kz_ib v) 17 j = _
          exact kz_u_same _ _ _ _
        · show kz_u N.1 17 i (kz_ib v) 17 j = _
          exact (kz_u_ne _ _ _ _ (fun z => q z.2)).trans (hf j (by omega)))
      rw [rq_n, hv]
      exact h
    refine kz_eta ?_
    refine kz_iload_n d_Mo_look_4 rfl rfl ?_
    refine kz_aload_n d_Mo_look_5 rfl rfl ?_
    refine kz_getIp fd_Mo_134 rfl rfl (Or.inl rfl) d_Mo_look_6 rfl ?_
    refine kz_topi hqN.1 ?_
    refine kz_icmp_ge (tgt := 73) d_Mo_look_9 (by decide) rfl (fun h9 => ?_) (fun h9 => ?_)
    · exact absurd h9 (nI_ge (by omega) (by omega))
    · refine kz_aload_n d_Mo_look_12 rfl rfl ?_
      refine kz_getR fd_Mo_68 rfl rfl rfl d_Mo_look_13 rfl ?_
      refine kz_iload_n d_Mo_look_16 rfl rfl ?_
      refine kz_aload_n d_Mo_look_17 rfl rfl ?_
      refine kz_getR fd_Mo_40 rfl rfl rfl d_Mo_look_18 rfl ?_
      refine kz_aload_n d_Mo_look_21 rfl rfl ?_
      refine kz_getR fd_Mo_62 rfl rfl rfl d_Mo_look_22 rfl ?_
      refine kz_iload_n d_Mo_look_25 rfl rfl ?_
      refine kz_ialdp rfl (by first | assumption | exact kz_vin (by decide)) rfl d_Mo_look_26 rfl ?_
      refine kz_topi (rq_read hqN hy) ?_
      refine kz_zaldp rfl (by first | assumption | exact kz_vin (by decide)) rfl d_Mo_look_27 rfl ?_
      refine kz_iload_n d_Mo_look_28 rfl rfl ?_
      refine kz_icmp_ne (tgt := 48) d_Mo_look_29 (by decide) rfl (fun h29 => ?_) (fun h29 => ?_)
      · refine kz_iconst (v := 0) d_Mo_look_48 (by decide) rfl ?_
        refine kz_zastp rfl (by first | assumption | exact kz_vin (by decide)) hcl (by first | assumption | decide | exact kz_ib_or _) d_Mo_look_49 rfl ?_
        refine kz_iload_n d_Mo_look_50 rfl rfl ?_
        refine kz_aload_n d_Mo_look_51 rfl rfl ?_
        refine kz_getR fd_Mo_68 rfl rfl rfl d_Mo_look_52 rfl ?_
        refine kz_iload_n d_Mo_look_55 rfl rfl ?_
        refine kz_zaldp rfl (by first | assumption | exact kz_vin (by decide)) hcl d_Mo_look_56 rfl ?_
        refine kz_topi (kz_u_same _ _ _ _) ?_
        refine kz_if_eq (tgt := 64) d_Mo_look_57 (by decide) rfl (fun _ => ?_) (fun h => absurd h (by decide))
        refine kz_iconst (v := 0) d_Mo_look_64 (by decide) rfl ?_
        refine kz_iadd d_Mo_look_65 rfl ?_
        refine kz_istore_n (i := 2) d_Mo_look_66 rfl rfl (Nat.le_of_ble_eq_true rfl) rfl ?_
        refine kz_iinc d_Mo_look_67 rfl rfl (Nat.le_of_ble_eq_true rfl) (kz_inc i) rfl ?_
        refine kz_goto (tgt := 4) d_Mo_look_70 (by decide) ?_
        exact go false (by rw [rq_f_at hy]; rw [e8] at h29; rw [decide_eq_false h29]; rfl)
      · refine kz_iload_n d_Mo_look_32 rfl rfl ?_
        refine kz_if_eqb (tgt := 44) d_Mo_look_33 (by decide) rfl (fun h33 => ?_) (fun h33 => ?_)
        · refine kz_iconst (v := 1) d_Mo_look_44 (by decide) rfl ?_
          refine kz_goto (tgt := 49) d_Mo_look_45 (by decide) ?_
          refine kz_zastp rfl (by first | assumption | exact kz_vin (by decide)) hcl (by first | assumption | decide | exact kz_ib_or _) d_Mo_look_49 rfl ?_
          refine kz_iload_n d_Mo_look_50 rfl rfl ?_
          refine kz_aload_n d_Mo_look_51 rfl rfl ?_
          refine kz_getR fd_Mo_68 rfl rfl rfl d_Mo_look_52 rfl ?_
          refine kz_iload_n d_Mo_look_55 rfl rfl ?_
          refine kz_zaldp rfl (by first | assumption | exact kz_vin (by decide)) hcl d_Mo_look_56 rfl ?_
          refine kz_topi (kz_u_same _ _ _ _) ?_
          refine kz_if_eq (tgt := 64) d_Mo_look_57 (by decide) rfl (fun h => absurd h (by decide)) (fun _ => ?_)
          refine kz_iconst (v := 1) d_Mo_look_60 (by decide) rfl ?_
          refine kz_goto (tgt := 65) d_Mo_look_61 (by decide) ?_
          refine kz_iadd d_Mo_look_65 rfl ?_
          refine kz_istore_n (i := 2) d_Mo_look_66 rfl rfl (Nat.le_of_ble_eq_true rfl) rfl ?_
          refine kz_iinc d_Mo_look_67 rfl rfl (Nat.le_of_ble_eq_true rfl) (kz_inc i) rfl ?_
          refine kz_goto (tgt := 4) d_Mo_look_70 (by decide) ?_
          exact go true (by rw [rq_f_at hy]; rw [e8] at h29; rw [decide_eq_true h29, h33]; rfl)
        · refine kz_aload_n d_Mo_look_36 rfl rfl ?_
          refine kz_iload_n d_Mo_look_37 rfl rfl ?_
          refine kz_callVi (c_Mo_isHeld l hqN hy) cv_Mo_196 rfl rfl rfl ⟨by decide, by decide⟩ rfl (Nat.le_of_ble_eq_true rfl) d_Mo_look_38 rfl ?_
          refine kz_if_neb (tgt := 48) d_Mo_look_41 (by decide) rfl (fun h41 => ?_) (fun h41 => ?_)
          · refine kz_iconst (v := 0) d_Mo_look_48 (by decide) rfl ?_
            refine kz_zastp rfl (by first | assumption | exact kz_vin (by decide)) hcl (by first | assumption | decide | exact kz_ib_or _) d_Mo_look_49 rfl ?_
            refine kz_iload_n d_Mo_look_50 rfl rfl ?_
            refine kz_aload_n d_Mo_look_51 rfl rfl ?_
            refine kz_getR fd_Mo_68 rfl rfl rfl d_Mo_look_52 rfl ?_
            refine kz_iload_n d_Mo_look_55 rfl rfl ?_
            refine kz_zaldp rfl (by first | assumption | exact kz_vin (by decide)) hcl d_Mo_look_56 rfl ?_
            refine kz_topi (kz_u_same _ _ _ _) ?_
            refine kz_if_eq (tgt := 64) d_Mo_look_57 (by decide) rfl (fun _ => ?_) (fun h => absurd h (by decide))
            refine kz_iconst (v := 0) d_Mo_look_64 (by decide) rfl ?_
            refine kz_iadd d_Mo_look_65 rfl ?_
            refine kz_istore_n (i := 2) d_Mo_look_66 rfl rfl (Nat.le_of_ble_eq_true rfl) rfl ?_
            refine kz_iinc d_Mo_look_67 rfl rfl (Nat.le_of_ble_eq_true rfl) (kz_inc i) rfl ?_
            refine kz_goto (tgt := 4) d_Mo_look_70 (by decide) ?_
            exact go false (by rw [rq_f_at hy]; rw [e8] at h29; rw [decide_eq_true h29, ← eh, show rq_held N (wq.take i) (rq_a N y) = true from h41, h33]; rfl)
          · refine kz_iconst (v := 1) d_Mo_look_44 (by decide) rfl ?_
            refine kz_goto (tgt := 49) d_Mo_look_45 (by decide) ?_
            refine kz_zastp rfl (by first | assumption | exact kz_vin (by decide)) hcl (by first | assumption | decide | exact kz_ib_or _) d_Mo_look_49 rfl ?_
            refine kz_iload_n d_Mo_look_50 rfl rfl ?_
            refine kz_aload_n d_Mo_look_51 rfl rfl ?_
            refine kz_getR fd_Mo_68 rfl rfl rfl d_Mo_look_52 rfl ?_
            refine kz_iload_n d_Mo_look_55 rfl rfl ?_
            refine kz_zaldp rfl (by first | assumption | exact kz_vin (by decide)) hcl d_Mo_look_56 rfl ?_
            refine kz_topi (kz_u_same _ _ _ _) ?_
            refine kz_if_eq (tgt := 64) d_Mo_look_57 (by decide) rfl (fun h => absurd h (by decide)) (fun _ => ?_)
            refine kz_iconst (v := 1) d_Mo_look_60 (by decide) rfl ?_
            refine kz_goto (tgt := 65) d_Mo_look_61 (by decide) ?_
            refine kz_iadd d_Mo_look_65 rfl ?_
            refine kz_istore_n (i := 2) d_Mo_look_66 rfl rfl (Nat.le_of_ble_eq_true rfl) rfl ?_
            refine kz_iinc d_Mo_look_67 rfl rfl (Nat.le_of_ble_eq_true rfl) (kz_inc i) rfl ?_
            refine kz_goto (tgt := 4) d_Mo_look_70 (by decide) ?_
            exact go true (by rw [rq_f_at hy]; rw [e8] at h29; rw [decide_eq_true h29, ← eh, show rq_held N (wq.take i) (rq_a N y) = false from h41]; simp)
set_option maxRecDepth 100000 in
set_option maxHeartbeats 1000000 in
theorem c_Mo_look (l : Launch) {M : kz_M} {wq : List Int32} {w : Bool} (hq : rq_at M wq) : kz_T l sR m_Mo_look [.ref 0, .int (kz_ib w)] M (fun v O => v = some (.int (rq_n (rq_f M wq w) wq.length 0 0)) ∧ rq_ag M O ∧ ∀ j, j < wq.length → O.1 17 j = kz_ib (rq_f M wq w j)) := by
  refine kz_intro (by decide +kernel) (Nat.le_of_ble_eq_true rfl) ?_
  show kz_G l sR m_Mo_look 0 [some (.ref 0), some (.int (kz_ib w)), none, none] [] M _
  refine kz_iconst (v := 0) d_Mo_look_0 (by decide) rfl ?_
  refine kz_istore_n (i := 2) d_Mo_look_1 rfl rfl (Nat.le_of_ble_eq_true rfl) rfl ?_
  refine kz_iconst (v := 0) d_Mo_look_2 (by decide) rfl ?_
  refine kz_istore_n (i := 3) d_Mo_look_3 rfl rfl (Nat.le_of_ble_eq_true rfl) rfl ?_
  exact lp_rlook l hq wq.length 0 0 M (by omega) rq_ag.rf (fun j h => by omega)
def rq_fst (f : Nat → Bool) : Nat → Nat → Option Nat
  | 0, _ => none
  | n + 1, i => if f i = true then some i else rq_fst f n (i + 1)
def rq_fl (M : kz_M) (n : Nat) (f : Nat → Bool) : Prop := ∀ j, j < n → M.1 17 j = kz_ib (f j)
def rq_ix (o : Option Nat) : Int32 := match o with
  | some k => nI k
  | none => -1
set_option maxRecDepth 100000 in
set_option maxHeartbeats 1000000 in
theorem lp_rold (l : Launch) {M : kz_M} {wq : List Int32} {f : Nat → Bool} (hq : rq_at M wq) (hf : rq_fl M wq.length f) : ∀ (n i : Nat), i + n = wq.length → kz_G l sR m_Mo_oldest 2 [some (.ref 0), some (.int (nI i))] [] M (fun v N => v = some (.int (rq_ix (rq_fst f n i))) ∧ N = M) := by
  intro n
  have h16 := hq.2.1
  induction n with
  | zero =>
    intro i hi
    obtain rfl : i = wq.length := by omega
    refine kz_iload_n d_Mo_oldest_2 rfl rfl ?_
    refine kz_aload_n d_Mo_oldest_3 rfl rfl ?_
    refine kz_getIp fd_Mo_134 rfl rfl (Or.inl rfl) d_Mo_oldest_4 rfl ?_
    refine kz_topi hq.1 ?_
    refine kz_icmp_ge (tgt := 25) d_Mo_oldest_7 (by decide) rfl (fun h7 => ?_) (fun h7 => ?_)
    · refine kz_iload_n d_Mo_oldest_25 rfl rfl ?_
      refine kz_aload_n d_Mo_oldest_26 rfl rfl ?_
      refine kz_getIp fd_Mo_134 rfl rfl (Or.inl rfl) d_Mo_oldest_27 rfl ?_
      refine kz_topi hq.1 ?_
      refine kz_icmp_ge (tgt := 37) d_Mo_oldest_30 (by decide) rfl (fun h30 => ?_) (fun h30 => ?_)
      · refine kz_iconst (v := -1) d_Mo_oldest_37 (by decide) rfl ?_
        exact kz_iret rfl d_Mo_oldest_38 (⟨rfl, rfl⟩)
      · exact absurd (Int32.le_refl _) h30
    · exact absurd (Int32.le_refl _) h7
  | succ n ih =>
    intro i hi
    have hi16 : vp_in (nI i) 16 := rq_in (n := wq.length) (by omega) h16
    have hcl : (nI i).toNatClampNeg = i := nI_clamp (by omega)
    have hr : M.1 17 (nI i).toNatClampNeg = kz_ib (f i) := by rw [hcl]; exact hf i (by omega)
    refine kz_iload_n d_Mo_oldest_2 rfl rfl ?_
    refine kz_aload_n d_Mo_oldest_3 rfl rfl ?_
    refine kz_getIp fd_Mo_134 rfl rfl (Or.inl rfl) d_Mo_oldest_4 rfl ?_
    refine kz_topi hq.1 ?_
    refine kz_icmp_ge (tgt := 25) d_Mo_oldest_7 (by decide) rfl (fun h7 => ?_) (fun h7 => ?_)
    · exact absurd h7 (nI_ge (by omega) (by omega))
    · refine kz_aload_n d_Mo_oldest_10 rfl rfl ?_
      refine kz_getR fd_Mo_68 rfl rfl rfl d_Mo_oldest_11 rfl ?_
      refine kz_iload_n d_Mo_oldest_14 rfl rfl ?_
      refine kz_zaldp rfl (by first | assumption | exact kz_vin (by decide)) rfl d_Mo_oldest_15 rfl ?_
      refine kz_topi hr ?_
      refine kz_if_neb (tgt := 25) d_Mo_oldest_16 (by decide) rfl (fun h16 => ?_) (fun h16 => ?_)
      · refine kz_iload_n d_Mo_oldest_25 rfl rfl ?_
        refine kz_aload_n d_Mo_oldest_26 rfl rfl ?_
        refine kz_getIp fd_Mo_134 rfl rfl (Or.inl rfl) d_Mo_oldest_27 rfl ?_
        refine kz_topi hq.1 ?_
        refine kz_icmp_ge (tgt := 37) d_Mo_oldest_30 (by decide) rfl (fun h30 => ?_) (fun h30 => ?_)
        · exact absurd h30 (nI_ge (by omega) (by omega))
        · refine kz_iload_n d_Mo_oldest_33 rfl rfl ?_
          refine kz_goto (tgt := 38) d_Mo_oldest_34 (by decide) ?_
          exact kz_iret rfl d_Mo_oldest_38 (⟨by rw [rq_fst, if_pos h16]; rfl, rfl⟩)
      · refine kz_iinc d_Mo_oldest_19 rfl rfl (Nat.le_of_ble_eq_true rfl) (kz_inc i) rfl ?_
        refine kz_goto (tgt := 2) d_Mo_oldest_22 (by decide) ?_
        have h := ih (i + 1) (by omega)
        rw [rq_fst, if_neg (by rw [h16]; decide)]
        exact h
set_option maxRecDepth 100000 in
set_option maxHeartbeats 1000000 in
theorem c_Mo_oldest (l : Launch) {M : kz_M} {wq : List Int32} {f : Nat → Bool} (hq : rq_at M wq) (hf : rq_fl M wq.length f) : kz_Dt l sR m_Mo_oldest [.ref 0] M (some (.int (rq_ix (rq_fst f wq.length 0)))) M := by
  refine kz_intro (by decide +kernel) (Nat.le_of_ble_eq_true rfl) ?_
  show kz_G l sR m_Mo_oldest 0 [some (.ref 0), none] [] M _
  refine kz_iconst (v := 0) d_Mo_oldest_0 (by decide) rfl ?_
  refine kz_istore_n (i := 1) d_Mo_oldest_1 rfl rfl (Nat.le_of_ble_eq_true rfl) rfl ?_
  exact lp_rold l hq hf wq.length 0 (by omega)
