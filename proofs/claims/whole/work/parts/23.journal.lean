/-! Contracts of the class: may refresh; the journal. -/
def cb_chn (M : kz_M) (t : Int32) (z : Bool) : Nat → Nat → Bool
  | 0, _ => z
  | n + 1, b => cb_pok M b t && cb_chn M t z n (b + 1)
theorem cb_chn4 (M : kz_M) (t : Int32) : cb_mayRef M t = cb_chn M t (!decide (t - M.1 1 9 < M.1 2 12)) 4 0 := rfl
set_option maxRecDepth 100000 in
set_option maxHeartbeats 4000000 in
theorem lp_ref (l : Launch) {M : kz_M} {t : Int32} : ∀ (n b : Nat), b + n = 4 → kz_G l sC m_Ba_mayRefresh 2 [some (.ref 1), some (.int t), some (.int (nI b))] [] M (fun v N => v = some (.int (kz_ib (cb_chn M t (!decide (t - M.1 1 9 < M.1 2 12)) n b))) ∧ N = M) := by
  intro n
  induction n with
  | zero =>
    intro b hb
    obtain rfl : b = 4 := by omega
    refine kz_iload_n d_Ba_mayRefresh_2 rfl rfl ?_
    refine kz_iconst (v := 4) d_Ba_mayRefresh_3 (by decide) rfl ?_
    refine kz_icmp_ge (tgt := 42) d_Ba_mayRefresh_4 (by decide) rfl (fun h4 => ?_) (fun h4 => ?_)
    · refine kz_iload_n d_Ba_mayRefresh_42 rfl rfl ?_
      refine kz_aload_n d_Ba_mayRefresh_43 rfl rfl ?_
      refine kz_getIp fd_Ba_49 rfl rfl (Or.inl rfl) d_Ba_mayRefresh_44 rfl ?_
      refine kz_isub d_Ba_mayRefresh_47 rfl ?_
      refine kz_aload_n d_Ba_mayRefresh_48 rfl rfl ?_
      refine kz_getR fd_Ba_18 rfl rfl rfl d_Ba_mayRefresh_49 rfl ?_
      refine kz_bipush (v := 12) d_Ba_mayRefresh_52 (by decide) rfl ?_
      refine kz_ialdp rfl (by first | assumption | exact kz_vin (by decide)) (j := 12) (by decide) d_Ba_mayRefresh_54 rfl ?_
      refine kz_icmp_lt (tgt := 62) d_Ba_mayRefresh_55 (by decide) rfl (fun h55 => ?_) (fun h55 => ?_)
      · refine kz_iconst (v := 0) d_Ba_mayRefresh_62 (by decide) rfl ?_
        exact kz_zret rfl d_Ba_mayRefresh_63 (by first | assumption | decide | exact kz_ib_or _) (⟨by simp [cb_chn, kz_ib, *], rfl⟩)
      · refine kz_iconst (v := 1) d_Ba_mayRefresh_58 (by decide) rfl ?_
        refine kz_goto (tgt := 63) d_Ba_mayRefresh_59 (by decide) ?_
        exact kz_zret rfl d_Ba_mayRefresh_63 (by first | assumption | decide | exact kz_ib_or _) (⟨by simp [cb_chn, kz_ib, *], rfl⟩)
    · exact absurd (Int32.le_refl _) h4
  | succ n ih =>
    intro b hb
    have hb4 : vp_in (nI b) 4 := vp_in_nI (by omega) (by decide)
    have hcl : (nI b).toNatClampNeg = b := nI_clamp (by omega)
    have hcs : ∀ f : Nat → Int32, f (nI b).toNatClampNeg = f b := fun f => by rw [hcl]
    refine kz_iload_n d_Ba_mayRefresh_2 rfl rfl ?_
    refine kz_iconst (v := 4) d_Ba_mayRefresh_3 (by decide) rfl ?_
    refine kz_icmp_ge (tgt := 42) d_Ba_mayRefresh_4 (by decide) rfl (fun h4 => ?_) (fun h4 => ?_)
    · exact absurd h4 (nI_ge (a := b) (b := 4) (by omega) (by decide))
    · refine kz_aload_n d_Ba_mayRefresh_7 rfl rfl ?_
      refine kz_getR fd_Ba_23 rfl rfl rfl d_Ba_mayRefresh_8 rfl ?_
      refine kz_iload_n d_Ba_mayRefresh_11 rfl rfl ?_
      refine kz_ialdp rfl (by first | assumption | exact kz_vin (by decide)) rfl d_Ba_mayRefresh_12 rfl ?_
      refine kz_iconst (v := -1) d_Ba_mayRefresh_13 (by decide) rfl ?_
      refine kz_icmp_ne (tgt := 34) d_Ba_mayRefresh_14 (by decide) rfl (fun h14 => ?_) (fun h14 => ?_)
      · refine kz_iconst (v := 0) d_Ba_mayRefresh_34 (by decide) rfl ?_
        exact kz_zret rfl d_Ba_mayRefresh_35 (by first | assumption | decide | exact kz_ib_or _) (⟨by first | (rw [hcl] at h14; rw [cb_chn, cb_pok, decide_eq_false h14]; rfl) | (rw [hcl] at h31; rw [cb_chn, cb_pok, decide_eq_false h31, Bool.and_false]; rfl), rfl⟩)
      · refine kz_iload_n d_Ba_mayRefresh_17 rfl rfl ?_
        refine kz_aload_n d_Ba_mayRefresh_18 rfl rfl ?_
        refine kz_getR fd_Ba_29 rfl rfl rfl d_Ba_mayRefresh_19 rfl ?_
        refine kz_iload_n d_Ba_mayRefresh_22 rfl rfl ?_
        refine kz_ialdp rfl (by first | assumption | exact kz_vin (by decide)) rfl d_Ba_mayRefresh_23 rfl ?_
        refine kz_isub d_Ba_mayRefresh_24 rfl ?_
        refine kz_aload_n d_Ba_mayRefresh_25 rfl rfl ?_
        refine kz_getR fd_Ba_18 rfl rfl rfl d_Ba_mayRefresh_26 rfl ?_
        refine kz_iconst (v := 1) d_Ba_mayRefresh_29 (by decide) rfl ?_
        refine kz_ialdp rfl (by first | assumption | exact kz_vin (by decide)) (j := 1) (by decide) d_Ba_mayRefresh_30 rfl ?_
        refine kz_icmp_ge (tgt := 36) d_Ba_mayRefresh_31 (by decide) rfl (fun h31 => ?_) (fun h31 => ?_)
        · refine kz_iinc d_Ba_mayRefresh_36 rfl rfl (Nat.le_of_ble_eq_true rfl) (kz_inc b) rfl ?_
          refine kz_goto (tgt := 2) d_Ba_mayRefresh_39 (by decide) ?_
          have h := ih (b + 1) (by omega)
          rw [hcl] at h14 h31
          rw [cb_chn, cb_pok, decide_eq_true h14, decide_eq_true h31]
          exact h
        · refine kz_iconst (v := 0) d_Ba_mayRefresh_34 (by decide) rfl ?_
          exact kz_zret rfl d_Ba_mayRefresh_35 (by first | assumption | decide | exact kz_ib_or _) (⟨by first | (rw [hcl] at h14; rw [cb_chn, cb_pok, decide_eq_false h14]; rfl) | (rw [hcl] at h31; rw [cb_chn, cb_pok, decide_eq_false h31, Bool.and_false]; rfl), rfl⟩)
set_option maxRecDepth 100000 in
set_option maxHeartbeats 1000000 in
theorem c_Ba_mayRefresh (l : Launch) {M : kz_M} {t : Int32} : kz_Dt l sC m_Ba_mayRefresh [.ref 1, .int t] M (some (.int (kz_ib (cb_mayRef M t)))) M := by
  refine kz_intro (by decide +kernel) (Nat.le_of_ble_eq_true rfl) ?_
  show kz_G l sC m_Ba_mayRefresh 0 [some (.ref 1), some (.int t), none] [] M _
  refine kz_iconst (v := 0) d_Ba_mayRefresh_0 (by decide) rfl ?_
  refine kz_istore_n (i := 2) d_Ba_mayRefresh_1 rfl rfl (Nat.le_of_ble_eq_true rfl) rfl ?_
  rw [cb_chn4]
  exact lp_ref l 4 0 (by decide)
theorem jo_r {n : Nat} (h : n < 32) : sC.2.2.1 26 n = some (27 + n) := by show (if n < 32 then some (27 + n) else none) = _; rw [if_pos h]
theorem jo_s {n : Nat} (h : n < 32) : sC.2.1[27 + n]? = some (.inl (0, 5)) := by
  have : ∀ n, n < 32 → sh_C[27 + n]? = some (.inl (0, 5)) := by decide +kernel
  exact this n h
def cj_ent (M : kz_M) (r : Nat) (w b d c t : Int32) : kz_M := (kz_u (kz_u (kz_u (kz_u (kz_u (kz_u (kz_u (kz_u M.1 r 0 w) r 1 b) r 2 d) r 3 c) r 4 t) 25 1 (M.1 25 1 + 1 - (M.1 25 1 + 1) / 32 * 32)) 25 2 (if 32 < M.1 25 2 + 1 then 32 else M.1 25 2 + 1)) 25 3 (M.1 25 3 + 1), M.2)
set_option maxRecDepth 100000 in
set_option maxHeartbeats 1000000 in
theorem c_Jo_count (l : Launch) {M : kz_M}  : kz_Dt l sC m_Jo_count [.ref 25] M (some (.int (M.1 25 3))) M := by
  refine kz_intro (by decide +kernel) (Nat.le_of_ble_eq_true rfl) ?_
  show kz_G l sC m_Jo_count 0 [some (.ref 25)] [] M _
  refine kz_aload_n d_Jo_count_0 rfl rfl ?_
  refine kz_getIp fd_Jo_14 rfl rfl (Or.inl rfl) d_Jo_count_1 rfl ?_
  exact kz_iret rfl d_Jo_count_4 (⟨rfl, rfl⟩)
set_option maxRecDepth 100000 in
set_option maxHeartbeats 1000000 in
theorem c_Jo_enter (l : Launch) {M : kz_M} {n : Nat} {w b d c t : Int32} (hn : n < 32) (hnx : M.1 25 1 = nI n) : kz_Dt l sC m_Jo_enter [.ref 25, .int w, .int b, .int d, .int c, .int t] M none (cj_ent M (27 + n) w b d c t) := by
  have e : ∀ (f : Nat → Nat → Int32) (j : Nat) (x : Int32), kz_u f (27 + n) j x 25 = f 25 := fun f j x => kz_u_off _ _ _ _ (by omega)
  refine kz_intro (by decide +kernel) (Nat.le_of_ble_eq_true rfl) ?_
  show kz_G l sC m_Jo_enter 0 [some (.ref 25), some (.int w), some (.int b), some (.int d), some (.int c), some (.int t), none] [] M _
  refine kz_aload_n d_Jo_enter_0 rfl rfl ?_
  refine kz_getR fd_Jo_11 rfl rfl rfl d_Jo_enter_1 rfl ?_
  refine kz_aload_n d_Jo_enter_4 rfl rfl ?_
  refine kz_getIp fd_Jo_18 rfl rfl (Or.inl rfl) d_Jo_enter_5 rfl ?_
  refine kz_topi hnx ?_
  refine kz_aald (r := 27 + n) rfl (vp_in_nI hn (by decide)) (by rw [nI_clamp (by omega)]; exact jo_r hn) d_Jo_enter_8 rfl ?_
  refine kz_astore d_Jo_enter_9 rfl (Nat.le_of_ble_eq_true rfl) rfl ?_
  refine kz_aload d_Jo_enter_11 rfl rfl ?_
  refine kz_iconst (v := 0) d_Jo_enter_13 (by decide) rfl ?_
  refine kz_iload_n d_Jo_enter_14 rfl rfl ?_
  refine kz_iastp (jo_s hn) (by first | assumption | exact kz_vin (by decide)) (j := 0) (by decide) d_Jo_enter_15 rfl ?_
  refine kz_aload d_Jo_enter_16 rfl rfl ?_
  refine kz_iconst (v := 1) d_Jo_enter_18 (by decide) rfl ?_
  refine kz_iload_n d_Jo_enter_19 rfl rfl ?_
  refine kz_iastp (jo_s hn) (by first | assumption | exact kz_vin (by decide)) (j := 1) (by decide) d_Jo_enter_20 rfl ?_
  refine kz_aload d_Jo_enter_21 rfl rfl ?_
  refine kz_iconst (v := 2) d_Jo_enter_23 (by decide) rfl ?_
  refine kz_iload_n d_Jo_enter_24 rfl rfl ?_
  refine kz_iastp (jo_s hn) (by first | assumption | exact kz_vin (by decide)) (j := 2) (by decide) d_Jo_enter_25 rfl ?_
  refine kz_aload d_Jo_enter_26 rfl rfl ?_
  refine kz_iconst (v := 3) d_Jo_enter_28 (by decide) rfl ?_
  refine kz_iload d_Jo_enter_29 rfl rfl ?_
  refine kz_iastp (jo_s hn) (by first | assumption | exact kz_vin (by decide)) (j := 3) (by decide) d_Jo_enter_31 rfl ?_
  refine kz_aload d_Jo_enter_32 rfl rfl ?_
  refine kz_iconst (v := 4) d_Jo_enter_34 (by decide) rfl ?_
  refine kz_iload d_Jo_enter_35 rfl rfl ?_
  refine kz_iastp (jo_s hn) (by first | assumption | exact kz_vin (by decide)) (j := 4) (by decide) d_Jo_enter_37 rfl ?_
  refine kz_aload_n d_Jo_enter_38 rfl rfl ?_
  refine kz_aload_n d_Jo_enter_39 rfl rfl ?_
  refine kz_getIp fd_Jo_18 rfl rfl (Or.inl rfl) d_Jo_enter_40 rfl ?_
  refine kz_iconst (v := 1) d_Jo_enter_43 (by decide) rfl ?_
  refine kz_iadd d_Jo_enter_44 rfl ?_
  refine kz_bipush (v := 32) d_Jo_enter_45 (by decide) rfl ?_
  refine kz_irem d_Jo_enter_47 (by first | assumption | decide) rfl ?_
  refine kz_putIp fd_Jo_18 rfl rfl d_Jo_enter_48 rfl ?_
  refine kz_aload_n d_Jo_enter_51 rfl rfl ?_
  refine kz_aload_n d_Jo_enter_52 rfl rfl ?_
  refine kz_getIp fd_Jo_21 rfl rfl (Or.inl rfl) d_Jo_enter_53 rfl ?_
  refine kz_iconst (v := 1) d_Jo_enter_56 (by decide) rfl ?_
  refine kz_iadd d_Jo_enter_57 rfl ?_
  refine kz_bipush (v := 32) d_Jo_enter_58 (by decide) rfl ?_
  refine kz_min ⟨bw_mem2 66 rfl rfl, bw_mem1 21 rfl rfl, bw_mem1 2 rfl rfl, bw_mem1 22 rfl rfl⟩ ⟨by decide, by decide⟩ (Nat.le_of_ble_eq_true rfl) d_Jo_enter_60 rfl ?_
  refine kz_putIp fd_Jo_21 rfl rfl d_Jo_enter_63 rfl ?_
  refine kz_aload_n d_Jo_enter_66 rfl rfl ?_
  refine kz_dup d_Jo_enter_67 rfl rfl ?_
  refine kz_getIp fd_Jo_14 rfl rfl (Or.inl rfl) d_Jo_enter_68 rfl ?_
  refine kz_iconst (v := 1) d_Jo_enter_71 (by decide) rfl ?_
  refine kz_iadd d_Jo_enter_72 rfl ?_
  refine kz_putIp fd_Jo_14 rfl rfl d_Jo_enter_73 rfl ?_
  exact kz_vret rfl d_Jo_enter_76 (⟨rfl, by simp [cj_ent, e, kz_u_ne]⟩)
def cj_at (M : kz_M) (n : Nat) (k i : Int32) : Int32 := if k < 0 ∨ M.1 25 2 ≤ k ∨ i < 0 ∨ 5 ≤ i then -1 else M.1 (27 + (n + 31 - k.toNatClampNeg) % 32) i.toNatClampNeg
theorem jo_ix {n c : Nat} {k : Int32} (hn : n < 32) (hc : c ≤ 32) (h1 : ¬ k < 0) (h2 : ¬ nI c ≤ k) : nI n + 32 - 1 - k - (nI n + 32 - 1 - k) / 32 * 32 = nI ((n + 31 - k.toNatClampNeg) % 32) := by
  obtain ⟨q, hq, rfl⟩ := nI_of h1
  rw [nI_leI (by omega) hq] at h2
  rw [nI_clamp hq]
  have e1 : nI n + 32 - 1 - nI q = nI (n + 31 - q) := by
    have a1 : nI n + 32 = nI (n + 32) := nI_add n 32
    rw [a1, show n + 32 = n + 31 + 1 by omega, nI_pred, pk_sub (by omega)]
  rw [e1]
  exact pk_rem (a := n + 31 - q) (d := 32) (by omega) (by decide) (by decide)
set_option maxRecDepth 100000 in
set_option maxHeartbeats 1000000 in
theorem c_Jo_entry (l : Launch) {M : kz_M} {n c : Nat} {k i : Int32} (hn : n < 32) (hnx : M.1 25 1 = nI n) (hc : c ≤ 32) (hkp : M.1 25 2 = nI c) : kz_Dt l sC m_Jo_entry [.ref 25, .int k, .int i] M (some (.int (cj_at M n k i))) M := by
  refine kz_intro (by decide +kernel) (Nat.le_of_ble_eq_true rfl) ?_
  show kz_G l sC m_Jo_entry 0 [some (.ref 25), some (.int k), some (.int i)] [] M _
  refine kz_iload_n d_Jo_entry_0 rfl rfl ?_
  refine kz_if_lt (tgt := 21) d_Jo_entry_1 (by decide) rfl (fun h1 => ?_) (fun h1 => ?_)
  · refine kz_iconst (v := -1) d_Jo_entry_21 (by decide) rfl ?_
    exact kz_iret rfl d_Jo_entry_22 (⟨congrArg (fun z => some (Value.int z)) (by first | exact (if_pos (Or.inl h1)).symm | exact (if_pos (Or.inr (Or.inl h9))).symm | exact (if_pos (Or.inr (Or.inr (Or.inl h13)))).symm | exact (if_pos (Or.inr (Or.inr (Or.inr (Int32.not_lt.mp h18))))).symm), rfl⟩)
  · refine kz_iload_n d_Jo_entry_4 rfl rfl ?_
    refine kz_aload_n d_Jo_entry_5 rfl rfl ?_
    refine kz_getIp fd_Jo_21 rfl rfl (Or.inl rfl) d_Jo_entry_6 rfl ?_
    refine kz_icmp_ge (tgt := 21) d_Jo_entry_9 (by decide) rfl (fun h9 => ?_) (fun h9 => ?_)
    · refine kz_iconst (v := -1) d_Jo_entry_21 (by decide) rfl ?_
      exact kz_iret rfl d_Jo_entry_22 (⟨congrArg (fun z => some (Value.int z)) (by first | exact (if_pos (Or.inl h1)).symm | exact (if_pos (Or.inr (Or.inl h9))).symm | exact (if_pos (Or.inr (Or.inr (Or.inl h13)))).symm | exact (if_pos (Or.inr (Or.inr (Or.inr (Int32.not_lt.mp h18))))).symm), rfl⟩)
    · refine kz_iload_n d_Jo_entry_12 rfl rfl ?_
      refine kz_if_lt (tgt := 21) d_Jo_entry_13 (by decide) rfl (fun h13 => ?_) (fun h13 => ?_)
      · refine kz_iconst (v := -1) d_Jo_entry_21 (by decide) rfl ?_
        exact kz_iret rfl d_Jo_entry_22 (⟨congrArg (fun z => some (Value.int z)) (by first | exact (if_pos (Or.inl h1)).symm | exact (if_pos (Or.inr (Or.inl h9))).symm | exact (if_pos (Or.inr (Or.inr (Or.inl h13)))).symm | exact (if_pos (Or.inr (Or.inr (Or.inr (Int32.not_lt.mp h18))))).symm), rfl⟩)
      · refine kz_iload_n d_Jo_entry_16 rfl rfl ?_
        refine kz_iconst (v := 5) d_Jo_entry_17 (by decide) rfl ?_
        refine kz_icmp_lt (tgt := 23) d_Jo_entry_18 (by decide) rfl (fun h18 => ?_) (fun h18 => ?_)
        · refine kz_aload_n d_Jo_entry_23 rfl rfl ?_
          refine kz_getR fd_Jo_11 rfl rfl rfl d_Jo_entry_24 rfl ?_
          refine kz_aload_n d_Jo_entry_27 rfl rfl ?_
          refine kz_getIp fd_Jo_18 rfl rfl (Or.inl rfl) d_Jo_entry_28 rfl ?_
          refine kz_bipush (v := 32) d_Jo_entry_31 (by decide) rfl ?_
          refine kz_iadd d_Jo_entry_33 rfl ?_
          refine kz_iconst (v := 1) d_Jo_entry_34 (by decide) rfl ?_
          refine kz_isub d_Jo_entry_35 rfl ?_
          refine kz_iload_n d_Jo_entry_36 rfl rfl ?_
          refine kz_isub d_Jo_entry_37 rfl ?_
          refine kz_bipush (v := 32) d_Jo_entry_38 (by decide) rfl ?_
          refine kz_irem d_Jo_entry_40 (by first | assumption | decide) rfl ?_
          refine kz_topi (y := nI ((n + 31 - k.toNatClampNeg) % 32)) (by rw [hnx]; exact jo_ix hn hc h1 (by rw [← hkp]; exact h9)) ?_
          refine kz_aald (r := 27 + (n + 31 - k.toNatClampNeg) % 32) rfl (vp_in_nI (Nat.mod_lt _ (by decide)) (by decide)) (by rw [nI_clamp (by have := Nat.mod_lt (n + 31 - k.toNatClampNeg) (show 0 < 32 by decide); omega)]; exact jo_r (Nat.mod_lt _ (by decide))) d_Jo_entry_41 rfl ?_
          refine kz_iload_n d_Jo_entry_42 rfl rfl ?_
          refine kz_ialdp (jo_s (Nat.mod_lt _ (by decide))) (by rw [vp_in_iff]; rw [Int32.lt_iff_toInt_lt] at h13 h18; have e0 : (0 : Int32).toInt = 0 := (by decide); have e5 : (5 : Int32).toInt = 5 := (by decide); omega) rfl d_Jo_entry_43 rfl ?_
          exact kz_iret rfl d_Jo_entry_44 (⟨by unfold cj_at; rw [if_neg]; intro q; rcases q with q | q | q | q; exact h1 q; exact h9 q; exact h13 q; exact absurd h18 (Int32.not_lt.mpr q), rfl⟩)
        · refine kz_iconst (v := -1) d_Jo_entry_21 (by decide) rfl ?_
          exact kz_iret rfl d_Jo_entry_22 (⟨congrArg (fun z => some (Value.int z)) (by first | exact (if_pos (Or.inl h1)).symm | exact (if_pos (Or.inr (Or.inl h9))).symm | exact (if_pos (Or.inr (Or.inr (Or.inl h13)))).symm | exact (if_pos (Or.inr (Or.inr (Or.inr (Int32.not_lt.mp h18))))).symm), rfl⟩)
