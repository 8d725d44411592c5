/-! Contracts of the class: loops over places, refresh, journal. -/
theorem kz_inc (p : Nat) : nI p + Int32.ofInt 1 = nI (p + 1) := nI_1 p
theorem kz_dec (p : Nat) : nI (p + 1) + Int32.ofInt (-1) = nI p := by
  rw [show Int32.ofInt (-1) = -1 by decide, ← Int32.sub_eq_add_neg]
  exact nI_pred p
set_option maxRecDepth 100000 in
set_option maxHeartbeats 4000000 in
theorem lp_syn (l : Launch) {M : kz_M} {a : Int32} (ha : vp_in a 256) {Q : Option Value → kz_M → Prop} : ∀ (n p : Nat) (s : Int32), p + n = 72 → kz_G l sC m_St_syndromeOf 30 [some (.ref 9), some (.int a), some (.int (bt_syn (cw_get M a.toNatClampNeg) n p s)), some (.int (nI 72))] [] M Q → kz_G l sC m_St_syndromeOf 4 [some (.ref 9), some (.int a), some (.int s), some (.int (nI p))] [] M Q := by
  intro n
  induction n with
  | zero =>
    intro p s hp hend
    obtain rfl : p = 72 := by omega
    refine kz_iload_n d_St_syndromeOf_4 rfl rfl ?_
    refine kz_bipush (v := 72) d_St_syndromeOf_5 (by decide) rfl ?_
    refine kz_icmp_ge (tgt := 30) d_St_syndromeOf_7 (by decide) rfl (fun h7 => ?_) (fun h7 => ?_)
    · exact hend
    · exact absurd (Int32.le_refl _) h7
  | succ n ih =>
    intro p s hp hend
    refine kz_iload_n d_St_syndromeOf_4 rfl rfl ?_
    refine kz_bipush (v := 72) d_St_syndromeOf_5 (by decide) rfl ?_
    refine kz_icmp_ge (tgt := 30) d_St_syndromeOf_7 (by decide) rfl (fun h7 => ?_) (fun h7 => ?_)
    · exact absurd h7 (nI_ge (a := p) (b := 72) (by omega) (by decide))
    · refine kz_aload_n d_St_syndromeOf_10 rfl rfl ?_
      refine kz_iload_n d_St_syndromeOf_11 rfl rfl ?_
      refine kz_iload_n d_St_syndromeOf_12 rfl rfl ?_
      refine kz_callVi (c_St_bitAt l (by assumption)) cv_St_30 rfl rfl rfl ⟨by decide, by decide⟩ rfl (Nat.le_of_ble_eq_true rfl) d_St_syndromeOf_13 rfl ?_
      refine kz_iconst (v := 1) d_St_syndromeOf_16 (by decide) rfl ?_
      refine kz_icmp_ne (tgt := 24) d_St_syndromeOf_17 (by decide) rfl (fun h17 => ?_) (fun h17 => ?_)
      · refine kz_iinc d_St_syndromeOf_24 rfl rfl (Nat.le_of_ble_eq_true rfl) (kz_inc p) rfl ?_
        refine kz_goto (tgt := 4) d_St_syndromeOf_27 (by decide) ?_
        refine ih (p + 1) _ (by omega) ?_
        rw [bt_syn] at hend
        first | rw [if_pos h17] at hend | rw [if_neg h17] at hend
        exact hend
      · refine kz_iload_n d_St_syndromeOf_20 rfl rfl ?_
        refine kz_iload_n d_St_syndromeOf_21 rfl rfl ?_
        refine kz_ixor d_St_syndromeOf_22 rfl ?_
        refine kz_istore_n (i := 2) d_St_syndromeOf_23 rfl rfl (Nat.le_of_ble_eq_true rfl) rfl ?_
        refine kz_iinc d_St_syndromeOf_24 rfl rfl (Nat.le_of_ble_eq_true rfl) (kz_inc p) rfl ?_
        refine kz_goto (tgt := 4) d_St_syndromeOf_27 (by decide) ?_
        refine ih (p + 1) _ (by omega) ?_
        rw [bt_syn] at hend
        first | rw [if_pos h17] at hend | rw [if_neg h17] at hend
        exact hend
set_option maxRecDepth 100000 in
set_option maxHeartbeats 1000000 in
theorem c_St_syndromeOf (l : Launch) {M : kz_M} {a : Int32} (ha : vp_in a 256) : kz_Dt l sC m_St_syndromeOf [.ref 9, .int a] M (some (.int (bt_syn (cw_get M a.toNatClampNeg) 71 1 0))) M := by
  refine kz_intro (by decide +kernel) (Nat.le_of_ble_eq_true rfl) ?_
  show kz_G l sC m_St_syndromeOf 0 [some (.ref 9), some (.int a), none, none] [] M _
  refine kz_iconst (v := 0) d_St_syndromeOf_0 (by decide) rfl ?_
  refine kz_istore_n (i := 2) d_St_syndromeOf_1 rfl rfl (Nat.le_of_ble_eq_true rfl) rfl ?_
  refine kz_iconst (v := 1) d_St_syndromeOf_2 (by decide) rfl ?_
  refine kz_istore_n (i := 3) d_St_syndromeOf_3 rfl rfl (Nat.le_of_ble_eq_true rfl) rfl ?_
  refine lp_syn l ha 71 1 0 (by decide) ?_
  exact kz_iload_n d_St_syndromeOf_30 rfl rfl (kz_iret rfl d_St_syndromeOf_31 ⟨rfl, rfl⟩)
set_option maxRecDepth 100000 in
set_option maxHeartbeats 1000000 in
theorem c_St_faultOf (l : Launch) {M : kz_M} {a : Int32} (ha : vp_in a 256) : kz_Dt l sC m_St_faultOf [.ref 9, .int a] M (some (.int (bt_fault (cw_get M a.toNatClampNeg)))) M := by
  refine kz_intro (by decide +kernel) (Nat.le_of_ble_eq_true rfl) ?_
  show kz_G l sC m_St_faultOf 0 [some (.ref 9), some (.int a), none] [] M _
  refine kz_aload_n d_St_faultOf_0 rfl rfl ?_
  refine kz_iload_n d_St_faultOf_1 rfl rfl ?_
  refine kz_callVi (c_St_syndromeOf l ha) cv_St_45 rfl rfl rfl ⟨by decide, by decide⟩ rfl (Nat.le_of_ble_eq_true rfl) d_St_faultOf_2 rfl ?_
  refine kz_istore_n (i := 2) d_St_faultOf_5 rfl rfl (Nat.le_of_ble_eq_true rfl) rfl ?_
  refine kz_aload_n d_St_faultOf_6 rfl rfl ?_
  refine kz_iload_n d_St_faultOf_7 rfl rfl ?_
  refine kz_callVi (c_St_onesAreOdd l (by assumption)) cv_St_27 rfl rfl rfl ⟨by decide, by decide⟩ rfl (Nat.le_of_ble_eq_true rfl) d_St_faultOf_8 rfl ?_
  refine kz_if_eqb (tgt := 27) d_St_faultOf_11 (by decide) rfl (fun h11 => ?_) (fun h11 => ?_)
  · refine kz_iload_n d_St_faultOf_27 rfl rfl ?_
    refine kz_if_ne (tgt := 35) d_St_faultOf_28 (by decide) rfl (fun h28 => ?_) (fun h28 => ?_)
    · refine kz_bipush (v := -2) d_St_faultOf_35 (by decide) rfl ?_
      exact kz_iret rfl d_St_faultOf_37 (⟨by simp [bt_fault, *], rfl⟩)
    · refine kz_iconst (v := -1) d_St_faultOf_31 (by decide) rfl ?_
      refine kz_goto (tgt := 37) d_St_faultOf_32 (by decide) ?_
      exact kz_iret rfl d_St_faultOf_37 (⟨by simp [bt_fault, *], rfl⟩)
  · refine kz_iload_n d_St_faultOf_14 rfl rfl ?_
    refine kz_bipush (v := 72) d_St_faultOf_15 (by decide) rfl ?_
    refine kz_icmp_ge (tgt := 24) d_St_faultOf_17 (by decide) rfl (fun h17 => ?_) (fun h17 => ?_)
    · refine kz_bipush (v := -2) d_St_faultOf_24 (by decide) rfl ?_
      exact kz_iret rfl d_St_faultOf_26 (⟨by simp [bt_fault, *], rfl⟩)
    · refine kz_iload_n d_St_faultOf_20 rfl rfl ?_
      refine kz_goto (tgt := 26) d_St_faultOf_21 (by decide) ?_
      exact kz_iret rfl d_St_faultOf_26 (⟨by simp [bt_fault, *], rfl⟩)
def cw_right (M : kz_M) (a : Nat) : kz_M := if bt_fault (cw_get M a) < 0 then M else cw_put M a (bt_turn (cw_get M a) (bt_fault (cw_get M a)))
set_option maxRecDepth 100000 in
set_option maxHeartbeats 1000000 in
theorem c_St_putRight (l : Launch) {M : kz_M} {a : Int32} (ha : vp_in a 256) : kz_Dt l sC m_St_putRight [.ref 9, .int a] M (some (.int (kz_ib (!decide (bt_fault (cw_get M a.toNatClampNeg) < 0))))) (cw_right M a.toNatClampNeg) := by
  refine kz_intro (by decide +kernel) (Nat.le_of_ble_eq_true rfl) ?_
  show kz_G l sC m_St_putRight 0 [some (.ref 9), some (.int a), none] [] M _
  refine kz_aload_n d_St_putRight_0 rfl rfl ?_
  refine kz_iload_n d_St_putRight_1 rfl rfl ?_
  refine kz_callVi (c_St_faultOf l ha) cv_St_48 rfl rfl rfl ⟨by decide, by decide⟩ rfl (Nat.le_of_ble_eq_true rfl) d_St_putRight_2 rfl ?_
  refine kz_istore_n (i := 2) d_St_putRight_5 rfl rfl (Nat.le_of_ble_eq_true rfl) rfl ?_
  refine kz_iload_n d_St_putRight_6 rfl rfl ?_
  refine kz_if_ge (tgt := 12) d_St_putRight_7 (by decide) rfl (fun h7 => ?_) (fun h7 => ?_)
  · refine kz_aload_n d_St_putRight_12 rfl rfl ?_
    refine kz_iload_n d_St_putRight_13 rfl rfl ?_
    refine kz_iload_n d_St_putRight_14 rfl rfl ?_
    refine kz_callVv (c_St_turn l (by assumption)) cv_St_23 rfl rfl rfl ⟨by decide, by decide⟩ rfl (Nat.le_of_ble_eq_true rfl) d_St_putRight_15 rfl ?_
    refine kz_eta ?_
    refine kz_iconst (v := 1) d_St_putRight_18 (by decide) rfl ?_
    exact kz_zret rfl d_St_putRight_19 (by first | assumption | decide | exact kz_ib_or _) (⟨by simp [kz_ib, Int32.not_lt.mpr h7], by simp [cw_right, Int32.not_lt.mpr h7]⟩)
  · refine kz_iconst (v := 0) d_St_putRight_10 (by decide) rfl ?_
    exact kz_zret rfl d_St_putRight_11 (by first | assumption | decide | exact kz_ib_or _) (⟨by simp [kz_ib, Int32.not_le.mp h7], by simp [cw_right, Int32.not_le.mp h7]⟩)
set_option maxRecDepth 100000 in
set_option maxHeartbeats 4000000 in
theorem lp_wd (l : Launch) {M : kz_M} {a f : Int32} (ha : vp_in a 256) {Q : Option Value → kz_M → Prop} : ∀ (n : Nat) (w : Int64) (z : Option Value), n ≤ 69 → (∀ z, kz_G l sC m_St_wordAt 56 [some (.ref 9), some (.int a), some (.int f), some (.long (bt_wd (cw_get M a.toNatClampNeg) f n w)), none, some (.int (nI 2)), z] [] M Q) → kz_G l sC m_St_wordAt 6 [some (.ref 9), some (.int a), some (.int f), some (.long w), none, some (.int (nI (n + 2))), z] [] M Q := by
  intro n
  induction n with
  | zero =>
    intro w z hn hend
    refine kz_iload d_St_wordAt_6 rfl rfl ?_
    refine kz_iconst (v := 3) d_St_wordAt_8 (by decide) rfl ?_
    refine kz_icmp_lt (tgt := 56) d_St_wordAt_9 (by decide) rfl (fun h9 => ?_) (fun h9 => ?_)
    · exact hend _
    · exact absurd (by decide) h9
  | succ n ih =>
    intro w z hn hend
    refine kz_iload d_St_wordAt_6 rfl rfl ?_
    refine kz_iconst (v := 3) d_St_wordAt_8 (by decide) rfl ?_
    refine kz_icmp_lt (tgt := 56) d_St_wordAt_9 (by decide) rfl (fun h9 => ?_) (fun h9 => ?_)
    · exact absurd h9 (nI_nlt (a := n + 3) (b := 3) (by omega) (by omega))
    · refine kz_iload d_St_wordAt_12 rfl rfl ?_
      refine kz_callSi (c_St_isCheck l) cs_St_19 rfl ⟨by decide, by decide⟩ rfl (Nat.le_of_ble_eq_true rfl) d_St_wordAt_14 rfl ?_
      refine kz_if_neb (tgt := 50) d_St_wordAt_17 (by decide) rfl (fun h17 => ?_) (fun h17 => ?_)
      · refine kz_iinc d_St_wordAt_50 rfl rfl (Nat.le_of_ble_eq_true rfl) (kz_dec (n + 2)) rfl ?_
        refine kz_goto (tgt := 6) d_St_wordAt_53 (by decide) ?_
        refine ih _ _ (by omega) (fun z => ?_)
        have hend := hend z
        rw [bt_wd] at hend
        first | rw [if_pos h17] at hend | (rw [if_neg (by rw [h17]; decide)] at hend; first | rw [if_pos h35] at hend | rw [if_neg h35] at hend)
        exact hend
      · refine kz_aload_n d_St_wordAt_20 rfl rfl ?_
        refine kz_iload_n d_St_wordAt_21 rfl rfl ?_
        refine kz_iload d_St_wordAt_22 rfl rfl ?_
        refine kz_callVi (c_St_bitAt l (by assumption)) cv_St_30 rfl rfl rfl ⟨by decide, by decide⟩ rfl (Nat.le_of_ble_eq_true rfl) d_St_wordAt_24 rfl ?_
        refine kz_istore d_St_wordAt_27 rfl (Nat.le_of_ble_eq_true rfl) rfl ?_
        refine kz_lload_n d_St_wordAt_29 rfl rfl ?_
        refine kz_iconst (v := 1) d_St_wordAt_30 (by decide) rfl ?_
        refine kz_lshl d_St_wordAt_31 rfl ?_
        refine kz_iload d_St_wordAt_32 rfl rfl ?_
        refine kz_iload_n d_St_wordAt_34 rfl rfl ?_
        refine kz_icmp_ne (tgt := 45) d_St_wordAt_35 (by decide) rfl (fun h35 => ?_) (fun h35 => ?_)
        · refine kz_iload d_St_wordAt_45 rfl rfl ?_
          refine kz_i2l d_St_wordAt_47 rfl ?_
          refine kz_lor d_St_wordAt_48 rfl ?_
          refine kz_lstore_n (i := 3) d_St_wordAt_49 rfl rfl (Nat.le_of_ble_eq_true rfl) rfl ?_
          refine kz_iinc d_St_wordAt_50 rfl rfl (Nat.le_of_ble_eq_true rfl) (kz_dec (n + 2)) rfl ?_
          refine kz_goto (tgt := 6) d_St_wordAt_53 (by decide) ?_
          refine ih _ _ (by omega) (fun z => ?_)
          have hend := hend z
          rw [bt_wd] at hend
          first | rw [if_pos h17] at hend | (rw [if_neg (by rw [h17]; decide)] at hend; first | rw [if_pos h35] at hend | rw [if_neg h35] at hend)
          exact hend
        · refine kz_iconst (v := 1) d_St_wordAt_38 (by decide) rfl ?_
          refine kz_iload d_St_wordAt_39 rfl rfl ?_
          refine kz_isub d_St_wordAt_41 rfl ?_
          refine kz_goto (tgt := 47) d_St_wordAt_42 (by decide) ?_
          refine kz_i2l d_St_wordAt_47 rfl ?_
          refine kz_lor d_St_wordAt_48 rfl ?_
          refine kz_lstore_n (i := 3) d_St_wordAt_49 rfl rfl (Nat.le_of_ble_eq_true rfl) rfl ?_
          refine kz_iinc d_St_wordAt_50 rfl rfl (Nat.le_of_ble_eq_true rfl) (kz_dec (n + 2)) rfl ?_
          refine kz_goto (tgt := 6) d_St_wordAt_53 (by decide) ?_
          refine ih _ _ (by omega) (fun z => ?_)
          have hend := hend z
          rw [bt_wd] at hend
          first | rw [if_pos h17] at hend | (rw [if_neg (by rw [h17]; decide)] at hend; first | rw [if_pos h35] at hend | rw [if_neg h35] at hend)
          exact hend
set_option maxRecDepth 100000 in
set_option maxHeartbeats 1000000 in
theorem c_St_wordAt (l : Launch) {M : kz_M} {a f : Int32} (ha : vp_in a 256) : kz_Dt l sC m_St_wordAt [.ref 9, .int a, .int f] M (some (.long (bt_wd (cw_get M a.toNatClampNeg) f 69 0))) M := by
  refine kz_intro (by decide +kernel) (Nat.le_of_ble_eq_true rfl) ?_
  show kz_G l sC m_St_wordAt 0 [some (.ref 9), some (.int a), some (.int f), none, none, none, none] [] M _
  refine kz_lconst (v := 0) d_St_wordAt_0 (by decide) rfl ?_
  refine kz_lstore_n (i := 3) d_St_wordAt_1 rfl rfl (Nat.le_of_ble_eq_true rfl) rfl ?_
  refine kz_bipush (v := 71) d_St_wordAt_2 (by decide) rfl ?_
  refine kz_istore d_St_wordAt_4 rfl (Nat.le_of_ble_eq_true rfl) rfl ?_
  refine lp_wd l ha 69 0 none (by decide) (fun z => ?_)
  exact kz_lload_n d_St_wordAt_56 rfl rfl (kz_lret rfl d_St_wordAt_57 ⟨rfl, rfl⟩)
set_option maxRecDepth 100000 in
set_option maxHeartbeats 4000000 in
theorem lp_kp (l : Launch) {M : kz_M} {a : Int32} {wd : Int64} (ha : vp_in a 256) {Q : Option Value → kz_M → Prop} : ∀ (n p : Nat) (st : bt_T × Int32 × Int64), p + n = 72 → kz_G l sC m_St_keep 73 [some (.ref 9), some (.int a), some (.long wd), none, some (.int (bt_kps n p st).2.1), some (.long (bt_kps n p st).2.2), none, some (.int (nI 72))] [] (cw_put M a.toNatClampNeg (bt_kps n p st).1) Q → kz_G l sC m_St_keep 23 [some (.ref 9), some (.int a), some (.long wd), none, some (.int st.2.1), some (.long st.2.2), none, some (.int (nI p))] [] (cw_put M a.toNatClampNeg st.1) Q := by
  intro n
  induction n with
  | zero =>
    intro p st hp hend
    obtain rfl : p = 72 := by omega
    refine kz_iload d_St_keep_23 rfl rfl ?_
    refine kz_bipush (v := 72) d_St_keep_25 (by decide) rfl ?_
    refine kz_icmp_ge (tgt := 73) d_St_keep_27 (by decide) rfl (fun h27 => ?_) (fun h27 => ?_)
    · exact hend
    · exact absurd (Int32.le_refl _) h27
  | succ n ih =>
    intro p st hp hend
    refine kz_iload d_St_keep_23 rfl rfl ?_
    refine kz_bipush (v := 72) d_St_keep_25 (by decide) rfl ?_
    refine kz_icmp_ge (tgt := 73) d_St_keep_27 (by decide) rfl (fun h27 => ?_) (fun h27 => ?_)
    · exact absurd h27 (nI_ge (a := p) (b := 72) (by omega) (by decide))
    · refine kz_iload d_St_keep_30 rfl rfl ?_
      refine kz_callSi (c_St_isCheck l) cs_St_19 rfl ⟨by decide, by decide⟩ rfl (Nat.le_of_ble_eq_true rfl) d_St_keep_32 rfl ?_
      refine kz_if_neb (tgt := 67) d_St_keep_35 (by decide) rfl (fun h35 => ?_) (fun h35 => ?_)
      · refine kz_iinc d_St_keep_67 rfl rfl (Nat.le_of_ble_eq_true rfl) (kz_inc p) rfl ?_
        refine kz_goto (tgt := 23) d_St_keep_70 (by decide) ?_
        first | refine kz_memq ((congrArg _ (congrArg (fun z => bt_turn z _) (cw_gp _ _ _))).trans (cw_pp _ _ _ _)) ?_ | skip
        rw [bt_kps, bt_kp] at hend
        first | rw [if_pos h35] at hend | (rw [if_neg (by rw [h35]; decide)] at hend; first | rw [if_pos h44] at hend | rw [if_neg h44] at hend)
        exact ih (p + 1) _ (by omega) hend
      · refine kz_lload d_St_keep_38 rfl rfl ?_
        refine kz_lconst (v := 1) d_St_keep_40 (by decide) rfl ?_
        refine kz_land d_St_keep_41 rfl ?_
        refine kz_lconst (v := 0) d_St_keep_42 (by decide) rfl ?_
        refine kz_lcmp d_St_keep_43 rfl ?_
        refine kz_if_eq (tgt := 61) d_St_keep_44 (by decide) rfl (fun h44 => ?_) (fun h44 => ?_)
        · refine kz_lload d_St_keep_61 rfl rfl ?_
          refine kz_iconst (v := 1) d_St_keep_63 (by decide) rfl ?_
          refine kz_lushr d_St_keep_64 rfl ?_
          refine kz_lstore d_St_keep_65 rfl (Nat.le_of_ble_eq_true rfl) rfl ?_
          refine kz_iinc d_St_keep_67 rfl rfl (Nat.le_of_ble_eq_true rfl) (kz_inc p) rfl ?_
          refine kz_goto (tgt := 23) d_St_keep_70 (by decide) ?_
          first | refine kz_memq ((congrArg _ (congrArg (fun z => bt_turn z _) (cw_gp _ _ _))).trans (cw_pp _ _ _ _)) ?_ | skip
          rw [bt_kps, bt_kp] at hend
          first | rw [if_pos h35] at hend | (rw [if_neg (by rw [h35]; decide)] at hend; first | rw [if_pos h44] at hend | rw [if_neg h44] at hend)
          exact ih (p + 1) _ (by omega) hend
        · refine kz_aload_n d_St_keep_47 rfl rfl ?_
          refine kz_iload_n d_St_keep_48 rfl rfl ?_
          refine kz_iload d_St_keep_49 rfl rfl ?_
          refine kz_callVv (c_St_turn l (by assumption)) cv_St_23 rfl rfl rfl ⟨by decide, by decide⟩ rfl (Nat.le_of_ble_eq_true rfl) d_St_keep_51 rfl ?_
          refine kz_eta ?_
          refine kz_iload d_St_keep_54 rfl rfl ?_
          refine kz_iload d_St_keep_56 rfl rfl ?_
          refine kz_ixor d_St_keep_58 rfl ?_
          refine kz_istore d_St_keep_59 rfl (Nat.le_of_ble_eq_true rfl) rfl ?_
          refine kz_lload d_St_keep_61 rfl rfl ?_
          refine kz_iconst (v := 1) d_St_keep_63 (by decide) rfl ?_
          refine kz_lushr d_St_keep_64 rfl ?_
          refine kz_lstore d_St_keep_65 rfl (Nat.le_of_ble_eq_true rfl) rfl ?_
          refine kz_iinc d_St_keep_67 rfl rfl (Nat.le_of_ble_eq_true rfl) (kz_inc p) rfl ?_
          refine kz_goto (tgt := 23) d_St_keep_70 (by decide) ?_
          first | refine kz_memq ((congrArg _ (congrArg (fun z => bt_turn z _) (cw_gp _ _ _))).trans (cw_pp _ _ _ _)) ?_ | skip
          rw [bt_kps, bt_kp] at hend
          first | rw [if_pos h35] at hend | (rw [if_neg (by rw [h35]; decide)] at hend; first | rw [if_pos h44] at hend | rw [if_neg h44] at hend)
          exact ih (p + 1) _ (by omega) hend
set_option maxRecDepth 100000 in
set_option maxHeartbeats 4000000 in
theorem lp_kc (l : Launch) {M : kz_M} {a c c2 syn : Int32} {wd re : Int64} {x : bt_T} (ha : vp_in a 256) (hc : ¬ 72 ≤ c) (h2 : c * 2 = c2) {Q : Option Value → kz_M → Prop} (k : kz_G l sC m_St_keep 76 [some (.ref 9), some (.int a), some (.long wd), none, some (.int syn), some (.long re), none, some (.int c2)] [] (cw_put M a.toNatClampNeg (bt_kc syn c x)) Q) : kz_G l sC m_St_keep 76 [some (.ref 9), some (.int a), some (.long wd), none, some (.int syn), some (.long re), none, some (.int c)] [] (cw_put M a.toNatClampNeg x) Q := by
  subst h2
  refine kz_iload d_St_keep_76 rfl rfl ?_
  refine kz_bipush (v := 72) d_St_keep_78 (by decide) rfl ?_
  refine kz_icmp_ge (tgt := 107) d_St_keep_80 (by decide) rfl (fun h80 => ?_) (fun h80 => ?_)
  · exact absurd h80 hc
  · refine kz_iload d_St_keep_83 rfl rfl ?_
    refine kz_iload d_St_keep_85 rfl rfl ?_
    refine kz_iand d_St_keep_87 rfl ?_
    refine kz_if_eq (tgt := 98) d_St_keep_88 (by decide) rfl (fun h88 => ?_) (fun h88 => ?_)
    · refine kz_iload d_St_keep_98 rfl rfl ?_
      refine kz_iconst (v := 2) d_St_keep_100 (by decide) rfl ?_
      refine kz_imul d_St_keep_101 rfl ?_
      refine kz_istore d_St_keep_102 rfl (Nat.le_of_ble_eq_true rfl) rfl ?_
      refine kz_goto (tgt := 76) d_St_keep_104 (by decide) ?_
      rw [bt_kc] at k
      first | (rw [if_pos h88] at k; exact k) | (rw [if_neg h88] at k; exact kz_memq ((congrArg _ (congrArg (fun z => bt_turn z _) (cw_gp _ _ _))).trans (cw_pp _ _ _ _)) k)
    · refine kz_aload_n d_St_keep_91 rfl rfl ?_
      refine kz_iload_n d_St_keep_92 rfl rfl ?_
      refine kz_iload d_St_keep_93 rfl rfl ?_
      refine kz_callVv (c_St_turn l (by assumption)) cv_St_23 rfl rfl rfl ⟨by decide, by decide⟩ rfl (Nat.le_of_ble_eq_true rfl) d_St_keep_95 rfl ?_
      refine kz_eta ?_
      refine kz_iload d_St_keep_98 rfl rfl ?_
      refine kz_iconst (v := 2) d_St_keep_100 (by decide) rfl ?_
      refine kz_imul d_St_keep_101 rfl ?_
      refine kz_istore d_St_keep_102 rfl (Nat.le_of_ble_eq_true rfl) rfl ?_
      refine kz_goto (tgt := 76) d_St_keep_104 (by decide) ?_
      rw [bt_kc] at k
      first | (rw [if_pos h88] at k; exact k) | (rw [if_neg h88] at k; exact kz_memq ((congrArg _ (congrArg (fun z => bt_turn z _) (cw_gp _ _ _))).trans (cw_pp _ _ _ _)) k)
set_option maxRecDepth 100000 in
set_option maxHeartbeats 1000000 in
theorem c_St_keep (l : Launch) {M : kz_M} {a : Int32} {w : Int64} (ha : vp_in a 256) : kz_Dt l sC m_St_keep [.ref 9, .int a, .long w] M none (cw_put M a.toNatClampNeg (bt_keep w)) := by
  refine kz_intro (by decide +kernel) (Nat.le_of_ble_eq_true rfl) ?_
  show kz_G l sC m_St_keep 0 [some (.ref 9), some (.int a), some (.long w), none, none, none, none, none] [] M _
  refine kz_aload_n d_St_keep_0 rfl rfl ?_
  refine kz_getR fd_St_9 rfl rfl rfl d_St_keep_1 rfl ?_
  refine kz_iload_n d_St_keep_4 rfl rfl ?_
  refine kz_lconst (v := 0) d_St_keep_5 (by decide) rfl ?_
  refine kz_lastp rfl (by first | assumption | exact kz_vin (by decide)) rfl d_St_keep_6 rfl ?_
  refine kz_aload_n d_St_keep_7 rfl rfl ?_
  refine kz_getR fd_St_15 rfl rfl rfl d_St_keep_8 rfl ?_
  refine kz_iload_n d_St_keep_11 rfl rfl ?_
  refine kz_iconst (v := 0) d_St_keep_12 (by decide) rfl ?_
  refine kz_iastp rfl (by first | assumption | exact kz_vin (by decide)) rfl d_St_keep_13 rfl ?_
  refine kz_iconst (v := 0) d_St_keep_14 (by decide) rfl ?_
  refine kz_istore d_St_keep_15 rfl (Nat.le_of_ble_eq_true rfl) rfl ?_
  refine kz_lload_n d_St_keep_17 rfl rfl ?_
  refine kz_lstore d_St_keep_18 rfl (Nat.le_of_ble_eq_true rfl) rfl ?_
  refine kz_iconst (v := 3) d_St_keep_20 (by decide) rfl ?_
  refine kz_istore d_St_keep_21 rfl (Nat.le_of_ble_eq_true rfl) rfl ?_
  refine kz_memq (N := cw_put M a.toNatClampNeg (0, 0)) rfl ?_
  refine lp_kp l ha 69 3 ((0, 0), 0, w) (by decide) ?_
  generalize hst : bt_kps 69 3 ((0, 0), 0, w) = st
  refine kz_iconst (v := 1) d_St_keep_73 (by decide) rfl ?_
  refine kz_istore d_St_keep_74 rfl (Nat.le_of_ble_eq_true rfl) rfl ?_
  refine lp_kc l ha (by decide) (by decide : (1 : Int32) * 2 = 2) ?_
  refine lp_kc l ha (by decide) (by decide : (2 : Int32) * 2 = 4) ?_
  refine lp_kc l ha (by decide) (by decide : (4 : Int32) * 2 = 8) ?_
  refine lp_kc l ha (by decide) (by decide : (8 : Int32) * 2 = 16) ?_
  refine lp_kc l ha (by decide) (by decide : (16 : Int32) * 2 = 32) ?_
  refine lp_kc l ha (by decide) (by decide : (32 : Int32) * 2 = 64) ?_
  refine lp_kc l ha (by decide) (by decide : (64 : Int32) * 2 = 128) ?_
  have hk : bt_keep w = bt_end (bt_kcs st.2.1 st.1) := by rw [← hst]; rfl
  show kz_G l sC m_St_keep 76 _ _ (cw_put M a.toNatClampNeg (bt_kcs st.2.1 st.1)) _
  generalize bt_kcs st.2.1 st.1 = y at hk ⊢
  refine kz_iload d_St_keep_76 rfl rfl ?_
  refine kz_bipush (v := 72) d_St_keep_78 (by decide) rfl ?_
  refine kz_icmp_ge (tgt := 107) d_St_keep_80 (by decide) rfl (fun h80 => ?_) (fun h80 => ?_)
  · refine kz_aload_n d_St_keep_107 rfl rfl ?_
    refine kz_iload_n d_St_keep_108 rfl rfl ?_
    refine kz_callVi (c_St_onesAreOdd l (by assumption)) cv_St_27 rfl rfl rfl ⟨by decide, by decide⟩ rfl (Nat.le_of_ble_eq_true rfl) d_St_keep_109 rfl ?_
    refine kz_if_eqb (tgt := 121) d_St_keep_112 (by decide) rfl (fun h112 => ?_) (fun h112 => ?_)
    · exact kz_vret rfl d_St_keep_121 (by first | exact ⟨rfl, by rw [hk, bt_end, if_pos (by rw [← h112, cw_gp]), cw_gp, cw_pp]⟩ | exact ⟨rfl, by rw [hk, bt_end, if_neg (by rw [← cw_gp M a.toNatClampNeg y, h112]; decide)]⟩)
    · refine kz_aload_n d_St_keep_115 rfl rfl ?_
      refine kz_iload_n d_St_keep_116 rfl rfl ?_
      refine kz_iconst (v := 0) d_St_keep_117 (by decide) rfl ?_
      refine kz_callVv (c_St_turn l (by assumption)) cv_St_23 rfl rfl rfl ⟨by decide, by decide⟩ rfl (Nat.le_of_ble_eq_true rfl) d_St_keep_118 rfl ?_
      refine kz_eta ?_
      exact kz_vret rfl d_St_keep_121 (by first | exact ⟨rfl, by rw [hk, bt_end, if_pos (by rw [← h112, cw_gp]), cw_gp, cw_pp]⟩ | exact ⟨rfl, by rw [hk, bt_end, if_neg (by rw [← cw_gp M a.toNatClampNeg y, h112]; decide)]⟩)
  · exact absurd (by decide) h80
