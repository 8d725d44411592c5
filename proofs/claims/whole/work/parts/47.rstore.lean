/-! Contracts of the reference: a word stored, taken, scrubbed. -/
abbrev rs_T : Type := bt_T × Int32 × Int32 × Int32
def rs_kp (v : Int64) (p : Int32) (st : rs_T) : rs_T := if bt_chk p = true then st else if lg_cmp ((v >>> (st.2.2.1.toInt64 &&& 63)) &&& 1) 1 = 0 then (bt_turn st.1 p, st.2.1 ^^^ p, st.2.2.1 + Int32.ofInt 1, st.2.2.2 + Int32.ofInt 1) else (st.1, st.2.1, st.2.2.1 + Int32.ofInt 1, st.2.2.2)
def rs_kps (v : Int64) : Nat → Nat → rs_T → rs_T
  | 0, _, st => st
  | n + 1, p, st => rs_kps v n (p + 1) (rs_kp v (nI p) st)
def rs_kc (syn c : Int32) (x : bt_T × Int32) : bt_T × Int32 := if syn &&& c = 0 then x else (bt_turn x.1 c, x.2 + Int32.ofInt 1)
def rs_kcs (syn : Int32) (x : bt_T × Int32) : bt_T × Int32 := rs_kc syn 64 (rs_kc syn 32 (rs_kc syn 16 (rs_kc syn 8 (rs_kc syn 4 (rs_kc syn 2 (rs_kc syn 1 x))))))
def rs_end (x : bt_T × Int32) : bt_T := if x.2 - x.2 / 2 * 2 = 1 then bt_turn x.1 0 else x.1
def rs_store (v : Int64) : bt_T := rs_end (rs_kcs (rs_kps v 69 3 ((0, 0), 0, 0, 0)).2.1 ((rs_kps v 69 3 ((0, 0), 0, 0, 0)).1, (rs_kps v 69 3 ((0, 0), 0, 0, 0)).2.2.2))
set_option maxRecDepth 100000 in
set_option maxHeartbeats 1000000 in
theorem lp_rkp (l : Launch) {M : kz_M} {a : Int32} {v : Int64} (ha : vp_in a 256) {Q : Option Value → kz_M → Prop} : ∀ (n p : Nat) (st : rs_T), p + n = 72 → kz_G l sR m_Mo_store 78 [some (.ref 0), some (.int a), some (.long v), none, some (.int (rs_kps v n p st).2.1), some (.int (rs_kps v n p st).2.2.1), some (.int (rs_kps v n p st).2.2.2), some (.int (nI 72))] [] (rw_put M a.toNatClampNeg (rs_kps v n p st).1) Q → kz_G l sR m_Mo_store 26 [some (.ref 0), some (.int a), some (.long v), none, some (.int st.2.1), some (.int st.2.2.1), some (.int st.2.2.2), some (.int (nI p))] [] (rw_put M a.toNatClampNeg st.1) Q := by
  intro n
  induction n with
  | zero =>
    intro p st hp hend
    obtain rfl : p = 72 := by omega
    refine kz_iload d_Mo_store_26 rfl rfl ?_
    refine kz_bipush (v := 72) d_Mo_store_28 (by decide) rfl ?_
    refine kz_icmp_ge (tgt := 78) d_Mo_store_30 (by decide) rfl (fun h30 => ?_) (fun h30 => ?_)
    · exact hend
    · exact absurd (Int32.le_refl _) h30
  | succ n ih =>
    intro p st hp hend
    rw [rs_kps, rs_kp] at hend
    refine kz_iload d_Mo_store_26 rfl rfl ?_
    refine kz_bipush (v := 72) d_Mo_store_28 (by decide) rfl ?_
    refine kz_icmp_ge (tgt := 78) d_Mo_store_30 (by decide) rfl (fun h30 => ?_) (fun h30 => ?_)
    · exact absurd h30 (nI_ge (a := p) (b := 72) (by omega) (by decide))
    · refine kz_iload d_Mo_store_33 rfl rfl ?_
      refine kz_callSi (c_Mo_isCheck l) cs_Mo_99 rfl ⟨by decide, by decide⟩ rfl (Nat.le_of_ble_eq_true rfl) d_Mo_store_35 rfl ?_
      refine kz_if_neb (tgt := 72) d_Mo_store_38 (by decide) rfl (fun h38 => ?_) (fun h38 => ?_)
      · refine kz_iinc d_Mo_store_72 rfl rfl (Nat.le_of_ble_eq_true rfl) (kz_inc p) rfl ?_
        refine kz_goto (tgt := 26) d_Mo_store_75 (by decide) ?_
        rw [if_pos h38] at hend
        exact ih (p + 1) _ (by omega) hend
      · refine kz_lload_n d_Mo_store_41 rfl rfl ?_
        refine kz_iload d_Mo_store_42 rfl rfl ?_
        refine kz_lshr d_Mo_store_44 rfl ?_
        refine kz_lconst (v := 1) d_Mo_store_45 (by decide) rfl ?_
        refine kz_land d_Mo_store_46 rfl ?_
        refine kz_lconst (v := 1) d_Mo_store_47 (by decide) rfl ?_
        refine kz_lcmp d_Mo_store_48 rfl ?_
        refine kz_if_ne (tgt := 69) d_Mo_store_49 (by decide) rfl (fun h49 => ?_) (fun h49 => ?_)
        · refine kz_iinc d_Mo_store_69 rfl rfl (Nat.le_of_ble_eq_true rfl) rfl rfl ?_
          refine kz_iinc d_Mo_store_72 rfl rfl (Nat.le_of_ble_eq_true rfl) (kz_inc p) rfl ?_
          refine kz_goto (tgt := 26) d_Mo_store_75 (by decide) ?_
          rw [if_neg (by rw [h38]; decide), if_neg h49] at hend
          exact ih (p + 1) _ (by omega) hend
        · refine kz_aload_n d_Mo_store_52 rfl rfl ?_
          refine kz_iload_n d_Mo_store_53 rfl rfl ?_
          refine kz_iload d_Mo_store_54 rfl rfl ?_
          refine kz_callVv (c_Mo_turn l ha) cv_Mo_103 rfl rfl rfl ⟨by decide, by decide⟩ rfl (Nat.le_of_ble_eq_true rfl) d_Mo_store_56 rfl ?_
          refine kz_eta ?_
          refine kz_iload d_Mo_store_59 rfl rfl ?_
          refine kz_iload d_Mo_store_61 rfl rfl ?_
          refine kz_ixor d_Mo_store_63 rfl ?_
          refine kz_istore d_Mo_store_64 rfl (Nat.le_of_ble_eq_true rfl) rfl ?_
          refine kz_iinc d_Mo_store_66 rfl rfl (Nat.le_of_ble_eq_true rfl) rfl rfl ?_
          refine kz_iinc d_Mo_store_69 rfl rfl (Nat.le_of_ble_eq_true rfl) rfl rfl ?_
          refine kz_iinc d_Mo_store_72 rfl rfl (Nat.le_of_ble_eq_true rfl) (kz_inc p) rfl ?_
          refine kz_goto (tgt := 26) d_Mo_store_75 (by decide) ?_
          rw [if_neg (by rw [h38]; decide), if_pos h49] at hend
          refine kz_memq ((congrArg _ (congrArg (fun z => bt_turn z _) (rw_gp _ _ _))).trans (rw_pp _ _ _ _)) ?_
          exact ih (p + 1) _ (by omega) hend
set_option maxRecDepth 100000 in
set_option maxHeartbeats 1000000 in
theorem lp_rkc (l : Launch) {M : kz_M} {a c c2 syn n : Int32} {v : Int64} {x : bt_T × Int32} (ha : vp_in a 256) (hc : ¬ 72 ≤ c) (h2 : 2 * c = c2) {Q : Option Value → kz_M → Prop} (k : kz_G l sR m_Mo_store 81 [some (.ref 0), some (.int a), some (.long v), none, some (.int syn), some (.int n), some (.int (rs_kc syn c x).2), some (.int c2)] [] (rw_put M a.toNatClampNeg (rs_kc syn c x).1) Q) : kz_G l sR m_Mo_store 81 [some (.ref 0), some (.int a), some (.long v), none, some (.int syn), some (.int n), some (.int x.2), some (.int c)] [] (rw_put M a.toNatClampNeg x.1) Q := by
  subst h2
  rw [rs_kc] at k
  refine kz_iload d_Mo_store_81 rfl rfl ?_
  refine kz_bipush (v := 72) d_Mo_store_83 (by decide) rfl ?_
  refine kz_icmp_ge (tgt := 115) d_Mo_store_85 (by decide) rfl (fun h85 => ?_) (fun h85 => ?_)
  · exact absurd h85 hc
  · refine kz_iload d_Mo_store_88 rfl rfl ?_
    refine kz_iload d_Mo_store_90 rfl rfl ?_
    refine kz_iand d_Mo_store_92 rfl ?_
    refine kz_if_eq (tgt := 106) d_Mo_store_93 (by decide) rfl (fun h93 => ?_) (fun h93 => ?_)
    · refine kz_iconst (v := 2) d_Mo_store_106 (by decide) rfl ?_
      refine kz_iload d_Mo_store_107 rfl rfl ?_
      refine kz_imul d_Mo_store_109 rfl ?_
      refine kz_istore d_Mo_store_110 rfl (Nat.le_of_ble_eq_true rfl) rfl ?_
      refine kz_goto (tgt := 81) d_Mo_store_112 (by decide) ?_
      rw [if_pos h93] at k
      exact k
    · refine kz_aload_n d_Mo_store_96 rfl rfl ?_
      refine kz_iload_n d_Mo_store_97 rfl rfl ?_
      refine kz_iload d_Mo_store_98 rfl rfl ?_
      refine kz_callVv (c_Mo_turn l ha) cv_Mo_103 rfl rfl rfl ⟨by decide, by decide⟩ rfl (Nat.le_of_ble_eq_true rfl) d_Mo_store_100 rfl ?_
      refine kz_eta ?_
      refine kz_iinc d_Mo_store_103 rfl rfl (Nat.le_of_ble_eq_true rfl) rfl rfl ?_
      refine kz_iconst (v := 2) d_Mo_store_106 (by decide) rfl ?_
      refine kz_iload d_Mo_store_107 rfl rfl ?_
      refine kz_imul d_Mo_store_109 rfl ?_
      refine kz_istore d_Mo_store_110 rfl (Nat.le_of_ble_eq_true rfl) rfl ?_
      refine kz_goto (tgt := 81) d_Mo_store_112 (by decide) ?_
      rw [if_neg h93] at k
      exact kz_memq ((congrArg _ (congrArg (fun z => bt_turn z _) (rw_gp _ _ _))).trans (rw_pp _ _ _ _)) k
set_option maxRecDepth 100000 in
set_option maxHeartbeats 1000000 in
theorem c_Mo_store (l : Launch) {M : kz_M} {a : Int32} {v : Int64} (ha : vp_in a 256) : kz_Dt l sR m_Mo_store [.ref 0, .int a, .long v] M none (rw_put M a.toNatClampNeg (rs_store v)) := by
  refine kz_intro (by decide +kernel) (Nat.le_of_ble_eq_true rfl) ?_
  show kz_G l sR m_Mo_store 0 [some (.ref 0), some (.int a), some (.long v), none, none, none, none, none] [] M _
  refine kz_aload_n d_Mo_store_0 rfl rfl ?_
  refine kz_getR fd_Mo_13 rfl rfl rfl d_Mo_store_1 rfl ?_
  refine kz_iload_n d_Mo_store_4 rfl rfl ?_
  refine kz_lconst (v := 0) d_Mo_store_5 (by decide) rfl ?_
  refine kz_lastp rfl (by first | assumption | exact kz_vin (by decide)) rfl d_Mo_store_6 rfl ?_
  refine kz_aload_n d_Mo_store_7 rfl rfl ?_
  refine kz_getR fd_Mo_17 rfl rfl rfl d_Mo_store_8 rfl ?_
  refine kz_iload_n d_Mo_store_11 rfl rfl ?_
  refine kz_iconst (v := 0) d_Mo_store_12 (by decide) rfl ?_
  refine kz_iastp rfl (by first | assumption | exact kz_vin (by decide)) rfl d_Mo_store_13 rfl ?_
  refine kz_iconst (v := 0) d_Mo_store_14 (by decide) rfl ?_
  refine kz_istore d_Mo_store_15 rfl (Nat.le_of_ble_eq_true rfl) rfl ?_
  refine kz_iconst (v := 0) d_Mo_store_17 (by decide) rfl ?_
  refine kz_istore d_Mo_store_18 rfl (Nat.le_of_ble_eq_true rfl) rfl ?_
  refine kz_iconst (v := 0) d_Mo_store_20 (by decide) rfl ?_
  refine kz_istore d_Mo_store_21 rfl (Nat.le_of_ble_eq_true rfl) rfl ?_
  refine kz_iconst (v := 3) d_Mo_store_23 (by decide) rfl ?_
  refine kz_istore d_Mo_store_24 rfl (Nat.le_of_ble_eq_true rfl) rfl ?_
  refine kz_memq (N := rw_put M a.toNatClampNeg (0, 0)) rfl ?_
  refine lp_rkp l ha 69 3 ((0, 0), 0, 0, 0) (by decide) ?_
  generalize hst : rs_kps v 69 3 ((0, 0), 0, 0, 0) = st
  refine kz_iconst (v := 1) d_Mo_store_78 (by decide) rfl ?_
  refine kz_istore d_Mo_store_79 rfl (Nat.le_of_ble_eq_true rfl) rfl ?_
  refine lp_rkc l (x := (st.1, st.2.2.2)) ha (by decide) (by decide : (2 : Int32) * 1 = 2) ?_
  refine lp_rkc l ha (by decide) (by decide : (2 : Int32) * 2 = 4) ?_
  refine lp_rkc l ha (by decide) (by decide : (2 : Int32) * 4 = 8) ?_
  refine lp_rkc l ha (by decide) (by decide : (2 : Int32) * 8 = 16) ?_
  refine lp_rkc l ha (by decide) (by decide : (2 : Int32) * 16 = 32) ?_
  refine lp_rkc l ha (by decide) (by decide : (2 : Int32) * 32 = 64) ?_
  refine lp_rkc l ha (by decide) (by decide : (2 : Int32) * 64 = 128) ?_
  have hk : rs_store v = rs_end (rs_kcs st.2.1 (st.1, st.2.2.2)) := by rw [← hst]; rfl
  show kz_G l sR m_Mo_store 81 [some (.ref 0), some (.int a), some (.long v), none, some (.int st.2.1), some (.int st.2.2.1), some (.int (rs_kcs st.2.1 (st.1, st.2.2.2)).2), some (.int 128)] [] (rw_put M a.toNatClampNeg (rs_kcs st.2.1 (st.1, st.2.2.2)).1) _
  generalize rs_kcs st.2.1 (st.1, st.2.2.2) = y at hk ⊢
  refine kz_iload d_Mo_store_81 rfl rfl ?_
  refine kz_bipush (v := 72) d_Mo_store_83 (by decide) rfl ?_
  refine kz_icmp_ge (tgt := 115) d_Mo_store_85 (by decide) rfl (fun h85 => ?_) (fun h85 => ?_)
  · refine kz_iload d_Mo_store_115 rfl rfl ?_
    refine kz_iconst (v := 2) d_Mo_store_117 (by decide) rfl ?_
    refine kz_irem d_Mo_store_118 (by first | assumption | decide) rfl ?_
    refine kz_iconst (v := 1) d_Mo_store_119 (by decide) rfl ?_
    refine kz_icmp_ne (tgt := 129) d_Mo_store_120 (by decide) rfl (fun h120 => ?_) (fun h120 => ?_)
    · exact kz_vret rfl d_Mo_store_129 (by first | exact ⟨rfl, by rw [hk, rs_end, if_neg h120]⟩ | exact ⟨rfl, by rw [hk, rs_end, if_pos h120, rw_gp, rw_pp]⟩)
    · refine kz_aload_n d_Mo_store_123 rfl rfl ?_
      refine kz_iload_n d_Mo_store_124 rfl rfl ?_
      refine kz_iconst (v := 0) d_Mo_store_125 (by decide) rfl ?_
      refine kz_callVv (c_Mo_turn l ha) cv_Mo_103 rfl rfl rfl ⟨by decide, by decide⟩ rfl (Nat.le_of_ble_eq_true rfl) d_Mo_store_126 rfl ?_
      refine kz_eta ?_
      exact kz_vret rfl d_Mo_store_129 (by first | exact ⟨rfl, by rw [hk, rs_end, if_neg h120]⟩ | exact ⟨rfl, by rw [hk, rs_end, if_pos h120, rw_gp, rw_pp]⟩)
  · exact absurd (by decide) h85
def rt_1 (x : bt_T) : Nat → Nat → Int32 × Int32 → Int32 × Int32
  | 0, _, s => s
  | n + 1, p, s => rt_1 x n (p + 1) (if rb_bit x (nI p) = 1 then (s.1 ^^^ nI p, s.2 + Int32.ofInt 1) else s)
def rt_odd (x : bt_T) : Bool := decide ((rt_1 x 72 0 (0, 0)).2 - (rt_1 x 72 0 (0, 0)).2 / 2 * 2 = 1)
def rt_pl (x : bt_T) : Int32 := if rt_odd x = true then (if 72 ≤ (rt_1 x 72 0 (0, 0)).1 then -1 else (rt_1 x 72 0 (0, 0)).1) else -1
def rt_ck (x : bt_T) : Int32 := if rt_pl x < 0 then (if rt_odd x = true then 4 else if (rt_1 x 72 0 (0, 0)).1 = 0 then 2 else 4) else 3
def rt_2 (x : bt_T) (pl : Int32) : Nat → Nat → Int32 × Int64 → Int32 × Int64
  | 0, _, s => s
  | n + 1, p, s => rt_2 x pl n (p + 1) (if bt_chk (nI p) = true then s else (s.1 + Int32.ofInt 1, s.2 ||| ((rb_bit x (nI p) ^^^ (if nI p = pl then 1 else 0)).toInt64 <<< (s.1.toInt64 &&& 63))))
def rt_M (M : kz_M) (x : bt_T) : kz_M := (kz_u (kz_u M.1 0 40 (rt_pl x)) 0 39 (rt_ck x), kz_u M.2 0 38 (rt_2 x (rt_pl x) 69 3 (0, 0)).2)
set_option maxRecDepth 100000 in
set_option maxHeartbeats 1000000 in
theorem lp_rt1 (l : Launch) {M : kz_M} {a : Int32} (ha : vp_in a 256) {Q : Option Value → kz_M → Prop} : ∀ (n p : Nat) (s : Int32 × Int32), p + n = 72 → kz_G l sR m_Mo_take 39 [some (.ref 0), some (.int a), some (.int (rt_1 (rw_get M a.toNatClampNeg) n p s).1), some (.int (rt_1 (rw_get M a.toNatClampNeg) n p s).2), some (.int (nI 72)), none, none, none] [] M Q → kz_G l sR m_Mo_take 7 [some (.ref 0), some (.int a), some (.int s.1), some (.int s.2), some (.int (nI p)), none, none, none] [] M Q := by
  intro n
  induction n with
  | zero =>
    intro p s hp hend
    obtain rfl : p = 72 := by omega
    refine kz_iload d_Mo_take_7 rfl rfl ?_
    refine kz_bipush (v := 72) d_Mo_take_9 (by decide) rfl ?_
    refine kz_icmp_ge (tgt := 39) d_Mo_take_11 (by decide) rfl (fun h11 => ?_) (fun h11 => ?_)
    · exact hend
    · exact absurd (Int32.le_refl _) h11
  | succ n ih =>
    intro p s hp hend
    rw [rt_1] at hend
    refine kz_iload d_Mo_take_7 rfl rfl ?_
    refine kz_bipush (v := 72) d_Mo_take_9 (by decide) rfl ?_
    refine kz_icmp_ge (tgt := 39) d_Mo_take_11 (by decide) rfl (fun h11 => ?_) (fun h11 => ?_)
    · exact absurd h11 (nI_ge (a := p) (b := 72) (by omega) (by decide))
    · refine kz_aload_n d_Mo_take_14 rfl rfl ?_
      refine kz_iload_n d_Mo_take_15 rfl rfl ?_
      refine kz_iload d_Mo_take_16 rfl rfl ?_
      refine kz_callVi (c_Mo_bitAt l ha) cv_Mo_107 rfl rfl rfl ⟨by decide, by decide⟩ rfl (Nat.le_of_ble_eq_true rfl) d_Mo_take_18 rfl ?_
      refine kz_iconst (v := 1) d_Mo_take_21 (by decide) rfl ?_
      refine kz_icmp_ne (tgt := 33) d_Mo_take_22 (by decide) rfl (fun h22 => ?_) (fun h22 => ?_)
      · refine kz_iinc d_Mo_take_33 rfl rfl (Nat.le_of_ble_eq_true rfl) (kz_inc p) rfl ?_
        refine kz_goto (tgt := 7) d_Mo_take_36 (by decide) ?_
        rw [if_neg h22] at hend
        exact ih (p + 1) _ (by omega) hend
      · refine kz_iload_n d_Mo_take_25 rfl rfl ?_
        refine kz_iload d_Mo_take_26 rfl rfl ?_
        refine kz_ixor d_Mo_take_28 rfl ?_
        refine kz_istore_n (i := 2) d_Mo_take_29 rfl rfl (Nat.le_of_ble_eq_true rfl) rfl ?_
        refine kz_iinc d_Mo_take_30 rfl rfl (Nat.le_of_ble_eq_true rfl) rfl rfl ?_
        refine kz_iinc d_Mo_take_33 rfl rfl (Nat.le_of_ble_eq_true rfl) (kz_inc p) rfl ?_
        refine kz_goto (tgt := 7) d_Mo_take_36 (by decide) ?_
        rw [if_pos h22] at hend
        exact ih (p + 1) _ (by omega) hend
set_option maxRecDepth 100000 in
set_option maxHeartbeats 1000000 in
theorem lp_rt2 (l : Launch) {I : Nat → Nat → Int32} {J : Nat → Nat → Int64} {x : bt_T} {a s2 s3 s4 : Int32} (ha : vp_in a 256) (hx : (J 2 a.toNatClampNeg, I 3 a.toNatClampNeg) = x) {Q : Option Value → kz_M → Prop} : ∀ (n p : Nat) (s : Int32 × Int64) (z : Option Value), p + n = 72 → Q none (I, kz_u J 0 38 (rt_2 x (I 0 40) n p s).2) → kz_G l sR m_Mo_take 113 [some (.ref 0), some (.int a), some (.int s2), some (.int s3), some (.int s4), some (.int s.1), some (.int (nI p)), z] [] (I, kz_u J 0 38 s.2) Q := by
  intro n
  induction n with
  | zero =>
    intro p s z hp hend
    obtain rfl : p = 72 := by omega
    refine kz_iload d_Mo_take_113 rfl rfl ?_
    refine kz_bipush (v := 72) d_Mo_take_115 (by decide) rfl ?_
    refine kz_icmp_ge (tgt := 176) d_Mo_take_117 (by decide) rfl (fun h117 => ?_) (fun h117 => ?_)
    · exact kz_vret rfl d_Mo_take_176 (hend)
    · exact absurd (Int32.le_refl _) h117
  | succ n ih =>
    intro p s z hp hend
    rw [rt_2] at hend
    have hg : rw_get (I, kz_u J 0 38 s.2) a.toNatClampNeg = x := by
      rw [← hx]
      simp only [rw_get]
      rw [kz_u_off _ _ _ _ (by decide)]
    refine kz_iload d_Mo_take_113 rfl rfl ?_
    refine kz_bipush (v := 72) d_Mo_take_115 (by decide) rfl ?_
    refine kz_icmp_ge (tgt := 176) d_Mo_take_117 (by decide) rfl (fun h117 => ?_) (fun h117 => ?_)
    · exact absurd h117 (nI_ge (a := p) (b := 72) (by omega) (by decide))
    · refine kz_iload d_Mo_take_120 rfl rfl ?_
      refine kz_callSi (c_Mo_isCheck l) cs_Mo_99 rfl ⟨by decide, by decide⟩ rfl (Nat.le_of_ble_eq_true rfl) d_Mo_take_122 rfl ?_
      refine kz_if_neb (tgt := 170) d_Mo_take_125 (by decide) rfl (fun h125 => ?_) (fun h125 => ?_)
      · refine kz_iinc d_Mo_take_170 rfl rfl (Nat.le_of_ble_eq_true rfl) (kz_inc p) rfl ?_
        refine kz_goto (tgt := 113) d_Mo_take_173 (by decide) ?_
        rw [if_pos h125] at hend
        exact ih (p + 1) _ z (by omega) hend
      · refine kz_aload_n d_Mo_take_128 rfl rfl ?_
        refine kz_iload_n d_Mo_take_129 rfl rfl ?_
        refine kz_iload d_Mo_take_130 rfl rfl ?_
        refine kz_callVi (c_Mo_bitAt l ha) cv_Mo_107 rfl rfl rfl ⟨by decide, by decide⟩ rfl (Nat.le_of_ble_eq_true rfl) d_Mo_take_132 rfl ?_
        refine kz_topi (y := rb_bit x (nI p)) (by rw [hg]) ?_
        refine kz_iload d_Mo_take_135 rfl rfl ?_
        refine kz_aload_n d_Mo_take_137 rfl rfl ?_
        refine kz_getIp fd_Mo_111 rfl rfl (Or.inl rfl) d_Mo_take_138 rfl ?_
        refine kz_icmp_ne (tgt := 148) d_Mo_take_141 (by decide) rfl (fun h141 => ?_) (fun h141 => ?_)
        · refine kz_iconst (v := 0) d_Mo_take_148 (by decide) rfl ?_
          refine kz_ixor d_Mo_take_149 rfl ?_
          refine kz_istore d_Mo_take_150 rfl (Nat.le_of_ble_eq_true rfl) rfl ?_
          refine kz_aload_n d_Mo_take_152 rfl rfl ?_
          refine kz_dup d_Mo_take_153 rfl rfl ?_
          refine kz_getJp fd_Mo_117 rfl rfl d_Mo_take_154 rfl ?_
          refine kz_iload d_Mo_take_157 rfl rfl ?_
          refine kz_i2l d_Mo_take_159 rfl ?_
          refine kz_iload d_Mo_take_160 rfl rfl ?_
          refine kz_lshl d_Mo_take_162 rfl ?_
          refine kz_lor d_Mo_take_163 rfl ?_
          refine kz_putJp fd_Mo_117 rfl rfl d_Mo_take_164 rfl ?_
          refine kz_iinc d_Mo_take_167 rfl rfl (Nat.le_of_ble_eq_true rfl) rfl rfl ?_
          refine kz_iinc d_Mo_take_170 rfl rfl (Nat.le_of_ble_eq_true rfl) (kz_inc p) rfl ?_
          refine kz_goto (tgt := 113) d_Mo_take_173 (by decide) ?_
          rw [if_neg (by rw [h125]; decide), if_neg h141] at hend
          refine kz_memq (by rw [kz_u_same, kz_u_u]) ?_
          exact ih (p + 1) (s.1 + Int32.ofInt 1, s.2 ||| ((rb_bit x (nI p) ^^^ 0).toInt64 <<< (s.1.toInt64 &&& 63))) _ (by omega) hend
        · refine kz_iconst (v := 1) d_Mo_take_144 (by decide) rfl ?_
          refine kz_goto (tgt := 149) d_Mo_take_145 (by decide) ?_
          refine kz_ixor d_Mo_take_149 rfl ?_
          refine kz_istore d_Mo_take_150 rfl (Nat.le_of_ble_eq_true rfl) rfl ?_
          refine kz_aload_n d_Mo_take_152 rfl rfl ?_
          refine kz_dup d_Mo_take_153 rfl rfl ?_
          refine kz_getJp fd_Mo_117 rfl rfl d_Mo_take_154 rfl ?_
          refine kz_iload d_Mo_take_157 rfl rfl ?_
          refine kz_i2l d_Mo_take_159 rfl ?_
          refine kz_iload d_Mo_take_160 rfl rfl ?_
          refine kz_lshl d_Mo_take_162 rfl ?_
          refine kz_lor d_Mo_take_163 rfl ?_
          refine kz_putJp fd_Mo_117 rfl rfl d_Mo_take_164 rfl ?_
          refine kz_iinc d_Mo_take_167 rfl rfl (Nat.le_of_ble_eq_true rfl) rfl rfl ?_
          refine kz_iinc d_Mo_take_170 rfl rfl (Nat.le_of_ble_eq_true rfl) (kz_inc p) rfl ?_
          refine kz_goto (tgt := 113) d_Mo_take_173 (by decide) ?_
          rw [if_neg (by rw [h125]; decide), if_pos h141] at hend
          refine kz_memq (by rw [kz_u_same, kz_u_u]) ?_
          exact ih (p + 1) (s.1 + Int32.ofInt 1, s.2 ||| ((rb_bit x (nI p) ^^^ 1).toInt64 <<< (s.1.toInt64 &&& 63))) _ (by omega) hend
set_option maxRecDepth 100000 in
set_option maxHeartbeats 1000000 in
theorem c_Mo_take (l : Launch) {M : kz_M} {a : Int32} (ha : vp_in a 256) : kz_Dt l sR m_Mo_take [.ref 0, .int a] M none (rt_M M (rw_get M a.toNatClampNeg)) := by
  refine kz_intro (by decide +kernel) (Nat.le_of_ble_eq_true rfl) ?_
  show kz_G l sR m_Mo_take 0 [some (.ref 0), some (.int a), none, none, none, none, none, none] [] M _
  refine kz_iconst (v := 0) d_Mo_take_0 (by decide) rfl ?_
  refine kz_istore_n (i := 2) d_Mo_take_1 rfl rfl (Nat.le_of_ble_eq_true rfl) rfl ?_
  refine kz_iconst (v := 0) d_Mo_take_2 (by decide) rfl ?_
  refine kz_istore_n (i := 3) d_Mo_take_3 rfl rfl (Nat.le_of_ble_eq_true rfl) rfl ?_
  refine kz_iconst (v := 0) d_Mo_take_4 (by decide) rfl ?_
  refine kz_istore d_Mo_take_5 rfl (Nat.le_of_ble_eq_true rfl) rfl ?_
  refine lp_rt1 l ha 72 0 (0, 0) (by decide) ?_
  refine kz_iload_n d_Mo_take_39 rfl rfl ?_
  refine kz_iconst (v := 2) d_Mo_take_40 (by decide) rfl ?_
  refine kz_irem d_Mo_take_41 (by first | assumption | decide) rfl ?_
  refine kz_iconst (v := 1) d_Mo_take_42 (by decide) rfl ?_
  refine kz_icmp_ne (tgt := 50) d_Mo_take_43 (by decide) rfl (fun h43 => ?_) (fun h43 => ?_)
  · refine kz_iconst (v := 0) d_Mo_take_50 (by decide) rfl ?_
    refine kz_istore d_Mo_take_51 rfl (Nat.le_of_ble_eq_true rfl) rfl ?_
    refine kz_aload_n d_Mo_take_53 rfl rfl ?_
    refine kz_iload d_Mo_take_54 rfl rfl ?_
    refine kz_if_eq (tgt := 69) d_Mo_take_56 (by decide) rfl (fun _ => ?_) (fun h => absurd h (by decide))
    refine kz_iconst (v := -1) d_Mo_take_69 (by decide) rfl ?_
    refine kz_putIp fd_Mo_111 rfl rfl d_Mo_take_70 rfl ?_
    refine kz_aload_n d_Mo_take_73 rfl rfl ?_
    refine kz_aload_n d_Mo_take_74 rfl rfl ?_
    refine kz_getIp fd_Mo_111 rfl rfl (Or.inl rfl) d_Mo_take_75 rfl ?_
    refine kz_topi (kz_u_same _ _ _ _) ?_
    refine kz_if_lt (tgt := 85) d_Mo_take_78 (by decide) rfl (fun h78 => ?_) (fun h78 => ?_)
    · refine kz_iload d_Mo_take_85 rfl rfl ?_
      refine kz_if_ne (tgt := 94) d_Mo_take_87 (by decide) rfl (fun h => absurd h (by decide)) (fun _ => ?_)
      refine kz_iload_n d_Mo_take_90 rfl rfl ?_
      refine kz_if_eq (tgt := 98) d_Mo_take_91 (by decide) rfl (fun h91 => ?_) (fun h91 => ?_)
      · refine kz_iconst (v := 2) d_Mo_take_98 (by decide) rfl ?_
        refine kz_putIp fd_Mo_114 rfl rfl d_Mo_take_99 rfl ?_
        refine kz_aload_n d_Mo_take_102 rfl rfl ?_
        refine kz_lconst (v := 0) d_Mo_take_103 (by decide) rfl ?_
        refine kz_putJp fd_Mo_117 rfl rfl d_Mo_take_104 rfl ?_
        refine kz_iconst (v := 0) d_Mo_take_107 (by decide) rfl ?_
        refine kz_istore d_Mo_take_108 rfl (Nat.le_of_ble_eq_true rfl) rfl ?_
        refine kz_iconst (v := 3) d_Mo_take_110 (by decide) rfl ?_
        refine kz_istore d_Mo_take_111 rfl (Nat.le_of_ble_eq_true rfl) rfl ?_
        first
          | exact absurd (by decide) h78
          | exact absurd h78 (by decide)
          | exact lp_rt2 l ha (x := rw_get M a.toNatClampNeg) (by simp [rw_get, kz_u_off]) 69 3 (0, 0) none (by decide) ⟨rfl, by simp [rt_M, rt_pl, rt_ck, rt_odd, kz_u_same, kz_u_ne, *]⟩
      · refine kz_iconst (v := 4) d_Mo_take_94 (by decide) rfl ?_
        refine kz_goto (tgt := 99) d_Mo_take_95 (by decide) ?_
        refine kz_putIp fd_Mo_114 rfl rfl d_Mo_take_99 rfl ?_
        refine kz_aload_n d_Mo_take_102 rfl rfl ?_
        refine kz_lconst (v := 0) d_Mo_take_103 (by decide) rfl ?_
        refine kz_putJp fd_Mo_117 rfl rfl d_Mo_take_104 rfl ?_
        refine kz_iconst (v := 0) d_Mo_take_107 (by decide) rfl ?_
        refine kz_istore d_Mo_take_108 rfl (Nat.le_of_ble_eq_true rfl) rfl ?_
        refine kz_iconst (v := 3) d_Mo_take_110 (by decide) rfl ?_
        refine kz_istore d_Mo_take_111 rfl (Nat.le_of_ble_eq_true rfl) rfl ?_
        first
          | exact absurd (by decide) h78
          | exact absurd h78 (by decide)
          | exact lp_rt2 l ha (x := rw_get M a.toNatClampNeg) (by simp [rw_get, kz_u_off]) 69 3 (0, 0) none (by decide) ⟨rfl, by simp [rt_M, rt_pl, rt_ck, rt_odd, kz_u_same, kz_u_ne, *]⟩
    · refine kz_iconst (v := 3) d_Mo_take_81 (by decide) rfl ?_
      refine kz_goto (tgt := 99) d_Mo_take_82 (by decide) ?_
      refine kz_putIp fd_Mo_114 rfl rfl d_Mo_take_99 rfl ?_
      refine kz_aload_n d_Mo_take_102 rfl rfl ?_
      refine kz_lconst (v := 0) d_Mo_take_103 (by decide) rfl ?_
      refine kz_putJp fd_Mo_117 rfl rfl d_Mo_take_104 rfl ?_
      refine kz_iconst (v := 0) d_Mo_take_107 (by decide) rfl ?_
      refine kz_istore d_Mo_take_108 rfl (Nat.le_of_ble_eq_true rfl) rfl ?_
      refine kz_iconst (v := 3) d_Mo_take_110 (by decide) rfl ?_
      refine kz_istore d_Mo_take_111 rfl (Nat.le_of_ble_eq_true rfl) rfl ?_
      first
        | exact absurd (by decide) h78
        | exact absurd h78 (by decide)
        | exact lp_rt2 l ha (x := rw_get M a.toNatClampNeg) (by simp [rw_get, kz_u_off]) 69 3 (0, 0) none (by decide) ⟨rfl, by simp [rt_M, rt_pl, rt_ck, rt_odd, kz_u_same, kz_u_ne, *]⟩
  · refine kz_iconst (v := 1) d_Mo_take_46 (by decide) rfl ?_
    refine kz_goto (tgt := 51) d_Mo_take_47 (by decide) ?_
    refine kz_istore d_Mo_take_51 rfl (Nat.le_of_ble_eq_true rfl) rfl ?_
    refine kz_aload_n d_Mo_take_53 rfl rfl ?_
    refine kz_iload d_Mo_take_54 rfl rfl ?_
    refine kz_if_eq (tgt := 69) d_Mo_take_56 (by decide) rfl (fun h => absurd h (by decide)) (fun _ => ?_)
    refine kz_iload_n d_Mo_take_59 rfl rfl ?_
    refine kz_bipush (v := 72) d_Mo_take_60 (by decide) rfl ?_
    refine kz_icmp_ge (tgt := 69) d_Mo_take_62 (by decide) rfl (fun h62 => ?_) (fun h62 => ?_)
    · refine kz_iconst (v := -1) d_Mo_take_69 (by decide) rfl ?_
      refine kz_putIp fd_Mo_111 rfl rfl d_Mo_take_70 rfl ?_
      refine kz_aload_n d_Mo_take_73 rfl rfl ?_
      refine kz_aload_n d_Mo_take_74 rfl rfl ?_
      refine kz_getIp fd_Mo_111 rfl rfl (Or.inl rfl) d_Mo_take_75 rfl ?_
      refine kz_topi (kz_u_same _ _ _ _) ?_
      refine kz_if_lt (tgt := 85) d_Mo_take_78 (by decide) rfl (fun h78 => ?_) (fun h78 => ?_)
      · refine kz_iload d_Mo_take_85 rfl rfl ?_
        refine kz_if_ne (tgt := 94) d_Mo_take_87 (by decide) rfl (fun _ => ?_) (fun h => absurd h (by decide))
        refine kz_iconst (v := 4) d_Mo_take_94 (by decide) rfl ?_
        refine kz_goto (tgt := 99) d_Mo_take_95 (by decide) ?_
        refine kz_putIp fd_Mo_114 rfl rfl d_Mo_take_99 rfl ?_
        refine kz_aload_n d_Mo_take_102 rfl rfl ?_
        refine kz_lconst (v := 0) d_Mo_take_103 (by decide) rfl ?_
        refine kz_putJp fd_Mo_117 rfl rfl d_Mo_take_104 rfl ?_
        refine kz_iconst (v := 0) d_Mo_take_107 (by decide) rfl ?_
        refine kz_istore d_Mo_take_108 rfl (Nat.le_of_ble_eq_true rfl) rfl ?_
        refine kz_iconst (v := 3) d_Mo_take_110 (by decide) rfl ?_
        refine kz_istore d_Mo_take_111 rfl (Nat.le_of_ble_eq_true rfl) rfl ?_
        first
          | exact absurd (by decide) h78
          | exact absurd h78 (by decide)
          | exact lp_rt2 l ha (x := rw_get M a.toNatClampNeg) (by simp [rw_get, kz_u_off]) 69 3 (0, 0) none (by decide) ⟨rfl, by simp [rt_M, rt_pl, rt_ck, rt_odd, kz_u_same, kz_u_ne, *]⟩
      · refine kz_iconst (v := 3) d_Mo_take_81 (by decide) rfl ?_
        refine kz_goto (tgt := 99) d_Mo_take_82 (by decide) ?_
        refine kz_putIp fd_Mo_114 rfl rfl d_Mo_take_99 rfl ?_
        refine kz_aload_n d_Mo_take_102 rfl rfl ?_
        refine kz_lconst (v := 0) d_Mo_take_103 (by decide) rfl ?_
        refine kz_putJp fd_Mo_117 rfl rfl d_Mo_take_104 rfl ?_
        refine kz_iconst (v := 0) d_Mo_take_107 (by decide) rfl ?_
        refine kz_istore d_Mo_take_108 rfl (Nat.le_of_ble_eq_true rfl) rfl ?_
        refine kz_iconst (v := 3) d_Mo_take_110 (by decide) rfl ?_
        refine kz_istore d_Mo_take_111 rfl (Nat.le_of_ble_eq_true rfl) rfl ?_
        first
          | exact absurd (by decide) h78
          | exact absurd h78 (by decide)
          | exact lp_rt2 l ha (x := rw_get M a.toNatClampNeg) (by simp [rw_get, kz_u_off]) 69 3 (0, 0) none (by decide) ⟨rfl, by simp [rt_M, rt_pl, rt_ck, rt_odd, kz_u_same, kz_u_ne, *]⟩
    · refine kz_iload_n d_Mo_take_65 rfl rfl ?_
      refine kz_goto (tgt := 70) d_Mo_take_66 (by decide) ?_
      refine kz_putIp fd_Mo_111 rfl rfl d_Mo_take_70 rfl ?_
      refine kz_aload_n d_Mo_take_73 rfl rfl ?_
      refine kz_aload_n d_Mo_take_74 rfl rfl ?_
      refine kz_getIp fd_Mo_111 rfl rfl (Or.inl rfl) d_Mo_take_75 rfl ?_
      refine kz_topi (kz_u_same _ _ _ _) ?_
      refine kz_if_lt (tgt := 85) d_Mo_take_78 (by decide) rfl (fun h78 => ?_) (fun h78 => ?_)
      · refine kz_iload d_Mo_take_85 rfl rfl ?_
        refine kz_if_ne (tgt := 94) d_Mo_take_87 (by decide) rfl (fun _ => ?_) (fun h => absurd h (by decide))
        refine kz_iconst (v := 4) d_Mo_take_94 (by decide) rfl ?_
        refine kz_goto (tgt := 99) d_Mo_take_95 (by decide) ?_
        refine kz_putIp fd_Mo_114 rfl rfl d_Mo_take_99 rfl ?_
        refine kz_aload_n d_Mo_take_102 rfl rfl ?_
        refine kz_lconst (v := 0) d_Mo_take_103 (by decide) rfl ?_
        refine kz_putJp fd_Mo_117 rfl rfl d_Mo_take_104 rfl ?_
        refine kz_iconst (v := 0) d_Mo_take_107 (by decide) rfl ?_
        refine kz_istore d_Mo_take_108 rfl (Nat.le_of_ble_eq_true rfl) rfl ?_
        refine kz_iconst (v := 3) d_Mo_take_110 (by decide) rfl ?_
        refine kz_istore d_Mo_take_111 rfl (Nat.le_of_ble_eq_true rfl) rfl ?_
        first
          | exact absurd (by decide) h78
          | exact absurd h78 (by decide)
          | exact lp_rt2 l ha (x := rw_get M a.toNatClampNeg) (by simp [rw_get, kz_u_off]) 69 3 (0, 0) none (by decide) ⟨rfl, by simp [rt_M, rt_pl, rt_ck, rt_odd, kz_u_same, kz_u_ne, *]⟩
      · refine kz_iconst (v := 3) d_Mo_take_81 (by decide) rfl ?_
        refine kz_goto (tgt := 99) d_Mo_take_82 (by decide) ?_
        refine kz_putIp fd_Mo_114 rfl rfl d_Mo_take_99 rfl ?_
        refine kz_aload_n d_Mo_take_102 rfl rfl ?_
        refine kz_lconst (v := 0) d_Mo_take_103 (by decide) rfl ?_
        refine kz_putJp fd_Mo_117 rfl rfl d_Mo_take_104 rfl ?_
        refine kz_iconst (v := 0) d_Mo_take_107 (by decide) rfl ?_
        refine kz_istore d_Mo_take_108 rfl (Nat.le_of_ble_eq_true rfl) rfl ?_
        refine kz_iconst (v := 3) d_Mo_take_110 (by decide) rfl ?_
        refine kz_istore d_Mo_take_111 rfl (Nat.le_of_ble_eq_true rfl) rfl ?_
        first
          | exact absurd (by decide) h78
          | exact absurd h78 (by decide)
          | exact lp_rt2 l ha (x := rw_get M a.toNatClampNeg) (by simp [rw_get, kz_u_off]) 69 3 (0, 0) none (by decide) ⟨rfl, by simp [rt_M, rt_pl, rt_ck, rt_odd, kz_u_same, kz_u_ne, *]⟩
