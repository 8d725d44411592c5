/-! Contracts of the reference: a move. -/
theorem kz_topj {l : Launch} {Sy : kz_Sy} {mi : kz_Me} {pc : Nat} {L : List (Option Value)} {S : List Value} {M : kz_M} {Q : Option Value → kz_M → Prop} {x y : Int64} (h : x = y) (k : kz_G l Sy mi pc L (.long y :: S) M Q) : kz_G l Sy mi pc L (.long x :: S) M Q := h ▸ k
def rm_0 (M : kz_M) (g : Nat) (w : Bool) (t a : Int32) : kz_M := (kz_u (kz_u (rr_give M g (if w = true then 3 else 2) (ck_bank a) (ck_col a) t).1 0 16 (M.1 0 2 + (if w = true then M.1 1 11 else M.1 1 10) + 4)) 0 17 (if w = true then 3 else 2), M.2)
def rm_w (M : kz_M) (g n : Nat) (t a : Int32) : kz_M := (kz_u (rw_put (rl_M (rm_0 M g true t a) n true) a.toNatClampNeg (rs_store (M.2 12 t.toNatClampNeg))).1 11 t.toNatClampNeg 2, (rw_put (rl_M (rm_0 M g true t a) n true) a.toNatClampNeg (rs_store (M.2 12 t.toNatClampNeg))).2)
def rm_r (M : kz_M) (g n c : Nat) (t a : Int32) : kz_M := (kz_u (kz_u (kz_u (kz_u (kz_u (rt_M (rl_M (rm_0 M g false t a) n false) (rw_get M a.toNatClampNeg)).1 11 t.toNatClampNeg 1) 14 t.toNatClampNeg (rt_ck (rw_get M a.toNatClampNeg))) 13 t.toNatClampNeg (M.1 0 2 + M.1 1 10 + 4)) 16 c t) 0 30 (nI (c + 1)),
  kz_u (rt_M (rl_M (rm_0 M g false t a) n false) (rw_get M a.toNatClampNeg)).2 12 t.toNatClampNeg (rt_2 (rw_get M a.toNatClampNeg) (rt_pl (rw_get M a.toNatClampNeg)) 69 3 (0, 0)).2)
theorem rg_off (M : kz_M) (g : Nat) (k b d t : Int32) (p : Nat) (h : p ≠ 0 ∧ p ≠ 5 ∧ p ≠ 6 ∧ p ≠ 18 ∧ p ≠ 19 ∧ p ≠ 20 ∧ p ≠ 21 ∧ p ≠ 22) : (rr_give M g k b d t).1 p = M.1 p := by
  obtain ⟨h0, h5, h6, h18, h19, h20, h21, h22⟩ := h
  unfold rr_give
  split <;> simp [kz_u_off, *]
theorem rg_0 (M : kz_M) (g : Nat) (k b d t : Int32) (j : Nat) (h : j ≠ 4) : (rr_give M g k b d t).1 0 j = M.1 0 j := by
  unfold rr_give
  split <;> simp [kz_u_ne, h]
theorem rm_off {M : kz_M} {g : Nat} {w : Bool} {t a : Int32} (p : Nat) (h : p ≠ 0 ∧ p ≠ 5 ∧ p ≠ 6 ∧ p ≠ 18 ∧ p ≠ 19 ∧ p ≠ 20 ∧ p ≠ 21 ∧ p ≠ 22) : (rm_0 M g w t a).1 p = M.1 p := by
  simp only [rm_0]
  rw [kz_u_off _ _ _ _ h.1, kz_u_off _ _ _ _ h.1, rg_off _ _ _ _ _ _ p h]
theorem rm_00 {M : kz_M} {g : Nat} {w : Bool} {t a : Int32} (j : Nat) (h : j ≠ 4 ∧ j ≠ 16 ∧ j ≠ 17) : (rm_0 M g w t a).1 0 j = M.1 0 j := by
  simp only [rm_0]
  rw [kz_u_ne _ _ _ _ (fun z => h.2.2 z.2), kz_u_ne _ _ _ _ (fun z => h.2.1 z.2), rg_0 _ _ _ _ _ _ j h.1]
theorem rl_ag.u {X O : kz_M} (h : rl_ag X O) (k j : Nat) (v : Int32) : rl_ag (kz_u X.1 k j v, X.2) (kz_u O.1 k j v, O.2) :=
  ⟨h.1, fun p hp => by
    show kz_u O.1 k j v p = kz_u X.1 k j v p
    funext b
    unfold kz_u
    rw [h.2 p hp]⟩
theorem rl_ag.J {X O : kz_M} (h : rl_ag X O) (k j : Nat) (v : Int64) : rl_ag (X.1, kz_u X.2 k j v) (O.1, kz_u O.2 k j v) := ⟨by show kz_u O.2 k j v = kz_u X.2 k j v; rw [h.1], h.2⟩
theorem rl_ag.put {X O : kz_M} (h : rl_ag X O) (a : Nat) (x : bt_T) : rl_ag (rw_put X a x) (rw_put O a x) := (h.u 3 a x.2).J 2 a x.1
theorem rl_ag.tk {X O : kz_M} (h : rl_ag X O) (x : bt_T) : rl_ag (rt_M X x) (rt_M O x) := ((h.u 0 40 _).u 0 39 _).J 0 38 _
theorem rlM_off {M : kz_M} {n : Nat} {w : Bool} (p : Nat) (h : p ≠ 0) : (rl_M M n w).1 p = M.1 p := by cases w <;> simp [rl_M, kz_u_off, h]
theorem rlM_0 {M : kz_M} {n : Nat} {w : Bool} (j : Nat) (h : j ≠ 26 ∧ j ≠ 27 ∧ j ≠ 28) : (rl_M M n w).1 0 j = M.1 0 j := by cases w <;> simp [rl_M, kz_u_ne, h]
theorem rm_q {M : kz_M} {g : Nat} {w : Bool} {t a : Int32} {wq : List Int32} (hq : rq_at M wq) : rq_at (rm_0 M g w t a) wq := by
  unfold rq_at
  rw [rm_00 26 (by decide), rm_off 15 (by decide), rm_off 9 (by decide), rm_off 8 (by decide)]
  exact hq
def rm_R (M : kz_M) (g n c : Nat) (t : Int32) (wq : List Int32) (k : Nat) (N : kz_M) : Bool → Prop
  | true => rl_ag (rm_w M g n t (rq_a M t)) N ∧ ∀ (j : Nat) (x : Int32), (wq.eraseIdx k)[j]? = some x → N.1 15 j = x
  | false => rl_ag (rm_r M g n c t (rq_a M t)) N ∧ ∀ (j : Nat) (x : Int32), (wq.eraseIdx k)[j]? = some x → N.1 15 j = x
theorem rm_ew {M O : kz_M} {g n c k : Nat} {t : Int32} {wq : List Int32} (ha : rl_ag (rl_M (rm_0 M g true t (rq_a M t)) n true) O) (hw : ∀ (j : Nat) (x : Int32), (wq.eraseIdx k)[j]? = some x → O.1 15 j = x) : rm_R M g n c t wq k (kz_u (rw_put O (rq_a M t).toNatClampNeg (rs_store (O.2 12 t.toNatClampNeg))).1 11 t.toNatClampNeg 2, (rw_put O (rq_a M t).toNatClampNeg (rs_store (O.2 12 t.toNatClampNeg))).2) true := by
  have e : O.2 = M.2 := ha.1
  rw [e]
  refine ⟨(ha.put _ _).u 11 _ _, fun j x hx => ?_⟩
  simp only [rw_put]
  rw [kz_u_off _ _ _ _ (by decide), kz_u_off _ _ _ _ (by decide)]
  exact hw j x hx
theorem rm_er {M O : kz_M} {g n c k : Nat} {t : Int32} {wq : List Int32} (ha : rl_ag (rl_M (rm_0 M g false t (rq_a M t)) n false) O) (hw : ∀ (j : Nat) (x : Int32), (wq.eraseIdx k)[j]? = some x → O.1 15 j = x) : rm_R M g n c t wq k (kz_u (kz_u (kz_u (kz_u (kz_u (rt_M O (rw_get M (rq_a M t).toNatClampNeg)).1 11 t.toNatClampNeg 1) 14 t.toNatClampNeg (rt_ck (rw_get M (rq_a M t).toNatClampNeg))) 13 t.toNatClampNeg (M.1 0 2 + M.1 1 10 + 4)) 16 c t) 0 30 (nI (c + 1)), kz_u (rt_M O (rw_get M (rq_a M t).toNatClampNeg)).2 12 t.toNatClampNeg (rt_2 (rw_get M (rq_a M t).toNatClampNeg) (rt_pl (rw_get M (rq_a M t).toNatClampNeg)) 69 3 (0, 0)).2) false := by
  refine ⟨(((((ha.tk _).u 11 _ _).u 14 _ _).u 13 _ _).u 16 _ _).u 0 30 _ |>.J 12 _ _, fun j x hx => ?_⟩
  simp only [rt_M]
  rw [kz_u_off _ _ _ _ (by decide), kz_u_off _ _ _ _ (by decide), kz_u_off _ _ _ _ (by decide), kz_u_off _ _ _ _ (by decide), kz_u_off _ _ _ _ (by decide), kz_u_off _ _ _ _ (by decide), kz_u_off _ _ _ _ (by decide)]
  exact hw j x hx
set_option maxRecDepth 100000 in
set_option maxHeartbeats 1000000 in
theorem c_Mo_move (l : Launch) {M : kz_M} {wq : List Int32} {k n g c : Nat} {t : Int32} (hq : rq_at M wq) (hk : wq[k]? = some t) (hn : wq.length = n + 1) (hg : g < 2 ^ 31) (hge : M.1 0 4 = nI g) (hc4 : c < 400) (hce : M.1 0 30 = nI c) : kz_T l sR m_Mo_move [.ref 0, .int (nI k)] M (fun v N => v = none ∧ rm_R M g n c t wq k N (rq_w M t)) := by
  have h16 := hq.2.1
  have hkl : k < wq.length := (List.getElem?_eq_some_iff.mp hk).1
  have hk16 : vp_in (nI k) 16 := rq_in hkl h16
  obtain ⟨hy4, hya, hyw⟩ := hq.2.2.2 t (List.mem_of_getElem? hk)
  have hyb := rq_wb hyw
  have hb4 : vp_in (ck_bank (M.1 9 t.toNatClampNeg)) 4 := ck_bank_in hya
  have hci : vp_in (nI c) 400 := vp_in_nI hc4 (by decide)
  have hcc : (nI c).toNatClampNeg = c := nI_clamp (by omega)
  refine kz_intro (by decide +kernel) (Nat.le_of_ble_eq_true rfl) ?_
  show kz_G l sR m_Mo_move 0 [some (.ref 0), some (.int (nI k)), none, none, none] [] M _
  refine kz_aload_n d_Mo_move_0 rfl rfl ?_
  refine kz_getR fd_Mo_62 rfl rfl rfl d_Mo_move_1 rfl ?_
  refine kz_iload_n d_Mo_move_4 rfl rfl ?_
  refine kz_ialdp rfl (by first | assumption | exact kz_vin (by decide)) rfl d_Mo_move_5 rfl ?_
  refine kz_topi (rq_read hq hk) ?_
  refine kz_istore_n (i := 2) d_Mo_move_6 rfl rfl (Nat.le_of_ble_eq_true rfl) rfl ?_
  refine kz_aload_n d_Mo_move_7 rfl rfl ?_
  refine kz_getR fd_Mo_44 rfl rfl rfl d_Mo_move_8 rfl ?_
  refine kz_iload_n d_Mo_move_11 rfl rfl ?_
  refine kz_ialdp rfl (by first | assumption | exact kz_vin (by decide)) rfl d_Mo_move_12 rfl ?_
  refine kz_istore_n (i := 3) d_Mo_move_13 rfl rfl (Nat.le_of_ble_eq_true rfl) rfl ?_
  refine kz_aload_n d_Mo_move_14 rfl rfl ?_
  refine kz_getR fd_Mo_40 rfl rfl rfl d_Mo_move_15 rfl ?_
  refine kz_iload_n d_Mo_move_18 rfl rfl ?_
  refine kz_zaldp rfl (by first | assumption | exact kz_vin (by decide)) rfl d_Mo_move_19 rfl ?_
  refine kz_topi hyb ?_
  refine kz_if_eqb (tgt := 27) d_Mo_move_20 (by decide) rfl (fun h20 => ?_) (fun h20 => ?_)
  · refine kz_iconst (v := 2) d_Mo_move_27 (by decide) rfl ?_
    refine kz_istore d_Mo_move_28 rfl (Nat.le_of_ble_eq_true rfl) rfl ?_
    refine kz_aload_n d_Mo_move_30 rfl rfl ?_
    refine kz_iload d_Mo_move_31 rfl rfl ?_
    refine kz_iload_n d_Mo_move_33 rfl rfl ?_
    refine kz_callSi (c_Mo_bankAt l hya) cs_Mo_167 rfl ⟨by decide, by decide⟩ rfl (Nat.le_of_ble_eq_true rfl) d_Mo_move_34 rfl ?_
    refine kz_iload_n d_Mo_move_37 rfl rfl ?_
    refine kz_bipush (v := 7) d_Mo_move_38 (by decide) rfl ?_
    refine kz_iand d_Mo_move_40 rfl ?_
    refine kz_topi (rr_bk hya).2.2 ?_
    refine kz_iload_n d_Mo_move_41 rfl rfl ?_
    refine kz_callVv (c_Mo_give l hg hge (kz_vin (by decide)) (fun _ => kz_vin (by decide)) (fun _ => hb4)) cv_Mo_163 rfl rfl rfl ⟨by decide, by decide⟩ rfl (Nat.le_of_ble_eq_true rfl) d_Mo_move_42 rfl ?_
    refine kz_eta ?_
    refine kz_aload_n d_Mo_move_45 rfl rfl ?_
    refine kz_aload_n d_Mo_move_46 rfl rfl ?_
    refine kz_getIp fd_Mo_96 rfl rfl (Or.inl rfl) d_Mo_move_47 rfl ?_
    refine kz_aload_n d_Mo_move_50 rfl rfl ?_
    refine kz_getR fd_Mo_7 rfl rfl rfl d_Mo_move_51 rfl ?_
    refine kz_iload d_Mo_move_54 rfl rfl ?_
    refine kz_iconst (v := 3) d_Mo_move_56 (by decide) rfl ?_
    refine kz_icmp_ne (tgt := 65) d_Mo_move_57 (by decide) rfl (fun _ => ?_) (fun h => absurd h (by decide))
    refine kz_bipush (v := 10) d_Mo_move_65 (by decide) rfl ?_
    refine kz_ialdp rfl (by first | assumption | exact kz_vin (by decide)) (j := 10) (by decide) d_Mo_move_67 rfl ?_
    refine kz_iadd d_Mo_move_68 rfl ?_
    refine kz_iconst (v := 4) d_Mo_move_69 (by decide) rfl ?_
    refine kz_iadd d_Mo_move_70 rfl ?_
    refine kz_putIp fd_Mo_33 rfl rfl d_Mo_move_71 rfl ?_
    refine kz_aload_n d_Mo_move_74 rfl rfl ?_
    refine kz_iload d_Mo_move_75 rfl rfl ?_
    refine kz_putIp fd_Mo_37 rfl rfl d_Mo_move_77 rfl ?_
    have ew0 : rq_w (rm_0 M g false t (rq_a M t)) t = false := by unfold rq_w; rw [rm_off 8 (by decide)]; exact h20
    refine kz_memq (N := rm_0 M g false t (rq_a M t)) (by simp only [rm_0, if_true, rq_a, rr_giveJ, Bool.false_eq_true, if_false]; rw [rg_0 _ _ _ _ _ _ 2 (by decide), rg_off _ _ _ _ _ _ 1 (by decide)]) ?_
    refine kz_eta ?_
    refine kz_aload_n d_Mo_move_80 rfl rfl ?_
    refine kz_iload_n d_Mo_move_81 rfl rfl ?_
    refine kz_callVr (c_Mo_leave l (rm_q hq) hk hn) cv_Mo_170 rfl rfl rfl ⟨by decide, by decide⟩ rfl (Nat.le_of_ble_eq_true rfl) d_Mo_move_82 rfl (fun v82 N82 q82 => ?_)
    obtain ⟨rfl, ha82, hw82⟩ := q82
    rw [ew0] at ha82
    refine kz_iload d_Mo_move_85 rfl rfl ?_
    refine kz_iconst (v := 3) d_Mo_move_87 (by decide) rfl ?_
    refine kz_icmp_ne (tgt := 110) d_Mo_move_88 (by decide) rfl (fun _ => ?_) (fun h => absurd h (by decide))
    refine kz_aload_n d_Mo_move_110 rfl rfl ?_
    refine kz_iload_n d_Mo_move_111 rfl rfl ?_
    refine kz_callVv (c_Mo_take l hya) cv_Mo_124 rfl rfl rfl ⟨by decide, by decide⟩ rfl (Nat.le_of_ble_eq_true rfl) d_Mo_move_112 rfl ?_
    refine kz_eta ?_
    have e16 : N82.1 0 16 = M.1 0 2 + M.1 1 10 + 4 := by
      rw [ha82.2 0 (by decide), rlM_0 16 (by decide)]
      simp [rm_0, kz_u_ne, kz_u_same]
    have e30 : N82.1 0 30 = nI c := by
      rw [ha82.2 0 (by decide), rlM_0 30 (by decide), rm_00 30 (by decide)]
      exact hce
    have eg : rw_get N82 (rq_a M t).toNatClampNeg = rw_get M (rq_a M t).toNatClampNeg := by
      unfold rw_get
      rw [ha82.1, ha82.2 3 (by decide), rlM_off 3 (by decide), rm_off 3 (by decide)]
      rfl
    refine kz_memq (N := rt_M N82 (rw_get M (rq_a M t).toNatClampNeg)) (congrArg (rt_M N82) eg) ?_
    refine kz_eta ?_
    refine kz_aload_n d_Mo_move_115 rfl rfl ?_
    refine kz_getR fd_Mo_53 rfl rfl rfl d_Mo_move_116 rfl ?_
    refine kz_iload_n d_Mo_move_119 rfl rfl ?_
    refine kz_aload_n d_Mo_move_120 rfl rfl ?_
    refine kz_getJp fd_Mo_117 rfl rfl d_Mo_move_121 rfl ?_
    refine kz_topj (y := (rt_2 (rw_get M (rq_a M t).toNatClampNeg) (rt_pl (rw_get M (rq_a M t).toNatClampNeg)) 69 3 (0, 0)).2) (by simp [rt_M, kz_u_same]) ?_
    refine kz_lastp rfl (by first | assumption | exact kz_vin (by decide)) rfl d_Mo_move_124 rfl ?_
    refine kz_aload_n d_Mo_move_125 rfl rfl ?_
    refine kz_getR fd_Mo_50 rfl rfl rfl d_Mo_move_126 rfl ?_
    refine kz_iload_n d_Mo_move_129 rfl rfl ?_
    refine kz_iconst (v := 1) d_Mo_move_130 (by decide) rfl ?_
    refine kz_iastp rfl (by first | assumption | exact kz_vin (by decide)) rfl d_Mo_move_131 rfl ?_
    refine kz_aload_n d_Mo_move_132 rfl rfl ?_
    refine kz_getR fd_Mo_59 rfl rfl rfl d_Mo_move_133 rfl ?_
    refine kz_iload_n d_Mo_move_136 rfl rfl ?_
    refine kz_aload_n d_Mo_move_137 rfl rfl ?_
    refine kz_getIp fd_Mo_114 rfl rfl (Or.inl rfl) d_Mo_move_138 rfl ?_
    refine kz_topi (y := rt_ck (rw_get M (rq_a M t).toNatClampNeg)) (by simp [rt_M, kz_u_off, kz_u_same, kz_u_ne]) ?_
    refine kz_iastp rfl (by first | assumption | exact kz_vin (by decide)) rfl d_Mo_move_141 rfl ?_
    refine kz_aload_n d_Mo_move_142 rfl rfl ?_
    refine kz_getR fd_Mo_56 rfl rfl rfl d_Mo_move_143 rfl ?_
    refine kz_iload_n d_Mo_move_146 rfl rfl ?_
    refine kz_aload_n d_Mo_move_147 rfl rfl ?_
    refine kz_getIp fd_Mo_33 rfl rfl (Or.inl rfl) d_Mo_move_148 rfl ?_
    refine kz_topi (y := M.1 0 2 + M.1 1 10 + 4) (by (repeat rw [kz_u_off _ _ _ _ (by decide)]); rw [rt_off _ _ 16 (by decide) (by decide)]; exact e16) ?_
    refine kz_iastp rfl (by first | assumption | exact kz_vin (by decide)) rfl d_Mo_move_151 rfl ?_
    refine kz_aload_n d_Mo_move_152 rfl rfl ?_
    refine kz_getR fd_Mo_65 rfl rfl rfl d_Mo_move_153 rfl ?_
    refine kz_aload_n d_Mo_move_156 rfl rfl ?_
    refine kz_getIp fd_Mo_177 rfl rfl (Or.inl rfl) d_Mo_move_157 rfl ?_
    refine kz_topi (y := nI c) (by (repeat rw [kz_u_off _ _ _ _ (by decide)]); rw [rt_off _ _ 30 (by decide) (by decide)]; exact e30) ?_
    refine kz_iload_n d_Mo_move_160 rfl rfl ?_
    refine kz_iastp rfl (by first | assumption | exact kz_vin (by decide)) hcc d_Mo_move_161 rfl ?_
    refine kz_aload_n d_Mo_move_162 rfl rfl ?_
    refine kz_dup d_Mo_move_163 rfl rfl ?_
    refine kz_getIp fd_Mo_177 rfl rfl (Or.inl rfl) d_Mo_move_164 rfl ?_
    refine kz_iconst (v := 1) d_Mo_move_167 (by decide) rfl ?_
    refine kz_iadd d_Mo_move_168 rfl ?_
    refine kz_topi (y := nI (c + 1)) (by (repeat rw [kz_u_off _ _ _ _ (by decide)]); rw [rt_off _ _ 30 (by decide) (by decide), e30, nI_1]) ?_
    refine kz_putIp fd_Mo_177 rfl rfl d_Mo_move_169 rfl ?_
    exact kz_vret rfl d_Mo_move_172 (by rw [h20]; exact ⟨rfl, rm_er ha82 hw82⟩)
  · refine kz_iconst (v := 3) d_Mo_move_23 (by decide) rfl ?_
    refine kz_goto (tgt := 28) d_Mo_move_24 (by decide) ?_
    refine kz_istore d_Mo_move_28 rfl (Nat.le_of_ble_eq_true rfl) rfl ?_
    refine kz_aload_n d_Mo_move_30 rfl rfl ?_
    refine kz_iload d_Mo_move_31 rfl rfl ?_
    refine kz_iload_n d_Mo_move_33 rfl rfl ?_
    refine kz_callSi (c_Mo_bankAt l hya) cs_Mo_167 rfl ⟨by decide, by decide⟩ rfl (Nat.le_of_ble_eq_true rfl) d_Mo_move_34 rfl ?_
    refine kz_iload_n d_Mo_move_37 rfl rfl ?_
    refine kz_bipush (v := 7) d_Mo_move_38 (by decide) rfl ?_
    refine kz_iand d_Mo_move_40 rfl ?_
    refine kz_topi (rr_bk hya).2.2 ?_
    refine kz_iload_n d_Mo_move_41 rfl rfl ?_
    refine kz_callVv (c_Mo_give l hg hge (kz_vin (by decide)) (fun _ => kz_vin (by decide)) (fun _ => hb4)) cv_Mo_163 rfl rfl rfl ⟨by decide, by decide⟩ rfl (Nat.le_of_ble_eq_true rfl) d_Mo_move_42 rfl ?_
    refine kz_eta ?_
    refine kz_aload_n d_Mo_move_45 rfl rfl ?_
    refine kz_aload_n d_Mo_move_46 rfl rfl ?_
    refine kz_getIp fd_Mo_96 rfl rfl (Or.inl rfl) d_Mo_move_47 rfl ?_
    refine kz_aload_n d_Mo_move_50 rfl rfl ?_
    refine kz_getR fd_Mo_7 rfl rfl rfl d_Mo_move_51 rfl ?_
    refine kz_iload d_Mo_move_54 rfl rfl ?_
    refine kz_iconst (v := 3) d_Mo_move_56 (by decide) rfl ?_
    refine kz_icmp_ne (tgt := 65) d_Mo_move_57 (by decide) rfl (fun h => absurd h (by decide)) (fun _ => ?_)
    refine kz_bipush (v := 11) d_Mo_move_60 (by decide) rfl ?_
    refine kz_goto (tgt := 67) d_Mo_move_62 (by decide) ?_
    refine kz_ialdp rfl (by first | assumption | exact kz_vin (by decide)) (j := 11) (by decide) d_Mo_move_67 rfl ?_
    refine kz_iadd d_Mo_move_68 rfl ?_
    refine kz_iconst (v := 4) d_Mo_move_69 (by decide) rfl ?_
    refine kz_iadd d_Mo_move_70 rfl ?_
    refine kz_putIp fd_Mo_33 rfl rfl d_Mo_move_71 rfl ?_
    refine kz_aload_n d_Mo_move_74 rfl rfl ?_
    refine kz_iload d_Mo_move_75 rfl rfl ?_
    refine kz_putIp fd_Mo_37 rfl rfl d_Mo_move_77 rfl ?_
    have ew0 : rq_w (rm_0 M g true t (rq_a M t)) t = true := by unfold rq_w; rw [rm_off 8 (by decide)]; exact h20
    refine kz_memq (N := rm_0 M g true t (rq_a M t)) (by simp only [rm_0, if_true, rq_a, rr_giveJ, Bool.false_eq_true, if_false]; rw [rg_0 _ _ _ _ _ _ 2 (by decide), rg_off _ _ _ _ _ _ 1 (by decide)]) ?_
    refine kz_eta ?_
    refine kz_aload_n d_Mo_move_80 rfl rfl ?_
    refine kz_iload_n d_Mo_move_81 rfl rfl ?_
    refine kz_callVr (c_Mo_leave l (rm_q hq) hk hn) cv_Mo_170 rfl rfl rfl ⟨by decide, by decide⟩ rfl (Nat.le_of_ble_eq_true rfl) d_Mo_move_82 rfl (fun v82 N82 q82 => ?_)
    obtain ⟨rfl, ha82, hw82⟩ := q82
    rw [ew0] at ha82
    refine kz_iload d_Mo_move_85 rfl rfl ?_
    refine kz_iconst (v := 3) d_Mo_move_87 (by decide) rfl ?_
    refine kz_icmp_ne (tgt := 110) d_Mo_move_88 (by decide) rfl (fun h => absurd h (by decide)) (fun _ => ?_)
    refine kz_aload_n d_Mo_move_91 rfl rfl ?_
    refine kz_iload_n d_Mo_move_92 rfl rfl ?_
    refine kz_aload_n d_Mo_move_93 rfl rfl ?_
    refine kz_getR fd_Mo_53 rfl rfl rfl d_Mo_move_94 rfl ?_
    refine kz_iload_n d_Mo_move_97 rfl rfl ?_
    refine kz_laldp rfl (by first | assumption | exact kz_vin (by decide)) rfl d_Mo_move_98 rfl ?_
    refine kz_callVv (c_Mo_store l hya) cv_Mo_173 rfl rfl rfl ⟨by decide, by decide⟩ rfl (Nat.le_of_ble_eq_true rfl) d_Mo_move_99 rfl ?_
    refine kz_eta ?_
    refine kz_aload_n d_Mo_move_102 rfl rfl ?_
    refine kz_getR fd_Mo_50 rfl rfl rfl d_Mo_move_103 rfl ?_
    refine kz_iload_n d_Mo_move_106 rfl rfl ?_
    refine kz_iconst (v := 2) d_Mo_move_107 (by decide) rfl ?_
    refine kz_iastp rfl (by first | assumption | exact kz_vin (by decide)) rfl d_Mo_move_108 rfl ?_
    exact kz_vret rfl d_Mo_move_109 (by rw [h20]; exact ⟨rfl, rm_ew ha82 hw82⟩)
