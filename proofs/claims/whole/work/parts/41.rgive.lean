/-! Contracts of the reference: commands given, tickets, what a caller asks. -/
def rr_give (M : kz_M) (g : Nat) (k b d t : Int32) : kz_M := (if b < 0 then kz_u (kz_u (kz_u (kz_u (kz_u (kz_u (kz_u M.1 18 (g % 32) k) 19 (g % 32) b) 20 (g % 32) d) 21 (g % 32) (M.1 0 2)) 22 (g % 32) t) 0 4 (M.1 0 4 + 1)) 6 k.toNatClampNeg (M.1 0 2)
  else kz_u (kz_u (kz_u (kz_u (kz_u (kz_u (kz_u (kz_u M.1 18 (g % 32) k) 19 (g % 32) b) 20 (g % 32) d) 21 (g % 32) (M.1 0 2)) 22 (g % 32) t) 0 4 (M.1 0 4 + 1)) 6 k.toNatClampNeg (M.1 0 2)) 5 (5 * b.toNatClampNeg + k.toNatClampNeg) (M.1 0 2), M.2)
theorem rr_g32 {g : Nat} (h : g < 2 ^ 31) : nI g - nI g / 32 * 32 = nI (g % 32) := pk_rem (a := g) (d := 32) h (by decide) (by decide)
theorem rr_g32i {g : Nat} : vp_in (nI (g % 32)) 32 := vp_in_nI (Nat.mod_lt _ (by decide)) (by decide)
theorem rr_g32c {g : Nat} : (nI (g % 32)).toNatClampNeg = g % 32 := nI_clamp (by have := Nat.mod_lt g (show 0 < 32 by decide); omega)
theorem rr_ik {b k : Int32} (h : ¬ b < 0 → vp_in b 4) (hk : vp_in k 4) (hb : ¬ b < 0) : (5 * b + k).toNatClampNeg = 5 * b.toNatClampNeg + k.toNatClampNeg ∧ vp_in (5 * b + k) 20 := by
  obtain ⟨j, hj, rfl⟩ := vp_in_of (h hb) (by decide)
  obtain ⟨i, hi, rfl⟩ := vp_in_of hk (by decide)
  have : ∀ j, j < 4 → ∀ i, i < 4 → (5 * nI j + nI i).toNatClampNeg = 5 * (nI j).toNatClampNeg + (nI i).toNatClampNeg ∧ ¬ (5 * nI j + nI i < 0 ∨ 20 ≤ (5 * nI j + nI i).toNatClampNeg) := by decide
  exact this j hj i hi
set_option maxRecDepth 100000 in
set_option maxHeartbeats 1000000 in
theorem c_Mo_give (l : Launch) {M : kz_M} {g : Nat} {k b d t : Int32} (hg : g < 2 ^ 31) (hge : M.1 0 4 = nI g) (hk : vp_in k 5) (hk4 : ¬ b < 0 → vp_in k 4) (hb : ¬ b < 0 → vp_in b 4) : kz_Dt l sR m_Mo_give [.ref 0, .int k, .int b, .int d, .int t] M none (rr_give M g k b d t) := by
  refine kz_intro (by decide +kernel) (Nat.le_of_ble_eq_true rfl) ?_
  show kz_G l sR m_Mo_give 0 [some (.ref 0), some (.int k), some (.int b), some (.int d), some (.int t), none] [] M _
  refine kz_aload_n d_Mo_give_0 rfl rfl ?_
  refine kz_getIp fd_Mo_160 rfl rfl (Or.inl rfl) d_Mo_give_1 rfl ?_
  refine kz_topi hge ?_
  refine kz_bipush (v := 32) d_Mo_give_4 (by decide) rfl ?_
  refine kz_irem d_Mo_give_6 (by first | assumption | decide) rfl ?_
  refine kz_topi (rr_g32 hg) ?_
  refine kz_istore d_Mo_give_7 rfl (Nat.le_of_ble_eq_true rfl) rfl ?_
  refine kz_aload_n d_Mo_give_9 rfl rfl ?_
  refine kz_getR fd_Mo_71 rfl rfl rfl d_Mo_give_10 rfl ?_
  refine kz_iload d_Mo_give_13 rfl rfl ?_
  refine kz_iload_n d_Mo_give_15 rfl rfl ?_
  refine kz_iastp rfl rr_g32i rr_g32c d_Mo_give_16 rfl ?_
  refine kz_aload_n d_Mo_give_17 rfl rfl ?_
  refine kz_getR fd_Mo_74 rfl rfl rfl d_Mo_give_18 rfl ?_
  refine kz_iload d_Mo_give_21 rfl rfl ?_
  refine kz_iload_n d_Mo_give_23 rfl rfl ?_
  refine kz_iastp rfl rr_g32i rr_g32c d_Mo_give_24 rfl ?_
  refine kz_aload_n d_Mo_give_25 rfl rfl ?_
  refine kz_getR fd_Mo_77 rfl rfl rfl d_Mo_give_26 rfl ?_
  refine kz_iload d_Mo_give_29 rfl rfl ?_
  refine kz_iload_n d_Mo_give_31 rfl rfl ?_
  refine kz_iastp rfl rr_g32i rr_g32c d_Mo_give_32 rfl ?_
  refine kz_aload_n d_Mo_give_33 rfl rfl ?_
  refine kz_getR fd_Mo_80 rfl rfl rfl d_Mo_give_34 rfl ?_
  refine kz_iload d_Mo_give_37 rfl rfl ?_
  refine kz_aload_n d_Mo_give_39 rfl rfl ?_
  refine kz_getIp fd_Mo_96 rfl rfl (Or.inl rfl) d_Mo_give_40 rfl ?_
  refine kz_iastp rfl rr_g32i rr_g32c d_Mo_give_43 rfl ?_
  refine kz_aload_n d_Mo_give_44 rfl rfl ?_
  refine kz_getR fd_Mo_83 rfl rfl rfl d_Mo_give_45 rfl ?_
  refine kz_iload d_Mo_give_48 rfl rfl ?_
  refine kz_iload d_Mo_give_50 rfl rfl ?_
  refine kz_iastp rfl rr_g32i rr_g32c d_Mo_give_52 rfl ?_
  refine kz_aload_n d_Mo_give_53 rfl rfl ?_
  refine kz_dup d_Mo_give_54 rfl rfl ?_
  refine kz_getIp fd_Mo_160 rfl rfl (Or.inl rfl) d_Mo_give_55 rfl ?_
  refine kz_iconst (v := 1) d_Mo_give_58 (by decide) rfl ?_
  refine kz_iadd d_Mo_give_59 rfl ?_
  refine kz_putIp fd_Mo_160 rfl rfl d_Mo_give_60 rfl ?_
  refine kz_aload_n d_Mo_give_63 rfl rfl ?_
  refine kz_getR fd_Mo_26 rfl rfl rfl d_Mo_give_64 rfl ?_
  refine kz_iload_n d_Mo_give_67 rfl rfl ?_
  refine kz_aload_n d_Mo_give_68 rfl rfl ?_
  refine kz_getIp fd_Mo_96 rfl rfl (Or.inl rfl) d_Mo_give_69 rfl ?_
  refine kz_iastp rfl (by first | assumption | exact kz_vin (by decide)) rfl d_Mo_give_72 rfl ?_
  refine kz_iload_n d_Mo_give_73 rfl rfl ?_
  refine kz_if_lt (tgt := 91) d_Mo_give_74 (by decide) rfl (fun h74 => ?_) (fun h74 => ?_)
  · exact kz_vret rfl d_Mo_give_91 (⟨rfl, by simp [rr_give, kz_u_ne, h74]⟩)
  · refine kz_aload_n d_Mo_give_77 rfl rfl ?_
    refine kz_getR fd_Mo_23 rfl rfl rfl d_Mo_give_78 rfl ?_
    refine kz_iconst (v := 5) d_Mo_give_81 (by decide) rfl ?_
    refine kz_iload_n d_Mo_give_82 rfl rfl ?_
    refine kz_imul d_Mo_give_83 rfl ?_
    refine kz_iload_n d_Mo_give_84 rfl rfl ?_
    refine kz_iadd d_Mo_give_85 rfl ?_
    refine kz_aload_n d_Mo_give_86 rfl rfl ?_
    refine kz_getIp fd_Mo_96 rfl rfl (Or.inl rfl) d_Mo_give_87 rfl ?_
    refine kz_iastp rfl (rr_ik hb (hk4 h74) h74).2 (rr_ik hb (hk4 h74) h74).1 d_Mo_give_90 rfl ?_
    exact kz_vret rfl d_Mo_give_91 (⟨rfl, by simp [rr_give, kz_u_ne, h74]⟩)
def rr_pre (M : kz_M) (g : Nat) (b : Int32) : kz_M := (kz_u (rr_give M g 1 b (-1) (-1)).1 4 b.toNatClampNeg (-1), M.2)
set_option maxRecDepth 100000 in
set_option maxHeartbeats 1000000 in
theorem c_Mo_precharge (l : Launch) {M : kz_M} {g : Nat} {b : Int32} (hb : vp_in b 4) (hg : g < 2 ^ 31) (hge : M.1 0 4 = nI g) : kz_Dt l sR m_Mo_precharge [.ref 0, .int b] M none (rr_pre M g b) := by
  refine kz_intro (by decide +kernel) (Nat.le_of_ble_eq_true rfl) ?_
  show kz_G l sR m_Mo_precharge 0 [some (.ref 0), some (.int b)] [] M _
  refine kz_aload_n d_Mo_precharge_0 rfl rfl ?_
  refine kz_iconst (v := 1) d_Mo_precharge_1 (by decide) rfl ?_
  refine kz_iload_n d_Mo_precharge_2 rfl rfl ?_
  refine kz_iconst (v := -1) d_Mo_precharge_3 (by decide) rfl ?_
  refine kz_iconst (v := -1) d_Mo_precharge_4 (by decide) rfl ?_
  refine kz_callVv (c_Mo_give l hg hge (kz_vin (by decide)) (fun _ => kz_vin (by decide)) (fun _ => hb)) cv_Mo_163 rfl rfl rfl ⟨by decide, by decide⟩ rfl (Nat.le_of_ble_eq_true rfl) d_Mo_precharge_5 rfl ?_
  refine kz_eta ?_
  refine kz_aload_n d_Mo_precharge_8 rfl rfl ?_
  refine kz_getR fd_Mo_20 rfl rfl rfl d_Mo_precharge_9 rfl ?_
  refine kz_iload_n d_Mo_precharge_12 rfl rfl ?_
  refine kz_iconst (v := -1) d_Mo_precharge_13 (by decide) rfl ?_
  refine kz_iastp rfl (by first | assumption | exact kz_vin (by decide)) rfl d_Mo_precharge_14 rfl ?_
  exact kz_vret rfl d_Mo_precharge_15 (⟨rfl, rfl⟩)
def rr_act (M : kz_M) (g : Nat) (b r : Int32) : kz_M := (kz_u (kz_u (kz_u (kz_u (kz_u (rr_give M g 0 b r (-1)).1 4 b.toNatClampNeg r) 7 0 (M.1 7 1)) 7 1 (M.1 7 2)) 7 2 (M.1 7 3)) 7 3 (M.1 0 2), M.2)
theorem rr_give7 (M : kz_M) (g : Nat) (k b d t : Int32) : (rr_give M g k b d t).1 7 = M.1 7 := by unfold rr_give; split <;> simp [kz_u_off]
theorem rr_giveJ (M : kz_M) (g : Nat) (k b d t : Int32) : (rr_give M g k b d t).2 = M.2 := rfl
theorem rr_give02 (M : kz_M) (g : Nat) (k b d t : Int32) : (rr_give M g k b d t).1 0 2 = M.1 0 2 := by unfold rr_give; split <;> simp [kz_u_ne]
set_option maxRecDepth 100000 in
set_option maxHeartbeats 1000000 in
theorem lp_ract (l : Launch) {I : Nat → Nat → Int32} {J : Nat → Nat → Int64} {a1 a2 : Int32} (i : Nat) (hi : i < 3) {Q : Option Value → kz_M → Prop} (k : kz_G l sR m_Mo_activate 17 [some (.ref 0), some (.int a1), some (.int a2), some (.int (nI (i + 1)))] [] (kz_u I 7 i (I 7 (i + 1)), J) Q) : kz_G l sR m_Mo_activate 17 [some (.ref 0), some (.int a1), some (.int a2), some (.int (nI i))] [] (I, J) Q := by
  have h4 : vp_in (nI i) 4 := vp_in_nI (by omega) (by decide)
  have h4' : vp_in (nI (i + 1)) 4 := vp_in_nI (by omega) (by decide)
  have c1 : (nI i).toNatClampNeg = i := nI_clamp (by omega)
  have c2 : (nI (i + 1)).toNatClampNeg = i + 1 := nI_clamp (by omega)
  refine kz_iload_n d_Mo_activate_17 rfl rfl ?_
  refine kz_iconst (v := 3) d_Mo_activate_18 (by decide) rfl ?_
  refine kz_icmp_ge (tgt := 42) d_Mo_activate_19 (by decide) rfl (fun h19 => ?_) (fun h19 => ?_)
  · exact absurd h19 (nI_ge (a := i) (b := 3) hi (by decide))
  · refine kz_aload_n d_Mo_activate_22 rfl rfl ?_
    refine kz_getR fd_Mo_29 rfl rfl rfl d_Mo_activate_23 rfl ?_
    refine kz_iload_n d_Mo_activate_26 rfl rfl ?_
    refine kz_aload_n d_Mo_activate_27 rfl rfl ?_
    refine kz_getR fd_Mo_29 rfl rfl rfl d_Mo_activate_28 rfl ?_
    refine kz_iload_n d_Mo_activate_31 rfl rfl ?_
    refine kz_iconst (v := 1) d_Mo_activate_32 (by decide) rfl ?_
    refine kz_iadd d_Mo_activate_33 rfl ?_
    refine kz_topi (nI_1 i) ?_
    refine kz_ialdp rfl h4' c2 d_Mo_activate_34 rfl ?_
    refine kz_iastp rfl h4 c1 d_Mo_activate_35 rfl ?_
    refine kz_iinc d_Mo_activate_36 rfl rfl (Nat.le_of_ble_eq_true rfl) (kz_inc i) rfl ?_
    refine kz_goto (tgt := 17) d_Mo_activate_39 (by decide) ?_
    exact k
set_option maxRecDepth 100000 in
set_option maxHeartbeats 1000000 in
theorem c_Mo_activate (l : Launch) {M : kz_M} {g : Nat} {b r : Int32} (hb : vp_in b 4) (hg : g < 2 ^ 31) (hge : M.1 0 4 = nI g) : kz_Dt l sR m_Mo_activate [.ref 0, .int b, .int r] M none (rr_act M g b r) := by
  refine kz_intro (by decide +kernel) (Nat.le_of_ble_eq_true rfl) ?_
  show kz_G l sR m_Mo_activate 0 [some (.ref 0), some (.int b), some (.int r), none] [] M _
  refine kz_aload_n d_Mo_activate_0 rfl rfl ?_
  refine kz_iconst (v := 0) d_Mo_activate_1 (by decide) rfl ?_
  refine kz_iload_n d_Mo_activate_2 rfl rfl ?_
  refine kz_iload_n d_Mo_activate_3 rfl rfl ?_
  refine kz_iconst (v := -1) d_Mo_activate_4 (by decide) rfl ?_
  refine kz_callVv (c_Mo_give l hg hge (kz_vin (by decide)) (fun _ => kz_vin (by decide)) (fun _ => hb)) cv_Mo_163 rfl rfl rfl ⟨by decide, by decide⟩ rfl (Nat.le_of_ble_eq_true rfl) d_Mo_activate_5 rfl ?_
  refine kz_eta ?_
  refine kz_aload_n d_Mo_activate_8 rfl rfl ?_
  refine kz_getR fd_Mo_20 rfl rfl rfl d_Mo_activate_9 rfl ?_
  refine kz_iload_n d_Mo_activate_12 rfl rfl ?_
  refine kz_iload_n d_Mo_activate_13 rfl rfl ?_
  refine kz_iastp rfl (by first | assumption | exact kz_vin (by decide)) rfl d_Mo_activate_14 rfl ?_
  refine kz_iconst (v := 0) d_Mo_activate_15 (by decide) rfl ?_
  refine kz_istore_n (i := 3) d_Mo_activate_16 rfl rfl (Nat.le_of_ble_eq_true rfl) rfl ?_
  refine lp_ract l 0 (by decide) ?_
  refine lp_ract l 1 (by decide) ?_
  refine lp_ract l 2 (by decide) ?_
  refine kz_iload_n d_Mo_activate_17 rfl rfl ?_
  refine kz_iconst (v := 3) d_Mo_activate_18 (by decide) rfl ?_
  refine kz_icmp_ge (tgt := 42) d_Mo_activate_19 (by decide) rfl (fun h19 => ?_) (fun h19 => ?_)
  · refine kz_aload_n d_Mo_activate_42 rfl rfl ?_
    refine kz_getR fd_Mo_29 rfl rfl rfl d_Mo_activate_43 rfl ?_
    refine kz_iconst (v := 3) d_Mo_activate_46 (by decide) rfl ?_
    refine kz_aload_n d_Mo_activate_47 rfl rfl ?_
    refine kz_getIp fd_Mo_96 rfl rfl (Or.inl rfl) d_Mo_activate_48 rfl ?_
    refine kz_iastp rfl (by first | assumption | exact kz_vin (by decide)) (j := 3) (by decide) d_Mo_activate_51 rfl ?_
    exact kz_vret rfl d_Mo_activate_52 (⟨rfl, by simp [rr_act, kz_u_ne, kz_u_same, kz_u_off, rr_give7, rr_give02, rr_giveJ]⟩)
  · exact absurd (by decide) h19
def rr_drv (M : kz_M) : Bool := if M.1 0 8 = 0 then ((!decide (M.1 0 28 ≤ 0) && decide (M.1 0 27 = 0)) || decide (M.1 0 28 = M.1 0 0)) else !(decide (M.1 0 28 = 0) || (!decide (M.1 0 27 ≤ 0) && !decide (M.1 0 0 < 2 * M.1 0 28)))
set_option maxRecDepth 100000 in
set_option maxHeartbeats 1000000 in
theorem c_Mo_drain (l : Launch) {M : kz_M}  : kz_Dt l sR m_Mo_drain [.ref 0] M none (kz_u M.1 0 8 (kz_ib (rr_drv M)), M.2) := by
  refine kz_intro (by decide +kernel) (Nat.le_of_ble_eq_true rfl) ?_
  show kz_G l sR m_Mo_drain 0 [some (.ref 0), none, none] [] M _
  refine kz_aload_n d_Mo_drain_0 rfl rfl ?_
  refine kz_getIp fd_Mo_137 rfl rfl (Or.inl rfl) d_Mo_drain_1 rfl ?_
  refine kz_if_le (tgt := 14) d_Mo_drain_4 (by decide) rfl (fun h4 => ?_) (fun h4 => ?_)
  · refine kz_aload_n d_Mo_drain_14 rfl rfl ?_
    refine kz_getIp fd_Mo_137 rfl rfl (Or.inl rfl) d_Mo_drain_15 rfl ?_
    refine kz_aload_n d_Mo_drain_18 rfl rfl ?_
    refine kz_getIp fd_Mo_86 rfl rfl (Or.inl rfl) d_Mo_drain_19 rfl ?_
    refine kz_icmp_ne (tgt := 29) d_Mo_drain_22 (by decide) rfl (fun h22 => ?_) (fun h22 => ?_)
    · refine kz_iconst (v := 0) d_Mo_drain_29 (by decide) rfl ?_
      refine kz_istore_n (i := 1) d_Mo_drain_30 rfl rfl (Nat.le_of_ble_eq_true rfl) rfl ?_
      refine kz_aload_n d_Mo_drain_31 rfl rfl ?_
      refine kz_getIp fd_Mo_137 rfl rfl (Or.inl rfl) d_Mo_drain_32 rfl ?_
      refine kz_if_eq (tgt := 58) d_Mo_drain_35 (by decide) rfl (fun h35 => ?_) (fun h35 => ?_)
      · refine kz_iconst (v := 1) d_Mo_drain_58 (by decide) rfl ?_
        refine kz_goto (tgt := 63) d_Mo_drain_59 (by decide) ?_
        refine kz_istore_n (i := 2) d_Mo_drain_63 rfl rfl (Nat.le_of_ble_eq_true rfl) rfl ?_
        refine kz_aload_n d_Mo_drain_64 rfl rfl ?_
        refine kz_aload_n d_Mo_drain_65 rfl rfl ?_
        refine kz_getIp fd_Mo_206 rfl rfl (Or.inr rfl) d_Mo_drain_66 rfl ?_
        refine kz_if_eq (tgt := 84) d_Mo_drain_69 (by decide) rfl (fun h69 => ?_) (fun h69 => ?_)
        · refine kz_iload_n d_Mo_drain_84 rfl rfl ?_
          refine kz_putZp fd_Mo_206 rfl rfl (by first | assumption | decide | exact kz_ib_or _) d_Mo_drain_85 rfl ?_
          exact kz_vret rfl d_Mo_drain_88 (⟨rfl, congrArg (fun z => ((kz_u M.1 0 8 z, M.2) : kz_M)) (by unfold rr_drv; (first | rw [if_pos h69] | rw [if_neg h69]); (try rw [decide_eq_true h4]); (try rw [decide_eq_false h4]); (try rw [decide_eq_true h11]); (try rw [decide_eq_false h11]); (try rw [decide_eq_true h22]); (try rw [decide_eq_false h22]); (try rw [decide_eq_true h35]); (try rw [decide_eq_false h35]); (try rw [decide_eq_true h42]); (try rw [decide_eq_false h42]); (try rw [decide_eq_true h55]); (try rw [decide_eq_false h55]); first | rfl | (simp [kz_ib]; done))⟩)
        · refine kz_iload_n d_Mo_drain_72 rfl rfl ?_
          refine kz_if_ne (tgt := 80) d_Mo_drain_73 (by decide) rfl (fun _ => ?_) (fun h => absurd h (by decide))
          refine kz_iconst (v := 0) d_Mo_drain_80 (by decide) rfl ?_
          refine kz_goto (tgt := 85) d_Mo_drain_81 (by decide) ?_
          refine kz_putZp fd_Mo_206 rfl rfl (by first | assumption | decide | exact kz_ib_or _) d_Mo_drain_85 rfl ?_
          exact kz_vret rfl d_Mo_drain_88 (⟨rfl, congrArg (fun z => ((kz_u M.1 0 8 z, M.2) : kz_M)) (by unfold rr_drv; (first | rw [if_pos h69] | rw [if_neg h69]); (try rw [decide_eq_true h4]); (try rw [decide_eq_false h4]); (try rw [decide_eq_true h11]); (try rw [decide_eq_false h11]); (try rw [decide_eq_true h22]); (try rw [decide_eq_false h22]); (try rw [decide_eq_true h35]); (try rw [decide_eq_false h35]); (try rw [decide_eq_true h42]); (try rw [decide_eq_false h42]); (try rw [decide_eq_true h55]); (try rw [decide_eq_false h55]); first | rfl | (simp [kz_ib]; done))⟩)
      · refine kz_aload_n d_Mo_drain_38 rfl rfl ?_
        refine kz_getIp fd_Mo_140 rfl rfl (Or.inl rfl) d_Mo_drain_39 rfl ?_
        refine kz_if_le (tgt := 62) d_Mo_drain_42 (by decide) rfl (fun h42 => ?_) (fun h42 => ?_)
        · refine kz_iconst (v := 0) d_Mo_drain_62 (by decide) rfl ?_
          refine kz_istore_n (i := 2) d_Mo_drain_63 rfl rfl (Nat.le_of_ble_eq_true rfl) rfl ?_
          refine kz_aload_n d_Mo_drain_64 rfl rfl ?_
          refine kz_aload_n d_Mo_drain_65 rfl rfl ?_
          refine kz_getIp fd_Mo_206 rfl rfl (Or.inr rfl) d_Mo_drain_66 rfl ?_
          refine kz_if_eq (tgt := 84) d_Mo_drain_69 (by decide) rfl (fun h69 => ?_) (fun h69 => ?_)
          · refine kz_iload_n d_Mo_drain_84 rfl rfl ?_
            refine kz_putZp fd_Mo_206 rfl rfl (by first | assumption | decide | exact kz_ib_or _) d_Mo_drain_85 rfl ?_
            exact kz_vret rfl d_Mo_drain_88 (⟨rfl, congrArg (fun z => ((kz_u M.1 0 8 z, M.2) : kz_M)) (by unfold rr_drv; (first | rw [if_pos h69] | rw [if_neg h69]); (try rw [decide_eq_true h4]); (try rw [decide_eq_false h4]); (try rw [decide_eq_true h11]); (try rw [decide_eq_false h11]); (try rw [decide_eq_true h22]); (try rw [decide_eq_false h22]); (try rw [decide_eq_true h35]); (try rw [decide_eq_false h35]); (try rw [decide_eq_true h42]); (try rw [decide_eq_false h42]); (try rw [decide_eq_true h55]); (try rw [decide_eq_false h55]); first | rfl | (simp [kz_ib]; done))⟩)
          · refine kz_iload_n d_Mo_drain_72 rfl rfl ?_
            refine kz_if_ne (tgt := 80) d_Mo_drain_73 (by decide) rfl (fun h => absurd h (by decide)) (fun _ => ?_)
            refine kz_iconst (v := 1) d_Mo_drain_76 (by decide) rfl ?_
            refine kz_goto (tgt := 85) d_Mo_drain_77 (by decide) ?_
            refine kz_putZp fd_Mo_206 rfl rfl (by first | assumption | decide | exact kz_ib_or _) d_Mo_drain_85 rfl ?_
            exact kz_vret rfl d_Mo_drain_88 (⟨rfl, congrArg (fun z => ((kz_u M.1 0 8 z, M.2) : kz_M)) (by unfold rr_drv; (first | rw [if_pos h69] | rw [if_neg h69]); (try rw [decide_eq_true h4]); (try rw [decide_eq_false h4]); (try rw [decide_eq_true h11]); (try rw [decide_eq_false h11]); (try rw [decide_eq_true h22]); (try rw [decide_eq_false h22]); (try rw [decide_eq_true h35]); (try rw [decide_eq_false h35]); (try rw [decide_eq_true h42]); (try rw [decide_eq_false h42]); (try rw [decide_eq_true h55]); (try rw [decide_eq_false h55]); first | rfl | (simp [kz_ib]; done))⟩)
        · refine kz_iconst (v := 2) d_Mo_drain_45 (by decide) rfl ?_
          refine kz_aload_n d_Mo_drain_46 rfl rfl ?_
          refine kz_getIp fd_Mo_137 rfl rfl (Or.inl rfl) d_Mo_drain_47 rfl ?_
          refine kz_imul d_Mo_drain_50 rfl ?_
          refine kz_aload_n d_Mo_drain_51 rfl rfl ?_
          refine kz_getIp fd_Mo_86 rfl rfl (Or.inl rfl) d_Mo_drain_52 rfl ?_
          refine kz_icmp_gt (tgt := 62) d_Mo_drain_55 (by decide) rfl (fun h55 => ?_) (fun h55 => ?_)
          · refine kz_iconst (v := 0) d_Mo_drain_62 (by decide) rfl ?_
            refine kz_istore_n (i := 2) d_Mo_drain_63 rfl rfl (Nat.le_of_ble_eq_true rfl) rfl ?_
            refine kz_aload_n d_Mo_drain_64 rfl rfl ?_
            refine kz_aload_n d_Mo_drain_65 rfl rfl ?_
            refine kz_getIp fd_Mo_206 rfl rfl (Or.inr rfl) d_Mo_drain_66 rfl ?_
            refine kz_if_eq (tgt := 84) d_Mo_drain_69 (by decide) rfl (fun h69 => ?_) (fun h69 => ?_)
            · refine kz_iload_n d_Mo_drain_84 rfl rfl ?_
              refine kz_putZp fd_Mo_206 rfl rfl (by first | assumption | decide | exact kz_ib_or _) d_Mo_drain_85 rfl ?_
              exact kz_vret rfl d_Mo_drain_88 (⟨rfl, congrArg (fun z => ((kz_u M.1 0 8 z, M.2) : kz_M)) (by unfold rr_drv; (first | rw [if_pos h69] | rw [if_neg h69]); (try rw [decide_eq_true h4]); (try rw [decide_eq_false h4]); (try rw [decide_eq_true h11]); (try rw [decide_eq_false h11]); (try rw [decide_eq_true h22]); (try rw [decide_eq_false h22]); (try rw [decide_eq_true h35]); (try rw [decide_eq_false h35]); (try rw [decide_eq_true h42]); (try rw [decide_eq_false h42]); (try rw [decide_eq_true h55]); (try rw [decide_eq_false h55]); first | rfl | (simp [kz_ib]; done))⟩)
            · refine kz_iload_n d_Mo_drain_72 rfl rfl ?_
              refine kz_if_ne (tgt := 80) d_Mo_drain_73 (by decide) rfl (fun h => absurd h (by decide)) (fun _ => ?_)
              refine kz_iconst (v := 1) d_Mo_drain_76 (by decide) rfl ?_
              refine kz_goto (tgt := 85) d_Mo_drain_77 (by decide) ?_
              refine kz_putZp fd_Mo_206 rfl rfl (by first | assumption | decide | exact kz_ib_or _) d_Mo_drain_85 rfl ?_
              exact kz_vret rfl d_Mo_drain_88 (⟨rfl, congrArg (fun z => ((kz_u M.1 0 8 z, M.2) : kz_M)) (by unfold rr_drv; (first | rw [if_pos h69] | rw [if_neg h69]); (try rw [decide_eq_true h4]); (try rw [decide_eq_false h4]); (try rw [decide_eq_true h11]); (try rw [decide_eq_false h11]); (try rw [decide_eq_true h22]); (try rw [decide_eq_false h22]); (try rw [decide_eq_true h35]); (try rw [decide_eq_false h35]); (try rw [decide_eq_true h42]); (try rw [decide_eq_false h42]); (try rw [decide_eq_true h55]); (try rw [decide_eq_false h55]); first | rfl | (simp [kz_ib]; done))⟩)
          · refine kz_iconst (v := 1) d_Mo_drain_58 (by decide) rfl ?_
            refine kz_goto (tgt := 63) d_Mo_drain_59 (by decide) ?_
            refine kz_istore_n (i := 2) d_Mo_drain_63 rfl rfl (Nat.le_of_ble_eq_true rfl) rfl ?_
            refine kz_aload_n d_Mo_drain_64 rfl rfl ?_
            refine kz_aload_n d_Mo_drain_65 rfl rfl ?_
            refine kz_getIp fd_Mo_206 rfl rfl (Or.inr rfl) d_Mo_drain_66 rfl ?_
            refine kz_if_eq (tgt := 84) d_Mo_drain_69 (by decide) rfl (fun h69 => ?_) (fun h69 => ?_)
            · refine kz_iload_n d_Mo_drain_84 rfl rfl ?_
              refine kz_putZp fd_Mo_206 rfl rfl (by first | assumption | decide | exact kz_ib_or _) d_Mo_drain_85 rfl ?_
              exact kz_vret rfl d_Mo_drain_88 (⟨rfl, congrArg (fun z => ((kz_u M.1 0 8 z, M.2) : kz_M)) (by unfold rr_drv; (first | rw [if_pos h69] | rw [if_neg h69]); (try rw [decide_eq_true h4]); (try rw [decide_eq_false h4]); (try rw [decide_eq_true h11]); (try rw [decide_eq_false h11]); (try rw [decide_eq_true h22]); (try rw [decide_eq_false h22]); (try rw [decide_eq_true h35]); (try rw [decide_eq_false h35]); (try rw [decide_eq_true h42]); (try rw [decide_eq_false h42]); (try rw [decide_eq_true h55]); (try rw [decide_eq_false h55]); first | rfl | (simp [kz_ib]; done))⟩)
            · refine kz_iload_n d_Mo_drain_72 rfl rfl ?_
              refine kz_if_ne (tgt := 80) d_Mo_drain_73 (by decide) rfl (fun _ => ?_) (fun h => absurd h (by decide))
              refine kz_iconst (v := 0) d_Mo_drain_80 (by decide) rfl ?_
              refine kz_goto (tgt := 85) d_Mo_drain_81 (by decide) ?_
              refine kz_putZp fd_Mo_206 rfl rfl (by first | assumption | decide | exact kz_ib_or _) d_Mo_drain_85 rfl ?_
              exact kz_vret rfl d_Mo_drain_88 (⟨rfl, congrArg (fun z => ((kz_u M.1 0 8 z, M.2) : kz_M)) (by unfold rr_drv; (first | rw [if_pos h69] | rw [if_neg h69]); (try rw [decide_eq_true h4]); (try rw [decide_eq_false h4]); (try rw [decide_eq_true h11]); (try rw [decide_eq_false h11]); (try rw [decide_eq_true h22]); (try rw [decide_eq_false h22]); (try rw [decide_eq_true h35]); (try rw [decide_eq_false h35]); (try rw [decide_eq_true h42]); (try rw [decide_eq_false h42]); (try rw [decide_eq_true h55]); (try rw [decide_eq_false h55]); first | rfl | (simp [kz_ib]; done))⟩)
    · refine kz_iconst (v := 1) d_Mo_drain_25 (by decide) rfl ?_
      refine kz_goto (tgt := 30) d_Mo_drain_26 (by decide) ?_
      refine kz_istore_n (i := 1) d_Mo_drain_30 rfl rfl (Nat.le_of_ble_eq_true rfl) rfl ?_
      refine kz_aload_n d_Mo_drain_31 rfl rfl ?_
      refine kz_getIp fd_Mo_137 rfl rfl (Or.inl rfl) d_Mo_drain_32 rfl ?_
      refine kz_if_eq (tgt := 58) d_Mo_drain_35 (by decide) rfl (fun h35 => ?_) (fun h35 => ?_)
      · refine kz_iconst (v := 1) d_Mo_drain_58 (by decide) rfl ?_
        refine kz_goto (tgt := 63) d_Mo_drain_59 (by decide) ?_
        refine kz_istore_n (i := 2) d_Mo_drain_63 rfl rfl (Nat.le_of_ble_eq_true rfl) rfl ?_
        refine kz_aload_n d_Mo_drain_64 rfl rfl ?_
        refine kz_aload_n d_Mo_drain_65 rfl rfl ?_
        refine kz_getIp fd_Mo_206 rfl rfl (Or.inr rfl) d_Mo_drain_66 rfl ?_
        refine kz_if_eq (tgt := 84) d_Mo_drain_69 (by decide) rfl (fun h69 => ?_) (fun h69 => ?_)
        · refine kz_iload_n d_Mo_drain_84 rfl rfl ?_
          refine kz_putZp fd_Mo_206 rfl rfl (by first | assumption | decide | exact kz_ib_or _) d_Mo_drain_85 rfl ?_
          exact kz_vret rfl d_Mo_drain_88 (⟨rfl, congrArg (fun z => ((kz_u M.1 0 8 z, M.2) : kz_M)) (by unfold rr_drv; (first | rw [if_pos h69] | rw [if_neg h69]); (try rw [decide_eq_true h4]); (try rw [decide_eq_false h4]); (try rw [decide_eq_true h11]); (try rw [decide_eq_false h11]); (try rw [decide_eq_true h22]); (try rw [decide_eq_false h22]); (try rw [decide_eq_true h35]); (try rw [decide_eq_false h35]); (try rw [decide_eq_true h42]); (try rw [decide_eq_false h42]); (try rw [decide_eq_true h55]); (try rw [decide_eq_false h55]); first | rfl | (simp [kz_ib]; done))⟩)
        · refine kz_iload_n d_Mo_drain_72 rfl rfl ?_
          refine kz_if_ne (tgt := 80) d_Mo_drain_73 (by decide) rfl (fun _ => ?_) (fun h => absurd h (by decide))
          refine kz_iconst (v := 0) d_Mo_drain_80 (by decide) rfl ?_
          refine kz_goto (tgt := 85) d_Mo_drain_81 (by decide) ?_
          refine kz_putZp fd_Mo_206 rfl rfl (by first | assumption | decide | exact kz_ib_or _) d_Mo_drain_85 rfl ?_
          exact kz_vret rfl d_Mo_drain_88 (⟨rfl, congrArg (fun z => ((kz_u M.1 0 8 z, M.2) : kz_M)) (by unfold rr_drv; (first | rw [if_pos h69] | rw [if_neg h69]); (try rw [decide_eq_true h4]); (try rw [decide_eq_false h4]); (try rw [decide_eq_true h11]); (try rw [decide_eq_false h11]); (try rw [decide_eq_true h22]); (try rw [decide_eq_false h22]); (try rw [decide_eq_true h35]); (try rw [decide_eq_false h35]); (try rw [decide_eq_true h42]); (try rw [decide_eq_false h42]); (try rw [decide_eq_true h55]); (try rw [decide_eq_false h55]); first | rfl | (simp [kz_ib]; done))⟩)
      · refine kz_aload_n d_Mo_drain_38 rfl rfl ?_
        refine kz_getIp fd_Mo_140 rfl rfl (Or.inl rfl) d_Mo_drain_39 rfl ?_
        refine kz_if_le (tgt := 62) d_Mo_drain_42 (by decide) rfl (fun h42 => ?_) (fun h42 => ?_)
        · refine kz_iconst (v := 0) d_Mo_drain_62 (by decide) rfl ?_
          refine kz_istore_n (i := 2) d_Mo_drain_63 rfl rfl (Nat.le_of_ble_eq_true rfl) rfl ?_
          refine kz_aload_n d_Mo_drain_64 rfl rfl ?_
          refine kz_aload_n d_Mo_drain_65 rfl rfl ?_
          refine kz_getIp fd_Mo_206 rfl rfl (Or.inr rfl) d_Mo_drain_66 rfl ?_
          refine kz_if_eq (tgt := 84) d_Mo_drain_69 (by decide) rfl (fun h69 => ?_) (fun h69 => ?_)
          · refine kz_iload_n d_Mo_drain_84 rfl rfl ?_
            refine kz_putZp fd_Mo_206 rfl rfl (by first | assumption | decide | exact kz_ib_or _) d_Mo_drain_85 rfl ?_
            exact kz_vret rfl d_Mo_drain_88 (⟨rfl, congrArg (fun z => ((kz_u M.1 0 8 z, M.2) : kz_M)) (by unfold rr_drv; (first | rw [if_pos h69] | rw [if_neg h69]); (try rw [decide_eq_true h4]); (try rw [decide_eq_false h4]); (try rw [decide_eq_true h11]); (try rw [decide_eq_false h11]); (try rw [decide_eq_true h22]); (try rw [decide_eq_false h22]); (try rw [decide_eq_true h35]); (try rw [decide_eq_false h35]); (try rw [decide_eq_true h42]); (try rw [decide_eq_false h42]); (try rw [decide_eq_true h55]); (try rw [decide_eq_false h55]); first | rfl | (simp [kz_ib]; done))⟩)
          · refine kz_iload_n d_Mo_drain_72 rfl rfl ?_
            refine kz_if_ne (tgt := 80) d_Mo_drain_73 (by decide) rfl (fun h => absurd h (by decide)) (fun _ => ?_)
            refine kz_iconst (v := 1) d_Mo_drain_76 (by decide) rfl ?_
            refine kz_goto (tgt := 85) d_Mo_drain_77 (by decide) ?_
            refine kz_putZp fd_Mo_206 rfl rfl (by first | assumption | decide | exact kz_ib_or _) d_Mo_drain_85 rfl ?_
            exact kz_vret rfl d_Mo_drain_88 (⟨rfl, congrArg (fun z => ((kz_u M.1 0 8 z, M.2) : kz_M)) (by unfold rr_drv; (first | rw [if_pos h69] | rw [if_neg h69]); (try rw [decide_eq_true h4]); (try rw [decide_eq_false h4]); (try rw [decide_eq_true h11]); (try rw [decide_eq_false h11]); (try rw [decide_eq_true h22]); (try rw [decide_eq_false h22]); (try rw [decide_eq_true h35]); (try rw [decide_eq_false h35]); (try rw [decide_eq_true h42]); (try rw [decide_eq_false h42]); (try rw [decide_eq_true h55]); (try rw [decide_eq_false h55]); first | rfl | (simp [kz_ib]; done))⟩)
        · refine kz_iconst (v := 2) d_Mo_drain_45 (by decide) rfl ?_
          refine kz_aload_n d_Mo_drain_46 rfl rfl ?_
          refine kz_getIp fd_Mo_137 rfl rfl (Or.inl rfl) d_Mo_drain_47 rfl ?_
          refine kz_imul d_Mo_drain_50 rfl ?_
          refine kz_aload_n d_Mo_drain_51 rfl rfl ?_
          refine kz_getIp fd_Mo_86 rfl rfl (Or.inl rfl) d_Mo_drain_52 rfl ?_
          refine kz_icmp_gt (tgt := 62) d_Mo_drain_55 (by decide) rfl (fun h55 => ?_) (fun h55 => ?_)
          · refine kz_iconst (v := 0) d_Mo_drain_62 (by decide) rfl ?_
            refine kz_istore_n (i := 2) d_Mo_drain_63 rfl rfl (Nat.le_of_ble_eq_true rfl) rfl ?_
            refine kz_aload_n d_Mo_drain_64 rfl rfl ?_
            refine kz_aload_n d_Mo_drain_65 rfl rfl ?_
            refine kz_getIp fd_Mo_206 rfl rfl (Or.inr rfl) d_Mo_drain_66 rfl ?_
            refine kz_if_eq (tgt := 84) d_Mo_drain_69 (by decide) rfl (fun h69 => ?_) (fun h69 => ?_)
            · refine kz_iload_n d_Mo_drain_84 rfl rfl ?_
              refine kz_putZp fd_Mo_206 rfl rfl (by first | assumption | decide | exact kz_ib_or _) d_Mo_drain_85 rfl ?_
              exact kz_vret rfl d_Mo_drain_88 (⟨rfl, congrArg (fun z => ((kz_u M.1 0 8 z, M.2) : kz_M)) (by unfold rr_drv; (first | rw [if_pos h69] | rw [if_neg h69]); (try rw [decide_eq_true h4]); (try rw [decide_eq_false h4]); (try rw [decide_eq_true h11]); (try rw [decide_eq_false h11]); (try rw [decide_eq_true h22]); (try rw [decide_eq_false h22]); (try rw [decide_eq_true h35]); (try rw [decide_eq_false h35]); (try rw [decide_eq_true h42]); (try rw [decide_eq_false h42]); (try rw [decide_eq_true h55]); (try rw [decide_eq_false h55]); first | rfl | (simp [kz_ib]; done))⟩)
            · refine kz_iload_n d_Mo_drain_72 rfl rfl ?_
              refine kz_if_ne (tgt := 80) d_Mo_drain_73 (by decide) rfl (fun h => absurd h (by decide)) (fun _ => ?_)
              refine kz_iconst (v := 1) d_Mo_drain_76 (by decide) rfl ?_
              refine kz_goto (tgt := 85) d_Mo_drain_77 (by decide) ?_
              refine kz_putZp fd_Mo_206 rfl rfl (by first | assumption | decide | exact kz_ib_or _) d_Mo_drain_85 rfl ?_
              exact kz_vret rfl d_Mo_drain_88 (⟨rfl, congrArg (fun z => ((kz_u M.1 0 8 z, M.2) : kz_M)) (by unfold rr_drv; (first | rw [if_pos h69] | rw [if_neg h69]); (try rw [decide_eq_true h4]); (try rw [decide_eq_false h4]); (try rw [decide_eq_true h11]); (try rw [decide_eq_false h11]); (try rw [decide_eq_true h22]); (try rw [decide_eq_false h22]); (try rw [decide_eq_true h35]); (try rw [decide_eq_false h35]); (try rw [decide_eq_true h42]); (try rw [decide_eq_false h42]); (try rw [decide_eq_true h55]); (try rw [decide_eq_false h55]); first | rfl | (simp [kz_ib]; done))⟩)
          · refine kz_iconst (v := 1) d_Mo_drain_58 (by decide) rfl ?_
            refine kz_goto (tgt := 63) d_Mo_drain_59 (by decide) ?_
            refine kz_istore_n (i := 2) d_Mo_drain_63 rfl rfl (Nat.le_of_ble_eq_true rfl) rfl ?_
            refine kz_aload_n d_Mo_drain_64 rfl rfl ?_
            refine kz_aload_n d_Mo_drain_65 rfl rfl ?_
            refine kz_getIp fd_Mo_206 rfl rfl (Or.inr rfl) d_Mo_drain_66 rfl ?_
            refine kz_if_eq (tgt := 84) d_Mo_drain_69 (by decide) rfl (fun h69 => ?_) (fun h69 => ?_)
            · refine kz_iload_n d_Mo_drain_84 rfl rfl ?_
              refine kz_putZp fd_Mo_206 rfl rfl (by first | assumption | decide | exact kz_ib_or _) d_Mo_drain_85 rfl ?_
              exact kz_vret rfl d_Mo_drain_88 (⟨rfl, congrArg (fun z => ((kz_u M.1 0 8 z, M.2) : kz_M)) (by unfold rr_drv; (first | rw [if_pos h69] | rw [if_neg h69]); (try rw [decide_eq_true h4]); (try rw [decide_eq_false h4]); (try rw [decide_eq_true h11]); (try rw [decide_eq_false h11]); (try rw [decide_eq_true h22]); (try rw [decide_eq_false h22]); (try rw [decide_eq_true h35]); (try rw [decide_eq_false h35]); (try rw [decide_eq_true h42]); (try rw [decide_eq_false h42]); (try rw [decide_eq_true h55]); (try rw [decide_eq_false h55]); first | rfl | (simp [kz_ib]; done))⟩)
            · refine kz_iload_n d_Mo_drain_72 rfl rfl ?_
              refine kz_if_ne (tgt := 80) d_Mo_drain_73 (by decide) rfl (fun _ => ?_) (fun h => absurd h (by decide))
              refine kz_iconst (v := 0) d_Mo_drain_80 (by decide) rfl ?_
              refine kz_goto (tgt := 85) d_Mo_drain_81 (by decide) ?_
              refine kz_putZp fd_Mo_206 rfl rfl (by first | assumption | decide | exact kz_ib_or _) d_Mo_drain_85 rfl ?_
              exact kz_vret rfl d_Mo_drain_88 (⟨rfl, congrArg (fun z => ((kz_u M.1 0 8 z, M.2) : kz_M)) (by unfold rr_drv; (first | rw [if_pos h69] | rw [if_neg h69]); (try rw [decide_eq_true h4]); (try rw [decide_eq_false h4]); (try rw [decide_eq_true h11]); (try rw [decide_eq_false h11]); (try rw [decide_eq_true h22]); (try rw [decide_eq_false h22]); (try rw [decide_eq_true h35]); (try rw [decide_eq_false h35]); (try rw [decide_eq_true h42]); (try rw [decide_eq_false h42]); (try rw [decide_eq_true h55]); (try rw [decide_eq_false h55]); first | rfl | (simp [kz_ib]; done))⟩)
  · refine kz_aload_n d_Mo_drain_7 rfl rfl ?_
    refine kz_getIp fd_Mo_140 rfl rfl (Or.inl rfl) d_Mo_drain_8 rfl ?_
    refine kz_if_eq (tgt := 25) d_Mo_drain_11 (by decide) rfl (fun h11 => ?_) (fun h11 => ?_)
    · refine kz_iconst (v := 1) d_Mo_drain_25 (by decide) rfl ?_
      refine kz_goto (tgt := 30) d_Mo_drain_26 (by decide) ?_
      refine kz_istore_n (i := 1) d_Mo_drain_30 rfl rfl (Nat.le_of_ble_eq_true rfl) rfl ?_
      refine kz_aload_n d_Mo_drain_31 rfl rfl ?_
      refine kz_getIp fd_Mo_137 rfl rfl (Or.inl rfl) d_Mo_drain_32 rfl ?_
      refine kz_if_eq (tgt := 58) d_Mo_drain_35 (by decide) rfl (fun h35 => ?_) (fun h35 => ?_)
      · refine kz_iconst (v := 1) d_Mo_drain_58 (by decide) rfl ?_
        refine kz_goto (tgt := 63) d_Mo_drain_59 (by decide) ?_
        refine kz_istore_n (i := 2) d_Mo_drain_63 rfl rfl (Nat.le_of_ble_eq_true rfl) rfl ?_
        refine kz_aload_n d_Mo_drain_64 rfl rfl ?_
        refine kz_aload_n d_Mo_drain_65 rfl rfl ?_
        refine kz_getIp fd_Mo_206 rfl rfl (Or.inr rfl) d_Mo_drain_66 rfl ?_
        refine kz_if_eq (tgt := 84) d_Mo_drain_69 (by decide) rfl (fun h69 => ?_) (fun h69 => ?_)
        · refine kz_iload_n d_Mo_drain_84 rfl rfl ?_
          refine kz_putZp fd_Mo_206 rfl rfl (by first | assumption | decide | exact kz_ib_or _) d_Mo_drain_85 rfl ?_
          exact kz_vret rfl d_Mo_drain_88 (⟨rfl, congrArg (fun z => ((kz_u M.1 0 8 z, M.2) : kz_M)) (by unfold rr_drv; (first | rw [if_pos h69] | rw [if_neg h69]); (try rw [decide_eq_true h4]); (try rw [decide_eq_false h4]); (try rw [decide_eq_true h11]); (try rw [decide_eq_false h11]); (try rw [decide_eq_true h22]); (try rw [decide_eq_false h22]); (try rw [decide_eq_true h35]); (try rw [decide_eq_false h35]); (try rw [decide_eq_true h42]); (try rw [decide_eq_false h42]); (try rw [decide_eq_true h55]); (try rw [decide_eq_false h55]); first | rfl | (simp [kz_ib]; done))⟩)
        · refine kz_iload_n d_Mo_drain_72 rfl rfl ?_
          refine kz_if_ne (tgt := 80) d_Mo_drain_73 (by decide) rfl (fun _ => ?_) (fun h => absurd h (by decide))
          refine kz_iconst (v := 0) d_Mo_drain_80 (by decide) rfl ?_
          refine kz_goto (tgt := 85) d_Mo_drain_81 (by decide) ?_
          refine kz_putZp fd_Mo_206 rfl rfl (by first | assumption | decide | exact kz_ib_or _) d_Mo_drain_85 rfl ?_
          exact kz_vret rfl d_Mo_drain_88 (⟨rfl, congrArg (fun z => ((kz_u M.1 0 8 z, M.2) : kz_M)) (by unfold rr_drv; (first | rw [if_pos h69] | rw [if_neg h69]); (try rw [decide_eq_true h4]); (try rw [decide_eq_false h4]); (try rw [decide_eq_true h11]); (try rw [decide_eq_false h11]); (try rw [decide_eq_true h22]); (try rw [decide_eq_false h22]); (try rw [decide_eq_true h35]); (try rw [decide_eq_false h35]); (try rw [decide_eq_true h42]); (try rw [decide_eq_false h42]); (try rw [decide_eq_true h55]); (try rw [decide_eq_false h55]); first | rfl | (simp [kz_ib]; done))⟩)
      · refine kz_aload_n d_Mo_drain_38 rfl rfl ?_
        refine kz_getIp fd_Mo_140 rfl rfl (Or.inl rfl) d_Mo_drain_39 rfl ?_
        refine kz_if_le (tgt := 62) d_Mo_drain_42 (by decide) rfl (fun h42 => ?_) (fun h42 => ?_)
        · refine kz_iconst (v := 0) d_Mo_drain_62 (by decide) rfl ?_
          refine kz_istore_n (i := 2) d_Mo_drain_63 rfl rfl (Nat.le_of_ble_eq_true rfl) rfl ?_
          refine kz_aload_n d_Mo_drain_64 rfl rfl ?_
          refine kz_aload_n d_Mo_drain_65 rfl rfl ?_
          refine kz_getIp fd_Mo_206 rfl rfl (Or.inr rfl) d_Mo_drain_66 rfl ?_
          refine kz_if_eq (tgt := 84) d_Mo_drain_69 (by decide) rfl (fun h69 => ?_) (fun h69 => ?_)
          · refine kz_iload_n d_Mo_drain_84 rfl rfl ?_
            refine kz_putZp fd_Mo_206 rfl rfl (by first | assumption | decide | exact kz_ib_or _) d_Mo_drain_85 rfl ?_
            exact kz_vret rfl d_Mo_drain_88 (⟨rfl, congrArg (fun z => ((kz_u M.1 0 8 z, M.2) : kz_M)) (by unfold rr_drv; (first | rw [if_pos h69] | rw [if_neg h69]); (try rw [decide_eq_true h4]); (try rw [decide_eq_false h4]); (try rw [decide_eq_true h11]); (try rw [decide_eq_false h11]); (try rw [decide_eq_true h22]); (try rw [decide_eq_false h22]); (try rw [decide_eq_true h35]); (try rw [decide_eq_false h35]); (try rw [decide_eq_true h42]); (try rw [decide_eq_false h42]); (try rw [decide_eq_true h55]); (try rw [decide_eq_false h55]); first | rfl | (simp [kz_ib]; done))⟩)
          · refine kz_iload_n d_Mo_drain_72 rfl rfl ?_
            refine kz_if_ne (tgt := 80) d_Mo_drain_73 (by decide) rfl (fun h => absurd h (by decide)) (fun _ => ?_)
            refine kz_iconst (v := 1) d_Mo_drain_76 (by decide) rfl ?_
            refine kz_goto (tgt := 85) d_Mo_drain_77 (by decide) ?_
            refine kz_putZp fd_Mo_206 rfl rfl (by first | assumption | decide | exact kz_ib_or _) d_Mo_drain_85 rfl ?_
            exact kz_vret rfl d_Mo_drain_88 (⟨rfl, congrArg (fun z => ((kz_u M.1 0 8 z, M.2) : kz_M)) (by unfold rr_drv; (first | rw [if_pos h69] | rw [if_neg h69]); (try rw [decide_eq_true h4]); (try rw [decide_eq_false h4]); (try rw [decide_eq_true h11]); (try rw [decide_eq_false h11]); (try rw [decide_eq_true h22]); (try rw [decide_eq_false h22]); (try rw [decide_eq_true h35]); (try rw [decide_eq_false h35]); (try rw [decide_eq_true h42]); (try rw [decide_eq_false h42]); (try rw [decide_eq_true h55]); (try rw [decide_eq_false h55]); first | rfl | (simp [kz_ib]; done))⟩)
        · refine kz_iconst (v := 2) d_Mo_drain_45 (by decide) rfl ?_
          refine kz_aload_n d_Mo_drain_46 rfl rfl ?_
          refine kz_getIp fd_Mo_137 rfl rfl (Or.inl rfl) d_Mo_drain_47 rfl ?_
          refine kz_imul d_Mo_drain_50 rfl ?_
          refine kz_aload_n d_Mo_drain_51 rfl rfl ?_
          refine kz_getIp fd_Mo_86 rfl rfl (Or.inl rfl) d_Mo_drain_52 rfl ?_
          refine kz_icmp_gt (tgt := 62) d_Mo_drain_55 (by decide) rfl (fun h55 => ?_) (fun h55 => ?_)
          · refine kz_iconst (v := 0) d_Mo_drain_62 (by decide) rfl ?_
            refine kz_istore_n (i := 2) d_Mo_drain_63 rfl rfl (Nat.le_of_ble_eq_true rfl) rfl ?_
            refine kz_aload_n d_Mo_drain_64 rfl rfl ?_
            refine kz_aload_n d_Mo_drain_65 rfl rfl ?_
            refine kz_getIp fd_Mo_206 rfl rfl (Or.inr rfl) d_Mo_drain_66 rfl ?_
            refine kz_if_eq (tgt := 84) d_Mo_drain_69 (by decide) rfl (fun h69 => ?_) (fun h69 => ?_)
            · refine kz_iload_n d_Mo_drain_84 rfl rfl ?_
              refine kz_putZp fd_Mo_206 rfl rfl (by first | assumption | decide | exact kz_ib_or _) d_Mo_drain_85 rfl ?_
              exact kz_vret rfl d_Mo_drain_88 (⟨rfl, congrArg (fun z => ((kz_u M.1 0 8 z, M.2) : kz_M)) (by unfold rr_drv; (first | rw [if_pos h69] | rw [if_neg h69]); (try rw [decide_eq_true h4]); (try rw [decide_eq_false h4]); (try rw [decide_eq_true h11]); (try rw [decide_eq_false h11]); (try rw [decide_eq_true h22]); (try rw [decide_eq_false h22]); (try rw [decide_eq_true h35]); (try rw [decide_eq_false h35]); (try rw [decide_eq_true h42]); (try rw [decide_eq_false h42]); (try rw [decide_eq_true h55]); (try rw [decide_eq_false h55]); first | rfl | (simp [kz_ib]; done))⟩)
            · refine kz_iload_n d_Mo_drain_72 rfl rfl ?_
              refine kz_if_ne (tgt := 80) d_Mo_drain_73 (by decide) rfl (fun h => absurd h (by decide)) (fun _ => ?_)
              refine kz_iconst (v := 1) d_Mo_drain_76 (by decide) rfl ?_
              refine kz_goto (tgt := 85) d_Mo_drain_77 (by decide) ?_
              refine kz_putZp fd_Mo_206 rfl rfl (by first | assumption | decide | exact kz_ib_or _) d_Mo_drain_85 rfl ?_
              exact kz_vret rfl d_Mo_drain_88 (⟨rfl, congrArg (fun z => ((kz_u M.1 0 8 z, M.2) : kz_M)) (by unfold rr_drv; (first | rw [if_pos h69] | rw [if_neg h69]); (try rw [decide_eq_true h4]); (try rw [decide_eq_false h4]); (try rw [decide_eq_true h11]); (try rw [decide_eq_false h11]); (try rw [decide_eq_true h22]); (try rw [decide_eq_false h22]); (try rw [decide_eq_true h35]); (try rw [decide_eq_false h35]); (try rw [decide_eq_true h42]); (try rw [decide_eq_false h42]); (try rw [decide_eq_true h55]); (try rw [decide_eq_false h55]); first | rfl | (simp [kz_ib]; done))⟩)
          · refine kz_iconst (v := 1) d_Mo_drain_58 (by decide) rfl ?_
            refine kz_goto (tgt := 63) d_Mo_drain_59 (by decide) ?_
            refine kz_istore_n (i := 2) d_Mo_drain_63 rfl rfl (Nat.le_of_ble_eq_true rfl) rfl ?_
            refine kz_aload_n d_Mo_drain_64 rfl rfl ?_
            refine kz_aload_n d_Mo_drain_65 rfl rfl ?_
            refine kz_getIp fd_Mo_206 rfl rfl (Or.inr rfl) d_Mo_drain_66 rfl ?_
            refine kz_if_eq (tgt := 84) d_Mo_drain_69 (by decide) rfl (fun h69 => ?_) (fun h69 => ?_)
            · refine kz_iload_n d_Mo_drain_84 rfl rfl ?_
              refine kz_putZp fd_Mo_206 rfl rfl (by first | assumption | decide | exact kz_ib_or _) d_Mo_drain_85 rfl ?_
              exact kz_vret rfl d_Mo_drain_88 (⟨rfl, congrArg (fun z => ((kz_u M.1 0 8 z, M.2) : kz_M)) (by unfold rr_drv; (first | rw [if_pos h69] | rw [if_neg h69]); (try rw [decide_eq_true h4]); (try rw [decide_eq_false h4]); (try rw [decide_eq_true h11]); (try rw [decide_eq_false h11]); (try rw [decide_eq_true h22]); (try rw [decide_eq_false h22]); (try rw [decide_eq_true h35]); (try rw [decide_eq_false h35]); (try rw [decide_eq_true h42]); (try rw [decide_eq_false h42]); (try rw [decide_eq_true h55]); (try rw [decide_eq_false h55]); first | rfl | (simp [kz_ib]; done))⟩)
            · refine kz_iload_n d_Mo_drain_72 rfl rfl ?_
              refine kz_if_ne (tgt := 80) d_Mo_drain_73 (by decide) rfl (fun _ => ?_) (fun h => absurd h (by decide))
              refine kz_iconst (v := 0) d_Mo_drain_80 (by decide) rfl ?_
              refine kz_goto (tgt := 85) d_Mo_drain_81 (by decide) ?_
              refine kz_putZp fd_Mo_206 rfl rfl (by first | assumption | decide | exact kz_ib_or _) d_Mo_drain_85 rfl ?_
              exact kz_vret rfl d_Mo_drain_88 (⟨rfl, congrArg (fun z => ((kz_u M.1 0 8 z, M.2) : kz_M)) (by unfold rr_drv; (first | rw [if_pos h69] | rw [if_neg h69]); (try rw [decide_eq_true h4]); (try rw [decide_eq_false h4]); (try rw [decide_eq_true h11]); (try rw [decide_eq_false h11]); (try rw [decide_eq_true h22]); (try rw [decide_eq_false h22]); (try rw [decide_eq_true h35]); (try rw [decide_eq_false h35]); (try rw [decide_eq_true h42]); (try rw [decide_eq_false h42]); (try rw [decide_eq_true h55]); (try rw [decide_eq_false h55]); first | rfl | (simp [kz_ib]; done))⟩)
    · refine kz_aload_n d_Mo_drain_14 rfl rfl ?_
      refine kz_getIp fd_Mo_137 rfl rfl (Or.inl rfl) d_Mo_drain_15 rfl ?_
      refine kz_aload_n d_Mo_drain_18 rfl rfl ?_
      refine kz_getIp fd_Mo_86 rfl rfl (Or.inl rfl) d_Mo_drain_19 rfl ?_
      refine kz_icmp_ne (tgt := 29) d_Mo_drain_22 (by decide) rfl (fun h22 => ?_) (fun h22 => ?_)
      · refine kz_iconst (v := 0) d_Mo_drain_29 (by decide) rfl ?_
        refine kz_istore_n (i := 1) d_Mo_drain_30 rfl rfl (Nat.le_of_ble_eq_true rfl) rfl ?_
        refine kz_aload_n d_Mo_drain_31 rfl rfl ?_
        refine kz_getIp fd_Mo_137 rfl rfl (Or.inl rfl) d_Mo_drain_32 rfl ?_
        refine kz_if_eq (tgt := 58) d_Mo_drain_35 (by decide) rfl (fun h35 => ?_) (fun h35 => ?_)
        · refine kz_iconst (v := 1) d_Mo_drain_58 (by decide) rfl ?_
          refine kz_goto (tgt := 63) d_Mo_drain_59 (by decide) ?_
          refine kz_istore_n (i := 2) d_Mo_drain_63 rfl rfl (Nat.le_of_ble_eq_true rfl) rfl ?_
          refine kz_aload_n d_Mo_drain_64 rfl rfl ?_
          refine kz_aload_n d_Mo_drain_65 rfl rfl ?_
          refine kz_getIp fd_Mo_206 rfl rfl (Or.inr rfl) d_Mo_drain_66 rfl ?_
          refine kz_if_eq (tgt := 84) d_Mo_drain_69 (by decide) rfl (fun h69 => ?_) (fun h69 => ?_)
          · refine kz_iload_n d_Mo_drain_84 rfl rfl ?_
            refine kz_putZp fd_Mo_206 rfl rfl (by first | assumption | decide | exact kz_ib_or _) d_Mo_drain_85 rfl ?_
            exact kz_vret rfl d_Mo_drain_88 (⟨rfl, congrArg (fun z => ((kz_u M.1 0 8 z, M.2) : kz_M)) (by unfold rr_drv; (first | rw [if_pos h69] | rw [if_neg h69]); (try rw [decide_eq_true h4]); (try rw [decide_eq_false h4]); (try rw [decide_eq_true h11]); (try rw [decide_eq_false h11]); (try rw [decide_eq_true h22]); (try rw [decide_eq_false h22]); (try rw [decide_eq_true h35]); (try rw [decide_eq_false h35]); (try rw [decide_eq_true h42]); (try rw [decide_eq_false h42]); (try rw [decide_eq_true h55]); (try rw [decide_eq_false h55]); first | rfl | (simp [kz_ib]; done))⟩)
          · refine kz_iload_n d_Mo_drain_72 rfl rfl ?_
            refine kz_if_ne (tgt := 80) d_Mo_drain_73 (by decide) rfl (fun _ => ?_) (fun h => absurd h (by decide))
            refine kz_iconst (v := 0) d_Mo_drain_80 (by decide) rfl ?_
            refine kz_goto (tgt := 85) d_Mo_drain_81 (by decide) ?_
            refine kz_putZp fd_Mo_206 rfl rfl (by first | assumption | decide | exact kz_ib_or _) d_Mo_drain_85 rfl ?_
            exact kz_vret rfl d_Mo_drain_88 (⟨rfl, congrArg (fun z => ((kz_u M.1 0 8 z, M.2) : kz_M)) (by unfold rr_drv; (first | rw [if_pos h69] | rw [if_neg h69]); (try rw [decide_eq_true h4]); (try rw [decide_eq_false h4]); (try rw [decide_eq_true h11]); (try rw [decide_eq_false h11]); (try rw [decide_eq_true h22]); (try rw [decide_eq_false h22]); (try rw [decide_eq_true h35]); (try rw [decide_eq_false h35]); (try rw [decide_eq_true h42]); (try rw [decide_eq_false h42]); (try rw [decide_eq_true h55]); (try rw [decide_eq_false h55]); first | rfl | (simp [kz_ib]; done))⟩)
        · refine kz_aload_n d_Mo_drain_38 rfl rfl ?_
          refine kz_getIp fd_Mo_140 rfl rfl (Or.inl rfl) d_Mo_drain_39 rfl ?_
          refine kz_if_le (tgt := 62) d_Mo_drain_42 (by decide) rfl (fun h42 => ?_) (fun h42 => ?_)
          · refine kz_iconst (v := 0) d_Mo_drain_62 (by decide) rfl ?_
            refine kz_istore_n (i := 2) d_Mo_drain_63 rfl rfl (Nat.le_of_ble_eq_true rfl) rfl ?_
            refine kz_aload_n d_Mo_drain_64 rfl rfl ?_
            refine kz_aload_n d_Mo_drain_65 rfl rfl ?_
            refine kz_getIp fd_Mo_206 rfl rfl (Or.inr rfl) d_Mo_drain_66 rfl ?_
            refine kz_if_eq (tgt := 84) d_Mo_drain_69 (by decide) rfl (fun h69 => ?_) (fun h69 => ?_)
            · refine kz_iload_n d_Mo_drain_84 rfl rfl ?_
              refine kz_putZp fd_Mo_206 rfl rfl (by first | assumption | decide | exact kz_ib_or _) d_Mo_drain_85 rfl ?_
              exact kz_vret rfl d_Mo_drain_88 (⟨rfl, congrArg (fun z => ((kz_u M.1 0 8 z, M.2) : kz_M)) (by unfold rr_drv; (first | rw [if_pos h69] | rw [if_neg h69]); (try rw [decide_eq_true h4]); (try rw [decide_eq_false h4]); (try rw [decide_eq_true h11]); (try rw [decide_eq_false h11]); (try rw [decide_eq_true h22]); (try rw [decide_eq_false h22]); (try rw [decide_eq_true h35]); (try rw [decide_eq_false h35]); (try rw [decide_eq_true h42]); (try rw [decide_eq_false h42]); (try rw [decide_eq_true h55]); (try rw [decide_eq_false h55]); first | rfl | (simp [kz_ib]; done))⟩)
            · refine kz_iload_n d_Mo_drain_72 rfl rfl ?_
              refine kz_if_ne (tgt := 80) d_Mo_drain_73 (by decide) rfl (fun h => absurd h (by decide)) (fun _ => ?_)
              refine kz_iconst (v := 1) d_Mo_drain_76 (by decide) rfl ?_
              refine kz_goto (tgt := 85) d_Mo_drain_77 (by decide) ?_
              refine kz_putZp fd_Mo_206 rfl rfl (by first | assumption | decide | exact kz_ib_or _) d_Mo_drain_85 rfl ?_
              exact kz_vret rfl d_Mo_drain_88 (⟨rfl, congrArg (fun z => ((kz_u M.1 0 8 z, M.2) : kz_M)) (by unfold rr_drv; (first | rw [if_pos h69] | rw [if_neg h69]); (try rw [decide_eq_true h4]); (try rw [decide_eq_false h4]); (try rw [decide_eq_true h11]); (try rw [decide_eq_false h11]); (try rw [decide_eq_true h22]); (try rw [decide_eq_false h22]); (try rw [decide_eq_true h35]); (try rw [decide_eq_false h35]); (try rw [decide_eq_true h42]); (try rw [decide_eq_false h42]); (try rw [decide_eq_true h55]); (try rw [decide_eq_false h55]); first | rfl | (simp [kz_ib]; done))⟩)
          · refine kz_iconst (v := 2) d_Mo_drain_45 (by decide) rfl ?_
            refine kz_aload_n d_Mo_drain_46 rfl rfl ?_
            refine kz_getIp fd_Mo_137 rfl rfl (Or.inl rfl) d_Mo_drain_47 rfl ?_
            refine kz_imul d_Mo_drain_50 rfl ?_
            refine kz_aload_n d_Mo_drain_51 rfl rfl ?_
            refine kz_getIp fd_Mo_86 rfl rfl (Or.inl rfl) d_Mo_drain_52 rfl ?_
            refine kz_icmp_gt (tgt := 62) d_Mo_drain_55 (by decide) rfl (fun h55 => ?_) (fun h55 => ?_)
            · refine kz_iconst (v := 0) d_Mo_drain_62 (by decide) rfl ?_
              refine kz_istore_n (i := 2) d_Mo_drain_63 rfl rfl (Nat.le_of_ble_eq_true rfl) rfl ?_
              refine kz_aload_n d_Mo_drain_64 rfl rfl ?_
              refine kz_aload_n d_Mo_drain_65 rfl rfl ?_
              refine kz_getIp fd_Mo_206 rfl rfl (Or.inr rfl) d_Mo_drain_66 rfl ?_
              refine kz_if_eq (tgt := 84) d_Mo_drain_69 (by decide) rfl (fun h69 => ?_) (fun h69 => ?_)
              · refine kz_iload_n d_Mo_drain_84 rfl rfl ?_
                refine kz_putZp fd_Mo_206 rfl rfl (by first | assumption | decide | exact kz_ib_or _) d_Mo_drain_85 rfl ?_
                exact kz_vret rfl d_Mo_drain_88 (⟨rfl, congrArg (fun z => ((kz_u M.1 0 8 z, M.2) : kz_M)) (by unfold rr_drv; (first | rw [if_pos h69] | rw [if_neg h69]); (try rw [decide_eq_true h4]); (try rw [decide_eq_false h4]); (try rw [decide_eq_true h11]); (try rw [decide_eq_false h11]); (try rw [decide_eq_true h22]); (try rw [decide_eq_false h22]); (try rw [decide_eq_true h35]); (try rw [decide_eq_false h35]); (try rw [decide_eq_true h42]); (try rw [decide_eq_false h42]); (try rw [decide_eq_true h55]); (try rw [decide_eq_false h55]); first | rfl | (simp [kz_ib]; done))⟩)
              · refine kz_iload_n d_Mo_drain_72 rfl rfl ?_
                refine kz_if_ne (tgt := 80) d_Mo_drain_73 (by decide) rfl (fun h => absurd h (by decide)) (fun _ => ?_)
                refine kz_iconst (v := 1) d_Mo_drain_76 (by decide) rfl ?_
                refine kz_goto (tgt := 85) d_Mo_drain_77 (by decide) ?_
                refine kz_putZp fd_Mo_206 rfl rfl (by first | assumption | decide | exact kz_ib_or _) d_Mo_drain_85 rfl ?_
                exact kz_vret rfl d_Mo_drain_88 (⟨rfl, congrArg (fun z => ((kz_u M.1 0 8 z, M.2) : kz_M)) (by unfold rr_drv; (first | rw [if_pos h69] | rw [if_neg h69]); (try rw [decide_eq_true h4]); (try rw [decide_eq_false h4]); (try rw [decide_eq_true h11]); (try rw [decide_eq_false h11]); (try rw [decide_eq_true h22]); (try rw [decide_eq_false h22]); (try rw [decide_eq_true h35]); (try rw [decide_eq_false h35]); (try rw [decide_eq_true h42]); (try rw [decide_eq_false h42]); (try rw [decide_eq_true h55]); (try rw [decide_eq_false h55]); first | rfl | (simp [kz_ib]; done))⟩)
            · refine kz_iconst (v := 1) d_Mo_drain_58 (by decide) rfl ?_
              refine kz_goto (tgt := 63) d_Mo_drain_59 (by decide) ?_
              refine kz_istore_n (i := 2) d_Mo_drain_63 rfl rfl (Nat.le_of_ble_eq_true rfl) rfl ?_
              refine kz_aload_n d_Mo_drain_64 rfl rfl ?_
              refine kz_aload_n d_Mo_drain_65 rfl rfl ?_
              refine kz_getIp fd_Mo_206 rfl rfl (Or.inr rfl) d_Mo_drain_66 rfl ?_
              refine kz_if_eq (tgt := 84) d_Mo_drain_69 (by decide) rfl (fun h69 => ?_) (fun h69 => ?_)
              · refine kz_iload_n d_Mo_drain_84 rfl rfl ?_
                refine kz_putZp fd_Mo_206 rfl rfl (by first | assumption | decide | exact kz_ib_or _) d_Mo_drain_85 rfl ?_
                exact kz_vret rfl d_Mo_drain_88 (⟨rfl, congrArg (fun z => ((kz_u M.1 0 8 z, M.2) : kz_M)) (by unfold rr_drv; (first | rw [if_pos h69] | rw [if_neg h69]); (try rw [decide_eq_true h4]); (try rw [decide_eq_false h4]); (try rw [decide_eq_true h11]); (try rw [decide_eq_false h11]); (try rw [decide_eq_true h22]); (try rw [decide_eq_false h22]); (try rw [decide_eq_true h35]); (try rw [decide_eq_false h35]); (try rw [decide_eq_true h42]); (try rw [decide_eq_false h42]); (try rw [decide_eq_true h55]); (try rw [decide_eq_false h55]); first | rfl | (simp [kz_ib]; done))⟩)
              · refine kz_iload_n d_Mo_drain_72 rfl rfl ?_
                refine kz_if_ne (tgt := 80) d_Mo_drain_73 (by decide) rfl (fun _ => ?_) (fun h => absurd h (by decide))
                refine kz_iconst (v := 0) d_Mo_drain_80 (by decide) rfl ?_
                refine kz_goto (tgt := 85) d_Mo_drain_81 (by decide) ?_
                refine kz_putZp fd_Mo_206 rfl rfl (by first | assumption | decide | exact kz_ib_or _) d_Mo_drain_85 rfl ?_
                exact kz_vret rfl d_Mo_drain_88 (⟨rfl, congrArg (fun z => ((kz_u M.1 0 8 z, M.2) : kz_M)) (by unfold rr_drv; (first | rw [if_pos h69] | rw [if_neg h69]); (try rw [decide_eq_true h4]); (try rw [decide_eq_false h4]); (try rw [decide_eq_true h11]); (try rw [decide_eq_false h11]); (try rw [decide_eq_true h22]); (try rw [decide_eq_false h22]); (try rw [decide_eq_true h35]); (try rw [decide_eq_false h35]); (try rw [decide_eq_true h42]); (try rw [decide_eq_false h42]); (try rw [decide_eq_true h55]); (try rw [decide_eq_false h55]); first | rfl | (simp [kz_ib]; done))⟩)
      · refine kz_iconst (v := 1) d_Mo_drain_25 (by decide) rfl ?_
        refine kz_goto (tgt := 30) d_Mo_drain_26 (by decide) ?_
        refine kz_istore_n (i := 1) d_Mo_drain_30 rfl rfl (Nat.le_of_ble_eq_true rfl) rfl ?_
        refine kz_aload_n d_Mo_drain_31 rfl rfl ?_
        refine kz_getIp fd_Mo_137 rfl rfl (Or.inl rfl) d_Mo_drain_32 rfl ?_
        refine kz_if_eq (tgt := 58) d_Mo_drain_35 (by decide) rfl (fun h35 => ?_) (fun h35 => ?_)
        · refine kz_iconst (v := 1) d_Mo_drain_58 (by decide) rfl ?_
          refine kz_goto (tgt := 63) d_Mo_drain_59 (by decide) ?_
          refine kz_istore_n (i := 2) d_Mo_drain_63 rfl rfl (Nat.le_of_ble_eq_true rfl) rfl ?_
          refine kz_aload_n d_Mo_drain_64 rfl rfl ?_
          refine kz_aload_n d_Mo_drain_65 rfl rfl ?_
          refine kz_getIp fd_Mo_206 rfl rfl (Or.inr rfl) d_Mo_drain_66 rfl ?_
          refine kz_if_eq (tgt := 84) d_Mo_drain_69 (by decide) rfl (fun h69 => ?_) (fun h69 => ?_)
          · refine kz_iload_n d_Mo_drain_84 rfl rfl ?_
            refine kz_putZp fd_Mo_206 rfl rfl (by first | assumption | decide | exact kz_ib_or _) d_Mo_drain_85 rfl ?_
            exact kz_vret rfl d_Mo_drain_88 (⟨rfl, congrArg (fun z => ((kz_u M.1 0 8 z, M.2) : kz_M)) (by unfold rr_drv; (first | rw [if_pos h69] | rw [if_neg h69]); (try rw [decide_eq_true h4]); (try rw [decide_eq_false h4]); (try rw [decide_eq_true h11]); (try rw [decide_eq_false h11]); (try rw [decide_eq_true h22]); (try rw [decide_eq_false h22]); (try rw [decide_eq_true h35]); (try rw [decide_eq_false h35]); (try rw [decide_eq_true h42]); (try rw [decide_eq_false h42]); (try rw [decide_eq_true h55]); (try rw [decide_eq_false h55]); first | rfl | (simp [kz_ib]; done))⟩)
          · refine kz_iload_n d_Mo_drain_72 rfl rfl ?_
            refine kz_if_ne (tgt := 80) d_Mo_drain_73 (by decide) rfl (fun _ => ?_) (fun h => absurd h (by decide))
            refine kz_iconst (v := 0) d_Mo_drain_80 (by decide) rfl ?_
            refine kz_goto (tgt := 85) d_Mo_drain_81 (by decide) ?_
            refine kz_putZp fd_Mo_206 rfl rfl (by first | assumption | decide | exact kz_ib_or _) d_Mo_drain_85 rfl ?_
            exact kz_vret rfl d_Mo_drain_88 (⟨rfl, congrArg (fun z => ((kz_u M.1 0 8 z, M.2) : kz_M)) (by unfold rr_drv; (first | rw [if_pos h69] | rw [if_neg h69]); (try rw [decide_eq_true h4]); (try rw [decide_eq_false h4]); (try rw [decide_eq_true h11]); (try rw [decide_eq_false h11]); (try rw [decide_eq_true h22]); (try rw [decide_eq_false h22]); (try rw [decide_eq_true h35]); (try rw [decide_eq_false h35]); (try rw [decide_eq_true h42]); (try rw [decide_eq_false h42]); (try rw [decide_eq_true h55]); (try rw [decide_eq_false h55]); first | rfl | (simp [kz_ib]; done))⟩)
        · refine kz_aload_n d_Mo_drain_38 rfl rfl ?_
          refine kz_getIp fd_Mo_140 rfl rfl (Or.inl rfl) d_Mo_drain_39 rfl ?_
          refine kz_if_le (tgt := 62) d_Mo_drain_42 (by decide) rfl (fun h42 => ?_) (fun h42 => ?_)
          · refine kz_iconst (v := 0) d_Mo_drain_62 (by decide) rfl ?_
            refine kz_istore_n (i := 2) d_Mo_drain_63 rfl rfl (Nat.le_of_ble_eq_true rfl) rfl ?_
            refine kz_aload_n d_Mo_drain_64 rfl rfl ?_
            refine kz_aload_n d_Mo_drain_65 rfl rfl ?_
            refine kz_getIp fd_Mo_206 rfl rfl (Or.inr rfl) d_Mo_drain_66 rfl ?_
            refine kz_if_eq (tgt := 84) d_Mo_drain_69 (by decide) rfl (fun h69 => ?_) (fun h69 => ?_)
            · refine kz_iload_n d_Mo_drain_84 rfl rfl ?_
              refine kz_putZp fd_Mo_206 rfl rfl (by first | assumption | decide | exact kz_ib_or _) d_Mo_drain_85 rfl ?_
              exact kz_vret rfl d_Mo_drain_88 (⟨rfl, congrArg (fun z => ((kz_u M.1 0 8 z, M.2) : kz_M)) (by unfold rr_drv; (first | rw [if_pos h69] | rw [if_neg h69]); (try rw [decide_eq_true h4]); (try rw [decide_eq_false h4]); (try rw [decide_eq_true h11]); (try rw [decide_eq_false h11]); (try rw [decide_eq_true h22]); (try rw [decide_eq_false h22]); (try rw [decide_eq_true h35]); (try rw [decide_eq_false h35]); (try rw [decide_eq_true h42]); (try rw [decide_eq_false h42]); (try rw [decide_eq_true h55]); (try rw [decide_eq_false h55]); first | rfl | (simp [kz_ib]; done))⟩)
            · refine kz_iload_n d_Mo_drain_72 rfl rfl ?_
              refine kz_if_ne (tgt := 80) d_Mo_drain_73 (by decide) rfl (fun h => absurd h (by decide)) (fun _ => ?_)
              refine kz_iconst (v := 1) d_Mo_drain_76 (by decide) rfl ?_
              refine kz_goto (tgt := 85) d_Mo_drain_77 (by decide) ?_
              refine kz_putZp fd_Mo_206 rfl rfl (by first | assumption | decide | exact kz_ib_or _) d_Mo_drain_85 rfl ?_
              exact kz_vret rfl d_Mo_drain_88 (⟨rfl, congrArg (fun z => ((kz_u M.1 0 8 z, M.2) : kz_M)) (by unfold rr_drv; (first | rw [if_pos h69] | rw [if_neg h69]); (try rw [decide_eq_true h4]); (try rw [decide_eq_false h4]); (try rw [decide_eq_true h11]); (try rw [decide_eq_false h11]); (try rw [decide_eq_true h22]); (try rw [decide_eq_false h22]); (try rw [decide_eq_true h35]); (try rw [decide_eq_false h35]); (try rw [decide_eq_true h42]); (try rw [decide_eq_false h42]); (try rw [decide_eq_true h55]); (try rw [decide_eq_false h55]); first | rfl | (simp [kz_ib]; done))⟩)
          · refine kz_iconst (v := 2) d_Mo_drain_45 (by decide) rfl ?_
            refine kz_aload_n d_Mo_drain_46 rfl rfl ?_
            refine kz_getIp fd_Mo_137 rfl rfl (Or.inl rfl) d_Mo_drain_47 rfl ?_
            refine kz_imul d_Mo_drain_50 rfl ?_
            refine kz_aload_n d_Mo_drain_51 rfl rfl ?_
            refine kz_getIp fd_Mo_86 rfl rfl (Or.inl rfl) d_Mo_drain_52 rfl ?_
            refine kz_icmp_gt (tgt := 62) d_Mo_drain_55 (by decide) rfl (fun h55 => ?_) (fun h55 => ?_)
            · refine kz_iconst (v := 0) d_Mo_drain_62 (by decide) rfl ?_
              refine kz_istore_n (i := 2) d_Mo_drain_63 rfl rfl (Nat.le_of_ble_eq_true rfl) rfl ?_
              refine kz_aload_n d_Mo_drain_64 rfl rfl ?_
              refine kz_aload_n d_Mo_drain_65 rfl rfl ?_
              refine kz_getIp fd_Mo_206 rfl rfl (Or.inr rfl) d_Mo_drain_66 rfl ?_
              refine kz_if_eq (tgt := 84) d_Mo_drain_69 (by decide) rfl (fun h69 => ?_) (fun h69 => ?_)
              · refine kz_iload_n d_Mo_drain_84 rfl rfl ?_
                refine kz_putZp fd_Mo_206 rfl rfl (by first | assumption | decide | exact kz_ib_or _) d_Mo_drain_85 rfl ?_
                exact kz_vret rfl d_Mo_drain_88 (⟨rfl, congrArg (fun z => ((kz_u M.1 0 8 z, M.2) : kz_M)) (by unfold rr_drv; (first | rw [if_pos h69] | rw [if_neg h69]); (try rw [decide_eq_true h4]); (try rw [decide_eq_false h4]); (try rw [decide_eq_true h11]); (try rw [decide_eq_false h11]); (try rw [decide_eq_true h22]); (try rw [decide_eq_false h22]); (try rw [decide_eq_true h35]); (try rw [decide_eq_false h35]); (try rw [decide_eq_true h42]); (try rw [decide_eq_false h42]); (try rw [decide_eq_true h55]); (try rw [decide_eq_false h55]); first | rfl | (simp [kz_ib]; done))⟩)
              · refine kz_iload_n d_Mo_drain_72 rfl rfl ?_
                refine kz_if_ne (tgt := 80) d_Mo_drain_73 (by decide) rfl (fun h => absurd h (by decide)) (fun _ => ?_)
                refine kz_iconst (v := 1) d_Mo_drain_76 (by decide) rfl ?_
                refine kz_goto (tgt := 85) d_Mo_drain_77 (by decide) ?_
                refine kz_putZp fd_Mo_206 rfl rfl (by first | assumption | decide | exact kz_ib_or _) d_Mo_drain_85 rfl ?_
                exact kz_vret rfl d_Mo_drain_88 (⟨rfl, congrArg (fun z => ((kz_u M.1 0 8 z, M.2) : kz_M)) (by unfold rr_drv; (first | rw [if_pos h69] | rw [if_neg h69]); (try rw [decide_eq_true h4]); (try rw [decide_eq_false h4]); (try rw [decide_eq_true h11]); (try rw [decide_eq_false h11]); (try rw [decide_eq_true h22]); (try rw [decide_eq_false h22]); (try rw [decide_eq_true h35]); (try rw [decide_eq_false h35]); (try rw [decide_eq_true h42]); (try rw [decide_eq_false h42]); (try rw [decide_eq_true h55]); (try rw [decide_eq_false h55]); first | rfl | (simp [kz_ib]; done))⟩)
            · refine kz_iconst (v := 1) d_Mo_drain_58 (by decide) rfl ?_
              refine kz_goto (tgt := 63) d_Mo_drain_59 (by decide) ?_
              refine kz_istore_n (i := 2) d_Mo_drain_63 rfl rfl (Nat.le_of_ble_eq_true rfl) rfl ?_
              refine kz_aload_n d_Mo_drain_64 rfl rfl ?_
              refine kz_aload_n d_Mo_drain_65 rfl rfl ?_
              refine kz_getIp fd_Mo_206 rfl rfl (Or.inr rfl) d_Mo_drain_66 rfl ?_
              refine kz_if_eq (tgt := 84) d_Mo_drain_69 (by decide) rfl (fun h69 => ?_) (fun h69 => ?_)
              · refine kz_iload_n d_Mo_drain_84 rfl rfl ?_
                refine kz_putZp fd_Mo_206 rfl rfl (by first | assumption | decide | exact kz_ib_or _) d_Mo_drain_85 rfl ?_
                exact kz_vret rfl d_Mo_drain_88 (⟨rfl, congrArg (fun z => ((kz_u M.1 0 8 z, M.2) : kz_M)) (by unfold rr_drv; (first | rw [if_pos h69] | rw [if_neg h69]); (try rw [decide_eq_true h4]); (try rw [decide_eq_false h4]); (try rw [decide_eq_true h11]); (try rw [decide_eq_false h11]); (try rw [decide_eq_true h22]); (try rw [decide_eq_false h22]); (try rw [decide_eq_true h35]); (try rw [decide_eq_false h35]); (try rw [decide_eq_true h42]); (try rw [decide_eq_false h42]); (try rw [decide_eq_true h55]); (try rw [decide_eq_false h55]); first | rfl | (simp [kz_ib]; done))⟩)
              · refine kz_iload_n d_Mo_drain_72 rfl rfl ?_
                refine kz_if_ne (tgt := 80) d_Mo_drain_73 (by decide) rfl (fun _ => ?_) (fun h => absurd h (by decide))
                refine kz_iconst (v := 0) d_Mo_drain_80 (by decide) rfl ?_
                refine kz_goto (tgt := 85) d_Mo_drain_81 (by decide) ?_
                refine kz_putZp fd_Mo_206 rfl rfl (by first | assumption | decide | exact kz_ib_or _) d_Mo_drain_85 rfl ?_
                exact kz_vret rfl d_Mo_drain_88 (⟨rfl, congrArg (fun z => ((kz_u M.1 0 8 z, M.2) : kz_M)) (by unfold rr_drv; (first | rw [if_pos h69] | rw [if_neg h69]); (try rw [decide_eq_true h4]); (try rw [decide_eq_false h4]); (try rw [decide_eq_true h11]); (try rw [decide_eq_false h11]); (try rw [decide_eq_true h22]); (try rw [decide_eq_false h22]); (try rw [decide_eq_true h35]); (try rw [decide_eq_false h35]); (try rw [decide_eq_true h42]); (try rw [decide_eq_false h42]); (try rw [decide_eq_true h55]); (try rw [decide_eq_false h55]); first | rfl | (simp [kz_ib]; done))⟩)
def rr_tick (M : kz_M) (c : Nat) (w : Bool) (a : Int32) (v : Int64) : kz_M := (kz_u (kz_u (kz_u (kz_u (kz_u M.1 8 c (kz_ib w)) 9 c a) 10 c (M.1 0 2)) 11 c 0) 0 7 (M.1 0 7 + 1), kz_u M.2 12 c v)
theorem rr_pm (c : Nat) : nI (c + 1) - 1 = nI c := nI_pred c
set_option maxRecDepth 100000 in
set_option maxHeartbeats 1000000 in
theorem c_Mo_ticket (l : Launch) {M : kz_M} {c : Nat} {w : Bool} {a : Int32} {v : Int64} (hc4 : c < 400) (hc : M.1 0 7 = nI c) : kz_Dt l sR m_Mo_ticket [.ref 0, .int (kz_ib w), .int a, .long v] M (some (.int (nI c))) (rr_tick M c w a v) := by
  have hci : vp_in (nI c) 400 := vp_in_nI hc4 (by decide)
  have hcc : (nI c).toNatClampNeg = c := nI_clamp (by omega)
  refine kz_intro (by decide +kernel) (Nat.le_of_ble_eq_true rfl) ?_
  show kz_G l sR m_Mo_ticket 0 [some (.ref 0), some (.int (kz_ib w)), some (.int a), some (.long v), none] [] M _
  refine kz_aload_n d_Mo_ticket_0 rfl rfl ?_
  refine kz_getR fd_Mo_40 rfl rfl rfl d_Mo_ticket_1 rfl ?_
  refine kz_aload_n d_Mo_ticket_4 rfl rfl ?_
  refine kz_getIp fd_Mo_131 rfl rfl (Or.inl rfl) d_Mo_ticket_5 rfl ?_
  refine kz_topi (y := nI c) (by first | exact hc | (simp [kz_u_ne]; exact hc)) ?_
  refine kz_iload_n d_Mo_ticket_8 rfl rfl ?_
  refine kz_zastp rfl hci hcc (kz_ib_or _) d_Mo_ticket_9 rfl ?_
  refine kz_aload_n d_Mo_ticket_10 rfl rfl ?_
  refine kz_getR fd_Mo_44 rfl rfl rfl d_Mo_ticket_11 rfl ?_
  refine kz_aload_n d_Mo_ticket_14 rfl rfl ?_
  refine kz_getIp fd_Mo_131 rfl rfl (Or.inl rfl) d_Mo_ticket_15 rfl ?_
  refine kz_topi (y := nI c) (by first | exact hc | (simp [kz_u_ne]; exact hc)) ?_
  refine kz_iload_n d_Mo_ticket_18 rfl rfl ?_
  refine kz_iastp rfl hci hcc d_Mo_ticket_19 rfl ?_
  refine kz_aload_n d_Mo_ticket_20 rfl rfl ?_
  refine kz_getR fd_Mo_53 rfl rfl rfl d_Mo_ticket_21 rfl ?_
  refine kz_aload_n d_Mo_ticket_24 rfl rfl ?_
  refine kz_getIp fd_Mo_131 rfl rfl (Or.inl rfl) d_Mo_ticket_25 rfl ?_
  refine kz_topi (y := nI c) (by first | exact hc | (simp [kz_u_ne]; exact hc)) ?_
  refine kz_lload_n d_Mo_ticket_28 rfl rfl ?_
  refine kz_lastp rfl hci hcc d_Mo_ticket_29 rfl ?_
  refine kz_aload_n d_Mo_ticket_30 rfl rfl ?_
  refine kz_getR fd_Mo_47 rfl rfl rfl d_Mo_ticket_31 rfl ?_
  refine kz_aload_n d_Mo_ticket_34 rfl rfl ?_
  refine kz_getIp fd_Mo_131 rfl rfl (Or.inl rfl) d_Mo_ticket_35 rfl ?_
  refine kz_topi (y := nI c) (by first | exact hc | (simp [kz_u_ne]; exact hc)) ?_
  refine kz_aload_n d_Mo_ticket_38 rfl rfl ?_
  refine kz_getIp fd_Mo_96 rfl rfl (Or.inl rfl) d_Mo_ticket_39 rfl ?_
  refine kz_iastp rfl hci hcc d_Mo_ticket_42 rfl ?_
  refine kz_aload_n d_Mo_ticket_43 rfl rfl ?_
  refine kz_getR fd_Mo_50 rfl rfl rfl d_Mo_ticket_44 rfl ?_
  refine kz_aload_n d_Mo_ticket_47 rfl rfl ?_
  refine kz_getIp fd_Mo_131 rfl rfl (Or.inl rfl) d_Mo_ticket_48 rfl ?_
  refine kz_topi (y := nI c) (by first | exact hc | (simp [kz_u_ne]; exact hc)) ?_
  refine kz_iconst (v := 0) d_Mo_ticket_51 (by decide) rfl ?_
  refine kz_iastp rfl hci hcc d_Mo_ticket_52 rfl ?_
  refine kz_aload_n d_Mo_ticket_53 rfl rfl ?_
  refine kz_dup d_Mo_ticket_54 rfl rfl ?_
  refine kz_getIp fd_Mo_131 rfl rfl (Or.inl rfl) d_Mo_ticket_55 rfl ?_
  refine kz_iconst (v := 1) d_Mo_ticket_58 (by decide) rfl ?_
  refine kz_iadd d_Mo_ticket_59 rfl ?_
  refine kz_putIp fd_Mo_131 rfl rfl d_Mo_ticket_60 rfl ?_
  refine kz_aload_n d_Mo_ticket_63 rfl rfl ?_
  refine kz_getIp fd_Mo_131 rfl rfl (Or.inl rfl) d_Mo_ticket_64 rfl ?_
  refine kz_iconst (v := 1) d_Mo_ticket_67 (by decide) rfl ?_
  refine kz_isub d_Mo_ticket_68 rfl ?_
  refine kz_topi (y := nI c) (by simp only [kz_u_same, kz_u_ne, kz_u_off, ne_eq, reduceCtorEq, not_false_eq_true, Nat.reduceEqDiff, false_and, and_false, hc, nI_1, rr_pm]) ?_
  exact kz_iret rfl d_Mo_ticket_69 (⟨rfl, by simp [rr_tick, kz_u_ne]⟩)
