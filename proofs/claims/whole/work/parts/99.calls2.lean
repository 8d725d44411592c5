/-! The relation of class and reference: the other calls. -/
theorem plc_eq (a p : Int32) : rp_adr a p = (ck_adr a && ck_plc p) := by
  unfold rp_adr ck_adr ck_plc
  have h1 : (255 < a) ↔ 256 ≤ a := by
    rw [Int32.lt_iff_toInt_lt, Int32.le_iff_toInt_le, show (255 : Int32).toInt = 255 by decide, show (256 : Int32).toInt = 256 by decide]
    omega
  have h2 : (p ≤ 71) ↔ ¬ 72 ≤ p := by
    rw [Int32.le_iff_toInt_le, Int32.le_iff_toInt_le, show (71 : Int32).toInt = 71 by decide, show (72 : Int32).toInt = 72 by decide]
    omega
  rw [show decide (255 < a) = decide (256 ≤ a) from decide_eq_decide.mpr h1, show decide (p ≤ 71) = decide (¬ 72 ≤ p) from decide_eq_decide.mpr h2, decide_not]
  simp only [Bool.and_assoc]
theorem plc_in {a p : Int32} (h : (ck_adr a && ck_plc p) = true) : ∃ i j, i < 256 ∧ j < 72 ∧ a = nI i ∧ p = nI j := by
  unfold ck_adr ck_plc at h
  simp only [Bool.and_eq_true, Bool.not_eq_true', decide_eq_false_iff_not] at h
  obtain ⟨⟨h1, h2⟩, h3, h4⟩ := h
  obtain ⟨i, hi, rfl⟩ := nI_of h1
  obtain ⟨j, hj, rfl⟩ := nI_of h3
  refine ⟨i, j, ?_, ?_, rfl, rfl⟩
  · have : ¬ nI 256 ≤ nI i := h2
    rw [nI_leI (by decide) hi] at this
    omega
  · have : ¬ nI 72 ≤ nI j := h4
    rw [nI_leI (by decide) hj] at this
    omega
theorem cy_wf_fr {M N : kz_M} {rs ws : List Int32} (h : cy_wf M rs ws) (hM : ∀ k, k = 0 ∨ (12 ≤ k ∧ k ≤ 14) ∨ (19 ≤ k ∧ k ≤ 25) → N.1 k = M.1 k) : cy_wf N rs ws := by
  unfold cy_wf ln_at cy_jk cx_adr at *
  rw [hM 0 (by omega), hM 12 (by omega), hM 13 (by omega), hM 14 (by omega), hM 19 (by omega), hM 20 (by omega), hM 21 (by omega), hM 22 (by omega), hM 25 (by omega)]
  exact h
theorem zCl_flip (l : Launch) (a p : Int32) : zCl l true m_Bk_flip m_Mo_flip [.ref 0, .int a, .int p] := by
  refine zCl_dt (fun k M R hF hk => ⟨_, _, _, c_Bk_flip l, (by rw [← plc_eq]; exact c_Mo_flip l), ?_, ⟨_, rfl⟩⟩)
  obtain ⟨t, rs, ws, ⟨wq, g, c, b, e, ⟨hX, hB, hJ⟩, hgt⟩, hwf, ht⟩ := hF
  unfold cp_flip
  rw [plc_eq]
  by_cases q : (ck_adr a && ck_plc p) = true
  · rw [if_pos q, if_pos q]
    obtain ⟨i, j, hi, hj, rfl, rfl⟩ := plc_in q
    obtain ⟨hN, hS, hO, hW, hQ, hP, hL⟩ := id hX
    rw [nI_clamp (n := i) (by omega)]
    obtain ⟨w1, w2⟩ := hW i hi
    rw [← w1]
    have mk : ∀ k, k ≠ 11 → (cw_put M i (bt_turn (cw_get M i) (nI j))).1 k = M.1 k := fun k h => kz_u_off _ _ _ _ h
    have rk : ∀ k, k ≠ 3 → (rw_put R i (bt_turn (cw_get M i) (nI j))).1 k = R.1 k := fun k h => kz_u_off _ _ _ _ h
    refine ⟨t, rs, ws, ⟨wq, g, c, b, e, ⟨zX_fr0 hX ⟨by rw [mk 0 (by decide)]; exact hN.1, by rw [rk 0 (by decide)]; exact hN.2⟩ ?_ ?_ (zW_put hW (ok_turn w2 j hj)) (fun k h1 h2 => mk k (by omega)) (by rw [mk 1 (by decide)]) (by simp only [cw_put]; rw [kz_u_off _ _ _ _ (by decide)]) (fun k h1 h2 => rk k (by omega)) (fun k h1 => by rw [rk 0 (by decide)]) (by simp only [rw_put]; rw [kz_u_off _ _ _ _ (by decide)]), sB_fr hB (fun k h1 h2 => mk k (by omega)) (rk 1 (by decide)) (fun k h1 h2 => rk k (by omega)) (by rw [rk 0 (by decide)]) (by rw [rk 0 (by decide)]), zJ_fr hJ (fun k h1 => mk k (by omega)) (fun k h1 h2 => rk k (by omega)) (by rw [rk 0 (by decide)])⟩, hgt⟩, cy_wf_fr hwf (fun k h1 => mk k (by omega)), by omega⟩
    · unfold zS; rw [mk 0 (by decide), rk 0 (by decide)]; exact hS
    · unfold zO; rw [mk 0 (by decide), mk 2 (by decide)]; exact hO
  · rw [if_neg q, if_neg q]
    exact ⟨t, rs, ws, ⟨wq, g, c, b, e, ⟨hX, hB, hJ⟩, hgt⟩, hwf, by omega⟩
theorem zCl_bit (l : Launch) (a p : Int32) : zCl l true m_Bk_bit m_Mo_bit [.ref 0, .int a, .int p] := by
  refine zCl_dt (fun k M R hF hk => ⟨_, M, R, c_Bk_bit l, ?_, zF_up hF, ⟨_, rfl⟩⟩)
  obtain ⟨t, rs, ws, ⟨wq, g, c, b, e, ⟨hX, hB, hJ⟩, hgt⟩, hwf, ht⟩ := hF
  have : cp_bit M a p = if rp_adr a p = true then rb_bit (rw_get R a.toNatClampNeg) p else -1 := by
    unfold cp_bit
    rw [plc_eq]
    by_cases q : (ck_adr a && ck_plc p) = true
    · rw [if_pos q, if_pos q]
      obtain ⟨i, j, hi, hj, rfl, rfl⟩ := plc_in q
      rw [nI_clamp (n := i) (by omega), ← (hX.2.2.2.1 i hi).1, wb_rbt _ j hj]
    · rw [if_neg q, if_neg q]
  rw [this]
  exact c_Mo_bit l
theorem has_eq {c : Nat} {M R : kz_M} {x : Int32} (h1 : M.1 12 6 = nI c) (h2 : R.1 0 7 = nI c) : (!decide (x < 0) && decide (x < R.1 0 7)) = cq_has M x := by
  unfold cq_has
  rw [h1, h2, show decide (x < nI c) = decide (¬ nI c ≤ x) from decide_eq_decide.mpr Int32.not_le.symm, decide_not]
theorem has_in {c : Nat} {M : kz_M} {x : Int32} (hc : c ≤ 400) (h1 : M.1 12 6 = nI c) (h : cq_has M x = true) : ∃ j, j < c ∧ x = nI j := by
  unfold cq_has at h
  rw [h1, Bool.and_eq_true, Bool.not_eq_true', Bool.not_eq_true', decide_eq_false_iff_not, decide_eq_false_iff_not] at h
  obtain ⟨j, hj, rfl⟩ := nI_of h.1
  refine ⟨j, ?_, rfl⟩
  have := h.2
  rw [nI_leI (by omega) hj] at this
  omega
theorem zCl_status (l : Launch) (x : Int32) : zCl l true m_Bk_status m_Mo_status [.ref 0, .int x] := by
  refine zCl_dt (fun k M R hF hk => ?_)
  obtain ⟨t, rs, ws, ⟨wq, g, c, b, e, ⟨hX, hB, hJ⟩, hgt⟩, hwf, ht⟩ := id hF
  obtain ⟨hN, -, -, -, ⟨q1, q2, q3, q4, q5⟩, -, -⟩ := hX
  refine ⟨_, M, R, c_Bk_status l q3 q1, ?_, zF_up hF, ⟨_, rfl⟩⟩
  have : cp_stat M x = if (!decide (x < 0) && decide (x < R.1 0 7)) = true then R.1 11 x.toNatClampNeg else -1 := by
    rw [has_eq q1 q2]
    unfold cp_stat
    by_cases q : cq_has M x = true
    · rw [if_pos q, if_pos q]
      obtain ⟨j, hj, rfl⟩ := has_in q3 q1 q
      unfold cq_stage
      rw [nI_clamp (n := j) (by omega), hN.1, (q4 j hj).2.2.2.2]
      rfl
    · rw [if_neg q, if_neg q]
  rw [this]
  exact c_Mo_status l q3 q2
theorem zCl_value (l : Launch) (x : Int32) : zCl l false m_Bk_value m_Mo_value [.ref 0, .int x] := by
  refine zCl_dt (fun k M R hF hk => ?_)
  obtain ⟨t, rs, ws, ⟨wq, g, c, b, e, ⟨hX, hB, hJ⟩, hgt⟩, hwf, ht⟩ := id hF
  obtain ⟨hN, -, -, -, ⟨q1, q2, q3, q4, q5⟩, -, -⟩ := hX
  refine ⟨_, M, R, c_Bk_value l q3 q1, ?_, zF_up hF, ⟨_, rfl⟩⟩
  have : cp_val M x = if (!decide (x < 0) && decide (x < R.1 0 7)) = true then R.2 12 x.toNatClampNeg else 0 := by
    rw [has_eq q1 q2]
    unfold cp_val
    by_cases q : cq_has M x = true
    · rw [if_pos q, if_pos q]
      obtain ⟨j, hj, rfl⟩ := has_in q3 q1 q
      rw [nI_clamp (n := j) (by omega), (q4 j hj).2.2.2.1]
    · rw [if_neg q, if_neg q]
  rw [this]
  exact c_Mo_value l q3 q2
theorem zCl_state (l : Launch) (x : Int32) : zCl l true m_Bk_state m_Mo_state [.ref 0, .int x] := by
  refine zCl_dt (fun k M R hF hk => ⟨_, M, R, c_Bk_state l, ?_, zF_up hF, ⟨_, rfl⟩⟩)
  obtain ⟨t, rs, ws, ⟨wq, g, c, b, e, ⟨hX, hB, hJ⟩, hgt⟩, hwf, ht⟩ := id hF
  obtain ⟨hN, ⟨z1, z2, z3, z4, z5, z6, -⟩, -, -, ⟨q1, q2, -⟩, -, hL⟩ := hX
  have : cp_st M x = rp_st R x := by
    rcases st_cases x with ⟨j, hj, rfl⟩ | h
    · rw [cp_st_in M hj, rp_st_in R hj]
      match j, hj with
      | 0, _ => exact hN.1.trans hN.2.symm
      | 1, _ => exact hwf.1.1.trans hL.2.2.2.2.2.1.symm
      | 2, _ => exact hwf.2.1.1.trans hL.2.2.2.2.2.2.1.symm
      | 3, _ => exact z3
      | 4, _ => show (if M.1 0 12 = 0 then (0 : Int32) else 1) = if R.1 0 8 = 0 then 0 else 1; rw [z4]
      | 5, _ => exact hJ.1.trans hJ.2.1.symm
      | 6, _ => exact z5
      | 7, _ => exact z6
      | 8, _ => exact q1.trans q2.symm
      | 9, _ => rfl
      | 10, _ => exact (hB.2.1 0 (by decide)).1
      | 11, _ => exact (hB.2.1 1 (by decide)).1
      | 12, _ => exact (hB.2.1 2 (by decide)).1
      | 13, _ => exact (hB.2.1 3 (by decide)).1
    · unfold cp_st rp_st
      rw [if_pos h, if_pos h]
  rw [this]
  exact c_Mo_state l
theorem zCl_command (l : Launch) (x i : Int32) : zCl l true m_Bk_command m_Mo_command [.ref 0, .int x, .int i] := by
  refine zCl_dt (fun k M R hF hk => ?_)
  obtain ⟨t, rs, ws, ⟨wq, g, c, b, e, ⟨hX, hB, hJ⟩, hgt⟩, hwf, ht⟩ := id hF
  obtain ⟨j1, j2, j3, j4, j5⟩ := hJ
  have h32 := Nat.mod_lt g (show 0 < 32 by decide)
  refine ⟨_, M, R, c_Bk_command l h32 j3 (show min g 32 ≤ 32 by omega) j4, ?_, zF_up hF, ⟨_, rfl⟩⟩
  have : cj_at M (g % 32) x i = rp_cm R g x i := by
    unfold cj_at rp_cm
    rw [j4, j2]
    by_cases h0 : x < 0
    · rw [if_pos (Or.inl h0), if_pos (Or.inl h0)]
    · obtain ⟨q, hq, rfl⟩ := nI_of h0
      have e1 : nI (min g 32) ≤ nI q ↔ (31 < nI q ∨ ¬ nI q < nI g) := by
        rw [nI_leI (by omega) hq, nI_ltI hq (by omega), show (31 : Int32) = nI 31 from rfl, nI_ltI (by decide) hq]
        omega
      have e2 : (i < 0 ∨ 5 ≤ i) ↔ (i.toInt < 0 ∨ 4 < i.toInt) := by
        rw [Int32.lt_iff_toInt_lt, Int32.le_iff_toInt_le, show (0 : Int32).toInt = 0 by decide, show (5 : Int32).toInt = 5 by decide]
        omega
      by_cases h1 : nI (min g 32) ≤ nI q
      · rw [if_pos (Or.inr (Or.inl h1)), if_pos (Or.inr ((e1.mp h1).elim Or.inl (fun z => Or.inr (Or.inl z))))]
      · by_cases h2 : i < 0 ∨ 5 ≤ i
        · rw [if_pos (Or.inr (Or.inr h2)), if_pos (Or.inr (Or.inr (Or.inr (e2.mp h2))))]
        · rw [if_neg (fun z => z.elim h0 (fun z => z.elim h1 h2)), if_neg (fun z => z.elim h0 (fun z => z.elim (fun y => h1 (e1.mpr (Or.inl y))) (fun z => z.elim (fun y => h1 (e1.mpr (Or.inr y))) (fun y => h2 (e2.mpr y)))))]
          rw [nI_clamp hq]
          rw [nI_leI (by omega) hq] at h1
          obtain ⟨r, hr, rfl⟩ := nI_of (x := i) (fun z => h2 (Or.inl z))
          have h5 : ¬ nI 5 ≤ nI r := fun z => h2 (Or.inr z)
          rw [nI_leI (by decide) hr] at h5
          rw [nI_clamp hr]
          rw [show (g % 32 + 31 - q) % 32 = (g - 1 - q) % 32 by omega]
          exact j5 _ (Nat.mod_lt _ (by decide)) r (by omega)
  rw [this]
  exact c_Mo_command l (by omega) j2
theorem set_eq (M : kz_M) (i v : Int32) : cb_set M i v = (!decide (i < 0) && (decide (i ≤ 13) && rp_set i v)) := by
  unfold cb_set rp_set
  have h1 : (i < 14) ↔ i ≤ 13 := by
    rw [Int32.lt_iff_toInt_lt, Int32.le_iff_toInt_le, show (14 : Int32).toInt = 14 by decide, show (13 : Int32).toInt = 13 by decide]
    omega
  rw [show decide (i < 14) = decide (i ≤ 13) from decide_eq_decide.mpr h1]
  by_cases q : i = 13
  · rw [if_pos q, if_pos q, if_pos q, show decide (v ≤ 400) = decide (¬ 400 < v) from decide_eq_decide.mpr Int32.not_lt.symm, decide_not]
  · rw [if_neg q, if_neg q, if_neg q, show decide (v ≤ 30) = decide (¬ 30 < v) from decide_eq_decide.mpr Int32.not_lt.symm, decide_not]
theorem set_in {M : kz_M} {i v : Int32} (h : cb_set M i v = true) : ∃ j u, j < 14 ∧ 1 ≤ u ∧ u ≤ 400 ∧ i = nI j ∧ v = nI u := by
  unfold cb_set at h
  simp only [Bool.and_eq_true, Bool.not_eq_true', decide_eq_false_iff_not, decide_eq_true_eq] at h
  obtain ⟨h1, h2, h3, h4⟩ := h
  obtain ⟨j, hj, rfl⟩ := nI_of h1
  have hv : 1 ≤ v.toInt ∧ v.toInt ≤ 400 := by
    rw [Int32.lt_iff_toInt_lt] at h3
    rw [Int32.le_iff_toInt_le] at h4
    split at h3
    · rename_i q
      rw [if_pos q] at h4
      rw [show (60 : Int32).toInt = 60 by decide] at h3
      rw [show (400 : Int32).toInt = 400 by decide] at h4
      omega
    · rename_i q
      rw [if_neg q] at h4
      rw [show (1 : Int32).toInt = 1 by decide] at h3
      rw [show (30 : Int32).toInt = 30 by decide] at h4
      omega
  obtain ⟨u, hu, rfl⟩ := nI_of (x := v) (fun z => by
    rw [Int32.lt_iff_toInt_lt, show (0 : Int32).toInt = 0 by decide] at z
    omega)
  rw [nI_toInt hu] at hv
  refine ⟨j, u, ?_, by omega, by omega, rfl, rfl⟩
  have : nI j < nI 14 := h2
  rw [nI_ltI hj (by decide)] at this
  exact this
theorem zCl_timing (l : Launch) (i v : Int32) : zCl l true m_Bk_timing m_Mo_timing [.ref 0, .int i, .int v] := by
  refine zCl_dt (fun k M R hF hk => ?_)
  obtain ⟨t, rs, ws, ⟨wq, g, c, b, e, ⟨hX, hB, hJ⟩, hgt⟩, hwf, ht⟩ := hF
  obtain ⟨hN, hS, hO, hW, hQ, hP, hL⟩ := id hX
  have he : rp_tim R i v = cp_tim M i v := by
    unfold rp_tim cp_tim
    rw [set_eq, hN.1, hN.2]
    congr 1
    rw [← decide_not]
    refine decide_eq_decide.mpr ?_
    rw [show (0 : Int32) = nI 0 from rfl, nI_ltI (by omega) (by omega), nI_eq (by omega) (by omega)]
    omega
  refine ⟨_, _, _, c_Bk_timing l, (by rw [← he]; exact c_Mo_timing l), ?_, ⟨_, rfl⟩⟩
  rw [he]
  by_cases q : cp_tim M i v = true
  · rw [if_pos q, if_pos q]
    unfold cp_tim at q
    rw [Bool.and_eq_true, decide_eq_true_eq, hN.1] at q
    have ht0 : t = 0 := (nI_eq (a := t) (b := 0) (by omega) (by omega)).mp q.1
    obtain ⟨j, u, j1, u1, u2, rfl, rfl⟩ := set_in q.2
    rw [nI_clamp (n := j) (by omega)]
    have mk : ∀ k, k ≠ 2 → (kz_u M.1 2 j (nI u)) k = M.1 k := fun k h => kz_u_off _ _ _ _ h
    have rk : ∀ k, k ≠ 1 → (kz_u R.1 1 j (nI u)) k = R.1 k := fun k h => kz_u_off _ _ _ _ h
    have hT : sT (kz_u M.1 2 j (nI u), M.2) (kz_u R.1 1 j (nI u), R.2) := fun n hn => by
      simp only [kz_u_row]
      by_cases z : n = j
      · rw [if_pos z, if_pos z]; exact ⟨u, u1, u2, rfl, rfl⟩
      · rw [if_neg z, if_neg z]; exact hB.1 n hn
    refine ⟨t, rs, ws, ⟨wq, g, c, b, e, ⟨zX_fr0 (N := (kz_u M.1 2 j (nI u), M.2)) (S := (kz_u R.1 1 j (nI u), R.2)) hX ⟨(congrFun (mk 0 (by decide)) 9).trans hN.1, (congrFun (rk 0 (by decide)) 2).trans hN.2⟩ ?_ ?_ (zW_fr hW (mk 11 (by decide)) rfl (rk 3 (by decide)) rfl) (fun k h1 h2 => mk k (by omega)) (congrFun (mk 1 (by decide)) 10) rfl (fun k h1 h2 => rk k (by omega)) (fun k h1 => congrFun (rk 0 (by decide)) k) rfl, ⟨hT, ?_⟩, zJ_fr hJ (fun k h1 => mk k (by omega)) (fun k h1 h2 => rk k (by omega)) (congrFun (rk 0 (by decide)) 4)⟩, hgt⟩, cy_wf_fr hwf (fun k h1 => mk k (by omega)), by omega⟩
    · unfold zS
      simp only []
      rw [mk 0 (by decide), rk 0 (by decide)]
      exact hS
    · obtain ⟨s, u0, -, -, s1, -, s2⟩ := hO
      obtain ⟨u', w1, w2, w3, -⟩ := hT 13 (by decide)
      refine ⟨s, u', w1, w2, (congrFun (mk 0 (by decide)) 10).trans s1, w3, Or.inl ⟨ht0, ?_⟩⟩
      rcases s2 with z | ⟨z1, -, k', z2⟩
      · exact z.2
      · omega
    · have h2 := hB.2
      unfold sK sA sL sU at *
      simp only []
      rw [mk 1 (by decide), mk 3 (by decide), mk 4 (by decide), mk 5 (by decide), mk 6 (by decide), mk 7 (by decide), mk 8 (by decide), rk 0 (by decide), rk 4 (by decide), rk 5 (by decide), rk 6 (by decide), rk 7 (by decide)]
      exact h2
  · rw [if_neg q, if_neg q]
    exact ⟨t, rs, ws, ⟨wq, g, c, b, e, ⟨hX, hB, hJ⟩, hgt⟩, hwf, by omega⟩
