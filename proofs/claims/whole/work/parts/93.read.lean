/-! The relation of class and reference: kept by a transfer that reads. -/
theorem tk_word0 {x : bt_T} (h : bt_ok x) : (rt_2 x (rt_pl x) 69 3 (0, 0)).2 = bt_wd x (bt_fault x) 69 0 :=
  (congrArg (fun z : Int32 => (rt_2 x (rt_pl x) 69 3 (z, 0)).2) (show (0 : Int32) = nI 0 from rfl)).trans (tk_word h)
theorem tr_m {M : kz_M} {n : Nat} {x a : Int32} : (∀ k, k ≠ 17 → k ≠ 18 → (ct_r M n x a).1 k = (ct_0 M n false x a).1 k) ∧ (∀ k, k ≠ 16 → (ct_r M n x a).2 k = M.2 k) ∧ (∀ j, (ct_r M n x a).2 16 j = if j = x.toNatClampNeg then bt_wd (cw_get M a.toNatClampNeg) (bt_fault (cw_get M a.toNatClampNeg)) 69 0 else M.2 16 j) ∧ (∀ j, (ct_r M n x a).1 17 j = if j = x.toNatClampNeg then ck_after (bt_fault (cw_get M a.toNatClampNeg)) else (ct_0 M n false x a).1 17 j) ∧ (∀ j, (ct_r M n x a).1 18 j = if j = x.toNatClampNeg then cb_beg M false (M.1 0 9) + 4 else (ct_0 M n false x a).1 18 j) := by
  simp only [ct_r, cq_fin]
  refine ⟨fun k h2 h3 => ?_, fun k h => ?_, fun j => ?_, fun j => ?_, fun j => ?_⟩
  · rw [kz_u_off _ _ _ _ h3, kz_u_off _ _ _ _ h2]
  · rw [ct_0_J, kz_u_off _ _ _ _ h]
  · rw [ct_0_J, kz_u_row]
  · rw [kz_u_off _ _ _ _ (by decide), kz_u_row]
  · rw [kz_u_row, kz_u_off _ _ _ _ (by decide)]
theorem tr_r {R S : kz_M} {g n b : Nat} {x a : Int32} (h : rl_ag (rm_r R g n b x a) S) : (∀ k, k ≠ 0 → k ≠ 11 → k ≠ 13 → k ≠ 14 → k ≠ 15 → k ≠ 16 → S.1 k = (rm_0 R g false x a).1 k) ∧ S.2 2 = R.2 2 ∧ (∀ j, S.2 12 j = if j = x.toNatClampNeg then (rt_2 (rw_get R a.toNatClampNeg) (rt_pl (rw_get R a.toNatClampNeg)) 69 3 (0, 0)).2 else R.2 12 j) ∧ (∀ j, j ≠ 26 → j ≠ 27 → j ≠ 30 → j < 39 → S.1 0 j = (rm_0 R g false x a).1 0 j) ∧ S.1 0 26 = nI n ∧ S.1 0 27 = R.1 0 27 - 1 ∧ S.1 0 30 = nI (b + 1) ∧ (∀ j, S.1 11 j = if j = x.toNatClampNeg then 1 else R.1 11 j) ∧ (∀ j, S.1 13 j = if j = x.toNatClampNeg then R.1 0 2 + R.1 1 10 + 4 else R.1 13 j) ∧ (∀ j, S.1 14 j = if j = x.toNatClampNeg then rt_ck (rw_get R a.toNatClampNeg) else R.1 14 j) ∧ (∀ j, S.1 16 j = if j = b then x else R.1 16 j) := by
  obtain ⟨h2, hk⟩ := h
  have h27 : (rm_0 R g false x a).1 0 27 = R.1 0 27 := rm_00 27 (by decide)
  refine ⟨fun k a0 a11 a13 a14 a15 a16 => ?_, ?_, fun j => ?_, fun j j26 j27 j30 j39 => ?_, ?_, ?_, ?_, fun j => ?_, fun j => ?_, fun j => ?_, fun j => ?_⟩
  · rw [hk k a15]
    simp only [rm_r, rt_M]
    rw [kz_u_off _ _ _ _ a0, kz_u_off _ _ _ _ a16, kz_u_off _ _ _ _ a13, kz_u_off _ _ _ _ a14, kz_u_off _ _ _ _ a11, kz_u_off _ _ _ _ a0, kz_u_off _ _ _ _ a0, rlM_off k a0]
  · rw [h2]
    simp only [rm_r, rt_M]
    rw [kz_u_off _ _ _ _ (by decide), kz_u_off _ _ _ _ (by decide)]
    rfl
  · rw [h2]
    simp only [rm_r, rt_M]
    rw [kz_u_row, kz_u_off _ _ _ _ (by decide)]
    rfl
  · rw [hk 0 (by decide)]
    simp only [rm_r, rt_M]
    rw [kz_u_ne _ _ _ _ (fun z => j30 z.2), kz_u_off _ _ _ _ (by decide), kz_u_off _ _ _ _ (by decide), kz_u_off _ _ _ _ (by decide), kz_u_off _ _ _ _ (by decide), kz_u_ne _ _ _ _ (by omega), kz_u_ne _ _ _ _ (by omega)]
    simp only [rl_M, Bool.false_eq_true, if_false]
    rw [kz_u_ne _ _ _ _ (fun z => j26 z.2), kz_u_ne _ _ _ _ (fun z => j27 z.2)]
  · rw [hk 0 (by decide)]
    simp only [rm_r, rt_M]
    rw [kz_u_ne _ _ _ _ (by decide), kz_u_off _ _ _ _ (by decide), kz_u_off _ _ _ _ (by decide), kz_u_off _ _ _ _ (by decide), kz_u_off _ _ _ _ (by decide), kz_u_ne _ _ _ _ (by decide), kz_u_ne _ _ _ _ (by decide)]
    simp only [rl_M]
    rw [kz_u_same]
  · rw [hk 0 (by decide)]
    simp only [rm_r, rt_M]
    rw [kz_u_ne _ _ _ _ (by decide), kz_u_off _ _ _ _ (by decide), kz_u_off _ _ _ _ (by decide), kz_u_off _ _ _ _ (by decide), kz_u_off _ _ _ _ (by decide), kz_u_ne _ _ _ _ (by decide), kz_u_ne _ _ _ _ (by decide)]
    simp only [rl_M, Bool.false_eq_true, if_false]
    rw [kz_u_ne _ _ _ _ (by decide), kz_u_same, h27]
  · rw [hk 0 (by decide)]
    simp only [rm_r, rt_M]
    rw [kz_u_same]
  · rw [hk 11 (by decide)]
    simp only [rm_r, rt_M]
    rw [kz_u_off _ _ _ _ (by decide), kz_u_off _ _ _ _ (by decide), kz_u_off _ _ _ _ (by decide), kz_u_off _ _ _ _ (by decide), kz_u_row, kz_u_off _ _ _ _ (by decide), kz_u_off _ _ _ _ (by decide), rlM_off 11 (by decide), rm_off 11 (by decide)]
  · rw [hk 13 (by decide)]
    simp only [rm_r, rt_M]
    rw [kz_u_off _ _ _ _ (by decide), kz_u_off _ _ _ _ (by decide), kz_u_row, kz_u_off _ _ _ _ (by decide), kz_u_off _ _ _ _ (by decide), kz_u_off _ _ _ _ (by decide), kz_u_off _ _ _ _ (by decide), rlM_off 13 (by decide), rm_off 13 (by decide)]
  · rw [hk 14 (by decide)]
    simp only [rm_r, rt_M]
    rw [kz_u_off _ _ _ _ (by decide), kz_u_off _ _ _ _ (by decide), kz_u_off _ _ _ _ (by decide), kz_u_row, kz_u_off _ _ _ _ (by decide), kz_u_off _ _ _ _ (by decide), kz_u_off _ _ _ _ (by decide), rlM_off 14 (by decide), rm_off 14 (by decide)]
  · rw [hk 16 (by decide)]
    simp only [rm_r, rt_M]
    rw [kz_u_off _ _ _ _ (by decide), kz_u_row, kz_u_off _ _ _ _ (by decide), kz_u_off _ _ _ _ (by decide), kz_u_off _ _ _ _ (by decide), kz_u_off _ _ _ _ (by decide), kz_u_off _ _ _ _ (by decide), rlM_off 16 (by decide), rm_off 16 (by decide)]
theorem ck_after_ne (f : Int32) : ck_after f ≠ 0 := by
  unfold ck_after
  split
  · decide
  · split <;> decide
theorem z_trr {t c b e g k n : Nat} {M R S : kz_M} {wq rs ws : List Int32} {x : Int32} (h : zX t (t + 1) c b e M R wq rs ws) (hB : sB t M R) (hJ : zJ g M R) (hg : g ≤ 200000) (ht : t ≤ 200000) (hx : wq[k]? = some x) (hn : wq.length = n + 1) (hw : cx_w M x = false) (hmay : cx_may M x = true) (hS : rm_R R g n b x wq k S false) : zX t (t + 1) c (b + 1) e (ct_r M (g % 32) x (cx_adr M x)) S (wq.eraseIdx k) (rs.filter (fun y => !decide (y = x))) ws ∧ sB (t + 1) (ct_r M (g % 32) x (cx_adr M x)) S ∧ zJ (g + 1) (ct_r M (g % 32) x (cx_adr M x)) S := by
  have hg32 := Nat.mod_lt g (show 0 < 32 by decide)
  obtain ⟨hN, hZS, hO, hW, hQ, hP, hL⟩ := h
  have hmem := List.mem_of_getElem? hx
  obtain ⟨p1, p2, p3, p4, p5⟩ := z_pt hQ hL x hmem
  obtain ⟨τ, τ1, rfl, τ3⟩ := hL.2.2.1 x hmem
  have c4 := hQ.2.2.1
  have hb8 := hL.2.2.2.2.2.2.2
  have hcl : (nI τ).toNatClampNeg = τ := nI_clamp (by omega)
  obtain ⟨b', hb, eb⟩ := vp_in_of (ck_bank_in p5) (by decide)
  obtain ⟨ad, had, ead⟩ := vp_in_of p5 (by decide)
  have hcla : (cx_adr M (nI τ)).toNatClampNeg = ad := by rw [ead]; exact nI_clamp (by omega)
  obtain ⟨hS1, hS2⟩ := hS
  rw [p2] at hS1
  obtain ⟨m1, m2, m3, m4, m5⟩ := tr_m (M := M) (n := g % 32) (x := nI τ) (a := cx_adr M (nI τ))
  obtain ⟨r1, r2, r2b, r3, r4, r5, r6, r7, r8, r9, r10⟩ := tr_r hS1
  obtain ⟨wx, wok⟩ := hW ad had
  rw [hcl] at m3 m4 m5 r2b r7 r8 r9
  rw [hcla] at m3 m4 r2b r9
  rw [← wx, tk_word0 wok] at r2b
  rw [← wx, (tk_pc wok).2] at r9
  obtain ⟨u, u1, u2, u3, u4⟩ := hB.1 10 (by decide)
  have hdue : cb_beg M false (M.1 0 9) + 4 = nI (t + u + 4) := by
    unfold cb_beg
    rw [if_neg (by decide), hN.1, u3, nI_plus]
    exact nI_add _ 4
  have hdue2 : R.1 0 2 + R.1 1 10 + 4 = nI (t + u + 4) := by
    rw [hN.2, u4, nI_plus]
    exact nI_add _ 4
  have h10 : (ct_r M (g % 32) (nI τ) (cx_adr M (nI τ))).1 1 10 = nI (t + u) := by
    rw [m1 1 (by decide) (by decide)]
    exact ct_10 hN.1 u3 hg32
  have o : ∀ k, k ≠ 1 → k ≠ 6 → k ≠ 7 → k ≠ 17 → k ≠ 18 → k < 25 → (ct_r M (g % 32) (nI τ) (cx_adr M (nI τ))).1 k = M.1 k := fun k a1 a2 a3 a5 a6 a7 => by
    rw [m1 k a5 a6, ct_0_off k a1 a2 a3 (by omega) (by omega)]
  have o17 : ∀ j, (ct_r M (g % 32) (nI τ) (cx_adr M (nI τ))).1 17 j = if j = τ then ck_after (bt_fault (cw_get M ad)) else M.1 17 j := fun j => by
    rw [m4, ct_0_off 17 (by decide) (by decide) (by decide) (by decide) (by omega)]
  have o18 : ∀ j, (ct_r M (g % 32) (nI τ) (cx_adr M (nI τ))).1 18 j = if j = τ then nI (t + u + 4) else M.1 18 j := fun j => by
    rw [m5, ct_0_off 18 (by decide) (by decide) (by decide) (by decide) (by omega), hdue]
  rw [hdue2] at r8
  have ro : ∀ k, k ≠ 0 → k ≠ 5 → k ≠ 6 → k ≠ 11 → k ≠ 13 → k ≠ 14 → k ≠ 15 → k ≠ 16 → k < 18 → S.1 k = R.1 k := fun k a0 a5 a6 a11 a13 a14 a15 a16 a18 => by
    rw [r1 k a0 a11 a13 a14 a15 a16, rm_off k ⟨a0, a5, a6, by omega, by omega, by omega, by omega, by omega⟩]
  have r0 : ∀ j, j ≠ 4 → j ≠ 16 → j ≠ 17 → j ≠ 26 → j ≠ 27 → j ≠ 30 → j < 39 → S.1 0 j = R.1 0 j := fun j a1 a2 a3 a4 a5 a6 a7 => by
    rw [r3 j a4 a5 a6 a7, rm_00 j ⟨a1, a2, a3⟩]
  obtain ⟨t1, t2⟩ := z_t0 (w := false) (x := nI τ) hN hB hJ hg hb eb
  have hP1 : e ≤ b := hP.1.1
  obtain ⟨s1, s2, s3, s4, s5, s6, s7⟩ := hZS
  obtain ⟨q1, q2, q3, q4, q5⟩ := hQ
  refine ⟨⟨⟨?_, ?_⟩, ⟨?_, ?_, ?_, ?_, ?_, ?_, ?_⟩, ?_, ?_, ⟨?_, ?_, q3, fun i hi => ?_, fun i h1 h2 => ?_⟩, ⟨?_, ?_⟩, ?_⟩, sB_fr t1 (fun j a1 a2 => m1 j (by omega) (by omega)) (r1 1 (by decide) (by decide) (by decide) (by decide) (by decide) (by decide)) (fun j a1 a2 => r1 j (by omega) (by omega) (by omega) (by omega) (by omega) (by omega)) (r3 16 (by decide) (by decide) (by decide) (by decide)) (r3 17 (by decide) (by decide) (by decide) (by decide)), zJ_fr t2 (fun j a1 => m1 j (by omega) (by omega)) (fun j a1 a2 => r1 j (by omega) (by omega) (by omega) (by omega) (by omega) (by omega)) (r3 4 (by decide) (by decide) (by decide) (by decide))⟩
  · rw [o 0 (by decide) (by decide) (by decide) (by decide) (by decide) (by decide)]; exact hN.1
  · rw [r0 2 (by decide) (by decide) (by decide) (by decide) (by decide) (by decide) (by decide)]; exact hN.2
  · rw [o 0 (by decide) (by decide) (by decide) (by decide) (by decide) (by decide), r0 0 (by decide) (by decide) (by decide) (by decide) (by decide) (by decide) (by decide)]; exact s1
  · rw [o 0 (by decide) (by decide) (by decide) (by decide) (by decide) (by decide), r0 1 (by decide) (by decide) (by decide) (by decide) (by decide) (by decide) (by decide)]; exact s2
  · rw [o 0 (by decide) (by decide) (by decide) (by decide) (by decide) (by decide), r0 3 (by decide) (by decide) (by decide) (by decide) (by decide) (by decide) (by decide)]; exact s3
  · rw [o 0 (by decide) (by decide) (by decide) (by decide) (by decide) (by decide), r0 8 (by decide) (by decide) (by decide) (by decide) (by decide) (by decide) (by decide)]; exact s4
  · rw [o 0 (by decide) (by decide) (by decide) (by decide) (by decide) (by decide), r0 5 (by decide) (by decide) (by decide) (by decide) (by decide) (by decide) (by decide)]; exact s5
  · rw [o 0 (by decide) (by decide) (by decide) (by decide) (by decide) (by decide), r0 6 (by decide) (by decide) (by decide) (by decide) (by decide) (by decide) (by decide)]; exact s6
  · rw [o 0 (by decide) (by decide) (by decide) (by decide) (by decide) (by decide)]; exact s7
  · unfold zO
    rw [o 0 (by decide) (by decide) (by decide) (by decide) (by decide) (by decide), o 2 (by decide) (by decide) (by decide) (by decide) (by decide) (by decide)]
    exact hO
  · exact zW_fr hW (o 11 (by decide) (by decide) (by decide) (by decide) (by decide) (by decide)) (m2 10 (by decide)) (ro 3 (by decide) (by decide) (by decide) (by decide) (by decide) (by decide) (by decide) (by decide) (by decide)) r2
  · rw [o 12 (by decide) (by decide) (by decide) (by decide) (by decide) (by decide)]; exact q1
  · rw [r0 7 (by decide) (by decide) (by decide) (by decide) (by decide) (by decide) (by decide)]; exact q2
  · obtain ⟨w1, w2, w3, w4, w5⟩ := q4 i hi
    rw [o 13 (by decide) (by decide) (by decide) (by decide) (by decide) (by decide), o 14 (by decide) (by decide) (by decide) (by decide) (by decide) (by decide), o 15 (by decide) (by decide) (by decide) (by decide) (by decide) (by decide), m3, r2b, ro 8 (by decide) (by decide) (by decide) (by decide) (by decide) (by decide) (by decide) (by decide) (by decide), ro 9 (by decide) (by decide) (by decide) (by decide) (by decide) (by decide) (by decide) (by decide) (by decide), ro 10 (by decide) (by decide) (by decide) (by decide) (by decide) (by decide) (by decide) (by decide) (by decide), o17, o18, r7]
    refine ⟨w1, w2, w3, ?_, ?_⟩
    · by_cases q : i = τ
      · rw [if_pos q, if_pos q]
      · rw [if_neg q, if_neg q]; exact w4
    · by_cases q : i = τ
      · rw [if_pos q, if_pos q, if_pos q, zg, if_neg (ck_after_ne _), if_pos (nI_le (by omega) (by omega))]
      · rw [if_neg q, if_neg q, if_neg q]; exact w5
  · rw [o17, if_neg (by omega), m3, if_neg (by omega)]; exact q5 i h1 h2
  · obtain ⟨⟨d1, d2, d3, d4, d5⟩, -⟩ := hP
    refine ⟨by omega, by omega, r6, ?_, fun i hi => ?_⟩
    · rw [r0 31 (by decide) (by decide) (by decide) (by decide) (by decide) (by decide) (by decide)]; exact d4
    · rw [r10]
      split
      · exact vp_in_nI (by omega) (by decide)
      · exact d5 i (by omega)
  · obtain ⟨-, T, U, d1, d2, d3⟩ := hP
    have hm2 : cb_mayTr M (ck_bank (cx_adr M (nI τ))) (ck_row (cx_adr M (nI τ))) false (nI t) = true := by
      unfold cx_may at hmay
      rw [hw, hN.1] at hmay
      exact hmay
    refine ⟨fun i => if i = b then τ else T i, fun i => if i = b then t + u + 4 else U i, fun i h1 h2 => ?_, fun i j h1 h2 h3 => ?_, fun y h1 h2 h3 => ?_⟩
    · simp only []
      rw [r10, r8, r9, o17, o18, h10]
      by_cases q : i = b
      · rw [if_pos q, if_pos q, if_pos q, if_pos rfl, if_pos rfl, if_pos rfl, if_pos rfl]
        exact ⟨τ1, rfl, rfl, rfl, by omega, rfl, ck_after_ne _, t + u, rfl, by omega, by omega⟩
      · obtain ⟨w1, w2, w3, w4, w5, w6, w7, v, w8, w9, w10⟩ := d1 i h1 (by omega)
        have hne : T i ≠ τ := fun q => w7 (by rw [q]; exact τ3)
        have hbus := z_bus hm2 ht u2 u3 w8 w9
        rw [if_neg q, if_neg q, if_neg q, if_neg hne, if_neg hne, if_neg hne, if_neg hne]
        exact ⟨w1, w2, w3, w4, w5, w6, w7, t + u, rfl, by omega, by omega⟩
    · simp only []
      rw [if_neg (by omega)]
      by_cases q : j = b
      · obtain ⟨w1, w2, w3, w4, w5, w6, w7, v, w8, w9, w10⟩ := d1 i h1 (by omega)
        have hbus := z_bus hm2 ht u2 u3 w8 w9
        rw [if_pos q]
        omega
      · rw [if_neg q]
        exact d2 i j h1 h2 (by omega)
    · rw [o17] at h2
      rw [o18] at h3
      by_cases q : y = τ
      · exact ⟨b, hP1, by omega, by simp only [if_true]; exact q.symm⟩
      · rw [if_neg q] at h2 h3
        obtain ⟨i, i1, i2, i3⟩ := d3 y h1 h2 h3
        exact ⟨i, i1, by omega, by simp only []; rw [if_neg (by omega)]; exact i3⟩
  · have := zL_er (b' := b + 1) (N := ct_r M (g % 32) (nI τ) (cx_adr M (nI τ))) (S := S) hL hx hn (by omega) hw (o 14 (by decide) (by decide) (by decide) (by decide) (by decide) (by decide)) (fun j hj => by rw [o17, if_neg (fun q => hj (by rw [q]))]) (ro 8 (by decide) (by decide) (by decide) (by decide) (by decide) (by decide) (by decide) (by decide) (by decide)) (ro 9 (by decide) (by decide) (by decide) (by decide) (by decide) (by decide) (by decide) (by decide) (by decide)) hS2 r4 (by rw [if_neg (by decide)]; exact r5) (by rw [if_neg (by decide)]; exact r0 28 (by decide) (by decide) (by decide) (by decide) (by decide) (by decide) (by decide))
    rw [if_neg (by decide), if_neg (by decide)] at this
    exact this
