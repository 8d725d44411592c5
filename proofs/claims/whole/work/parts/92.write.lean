/-! The relation of class and reference: kept by a transfer that writes. -/
theorem tw_m {M : kz_M} {n : Nat} {x a : Int32} : (∀ k, k ≠ 11 → k ≠ 17 → k ≠ 18 → (ct_w M n x a).1 k = (ct_0 M n true x a).1 k) ∧ (ct_w M n x a).2 16 = M.2 16 ∧ (∀ j, (ct_w M n x a).1 17 j = if j = x.toNatClampNeg then 2 else (ct_0 M n true x a).1 17 j) ∧ (∀ j, (ct_w M n x a).1 18 j = if j = x.toNatClampNeg then M.1 0 9 else (ct_0 M n true x a).1 18 j) ∧ (ct_w M n x a).1 11 = (cw_put (ct_0 M n true x a) a.toNatClampNeg (bt_keep (M.2 16 x.toNatClampNeg))).1 11 ∧ (ct_w M n x a).2 10 = (cw_put (ct_0 M n true x a) a.toNatClampNeg (bt_keep (M.2 16 x.toNatClampNeg))).2 10 := by
  simp only [ct_w, cq_fin, cw_put]
  refine ⟨fun k h1 h2 h3 => ?_, ?_, fun j => ?_, fun j => ?_, ?_, ?_⟩
  · rw [kz_u_off _ _ _ _ h3, kz_u_off _ _ _ _ h2, kz_u_off _ _ _ _ h1]
  · rw [ct_0_J, kz_u_row, kz_u_off _ _ _ _ (by decide)]
    funext j
    split
    · rename_i q; rw [q]
    · rfl
  · rw [kz_u_off _ _ _ _ (by decide), kz_u_row, kz_u_off _ _ _ _ (by decide)]
  · rw [kz_u_row, kz_u_off _ _ _ _ (by decide), kz_u_off _ _ _ _ (by decide)]
  · rw [kz_u_off _ _ _ _ (by decide), kz_u_off _ _ _ _ (by decide)]
  · rw [kz_u_off _ _ _ _ (by decide)]
theorem tw_r {R S : kz_M} {g n : Nat} {x a : Int32} (h : rl_ag (rm_w R g n x a) S) : (∀ k, k ≠ 0 → k ≠ 3 → k ≠ 11 → k ≠ 15 → S.1 k = (rm_0 R g true x a).1 k) ∧ S.2 12 = R.2 12 ∧ (∀ j, j ≠ 26 → j ≠ 28 → S.1 0 j = (rm_0 R g true x a).1 0 j) ∧ S.1 0 26 = nI n ∧ S.1 0 28 = R.1 0 28 - 1 ∧ (∀ j, S.1 11 j = if j = x.toNatClampNeg then 2 else R.1 11 j) ∧ S.1 3 = (rw_put R a.toNatClampNeg (rs_store (R.2 12 x.toNatClampNeg))).1 3 ∧ S.2 2 = (rw_put R a.toNatClampNeg (rs_store (R.2 12 x.toNatClampNeg))).2 2 := by
  obtain ⟨h2, hk⟩ := h
  have h28 : (rm_0 R g true x a).1 0 28 = R.1 0 28 := rm_00 28 (by decide)
  refine ⟨fun k a0 a3 a11 a15 => ?_, ?_, fun j j26 j28 => ?_, ?_, ?_, fun j => ?_, ?_, ?_⟩
  · rw [hk k a15]
    simp only [rm_w, rw_put]
    rw [kz_u_off _ _ _ _ a11, kz_u_off _ _ _ _ a3, rlM_off k a0]
  · rw [h2]
    simp only [rm_w, rw_put]
    rw [kz_u_off _ _ _ _ (by decide)]
    rfl
  · rw [hk 0 (by decide)]
    simp only [rm_w, rw_put]
    rw [kz_u_off _ _ _ _ (by decide), kz_u_off _ _ _ _ (by decide)]
    simp only [rl_M, if_true]
    rw [kz_u_ne _ _ _ _ (fun z => j26 z.2), kz_u_ne _ _ _ _ (fun z => j28 z.2)]
  · rw [hk 0 (by decide)]
    simp only [rm_w, rw_put]
    rw [kz_u_off _ _ _ _ (by decide), kz_u_off _ _ _ _ (by decide)]
    simp only [rl_M]
    rw [kz_u_same]
  · rw [hk 0 (by decide)]
    simp only [rm_w, rw_put]
    rw [kz_u_off _ _ _ _ (by decide), kz_u_off _ _ _ _ (by decide)]
    simp only [rl_M, if_true]
    rw [kz_u_ne _ _ _ _ (by decide), kz_u_same, h28]
  · rw [hk 11 (by decide)]
    simp only [rm_w, rw_put]
    rw [kz_u_row, kz_u_off _ _ _ _ (by decide), rlM_off 11 (by decide), rm_off 11 (by decide)]
  · rw [hk 3 (by decide)]
    simp only [rm_w, rw_put]
    rw [kz_u_off _ _ _ _ (by decide), kz_u_row, kz_u_row, rlM_off 3 (by decide), rm_off 3 (by decide)]
  · rw [h2]
    simp only [rm_w, rw_put]
    rfl
theorem z_trw {t c b e g k n : Nat} {M R S : kz_M} {wq rs ws : List Int32} {x : Int32} (h : zX t (t + 1) c b e M R wq rs ws) (hB : sB t M R) (hJ : zJ g M R) (hg : g ≤ 200000) (ht : t ≤ 200000) (hx : wq[k]? = some x) (hn : wq.length = n + 1) (hw : cx_w M x = true) (hmay : cx_may M x = true) (hS : rm_R R g n b x wq k S true) : zX t (t + 1) c b e (ct_w M (g % 32) x (cx_adr M x)) S (wq.eraseIdx k) rs (ws.filter (fun y => !decide (y = x))) ∧ sB (t + 1) (ct_w M (g % 32) x (cx_adr M x)) S ∧ zJ (g + 1) (ct_w M (g % 32) x (cx_adr M x)) S := by
  have hg32 := Nat.mod_lt g (show 0 < 32 by decide)
  obtain ⟨hN, hZS, hO, hW, hQ, hP, hL⟩ := h
  have hmem := List.mem_of_getElem? hx
  obtain ⟨p1, p2, p3, p4, p5⟩ := z_pt hQ hL x hmem
  obtain ⟨τ, τ1, rfl, τ3⟩ := hL.2.2.1 x hmem
  have c4 := hQ.2.2.1
  have hcl : (nI τ).toNatClampNeg = τ := nI_clamp (by omega)
  obtain ⟨b', hb, eb⟩ := vp_in_of (ck_bank_in p5) (by decide)
  obtain ⟨ad, had, ead⟩ := vp_in_of p5 (by decide)
  obtain ⟨hS1, hS2⟩ := hS
  rw [p2] at hS1
  obtain ⟨m1, m2, m3, m4, m5, m6⟩ := tw_m (M := M) (n := g % 32) (x := nI τ) (a := cx_adr M (nI τ))
  obtain ⟨r1, r2, r3, r4, r5, r6, r7, r8⟩ := tw_r hS1
  rw [hcl] at m3 m4 m5 m6 r6 r7 r8
  obtain ⟨u, u1, u2, u3, u4⟩ := hB.1 11 (by decide)
  have h10 : (ct_w M (g % 32) (nI τ) (cx_adr M (nI τ))).1 1 10 = nI (t + u) := by
    rw [m1 1 (by decide) (by decide) (by decide)]
    exact ct_10 hN.1 u3 hg32
  have o : ∀ k, k ≠ 1 → k ≠ 6 → k ≠ 7 → k ≠ 11 → k ≠ 17 → k ≠ 18 → k < 25 → (ct_w M (g % 32) (nI τ) (cx_adr M (nI τ))).1 k = M.1 k := fun k a1 a2 a3 a4 a5 a6 a7 => by
    rw [m1 k a4 a5 a6, ct_0_off k a1 a2 a3 (by omega) (by omega)]
  have o17 : ∀ j, (ct_w M (g % 32) (nI τ) (cx_adr M (nI τ))).1 17 j = if j = τ then 2 else M.1 17 j := fun j => by
    rw [m3, ct_0_off 17 (by decide) (by decide) (by decide) (by decide) (by omega)]
  have o18 : ∀ j, (ct_w M (g % 32) (nI τ) (cx_adr M (nI τ))).1 18 j = if j = τ then nI t else M.1 18 j := fun j => by
    rw [m4, ct_0_off 18 (by decide) (by decide) (by decide) (by decide) (by omega), hN.1]
  have ro : ∀ k, k ≠ 0 → k ≠ 3 → k ≠ 5 → k ≠ 6 → k ≠ 11 → k ≠ 15 → k < 18 → S.1 k = R.1 k := fun k a0 a3 a5 a6 a11 a15 a18 => by
    rw [r1 k a0 a3 a11 a15, rm_off k ⟨a0, a5, a6, by omega, by omega, by omega, by omega, by omega⟩]
  have r0 : ∀ j, j ≠ 4 → j ≠ 16 → j ≠ 17 → j ≠ 26 → j ≠ 28 → S.1 0 j = R.1 0 j := fun j a1 a2 a3 a4 a5 => by
    rw [r3 j a4 a5, rm_00 j ⟨a1, a2, a3⟩]
  obtain ⟨t1, t2⟩ := z_t0 (w := true) (x := nI τ) hN hB hJ hg hb eb
  obtain ⟨s1, s2, s3, s4, s5, s6, s7⟩ := hZS
  obtain ⟨q1, q2, q3, q4, q5⟩ := hQ
  have wd : M.2 16 τ = R.2 12 τ := (q4 τ τ1).2.2.2.1
  refine ⟨⟨⟨?_, ?_⟩, ⟨?_, ?_, ?_, ?_, ?_, ?_, ?_⟩, ?_, ?_, ⟨?_, ?_, q3, fun i hi => ?_, fun i h1 h2 => ?_⟩, ⟨?_, ?_⟩, ?_⟩, sB_fr t1 (fun j a1 a2 => m1 j (by omega) (by omega) (by omega)) (r1 1 (by decide) (by decide) (by decide) (by decide)) (fun j a1 a2 => r1 j (by omega) (by omega) (by omega) (by omega)) (r3 16 (by decide) (by decide)) (r3 17 (by decide) (by decide)), zJ_fr t2 (fun j a1 => m1 j (by omega) (by omega) (by omega)) (fun j a1 a2 => r1 j (by omega) (by omega) (by omega) (by omega)) (r3 4 (by decide) (by decide))⟩
  · rw [o 0 (by decide) (by decide) (by decide) (by decide) (by decide) (by decide) (by decide)]; exact hN.1
  · rw [r0 2 (by decide) (by decide) (by decide) (by decide) (by decide)]; exact hN.2
  · rw [o 0 (by decide) (by decide) (by decide) (by decide) (by decide) (by decide) (by decide), r0 0 (by decide) (by decide) (by decide) (by decide) (by decide)]; exact s1
  · rw [o 0 (by decide) (by decide) (by decide) (by decide) (by decide) (by decide) (by decide), r0 1 (by decide) (by decide) (by decide) (by decide) (by decide)]; exact s2
  · rw [o 0 (by decide) (by decide) (by decide) (by decide) (by decide) (by decide) (by decide), r0 3 (by decide) (by decide) (by decide) (by decide) (by decide)]; exact s3
  · rw [o 0 (by decide) (by decide) (by decide) (by decide) (by decide) (by decide) (by decide), r0 8 (by decide) (by decide) (by decide) (by decide) (by decide)]; exact s4
  · rw [o 0 (by decide) (by decide) (by decide) (by decide) (by decide) (by decide) (by decide), r0 5 (by decide) (by decide) (by decide) (by decide) (by decide)]; exact s5
  · rw [o 0 (by decide) (by decide) (by decide) (by decide) (by decide) (by decide) (by decide), r0 6 (by decide) (by decide) (by decide) (by decide) (by decide)]; exact s6
  · rw [o 0 (by decide) (by decide) (by decide) (by decide) (by decide) (by decide) (by decide)]; exact s7
  · unfold zO
    rw [o 0 (by decide) (by decide) (by decide) (by decide) (by decide) (by decide) (by decide), o 2 (by decide) (by decide) (by decide) (by decide) (by decide) (by decide) (by decide)]
    exact hO
  · have hW0 : zW (ct_0 M (g % 32) true (nI τ) (cx_adr M (nI τ))) R := zW_fr hW (ct_0_off 11 (by decide) (by decide) (by decide) (by decide) (by omega)) rfl rfl rfl
    refine zW_fr (zW_put (a := (cx_adr M (nI τ)).toNatClampNeg) hW0 (ok_keep (M.2 16 τ))) m5 m6 ?_ ?_
    · rw [r7, ← wd, wr_store]
    · rw [r8, ← wd, wr_store]
  · rw [o 12 (by decide) (by decide) (by decide) (by decide) (by decide) (by decide) (by decide)]; exact q1
  · rw [r0 7 (by decide) (by decide) (by decide) (by decide) (by decide)]; exact q2
  · obtain ⟨w1, w2, w3, w4, w5⟩ := q4 i hi
    rw [o 13 (by decide) (by decide) (by decide) (by decide) (by decide) (by decide) (by decide), o 14 (by decide) (by decide) (by decide) (by decide) (by decide) (by decide) (by decide), o 15 (by decide) (by decide) (by decide) (by decide) (by decide) (by decide) (by decide), m2, r2, ro 8 (by decide) (by decide) (by decide) (by decide) (by decide) (by decide) (by decide), ro 9 (by decide) (by decide) (by decide) (by decide) (by decide) (by decide) (by decide), ro 10 (by decide) (by decide) (by decide) (by decide) (by decide) (by decide) (by decide), o17, o18, r6]
    refine ⟨w1, w2, w3, w4, ?_⟩
    by_cases q : i = τ
    · rw [if_pos q, if_pos q, if_pos q, zg, if_neg (by decide), if_neg (nI_ge (by omega) (by omega))]
    · rw [if_neg q, if_neg q, if_neg q]; exact w5
  · rw [o17, if_neg (by omega), m2]; exact q5 i h1 h2
  · obtain ⟨⟨d1, d2, d3, d4, d5⟩, -⟩ := hP
    refine ⟨d1, d2, ?_, ?_, fun i hi => ?_⟩
    · rw [r0 30 (by decide) (by decide) (by decide) (by decide) (by decide)]; exact d3
    · rw [r0 31 (by decide) (by decide) (by decide) (by decide) (by decide)]; exact d4
    · rw [ro 16 (by decide) (by decide) (by decide) (by decide) (by decide) (by decide) (by decide)]; exact d5 i hi
  · obtain ⟨-, T, U, d1, d2, d3⟩ := hP
    refine ⟨T, U, fun i h1 h2 => ?_, d2, fun y h1 h2 h3 => ?_⟩
    · obtain ⟨w1, w2, w3, w4, w5, w6, w7, v, w8, w9, w10⟩ := d1 i h1 h2
      have hne : T i ≠ τ := fun q => w7 (by rw [q]; exact τ3)
      rw [ro 16 (by decide) (by decide) (by decide) (by decide) (by decide) (by decide) (by decide), ro 13 (by decide) (by decide) (by decide) (by decide) (by decide) (by decide) (by decide), ro 14 (by decide) (by decide) (by decide) (by decide) (by decide) (by decide) (by decide), o17, o18, if_neg hne, if_neg hne, h10]
      have hm2 : cb_mayTr M (ck_bank (cx_adr M (nI τ))) (ck_row (cx_adr M (nI τ))) true (nI t) = true := by
        unfold cx_may at hmay
        rw [hw, hN.1] at hmay
        exact hmay
      have hbus := z_bus hm2 ht u2 u3 w8 w9
      exact ⟨w1, w2, w3, w4, w5, w6, w7, t + u, rfl, by omega, by omega⟩
    · rw [o17] at h2
      rw [o18] at h3
      by_cases q : y = τ
      · rw [if_pos q] at h3
        exact absurd h3 (nI_ge (by omega) (by omega))
      · rw [if_neg q] at h2 h3
        exact d3 y h1 h2 h3
  · have hb8 := hL.2.2.2.2.2.2.2
    have := zL_er (b' := b) (N := ct_w M (g % 32) (nI τ) (cx_adr M (nI τ))) (S := S) hL hx hn (by omega) hw (o 14 (by decide) (by decide) (by decide) (by decide) (by decide) (by decide) (by decide)) (fun j hj => by rw [o17, if_neg (fun q => hj (by rw [q]))]) (ro 8 (by decide) (by decide) (by decide) (by decide) (by decide) (by decide) (by decide)) (ro 9 (by decide) (by decide) (by decide) (by decide) (by decide) (by decide) (by decide)) hS2 r4 (by rw [if_pos rfl]; exact r0 27 (by decide) (by decide) (by decide) (by decide) (by decide)) (by rw [if_pos rfl]; exact r5)
    rw [if_pos rfl, if_pos rfl] at this
    exact this
