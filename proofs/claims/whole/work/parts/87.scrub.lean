/-! The relation of class and reference: kept by scrubbing. -/
theorem gt_put {M : kz_M} {a : Nat} {x : bt_T} (k : Nat) : cw_get (cw_put M a x) k = if k = a then x else cw_get M k := by
  unfold cw_get cw_put
  simp only [kz_u_row]
  split <;> rfl
theorem rt_put {M : kz_M} {a : Nat} {x : bt_T} (k : Nat) : rw_get (rw_put M a x) k = if k = a then x else rw_get M k := by
  unfold rw_get rw_put
  simp only [kz_u_row]
  split <;> rfl
theorem zW_put {M R : kz_M} {a : Nat} {x : bt_T} (h : zW M R) (hx : bt_ok x) : zW (cw_put M a x) (rw_put R a x) := fun k hk => by
  rw [gt_put, rt_put]
  split
  · exact ⟨rfl, hx⟩
  · exact h k hk
theorem ft_in {x : bt_T} (h : ¬ bt_fault x < 0) : ∃ q, q < 72 ∧ bt_fault x = nI q := by
  unfold bt_fault at h ⊢
  by_cases o : bt_odd x = true
  · rw [if_pos o] at h ⊢
    by_cases s : 72 ≤ bt_syn x 71 1 0
    · rw [if_pos s] at h; exact absurd (by decide) h
    · rw [if_neg s] at h ⊢
      obtain ⟨j, hj, e⟩ := nI_of h
      rw [e] at s ⊢
      exact ⟨j, by
        have : ¬ nI 72 ≤ nI j := s
        rw [nI_leI (by decide) hj] at this
        omega, rfl⟩
  · rw [if_neg o] at h
    split at h <;> exact absurd (by decide) h
theorem scr_m {M : kz_M} : (∀ k, k ≠ 10 → (co_scr M).2 k = M.2 k) ∧ (∀ k, k ≠ 0 → k ≠ 11 → (co_scr M).1 k = M.1 k) ∧ ∀ j, j ≠ 13 → j ≠ 14 → (co_scr M).1 0 j = M.1 0 j := by
  simp only [co_scr, cw_right]
  split
  · exact ⟨fun _ _ => rfl, fun k a _ => kz_u_off _ _ _ _ a, fun j _ b => kz_u_ne _ _ _ _ (fun z => b z.2)⟩
  · simp only [cw_put]
    exact ⟨fun k a => kz_u_off _ _ _ _ a, fun k a b => by rw [kz_u_off _ _ _ _ a, kz_u_off _ _ _ _ a, kz_u_off _ _ _ _ b], fun j a b => by rw [kz_u_ne _ _ _ _ (fun z => b z.2), kz_u_ne _ _ _ _ (fun z => a z.2), kz_u_off _ _ _ _ (by decide)]⟩
theorem scr_r {R : kz_M} : (∀ k, k ≠ 0 → k ≠ 2 → (rr_scr R).2 k = R.2 k) ∧ (∀ k, k ≠ 0 → k ≠ 3 → (rr_scr R).1 k = R.1 k) ∧ ∀ j, j < 39 → j ≠ 5 → j ≠ 6 → (rr_scr R).1 0 j = R.1 0 j := by
  simp only [rr_scr]
  split
  · simp only [rt_M]
    exact ⟨fun k a _ => kz_u_off _ _ _ _ a, fun k a _ => by rw [kz_u_off _ _ _ _ a, kz_u_off _ _ _ _ a, kz_u_off _ _ _ _ a], fun j h a b => by rw [kz_u_ne _ _ _ _ (by omega), kz_u_ne _ _ _ _ (by omega), kz_u_ne _ _ _ _ (by omega)]⟩
  · simp only [rw_put, rt_M]
    exact ⟨fun k a b => by rw [kz_u_off _ _ _ _ b, kz_u_off _ _ _ _ a], fun k a b => by rw [kz_u_off _ _ _ _ a, kz_u_off _ _ _ _ a, kz_u_off _ _ _ _ b, kz_u_off _ _ _ _ a, kz_u_off _ _ _ _ a], fun j h a b => by rw [kz_u_ne _ _ _ _ (by omega), kz_u_ne _ _ _ _ (by omega), kz_u_off _ _ _ _ (by decide), kz_u_ne _ _ _ _ (by omega), kz_u_ne _ _ _ _ (by omega)]⟩
theorem rtM_g {R : kz_M} {x : bt_T} : ∀ k, rw_get (rt_M R x) k = rw_get R k := fun k => by
  simp only [rw_get, rt_M]
  rw [kz_u_off _ _ _ _ (by decide), kz_u_off _ _ _ _ (by decide), kz_u_off _ _ _ _ (by decide)]
theorem scr_in : ∀ j, j < 256 → vp_in (nI j + 1 - (nI j + 1) / 256 * 256) 256 := fun j hj => by
  rw [nI_1, show (256 : Int32) = nI 256 from rfl, pk_rem (by omega) (by decide) (by decide)]
  exact vp_in_nI (Nat.mod_lt _ (by decide)) (by decide)
theorem z_scr {t u v c b e g : Nat} {M R : kz_M} {wq rs ws : List Int32} (h : zX t u c b e M R wq rs ws) (hB : sB v M R) (hJ : zJ g M R) : zX t u c b e (co_scr M) (rr_scr R) wq rs ws ∧ sB v (co_scr M) (rr_scr R) ∧ zJ g (co_scr M) (rr_scr R) := by
  obtain ⟨m2, mk, m0⟩ := scr_m (M := M)
  obtain ⟨r2, rk, r0⟩ := scr_r (R := R)
  obtain ⟨hN, hS, hO, hW, -, -, -⟩ := id h
  obtain ⟨s1, s2, s3, s4, s5, s6, s7⟩ := hS
  obtain ⟨j, hj, ej⟩ := vp_in_of s7 (by decide)
  have hcl : (nI j).toNatClampNeg = j := nI_clamp (by omega)
  have hx := hW j hj
  have hpl := (tk_pc hx.2).1
  have key : zW (co_scr M) (rr_scr R) ∧ (co_scr M).1 0 13 = (rr_scr R).1 0 5 ∧ (co_scr M).1 0 14 = (rr_scr R).1 0 6 ∧ vp_in ((co_scr M).1 0 14) 256 := by
    simp only [co_scr, rr_scr, cw_right]
    rw [← s6, ej, hcl, ← hx.1, hpl]
    by_cases q : bt_fault (cw_get M j) < 0
    · simp only [if_pos q, if_pos (show (-1 : Int32) < 0 by decide)]
      refine ⟨zW_fr hW (by simp only []; rw [kz_u_off _ _ _ _ (by decide)]) rfl ?_ ?_, ?_, ?_, ?_⟩
      · simp only [rt_M]; rw [kz_u_off _ _ _ _ (by decide), kz_u_off _ _ _ _ (by decide), kz_u_off _ _ _ _ (by decide)]
      · simp only [rt_M]; rw [kz_u_off _ _ _ _ (by decide)]
      · rw [kz_u_ne _ _ _ _ (by decide), kz_u_ne _ _ _ _ (by decide)]
        simp only [rt_M]
        rw [kz_u_ne _ _ _ _ (by decide), kz_u_ne _ _ _ _ (by decide)]
        exact s5
      · rw [kz_u_same, kz_u_same]
      · rw [kz_u_same]; exact scr_in j hj
    · simp only [if_neg q]
      obtain ⟨p, hp, ep⟩ := ft_in q
      have hok : bt_ok (bt_turn (cw_get M j) (bt_fault (cw_get M j))) := by rw [ep]; exact ok_turn hx.2 p hp
      have hW2 : zW M (rt_M R (cw_get M j)) := fun k hk => by rw [rtM_g]; exact hW k hk
      refine ⟨zW_fr (zW_put (a := j) hW2 hok) ?_ rfl ?_ rfl, ?_, ?_, ?_⟩
      · simp only []; rw [kz_u_off _ _ _ _ (by decide), kz_u_off _ _ _ _ (by decide)]
      · simp only []; rw [kz_u_off _ _ _ _ (by decide), kz_u_off _ _ _ _ (by decide)]
      · rw [kz_u_ne _ _ _ _ (by decide), kz_u_same, kz_u_ne _ _ _ _ (by decide), kz_u_same, s5]
      · rw [kz_u_same, kz_u_same]
      · rw [kz_u_same]; exact scr_in j hj
  obtain ⟨k1, k2, k3, k4⟩ := key
  refine ⟨zX_fr0 h ⟨?_, ?_⟩ ⟨?_, ?_, ?_, ?_, k2, k3, k4⟩ ?_ k1 (fun i a a' => mk i (by omega) (by omega)) (by rw [mk 1 (by decide) (by decide)]) (m2 16 (by decide)) (fun i a a' => rk i (by omega) (by omega)) (fun i a => r0 i (by omega) (by omega) (by omega)) (r2 12 (by decide) (by decide)), sB_fr hB (fun i a a' => mk i (by omega) (by omega)) (rk 1 (by decide) (by decide)) (fun i a a' => rk i (by omega) (by omega)) (r0 16 (by decide) (by decide) (by decide)) (r0 17 (by decide) (by decide) (by decide)), zJ_fr hJ (fun i a => mk i (by omega) (by omega)) (fun i a a' => rk i (by omega) (by omega)) (r0 4 (by decide) (by decide) (by decide))⟩
  · rw [m0 9 (by decide) (by decide)]; exact hN.1
  · rw [r0 2 (by decide) (by decide) (by decide)]; exact hN.2
  · rw [m0 0 (by decide) (by decide), r0 0 (by decide) (by decide) (by decide)]; exact s1
  · rw [m0 1 (by decide) (by decide), r0 1 (by decide) (by decide) (by decide)]; exact s2
  · rw [m0 11 (by decide) (by decide), r0 3 (by decide) (by decide) (by decide)]; exact s3
  · rw [m0 12 (by decide) (by decide), r0 8 (by decide) (by decide) (by decide)]; exact s4
  · unfold zO; rw [m0 10 (by decide) (by decide), mk 2 (by decide) (by decide)]; exact hO
/-- refreshing or closing -/
theorem z_roc {t u c b e g : Nat} {M R : kz_M} {wq rs ws : List Int32} (h : zX t u c b e M R wq rs ws) (hB : sB t M R) (hJ : zJ g M R) (hg : g ≤ 200000) (ht : t ≤ 200000) : ∃ g', g' ≤ g + 1 ∧ zX t u c b e (co_roc M (g % 32)) (rr_ref R g) wq rs ws ∧ sB (t + 1) (co_roc M (g % 32)) (rr_ref R g) ∧ zJ g' (co_roc M (g % 32)) (rr_ref R g) := by
  obtain ⟨hm, hn⟩ := id h.1
  have e1 : cb_mayRef M (M.1 0 9) = (rr_cl R 4 3 true && rr_mr R (rr_bh R (R.1 6 4) (R.1 1 12)) 4 0) := by rw [hm]; exact sB_ref hB.1 hB.2.2.1 hB.2.1 hn ht
  have e2 : co_low M 4 0 = rq_fst (rr_mayPre R) 4 0 := sB_low hB.1 hB.2.1 hm hn ht 4 0 rfl
  unfold co_roc rr_ref
  rw [e1, e2]
  split
  · obtain ⟨a1, a2, a3⟩ := z_rf0 h hB hJ hg
    obtain ⟨b1, b2, b3⟩ := z_scr a1 a2 a3
    obtain ⟨c1, c2, c3⟩ := z_scr b1 b2 b3
    exact ⟨g + 1, by omega, c1, c2, c3⟩
  · cases hq : rq_fst (rr_mayPre R) 4 0 with
    | none => exact ⟨g, by omega, h, sB_up hB, hJ⟩
    | some k =>
      have := rq_fst_lt 4 0 k hq
      obtain ⟨a1, a2, a3⟩ := z_pre (k := k) h hB hJ hg (by omega)
      exact ⟨g + 1, by omega, a1, a2, a3⟩
