/-! The relation of class and reference: refreshing first, and draining. -/
theorem len_two (p : Int32 → Bool) : ∀ xs : List Int32, (xs.filter (fun x => !p x)).length + (xs.filter p).length = xs.length
  | [] => rfl
  | x :: xs => by
    have := len_two p xs
    rw [List.filter_cons, List.filter_cons]
    cases p x
    · simp only [Bool.not_false, if_true, Bool.false_eq_true, if_false, List.length_cons]; omega
    · simp only [Bool.not_true, if_true, Bool.false_eq_true, if_false, List.length_cons]; omega
theorem zL_len {c b : Nat} {M R : kz_M} {wq rs ws : List Int32} (h : zL c b M R wq rs ws) : rs.length + ws.length = wq.length := by
  obtain ⟨-, -, -, h1, h2, -⟩ := h
  rw [h1, h2]
  exact len_two _ _
theorem fst_eq {t u c b e : Nat} {M R : kz_M} {wq rs ws : List Int32} (h : zX t u c b e M R wq rs ws) (hr : ln_at M 19 rs) (hw : ln_at M 21 ws) : co_fst M = rc_b R := by
  obtain ⟨-, hS, -, -, -, -, hL⟩ := h
  have hl := zL_len hL
  have h16 := hL.1.2.1
  unfold co_fst rc_b
  rw [hr.1, hw.1, hL.1.1, hS.2.2.1, ← hl]
  congr 2
  · exact congrArg _ (decide_eq_decide.mpr (by rw [Int32.lt_iff_toInt_lt, Int32.le_iff_toInt_le, show (1 : Int32).toInt = 1 by decide, show (0 : Int32).toInt = 0 by decide]; omega))
  · rw [← Bool.decide_and]
    refine decide_eq_decide.mpr ?_
    rw [show (0 : Int32) = nI 0 from rfl, nI_eq (by omega) (by omega), nI_eq (by omega) (by omega), nI_eq (by omega) (by omega)]
    omega
theorem drv_a : ∀ q, q < 9 → ∀ w, w < q + 1 → ∀ r, r < q + 1 → ((!decide (nI w ≤ 0) && decide (nI r = 0)) || !decide (nI w < nI q)) = ((!decide (nI w ≤ 0) && decide (nI r = 0)) || decide (nI w = nI q)) ∧ (!decide (nI w ≤ 0) && (decide (nI r = 0) || !decide (2 * nI w ≤ nI q))) = !(decide (nI w = 0) || (!decide (nI r ≤ 0) && !decide (nI q < 2 * nI w))) := by decide +kernel
theorem drv_eq {t u c b e : Nat} {M R : kz_M} {wq rs ws : List Int32} (h : zX t u c b e M R wq rs ws) (hr : ln_at M 19 rs) (hw : ln_at M 21 ws) (hq : ∃ q, q ≤ 8 ∧ M.1 0 0 = nI q ∧ rs.length ≤ q ∧ ws.length ≤ q) : co_drv M = rr_drv R := by
  obtain ⟨-, hS, -, -, -, -, hL⟩ := h
  obtain ⟨q, q8, qe, q1, q2⟩ := hq
  obtain ⟨-, -, -, -, -, h27, h28, -⟩ := hL
  obtain ⟨a1, a2⟩ := drv_a q (by omega) ws.length (by omega) rs.length (by omega)
  unfold co_drv rr_drv
  rw [hr.1, hw.1, ← hS.1, qe, ← hS.2.2.2.1, h27, h28, a1, a2]
theorem z_dr {t u v c b e g : Nat} {M R : kz_M} {wq rs ws : List Int32} (h : zX t u c b e M R wq rs ws) (hB : sB v M R) (hJ : zJ g M R) (hr : ln_at M 19 rs) (hw : ln_at M 21 ws) (hq : ∃ q, q ≤ 8 ∧ M.1 0 0 = nI q ∧ rs.length ≤ q ∧ ws.length ≤ q) : zX t u c b e (co_dr M) (rv_dr R) wq rs ws ∧ sB v (co_dr M) (rv_dr R) ∧ zJ g (co_dr M) (rv_dr R) := by
  have hd := drv_eq h hr hw hq
  obtain ⟨hN, hS, hO, hW, hQ, hP, hL⟩ := h
  have mk : ∀ k, k ≠ 0 → (co_dr M).1 k = M.1 k := fun k a => kz_u_off _ _ _ _ a
  have m0 : ∀ j, j ≠ 12 → (co_dr M).1 0 j = M.1 0 j := fun j a => by simp only [co_dr]; rw [kz_u_ne _ _ _ _ (fun z => a z.2)]
  have rk : ∀ k, k ≠ 0 → (rv_dr R).1 k = R.1 k := fun k a => kz_u_off _ _ _ _ a
  have r0 : ∀ j, j ≠ 8 → (rv_dr R).1 0 j = R.1 0 j := fun j a => by simp only [rv_dr]; rw [kz_u_ne _ _ _ _ (fun z => a z.2)]
  refine ⟨⟨⟨?_, ?_⟩, ⟨?_, ?_, ?_, ?_, ?_, ?_, ?_⟩, ?_, zW_fr hW (mk 11 (by decide)) rfl (rk 3 (by decide)) rfl, zQ_fr hQ (fun k a _ => mk k (by omega)) rfl (fun k a _ => rk k (by omega)) (r0 7 (by decide)) rfl, zP_fr hP (mk 17 (by decide)) (mk 18 (by decide)) (by rw [mk 1 (by decide)]) (fun k a _ => rk k (by omega)) (r0 30 (by decide)) (r0 31 (by decide)), zL_fr hL (mk 14 (by decide)) (mk 17 (by decide)) (rk 8 (by decide)) (rk 9 (by decide)) (rk 15 (by decide)) (r0 26 (by decide)) (r0 27 (by decide)) (r0 28 (by decide))⟩, sB_fr hB (fun k a _ => mk k (by omega)) (rk 1 (by decide)) (fun k a b' => rk k (by omega)) (r0 16 (by decide)) (r0 17 (by decide)), zJ_fr hJ (fun k a => mk k (by omega)) (fun k a b' => rk k (by omega)) (r0 4 (by decide))⟩
  · rw [m0 9 (by decide)]; exact hN.1
  · rw [r0 2 (by decide)]; exact hN.2
  · rw [m0 0 (by decide), r0 0 (by decide)]; exact hS.1
  · rw [m0 1 (by decide), r0 1 (by decide)]; exact hS.2.1
  · rw [m0 11 (by decide), r0 3 (by decide)]; exact hS.2.2.1
  · unfold co_dr rv_dr
    simp only []
    rw [kz_u_same, kz_u_same, hd]
  · rw [m0 13 (by decide), r0 5 (by decide)]; exact hS.2.2.2.2.1
  · rw [m0 14 (by decide), r0 6 (by decide)]; exact hS.2.2.2.2.2.1
  · rw [m0 14 (by decide)]; exact hS.2.2.2.2.2.2
  · unfold zO
    rw [m0 10 (by decide), mk 2 (by decide)]
    exact hO
