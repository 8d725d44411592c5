/-! The relation of class and reference: a cycle's beginning, whole. -/
theorem owe_o {M : kz_M} : (co_owe M).2 = M.2 ∧ (∀ k, k ≠ 0 → (co_owe M).1 k = M.1 k) ∧ ∀ j, j ≠ 10 → j ≠ 11 → (co_owe M).1 0 j = M.1 0 j := by
  unfold co_owe
  split
  · exact ⟨rfl, fun k h => kz_u_off _ _ _ _ h, fun j h _ => by simp only []; rw [kz_u_ne _ _ _ _ (fun z => h z.2)]⟩
  · refine ⟨rfl, fun k h => ?_, fun j h h' => ?_⟩
    · simp only []
      rw [kz_u_off _ _ _ _ h, kz_u_off _ _ _ _ h]
    · simp only []
      rw [kz_u_ne _ _ _ _ (fun z => h z.2), kz_u_ne _ _ _ _ (fun z => h' z.2)]
theorem od_eq {t : Nat} {M R : kz_M} (hO : zO t M) (hT : sT M R) (hn : R.1 0 2 = nI t) (ht : t ≤ 200000) : rc_od R = true ↔ ¬ M.1 0 10 < M.1 2 13 := by
  obtain ⟨s, u, u1, u2, e1, e2, hs⟩ := hO
  obtain ⟨u', a1, a2, a3, a4⟩ := hT 13 (by decide)
  obtain rfl : u = u' := (nI_eq (by omega) (by omega)).mp (e2.symm.trans a3)
  unfold rc_od
  rw [hn, a4, e1, e2, pk_rem (a := t) (d := u) (by omega) (by omega) (by omega), Bool.and_eq_true, Bool.not_eq_true', decide_eq_false_iff_not, decide_eq_true_eq]
  rcases hs with ⟨rfl, rfl⟩ | ⟨s1, s2, k, rfl⟩
  · refine ⟨fun z => absurd (Int32.le_refl _) z.1, fun z => absurd (nI_lt (a := 0) (b := u) (by omega) (by omega)) z⟩
  · rw [nI_ltI (a := s) (b := u) (by omega) (by omega), show (0 : Int32) = nI 0 from rfl, nI_leI (by omega) (by omega), nI_eq (by have := Nat.mod_lt (s + k * u) u1; omega) (by omega), Nat.add_mul_mod_self_right]
    constructor
    · intro z w
      rw [Nat.mod_eq_of_lt w] at z
      omega
    · intro z
      obtain rfl : s = u := by omega
      exact ⟨by omega, Nat.mod_self s⟩
theorem zO_owe {t : Nat} {M : kz_M} (hO : zO t M) : zO (t + 1) (co_owe M) := by
  obtain ⟨s, u, u1, u2, e1, e2, hs⟩ := hO
  have e2' : (co_owe M).1 2 13 = nI u := by rw [owe_o.2.1 2 (by decide)]; exact e2
  by_cases q : M.1 0 10 < M.1 2 13
  · refine ⟨s + 1, u, u1, u2, ?_, e2', Or.inr ?_⟩
    · unfold co_owe
      rw [if_pos q]
      simp only []
      rw [kz_u_same, e1, nI_1]
    · rw [e1, e2] at q
      rcases hs with ⟨rfl, rfl⟩ | ⟨s1, s2, k, rfl⟩
      · exact ⟨by omega, by omega, 0, by omega⟩
      · rw [nI_ltI (by omega) (by omega)] at q
        exact ⟨by omega, by omega, k, by omega⟩
  · refine ⟨1, u, u1, u2, ?_, e2', Or.inr ⟨by omega, u1, ?_⟩⟩
    · unfold co_owe
      rw [if_neg q]
      simp only []
      rw [kz_u_same]
      rfl
    · rw [e1, e2] at q
      rcases hs with ⟨rfl, rfl⟩ | ⟨s1, s2, k, rfl⟩
      · exact absurd (nI_lt (a := 0) (b := u) (by omega) (by omega)) q
      · rw [nI_ltI (by omega) (by omega)] at q
        obtain rfl : s = u := by omega
        exact ⟨k + 1, by rw [Nat.add_mul]; omega⟩
theorem ow_o {R : kz_M} : (rc_ow R).2 = R.2 ∧ (∀ k, k ≠ 0 → (rc_ow R).1 k = R.1 k) ∧ ∀ j, j ≠ 3 → (rc_ow R).1 0 j = R.1 0 j := by
  unfold rc_ow
  split
  · exact ⟨rfl, fun k h => kz_u_off _ _ _ _ h, fun j h => by simp only []; rw [kz_u_ne _ _ _ _ (fun z => h z.2)]⟩
  · exact ⟨rfl, fun _ _ => rfl, fun _ _ => rfl⟩
theorem in_o {R : kz_M} {b e : Nat} : (rc_in R b e).2 = R.2 ∧ (∀ k, k ≠ 0 → k ≠ 11 → (rc_in R b e).1 k = R.1 k) ∧ ∀ j, j ≠ 31 → j ≠ 3 → (rc_in R b e).1 0 j = R.1 0 j := by
  obtain ⟨a1, a2, a3⟩ := out_o (R := rc_ow R) (b - e) e
  obtain ⟨b1, b2, b3⟩ := ow_o (R := R)
  exact ⟨a1.trans b1, fun k h h' => (a2 k h h').trans (b2 k h), fun j h h' => (a3 j h).trans (b3 j h')⟩
theorem z_owe {t c b e g : Nat} {M R : kz_M} {wq rs ws : List Int32} (h : zX t t c b e M R wq rs ws) (hB : sB t M R) (hJ : zJ g M R) (ht : t ≤ 200000) : ∃ e', zX t (t + 1) c b e' (co_owe M) (rc_in R b e) wq rs ws ∧ sB t (co_owe M) (rc_in R b e) ∧ zJ g (co_owe M) (rc_in R b e) := by
  obtain ⟨hN, hS, hO, hW, hQ, hP, hL⟩ := h
  obtain ⟨m2, mk, m0⟩ := owe_o (M := M)
  obtain ⟨r2, rk, r0⟩ := in_o (R := R) (b := b) (e := e)
  obtain ⟨w2, wk, w0⟩ := ow_o (R := R)
  have hQ1 : zQ t c (co_owe M) (rc_ow R) := zQ_fr hQ (fun k a _ => mk k (by omega)) (by rw [m2]) (fun k a _ => wk k (by omega)) (w0 7 (by decide)) (by rw [w2])
  have hP1 : zP t c b e (co_owe M) (rc_ow R) := zP_fr hP (mk 17 (by decide)) (mk 18 (by decide)) (by rw [mk 1 (by decide)]) (fun k a _ => wk k (by omega)) (w0 30 (by decide)) (w0 31 (by decide))
  obtain ⟨e', hQ2, hP2⟩ := zPQ_out hQ1 hP1 (by rw [w0 2 (by decide)]; exact hN.2) ht
  refine ⟨e', ⟨⟨?_, ?_⟩, ⟨?_, ?_, ?_, ?_, ?_, ?_, ?_⟩, zO_owe hO, zW_fr hW (mk 11 (by decide)) (by rw [m2]) (rk 3 (by decide) (by decide)) (by rw [r2]), hQ2, hP2, zL_fr hL (mk 14 (by decide)) (mk 17 (by decide)) (rk 8 (by decide) (by decide)) (rk 9 (by decide) (by decide)) (rk 15 (by decide) (by decide)) (r0 26 (by decide) (by decide)) (r0 27 (by decide) (by decide)) (r0 28 (by decide) (by decide))⟩, sB_fr hB (fun k a _ => mk k (by omega)) (rk 1 (by decide) (by decide)) (fun k a b' => rk k (by omega) (by omega)) (r0 16 (by decide) (by decide)) (r0 17 (by decide) (by decide)), zJ_fr hJ (fun k a => mk k (by omega)) (fun k a b' => rk k (by omega) (by omega)) (r0 4 (by decide) (by decide))⟩
  · rw [m0 9 (by decide) (by decide)]; exact hN.1
  · rw [r0 2 (by decide) (by decide)]; exact hN.2
  · rw [m0 0 (by decide) (by decide), r0 0 (by decide) (by decide)]; exact hS.1
  · rw [m0 1 (by decide) (by decide), r0 1 (by decide) (by decide)]; exact hS.2.1
  · have e3 : (rc_in R b e).1 0 3 = (rc_ow R).1 0 3 := (out_o (R := rc_ow R) (b - e) e).2.2 3 (by decide)
    rw [e3]
    unfold co_owe rc_ow
    by_cases q : M.1 0 10 < M.1 2 13
    · rw [if_pos q, if_neg (fun z => (od_eq hO hB.1 hN.2 ht).mp z q)]
      simp only []
      rw [kz_u_ne _ _ _ _ (by decide)]
      exact hS.2.2.1
    · rw [if_neg q, if_pos ((od_eq hO hB.1 hN.2 ht).mpr q)]
      simp only []
      rw [kz_u_ne _ _ _ _ (by decide), kz_u_same, kz_u_same, hS.2.2.1]
  · rw [m0 12 (by decide) (by decide), r0 8 (by decide) (by decide)]; exact hS.2.2.2.1
  · rw [m0 13 (by decide) (by decide), r0 5 (by decide) (by decide)]; exact hS.2.2.2.2.1
  · rw [m0 14 (by decide) (by decide), r0 6 (by decide) (by decide)]; exact hS.2.2.2.2.2.1
  · rw [m0 14 (by decide) (by decide)]; exact hS.2.2.2.2.2.2
