/-! The relation of class and reference: a cycle's beginning. -/
theorem zW_fr {M R N S : kz_M} (h : zW M R) (h1 : N.1 11 = M.1 11) (h2 : N.2 10 = M.2 10) (h3 : S.1 3 = R.1 3) (h4 : S.2 2 = R.2 2) : zW N S := by
  unfold zW cw_get rw_get at *
  rw [h1, h2, h3, h4]
  exact h
theorem zQ_fr {t c : Nat} {M R N S : kz_M} (h : zQ t c M R) (hM : ∀ k, 12 ≤ k → k ≤ 18 → N.1 k = M.1 k) (h2 : N.2 16 = M.2 16) (hR : ∀ k, 8 ≤ k → k ≤ 11 → S.1 k = R.1 k) (h7 : S.1 0 7 = R.1 0 7) (h12 : S.2 12 = R.2 12) : zQ t c N S := by
  unfold zQ at *
  rw [hM 12 (by decide) (by decide), hM 13 (by decide) (by decide), hM 14 (by decide) (by decide), hM 15 (by decide) (by decide), hM 17 (by decide) (by decide), hM 18 (by decide) (by decide), h2, hR 8 (by decide) (by decide), hR 9 (by decide) (by decide), hR 10 (by decide) (by decide), hR 11 (by decide) (by decide), h7, h12]
  exact h
theorem zP_fr {t c b e : Nat} {M R N S : kz_M} (h : zP t c b e M R) (h17 : N.1 17 = M.1 17) (h18 : N.1 18 = M.1 18) (h1 : N.1 1 10 = M.1 1 10) (hR : ∀ k, 13 ≤ k → k ≤ 16 → S.1 k = R.1 k) (h30 : S.1 0 30 = R.1 0 30) (h31 : S.1 0 31 = R.1 0 31) : zP t c b e N S := by
  unfold zP zPa rc_bs at *
  rw [h17, h18, h1, hR 13 (by decide) (by decide), hR 14 (by decide) (by decide), hR 16 (by decide) (by decide), h30, h31]
  exact h
theorem zL_fr {c b : Nat} {M R N S : kz_M} {wq rs ws : List Int32} (h : zL c b M R wq rs ws) (h14 : N.1 14 = M.1 14) (h17 : N.1 17 = M.1 17) (h8 : S.1 8 = R.1 8) (h9 : S.1 9 = R.1 9) (h15 : S.1 15 = R.1 15) (h26 : S.1 0 26 = R.1 0 26) (h27 : S.1 0 27 = R.1 0 27) (h28 : S.1 0 28 = R.1 0 28) : zL c b N S wq rs ws := by
  have ew : cx_w N = cx_w M := by funext x; unfold cx_w; rw [h14]
  unfold zL rq_at at *
  rw [h17, h8, h9, h15, h26, h27, h28, ew]
  exact h
theorem zg_up {t : Nat} {x y : Int32} (ht : t ≤ 200000) (h : x ≠ 0 → nI t ≤ y → nI (t + 1) ≤ y) : zg t x y = zg (t + 1) x y := by
  unfold zg
  by_cases hx : x = 0
  · rw [if_pos hx, if_pos hx]
  · rw [if_neg hx, if_neg hx]
    by_cases hy : nI t ≤ y
    · rw [if_pos hy, if_pos (h hx hy)]
    · rw [if_neg hy, if_neg (fun z => hy (Int32.le_trans (nI_le (by omega) (by omega)) z))]
theorem out_eq {t c b e : Nat} {T U : Nat → Nat} {M R : kz_M} (h : zPa t c b e T U M R) (hc : c ≤ 400) (hn : R.1 0 2 = nI t) (ht : t ≤ 200000) (he : e ≤ b) : rc_out R (b - e) e = if e < b ∧ U e = t then rc_o1 R e else R := by
  obtain ⟨h1, h2, h3⟩ := h
  have key : ∀ i, e ≤ i → i < b → ∀ S : kz_M, S.1 16 = R.1 16 → S.1 13 = R.1 13 → S.1 0 2 = R.1 0 2 → (S.1 13 (S.1 16 i).toNatClampNeg = S.1 0 2 ↔ U i = t) := fun i a b' S s16 s13 s2 => by
    obtain ⟨q1, q2, q3, q4, q5, q6, q7, v, q8, q9, q10⟩ := h1 i a b'
    rw [s16, s13, s2, q2, nI_clamp (n := T i) (by omega), q3, hn, nI_eq (by omega) (by omega)]
  cases hb : b - e with
  | zero => rw [if_neg (by omega)]; rfl
  | succ n =>
    rw [rc_out]
    by_cases q : U e = t
    · rw [if_pos ((key e (by omega) (by omega) R rfl rfl rfl).mpr q), if_pos ⟨by omega, q⟩]
      cases n with
      | zero => rfl
      | succ m =>
        rw [rc_out, if_neg]
        intro z
        have z2 := (key (e + 1) (by omega) (by omega) (rc_o1 R e) (by simp only [rc_o1]; rw [kz_u_off _ _ _ _ (by decide), kz_u_off _ _ _ _ (by decide)]) (by simp only [rc_o1]; rw [kz_u_off _ _ _ _ (by decide), kz_u_off _ _ _ _ (by decide)]) (by simp only [rc_o1]; rw [kz_u_ne _ _ _ _ (by decide), kz_u_off _ _ _ _ (by decide)])).mp z
        have := h2 e (e + 1) (by omega) (by omega) (by omega)
        omega
    · rw [if_neg (fun z => q ((key e (by omega) (by omega) R rfl rfl rfl).mp z)), if_neg (fun z => q z.2)]
theorem out_o {R : kz_M} : ∀ (n e : Nat), (rc_out R n e).2 = R.2 ∧ (∀ k, k ≠ 0 → k ≠ 11 → (rc_out R n e).1 k = R.1 k) ∧ ∀ j, j ≠ 31 → (rc_out R n e).1 0 j = R.1 0 j := by
  intro n
  induction n generalizing R with
  | zero => intro e; exact ⟨rfl, fun _ _ _ => rfl, fun _ _ => rfl⟩
  | succ n ih =>
    intro e
    rw [rc_out]
    split
    · obtain ⟨a, b, c⟩ := ih (R := rc_o1 R e) (e + 1)
      refine ⟨a, fun k h0 h11 => ?_, fun j hj => ?_⟩
      · rw [b k h0 h11]
        simp only [rc_o1]
        rw [kz_u_off _ _ _ _ h0, kz_u_off _ _ _ _ h11]
      · rw [c j hj]
        simp only [rc_o1]
        rw [kz_u_ne _ _ _ _ (fun z => hj z.2), kz_u_off _ _ _ _ (by decide)]
    · exact ⟨rfl, fun _ _ _ => rfl, fun _ _ => rfl⟩
theorem zPQ_out {t c b e : Nat} {M R : kz_M} (hQ : zQ t c M R) (hP : zP t c b e M R) (hn : R.1 0 2 = nI t) (ht : t ≤ 200000) : ∃ e', zQ (t + 1) c M (rc_out R (b - e) e) ∧ zP (t + 1) c b e' M (rc_out R (b - e) e) := by
  obtain ⟨hbs, T, U, hpa⟩ := hP
  obtain ⟨q1, q2, q3, q4, q5⟩ := hQ
  rw [out_eq hpa q3 hn ht hbs.1]
  obtain ⟨h1, h2, h3⟩ := hpa
  by_cases q : e < b ∧ U e = t
  · rw [if_pos q]
    obtain ⟨p1, p2, p3, p4, p5, p6, p7, -⟩ := h1 e (by omega) q.1
    have r11 : ∀ i, (rc_o1 R e).1 11 i = if i = T e then M.1 17 (T e) else R.1 11 i := fun i => by
      simp only [rc_o1]
      rw [kz_u_off _ _ _ _ (by decide), kz_u_row, p2, nI_clamp (n := T e) (by omega), p6]
    have ro : ∀ k, k ≠ 0 → k ≠ 11 → (rc_o1 R e).1 k = R.1 k := fun k a b => by
      simp only [rc_o1]
      rw [kz_u_off _ _ _ _ a, kz_u_off _ _ _ _ b]
    refine ⟨e + 1, ⟨q1, ?_, q3, fun i hi => ?_, q5⟩, rc_o1_bs hbs q.1, T, U, ⟨fun i a b' => ?_, fun i j a b' c' => h2 i j (by omega) b' c', fun τ a b' c' => ?_⟩⟩
    · simp only [rc_o1]
      rw [kz_u_ne _ _ _ _ (by decide), kz_u_off _ _ _ _ (by decide)]
      exact q2
    · obtain ⟨w1, w2, w3, w4, w5⟩ := q4 i hi
      rw [ro 9 (by decide) (by decide), ro 8 (by decide) (by decide), ro 10 (by decide) (by decide), r11]
      refine ⟨w1, w2, w3, w4, ?_⟩
      by_cases z : i = T e
      · rw [if_pos z, z, zg, if_neg p7, p4, q.2, if_neg (nI_ge (by omega) (by omega))]
      · rw [if_neg z, w5]
        refine zg_up ht (fun x0 x1 => ?_)
        obtain ⟨k, k1, k2, k3⟩ := h3 i hi x0 x1
        obtain ⟨-, -, -, y4, -, -, -, v, -, y9, y10⟩ := h1 k k1 k2
        have hke : k ≠ e := fun y => z (by rw [← k3, y])
        have := h2 e k (by omega) (by omega) k2
        rw [← k3, y4]
        exact nI_le (by omega) (by omega)
    · obtain ⟨w1, w2, w3, w4, w5, w6, w7, w8⟩ := h1 i (by omega) b'
      rw [ro 16 (by decide) (by decide), ro 13 (by decide) (by decide), ro 14 (by decide) (by decide)]
      have := h2 e i (by omega) (by omega) b'
      exact ⟨w1, w2, w3, w4, by omega, w6, w7, w8⟩
    · obtain ⟨i, i1, i2, i3⟩ := h3 τ a b' (Int32.le_trans (nI_le (by omega) (by omega)) c')
      refine ⟨i, ?_, i2, i3⟩
      have : i ≠ e := fun y => by
        rw [← i3, y, p4, q.2] at c'
        exact absurd c' (nI_ge (by omega) (by omega))
      omega
  · rw [if_neg q]
    have hu : ∀ i, e ≤ i → i < b → t < U i := fun i a b' => by
      obtain ⟨-, -, -, -, p5, -⟩ := h1 e (by omega) (by omega)
      by_cases z : i = e
      · have : U e ≠ t := fun y => q ⟨by omega, y⟩
        rw [z]; omega
      · have := h2 e i (by omega) (by omega) b'
        omega
    refine ⟨e, ⟨q1, q2, q3, fun i hi => ?_, q5⟩, hbs, T, U, ⟨fun i a b' => ?_, h2, fun τ a b' c' => h3 τ a b' (Int32.le_trans (nI_le (by omega) (by omega)) c')⟩⟩
    · obtain ⟨w1, w2, w3, w4, w5⟩ := q4 i hi
      refine ⟨w1, w2, w3, w4, ?_⟩
      rw [w5]
      refine zg_up ht (fun x0 x1 => ?_)
      obtain ⟨k, k1, k2, k3⟩ := h3 i hi x0 x1
      obtain ⟨-, -, -, y4, -, -, -, v, -, y9, y10⟩ := h1 k k1 k2
      have := hu k k1 k2
      rw [← k3, y4]
      exact nI_le (by omega) (by omega)
    · obtain ⟨w1, w2, w3, w4, w5, w6, w7, w8⟩ := h1 i a b'
      exact ⟨w1, w2, w3, w4, hu i a b', w6, w7, w8⟩
