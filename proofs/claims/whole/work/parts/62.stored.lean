/-! Words: stored alike, whole. -/
theorem wr_kps (v : Int64) : ∀ (n p : Nat) (x : bt_T) (s : Int32) (k o : Nat) (r : Int64), p + n = 72 → k + wr_n n p = 64 → r.toBitVec = v.toBitVec >>> k → bt_odd x = decide (o % 2 = 1) →
    (rs_kps v n p (x, s, nI k, nI o)).1 = (bt_kps n p (x, s, r)).1 ∧ (rs_kps v n p (x, s, nI k, nI o)).2.1 = (bt_kps n p (x, s, r)).2.1 ∧ ∃ o', (rs_kps v n p (x, s, nI k, nI o)).2.2.2 = nI o' ∧ o' ≤ o + n ∧ bt_odd (rs_kps v n p (x, s, nI k, nI o)).1 = decide (o' % 2 = 1) := by
  intro n
  induction n with
  | zero => intro p x s k o r _ _ _ h; exact ⟨rfl, rfl, o, rfl, by omega, h⟩
  | succ n ih =>
    intro p x s k o r hp hk hr ho
    rw [rs_kps, bt_kps]
    rw [wr_n] at hk
    by_cases hc : bt_chk (nI p) = true
    · have e1 : rs_kp v (nI p) (x, s, nI k, nI o) = (x, s, nI k, nI o) := by unfold rs_kp; rw [if_pos hc]
      have e2 : bt_kp (nI p) (x, s, r) = (x, s, r) := by unfold bt_kp; rw [if_pos hc]
      rw [if_pos hc] at hk
      rw [e1, e2]
      obtain ⟨a, b, o', c, d, e⟩ := ih (p + 1) x s k o r (by omega) (by omega) hr ho
      exact ⟨a, b, o', c, by omega, e⟩
    · rw [if_neg hc] at hk
      have hk64 : k < 64 := by omega
      have c1 : lg_cmp ((v >>> ((nI k).toInt64 &&& 63)) &&& 1) 1 = 0 ↔ v.toBitVec.getLsbD k = true := by
        rw [(wb_i64 ⟨k, hk64⟩).1]
        exact (wr_cmp _).2.trans (by rw [wb_sh64 _ _ hk64])
      have c2 : lg_cmp (r &&& 1) 0 = 0 ↔ v.toBitVec.getLsbD k = false := (wr_cmp r).1.trans (by rw [hr, BitVec.getLsbD_ushiftRight, Nat.add_zero])
      cases hb : v.toBitVec.getLsbD k with
      | false =>
        have e1 : rs_kp v (nI p) (x, s, nI k, nI o) = (x, s, nI (k + 1), nI o) := by
          unfold rs_kp
          rw [if_neg hc, if_neg (fun z => by have := c1.mp z; rw [hb] at this; cases this)]
          simp only [kz_inc]
        have e2 : bt_kp (nI p) (x, s, r) = (x, s, (r.toUInt64 >>> ((1 : Int32).toInt64.toUInt64 &&& Int64.toUInt64 63)).toInt64) := by unfold bt_kp; rw [if_neg hc, if_pos (c2.mpr hb)]
        rw [e1, e2]
        obtain ⟨a, b, o', c, d, e⟩ := ih (p + 1) x s (k + 1) o _ (by omega) (by omega) (wr_sh r _ k hr) ho
        exact ⟨a, b, o', c, by omega, e⟩
      | true =>
        have e1 : rs_kp v (nI p) (x, s, nI k, nI o) = (bt_turn x (nI p), s ^^^ nI p, nI (k + 1), nI (o + 1)) := by
          unfold rs_kp
          rw [if_neg hc, if_pos (c1.mpr hb)]
          simp only [kz_inc]
        have e2 : bt_kp (nI p) (x, s, r) = (bt_turn x (nI p), s ^^^ nI p, (r.toUInt64 >>> ((1 : Int32).toInt64.toUInt64 &&& Int64.toUInt64 63)).toInt64) := by
          unfold bt_kp
          rw [if_neg hc, if_neg (fun z => by have := c2.mp z; rw [hb] at this; cases this)]
        rw [e1, e2]
        obtain ⟨a, b, o', c, d, e⟩ := ih (p + 1) (bt_turn x (nI p)) (s ^^^ nI p) (k + 1) (o + 1) _ (by omega) (by omega) (wr_sh r _ k hr) (by
          rw [bo_turn x p (by omega), ho, ← decide_not]
          exact decide_eq_decide.mpr (by omega))
        exact ⟨a, b, o', c, by omega, e⟩
theorem wr_kc (syn : Int32) (q : Nat) (hq : q < 72) {x : bt_T} {y : bt_T × Int32} {o : Nat} (hy : y = (x, nI o)) (ho : bt_odd x = decide (o % 2 = 1)) : ∃ o', rs_kc syn (nI q) y = (bt_kc syn (nI q) x, nI o') ∧ o' ≤ o + 1 ∧ bt_odd (bt_kc syn (nI q) x) = decide (o' % 2 = 1) := by
  subst hy
  unfold rs_kc bt_kc
  by_cases h : syn &&& nI q = 0
  · rw [if_pos h, if_pos h]
    exact ⟨o, rfl, by omega, ho⟩
  · rw [if_neg h, if_neg h]
    refine ⟨o + 1, by simp only [kz_inc], Nat.le_refl _, ?_⟩
    rw [bo_turn x q hq, ho, ← decide_not]
    exact decide_eq_decide.mpr (by omega)
theorem wr_end : ∀ o : Fin 100, (nI o.val - nI o.val / 2 * 2 = 1) ↔ o.val % 2 = 1 := by decide +kernel
theorem wr_store (v : Int64) : rs_store v = bt_keep v := by
  obtain ⟨a, b, o, c, d, e⟩ := wr_kps v 69 3 (0, 0) 0 0 0 v (by decide) (by rw [wr_64]) (by simp) (by decide +kernel)
  have a : (rs_kps v 69 3 ((0, 0), 0, 0, 0)).1 = (bt_kps 69 3 ((0, 0), 0, v)).1 := a
  have b : (rs_kps v 69 3 ((0, 0), 0, 0, 0)).2.1 = (bt_kps 69 3 ((0, 0), 0, v)).2.1 := b
  have c : (rs_kps v 69 3 ((0, 0), 0, 0, 0)).2.2.2 = nI o := c
  have e : bt_odd (rs_kps v 69 3 ((0, 0), 0, 0, 0)).1 = decide (o % 2 = 1) := e
  unfold rs_store bt_keep rs_kcs bt_kcs
  rw [b, c, ← a]
  generalize (bt_kps 69 3 ((0, 0), 0, v)).2.1 = syn
  generalize (rs_kps v 69 3 ((0, 0), 0, 0, 0)).1 = x at e
  obtain ⟨o1, y1, l1, e1⟩ := wr_kc syn 1 (by decide) rfl e
  obtain ⟨o2, y2, l2, e2⟩ := wr_kc syn 2 (by decide) y1 e1
  obtain ⟨o3, y3, l3, e3⟩ := wr_kc syn 4 (by decide) y2 e2
  obtain ⟨o4, y4, l4, e4⟩ := wr_kc syn 8 (by decide) y3 e3
  obtain ⟨o5, y5, l5, e5⟩ := wr_kc syn 16 (by decide) y4 e4
  obtain ⟨o6, y6, l6, e6⟩ := wr_kc syn 32 (by decide) y5 e5
  obtain ⟨o7, y7, l7, e7⟩ := wr_kc syn 64 (by decide) y6 e6
  refine (congrArg rs_end y7).trans ?_
  show rs_end (_, nI o7) = bt_end _
  unfold rs_end bt_end
  have hw := wr_end ⟨o7, by omega⟩
  by_cases h : o7 % 2 = 1
  · rw [if_pos (hw.mpr h)]
    rw [decide_eq_true h] at e7
    exact (if_pos e7).symm
  · rw [if_neg (fun z => h (hw.mp z))]
    rw [decide_eq_false h] at e7
    exact (if_neg (by intro z; exact absurd (e7.symm.trans z) (by decide))).symm
