/-! The relation of class and reference: the banks, kept by a transfer. -/
theorem tr_6 {M : kz_M} {b : Nat} {w : Bool} {t : Int32} (hb : b < 4) (j : Nat) : (cb_tr M (nI b) w t).1 6 j = if w = false ∧ j = b then t else M.1 6 j := by
  cases w
  · simp only [cb_tr, Bool.false_eq_true, if_false, nI_clamp (n := b) (show b < 2 ^ 31 by omega), true_and]
    rw [kz_u_row]
    simp only []
    repeat rw [kz_u_off _ _ _ _ (by decide)]
  · simp only [cb_tr, if_true, Bool.true_eq_false, false_and, if_false]
    repeat rw [kz_u_off _ _ _ _ (by decide)]
theorem tr_7 {M : kz_M} {b : Nat} {w : Bool} {t : Int32} (hb : b < 4) (j : Nat) : (cb_tr M (nI b) w t).1 7 j = if w = true ∧ j = b then t else M.1 7 j := by
  cases w
  · simp only [cb_tr, Bool.false_eq_true, if_false, false_and]
    repeat rw [kz_u_off _ _ _ _ (by decide)]
  · simp only [cb_tr, if_true, nI_clamp (n := b) (show b < 2 ^ 31 by omega), true_and]
    rw [kz_u_off _ _ _ _ (by decide), kz_u_row]
    simp only []
    repeat rw [kz_u_off _ _ _ _ (by decide)]
theorem tr_o {M : kz_M} {b : Int32} {w : Bool} {t : Int32} (k : Nat) (h1 : k ≠ 1) (h6 : k ≠ 6) (h7 : k ≠ 7) : (cb_tr M b w t).1 k = M.1 k := by
  cases w <;> simp [cb_tr, kz_u_off, *]
theorem tr_1 {M : kz_M} {b : Int32} {w : Bool} {t : Int32} : (cb_tr M b w t).1 1 7 = t ∧ (cb_tr M b w t).1 1 10 = cb_beg M w t ∧ (cb_tr M b w t).1 1 11 = kz_ib w ∧ (cb_tr M b w t).1 1 8 = (if w = true then t else M.1 1 8) ∧ (cb_tr M b w t).1 1 9 = M.1 1 9 := by
  cases w <;> simp [cb_tr, kz_u]
theorem rm_5 {R : kz_M} {g b : Nat} {w : Bool} {τ a : Int32} (hb : b < 4) (ha : ck_bank a = nI b) (j : Nat) : (rm_0 R g w τ a).1 5 j = if j = 5 * b + (if w = true then 3 else 2) then R.1 0 2 else R.1 5 j := by
  simp only [rm_0, ha]
  rw [kz_u_off _ _ _ _ (by decide), kz_u_off _ _ _ _ (by decide)]
  cases w
  · exact gv_5 (k := 2) hb (by decide) j
  · exact gv_5 (k := 3) hb (by decide) j
theorem rm_6 {R : kz_M} {g : Nat} {w : Bool} {τ a : Int32} (j : Nat) : (rm_0 R g w τ a).1 6 j = if j = (if w = true then 3 else 2) then R.1 0 2 else R.1 6 j := by
  simp only [rm_0]
  rw [kz_u_off _ _ _ _ (by decide), kz_u_off _ _ _ _ (by decide)]
  cases w
  · exact gv_6 (k := 2) (by decide) j
  · exact gv_6 (k := 3) (by decide) j
theorem sL_old {t : Nat} {M R : kz_M} (h : sL t M R) : (R.1 6 2 = -100000 ∨ ∃ a, a < t ∧ R.1 6 2 = nI a) ∧ (R.1 6 3 = -100000 ∨ ∃ a, a < t ∧ R.1 6 3 = nI a) := by
  obtain ⟨x, y, hxy, hy, hx⟩ := h
  have px : x = -100000 ∨ ∃ a, a < t ∧ x = nI a := by
    rcases hx with z | ⟨a, z1, c, z2, z3, z4⟩
    · exact Or.inl z
    · exact Or.inr ⟨a, by omega, z1⟩
  have py : y = -100000 ∨ ∃ a, a < t ∧ y = nI a := by
    rcases hy with z | ⟨a, z1, z2, z3⟩
    · exact Or.inl z.2
    · exact Or.inr ⟨a, z1, z3⟩
  rcases hxy with ⟨e1, e2⟩ | ⟨e1, e2⟩
  · rw [e1, e2]; exact ⟨px, py⟩
  · rw [e1, e2]; exact ⟨py, px⟩
theorem sB_ktr {t b g : Nat} {M R : kz_M} {w : Bool} {τ a : Int32} (h : sB t M R) (hb : b < 4) (ha : ck_bank a = nI b) (hn : R.1 0 2 = nI t) : sB (t + 1) (cb_tr M (nI b) w (nI t)) (rm_0 R g w τ a) := by
  have hold := sL_old h.2.2.2.1
  obtain ⟨h1, h2, ⟨a1, a2, a3, a4⟩, h4, h5⟩ := sB_up h
  obtain ⟨i7, i10, i11, i8, i9⟩ := tr_1 (M := M) (b := nI b) (w := w) (t := nI t)
  have r1 : (rm_0 R g w τ a).1 1 = R.1 1 := rm_off 1 (by decide)
  have r4 : (rm_0 R g w τ a).1 4 = R.1 4 := rm_off 4 (by decide)
  have r7 : (rm_0 R g w τ a).1 7 = R.1 7 := rm_off 7 (by decide)
  have r16 : (rm_0 R g w τ a).1 0 16 = R.1 0 2 + (if w = true then R.1 1 11 else R.1 1 10) + 4 := by simp [rm_0, kz_u]
  have r17 : (rm_0 R g w τ a).1 0 17 = if w = true then 3 else 2 := by simp [rm_0, kz_u]
  refine ⟨?_, fun c hc => ?_, ⟨?_, fun i hi => ?_, ?_, ?_⟩, ?_, ?_⟩
  · unfold sT; rw [tr_o 2 (by decide) (by decide) (by decide), r1]; exact h1
  · obtain ⟨k1, k2, k3, k4, k5, k6⟩ := h2 c hc
    unfold sK
    rw [tr_o 3 (by decide) (by decide) (by decide), tr_o 4 (by decide) (by decide) (by decide), tr_o 5 (by decide) (by decide) (by decide), r4, tr_6 hb, tr_7 hb, rm_5 hb ha, rm_5 hb ha, rm_5 hb ha, rm_5 hb ha, hn]
    cases w
    · simp only [Bool.false_eq_true, if_false, true_and, false_and]
      rw [if_neg (show ¬ 5 * c = 5 * b + 2 by omega), if_neg (show ¬ 5 * c + 1 = 5 * b + 2 by omega), if_neg (show ¬ 5 * c + 3 = 5 * b + 2 by omega)]
      by_cases q : c = b
      · rw [if_pos q, if_pos (by omega)]; exact ⟨k1, k2, k3, k4, st_now, k6⟩
      · rw [if_neg q, if_neg (by omega)]; exact ⟨k1, k2, k3, k4, k5, k6⟩
    · simp only [if_true, true_and, Bool.true_eq_false, false_and, if_false]
      rw [if_neg (show ¬ 5 * c = 5 * b + 3 by omega), if_neg (show ¬ 5 * c + 1 = 5 * b + 3 by omega), if_neg (show ¬ 5 * c + 2 = 5 * b + 3 by omega)]
      by_cases q : c = b
      · rw [if_pos q, if_pos (by omega)]; exact ⟨k1, k2, k3, k4, k5, st_now⟩
      · rw [if_neg q, if_neg (by omega)]; exact ⟨k1, k2, k3, k4, k5, k6⟩
  · rw [tr_o 8 (by decide) (by decide) (by decide), rm_6, if_neg (by split <;> decide)]; exact a1
  · rw [tr_o 8 (by decide) (by decide) (by decide), r7]; exact a2 i hi
  · rw [i9, rm_6, if_neg (by split <;> decide)]; exact a3
  · rw [i8, rm_6, hn]
    cases w
    · simp only [Bool.false_eq_true, if_false, Nat.reduceEqDiff]; exact a4
    · simp only [if_true]; exact st_now
  · unfold sL
    rw [i7, rm_6, rm_6, hn]
    cases w
    · simp only [Bool.false_eq_true, if_false, Nat.reduceEqDiff, if_true]
      refine ⟨R.1 6 3, nI t, Or.inr ⟨rfl, rfl⟩, st_now, ?_⟩
      rcases hold.2 with z | ⟨q, z1, z2⟩
      · exact Or.inl z
      · exact Or.inr ⟨q, z2, t, rfl, by omega, by omega⟩
    · simp only [if_false, Nat.reduceEqDiff, if_true]
      refine ⟨R.1 6 2, nI t, Or.inl ⟨rfl, rfl⟩, st_now, ?_⟩
      rcases hold.1 with z | ⟨q, z1, z2⟩
      · exact Or.inl z
      · exact Or.inr ⟨q, z2, t, rfl, by omega, by omega⟩
  · obtain ⟨u, -, hu, e1, e2⟩ := h1 (if w = true then 11 else 10) (by split <;> decide)
    refine Or.inr ⟨t + u, w, by omega, ?_, ?_, i11, r17⟩
    · rw [i10]
      unfold cb_beg
      rw [show (if w = true then M.1 2 11 else M.1 2 10) = M.1 2 (if w = true then 11 else 10) by split <;> rfl, e1, nI_plus]
    · rw [r16, hn, show (if w = true then R.1 1 11 else R.1 1 10) = R.1 1 (if w = true then 11 else 10) by split <;> rfl, e2, nI_plus]
      exact nI_plus _ 4
