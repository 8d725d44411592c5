/-! The relation of class and reference: the banks, kept by an activate, whole. -/
theorem sB_kact {t b g r : Nat} {M R : kz_M} (h : sB t M R) (hb : b < 4) (hr : r < 8) (hn : R.1 0 2 = nI t) : sB (t + 1) (cb_act M (nI b) (nI r) (nI t)) (rr_act R g (nI b) (nI r)) := by
  have hcl : (nI b).toNatClampNeg = b := nI_clamp (by omega)
  obtain ⟨h1, h2, ⟨a1, a2, a3, a4⟩, h4, h5⟩ := sB_up h
  have e4 : (cb_act M (nI b) (nI r) (nI t)).1 4 = fun j => if j = b then nI t else M.1 4 j := by
    funext j
    simp only [cb_act, hcl]
    rw [if_neg (by decide), kz_u_row, kz_u_off _ _ _ _ (by decide)]
  have e3 : (cb_act M (nI b) (nI r) (nI t)).1 3 = fun j => if j = b then nI r else M.1 3 j := by
    funext j
    simp only [cb_act, hcl]
    rw [if_neg (by decide), kz_u_off _ _ _ _ (by decide), kz_u_row]
  have eo : ∀ k, k ≠ 3 → k ≠ 4 → k ≠ 8 → (cb_act M (nI b) (nI r) (nI t)).1 k = M.1 k := fun k k3 k4 k8 => by
    funext j
    simp only [cb_act, hcl]
    rw [if_neg k8, kz_u_off _ _ _ _ k4, kz_u_off _ _ _ _ k3]
  have e8 : ∀ j, j < 4 → (cb_act M (nI b) (nI r) (nI t)).1 8 j = if j = 0 then nI t else M.1 8 (j - 1) := fun j hj => by
    simp only [cb_act]
    rw [if_pos trivial, if_pos hj]
  have f5 : ∀ j, (rr_act R g (nI b) (nI r)).1 5 j = if j = 5 * b then nI t else R.1 5 j := fun j => by
    rw [act_o 5 (by decide) (by decide)]
    exact (gv_5 (k := 0) hb (by decide) j).trans (by rw [hn, Nat.add_zero])
  have f6 : ∀ j, (rr_act R g (nI b) (nI r)).1 6 j = if j = 0 then nI t else R.1 6 j := fun j => by
    rw [act_o 6 (by decide) (by decide)]
    exact (gv_6 (k := 0) (by decide) j).trans (by rw [hn])
  have f1 : (rr_act R g (nI b) (nI r)).1 1 = R.1 1 := by rw [act_o 1 (by decide) (by decide), gv_row 1 (by decide) (by decide) (by decide) (by decide)]
  have f0 : ∀ j, j ≠ 4 → (rr_act R g (nI b) (nI r)).1 0 j = R.1 0 j := fun j hj => by rw [act_o 0 (by decide) (by decide), gv_0 j hj]
  refine ⟨?_, fun c hc => ?_, ⟨?_, fun i hi => ?_, ?_, ?_⟩, ?_, ?_⟩
  · unfold sT; rw [eo 2 (by decide) (by decide) (by decide), f1]; exact h1
  · obtain ⟨k1, k2, k3, k4, k5, k6⟩ := h2 c hc
    unfold sK
    rw [e3, e4, eo 5 (by decide) (by decide) (by decide), eo 6 (by decide) (by decide) (by decide), eo 7 (by decide) (by decide) (by decide), act_4 hb, f5, f5, f5, f5]
    rw [if_neg (show ¬ 5 * c + 1 = 5 * b by omega), if_neg (show ¬ 5 * c + 2 = 5 * b by omega), if_neg (show ¬ 5 * c + 3 = 5 * b by omega)]
    by_cases q : c = b
    · subst q
      simp only [if_true]
      exact ⟨trivial, Or.inr ⟨r, hr, rfl⟩, st_now, k4, k5, k6⟩
    · simp only [if_neg q, if_neg (show ¬ 5 * c = 5 * b by omega)]
      exact ⟨k1, k2, k3, k4, k5, k6⟩
  · rw [e8 0 (by decide), f6, if_pos rfl, if_pos rfl]; exact st_now
  · rw [e8 i hi]
    obtain ⟨g0, g1, g2, g3⟩ := act_7 (R := R) (g := g) (b := nI b) (r := nI r)
    match i, hi with
    | 0, _ => rw [if_pos rfl, g3, hn]; exact st_now
    | 1, _ => rw [if_neg (by decide), g2]; exact a2 0 (by decide)
    | 2, _ => rw [if_neg (by decide), g1]; exact a2 1 (by decide)
    | 3, _ => rw [if_neg (by decide), g0]; exact a2 2 (by decide)
  · rw [eo 1 (by decide) (by decide) (by decide), f6, if_neg (by decide)]; exact a3
  · rw [eo 1 (by decide) (by decide) (by decide), f6, if_neg (by decide)]; exact a4
  · unfold sL; rw [eo 1 (by decide) (by decide) (by decide), f6, f6, if_neg (by decide), if_neg (by decide)]; exact h4
  · unfold sU; rw [eo 1 (by decide) (by decide) (by decide), f0 16 (by decide), f0 17 (by decide)]; exact h5
