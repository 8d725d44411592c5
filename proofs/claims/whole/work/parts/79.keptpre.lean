/-! The relation of class and reference: the banks, kept by a precharge and by a refresh. -/
theorem gv_5n {R : kz_M} {g : Nat} {k d t : Int32} : (rr_give R g k (-1) d t).1 5 = R.1 5 := by
  unfold rr_give
  rw [if_pos (by decide)]
  simp only []
  repeat rw [kz_u_off _ _ _ _ (by decide)]
theorem sB_kpre {t b g : Nat} {M R : kz_M} (h : sB t M R) (hb : b < 4) (hn : R.1 0 2 = nI t) : sB (t + 1) (cb_pre M (nI b) (nI t)) (rr_pre R g (nI b)) := by
  have hcl : (nI b).toNatClampNeg = b := nI_clamp (by omega)
  obtain ⟨h1, h2, ⟨a1, a2, a3, a4⟩, h4, h5⟩ := sB_up h
  have e5 : (cb_pre M (nI b) (nI t)).1 5 = fun j => if j = b then nI t else M.1 5 j := by
    simp only [cb_pre, hcl]
    rw [kz_u_row, kz_u_off _ _ _ _ (by decide)]
  have e3 : (cb_pre M (nI b) (nI t)).1 3 = fun j => if j = b then -1 else M.1 3 j := by
    simp only [cb_pre, hcl]
    rw [kz_u_off _ _ _ _ (by decide), kz_u_row]
  have eo : ∀ k, k ≠ 3 → k ≠ 5 → (cb_pre M (nI b) (nI t)).1 k = M.1 k := fun k k3 k5 => by
    simp only [cb_pre]
    rw [kz_u_off _ _ _ _ k5, kz_u_off _ _ _ _ k3]
  have fo : ∀ k, k ≠ 4 → (rr_pre R g (nI b)).1 k = (rr_give R g 1 (nI b) (-1) (-1)).1 k := fun k k4 => by
    simp only [rr_pre]
    rw [kz_u_off _ _ _ _ k4]
  have f4 : ∀ j, (rr_pre R g (nI b)).1 4 j = if j = b then -1 else R.1 4 j := fun j => by
    simp only [rr_pre, hcl]
    rw [kz_u_row, gv_row 4 (by decide) (by decide) (by decide) (by decide)]
  have f5 : ∀ j, (rr_pre R g (nI b)).1 5 j = if j = 5 * b + 1 then nI t else R.1 5 j := fun j => by
    rw [fo 5 (by decide)]
    exact (gv_5 (k := 1) hb (by decide) j).trans (by rw [hn])
  have f6 : ∀ j, (rr_pre R g (nI b)).1 6 j = if j = 1 then nI t else R.1 6 j := fun j => by
    rw [fo 6 (by decide)]
    exact (gv_6 (k := 1) (by decide) j).trans (by rw [hn])
  have f1 : (rr_pre R g (nI b)).1 1 = R.1 1 := by rw [fo 1 (by decide), gv_row 1 (by decide) (by decide) (by decide) (by decide)]
  have f7 : (rr_pre R g (nI b)).1 7 = R.1 7 := by rw [fo 7 (by decide), gv_row 7 (by decide) (by decide) (by decide) (by decide)]
  have f0 : ∀ j, j ≠ 4 → (rr_pre R g (nI b)).1 0 j = R.1 0 j := fun j hj => by rw [fo 0 (by decide), gv_0 j hj]
  refine ⟨?_, fun c hc => ?_, ⟨?_, fun i hi => ?_, ?_, ?_⟩, ?_, ?_⟩
  · unfold sT; rw [eo 2 (by decide) (by decide), f1]; exact h1
  · obtain ⟨k1, k2, k3, k4, k5, k6⟩ := h2 c hc
    unfold sK
    rw [e3, e5, eo 4 (by decide) (by decide), eo 6 (by decide) (by decide), eo 7 (by decide) (by decide), f4, f5, f5, f5, f5]
    rw [if_neg (show ¬ 5 * c = 5 * b + 1 by omega), if_neg (show ¬ 5 * c + 2 = 5 * b + 1 by omega), if_neg (show ¬ 5 * c + 3 = 5 * b + 1 by omega)]
    by_cases q : c = b
    · subst q
      simp only [if_true]
      exact ⟨trivial, Or.inl trivial, k3, st_now, k5, k6⟩
    · simp only [if_neg q, if_neg (show ¬ 5 * c + 1 = 5 * b + 1 by omega)]
      exact ⟨k1, k2, k3, k4, k5, k6⟩
  · rw [eo 8 (by decide) (by decide), f6, if_neg (by decide)]; exact a1
  · rw [eo 8 (by decide) (by decide), f7]; exact a2 i hi
  · rw [eo 1 (by decide) (by decide), f6, if_neg (by decide)]; exact a3
  · rw [eo 1 (by decide) (by decide), f6, if_neg (by decide)]; exact a4
  · unfold sL; rw [eo 1 (by decide) (by decide), f6, f6, if_neg (by decide), if_neg (by decide)]; exact h4
  · unfold sU; rw [eo 1 (by decide) (by decide), f0 16 (by decide), f0 17 (by decide)]; exact h5
theorem sB_kref {t g : Nat} {M R : kz_M} (h : sB t M R) (hn : R.1 0 2 = nI t) : sB (t + 1) (kz_u M.1 1 9 (nI t), M.2) (rr_give R g 4 (-1) (-1) (-1)) := by
  obtain ⟨h1, h2, ⟨a1, a2, a3, a4⟩, h4, h5⟩ := sB_up h
  have eo : ∀ k, k ≠ 1 → (kz_u M.1 1 9 (nI t)) k = M.1 k := fun k k1 => kz_u_off _ _ _ _ k1
  have e1 : ∀ j, j ≠ 9 → (kz_u M.1 1 9 (nI t)) 1 j = M.1 1 j := fun j hj => kz_u_ne _ _ _ _ (fun z => hj z.2)
  have f6 : ∀ j, (rr_give R g 4 (-1) (-1) (-1)).1 6 j = if j = 4 then nI t else R.1 6 j := fun j => (gv_6 (k := 4) (by decide) j).trans (by rw [hn])
  have fo : ∀ k, k ≠ 0 → k ≠ 5 → k ≠ 6 → k < 18 → (rr_give R g 4 (-1) (-1) (-1)).1 k = R.1 k := fun k a b c d => gv_row k a b c d
  refine ⟨?_, fun c hc => ?_, ⟨?_, fun i hi => ?_, ?_, ?_⟩, ?_, ?_⟩
  · unfold sT; simp only []; rw [eo 2 (by decide), fo 1 (by decide) (by decide) (by decide) (by decide)]; exact h1
  · unfold sK; simp only []; rw [eo 3 (by decide), eo 4 (by decide), eo 5 (by decide), eo 6 (by decide), eo 7 (by decide), gv_5n, fo 4 (by decide) (by decide) (by decide) (by decide)]; exact h2 c hc
  · simp only []; rw [eo 8 (by decide), f6, if_neg (by decide)]; exact a1
  · simp only []; rw [eo 8 (by decide), fo 7 (by decide) (by decide) (by decide) (by decide)]; exact a2 i hi
  · simp only []; rw [kz_u_same, f6, if_pos rfl]; exact st_now
  · simp only []; rw [e1 8 (by decide), f6, if_neg (by decide)]; exact a4
  · unfold sL; simp only []; rw [e1 7 (by decide), f6, f6, if_neg (by decide), if_neg (by decide)]; exact h4
  · unfold sU; simp only []; rw [e1 10 (by decide), e1 11 (by decide), gv_0 16 (by decide), gv_0 17 (by decide)]; exact h5
