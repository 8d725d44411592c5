/-! The relation of class and reference: the banks, transfers. -/
theorem sL_bh {t : Nat} {M R : kz_M} (hT : sT M R) (hL : sL t M R) (hn : R.1 0 2 = nI t) (ht : t ≤ 200000) : (!decide (nI t - M.1 1 7 < M.1 2 6)) = (rr_bh R (R.1 6 2) (R.1 1 6) && rr_bh R (R.1 6 3) (R.1 1 6)) := by
  obtain ⟨x, y, hxy, hy, hx⟩ := hL
  rw [sT_bh hT (by decide) hn ht hy]
  have key : rr_bh R y (R.1 1 6) = true → rr_bh R x (R.1 1 6) = true := by
    obtain ⟨u, -, hu, -, e2⟩ := hT 6 (by decide)
    unfold rr_bh
    rw [e2, hn, Bool.not_eq_true', Bool.not_eq_true', decide_eq_false_iff_not, decide_eq_false_iff_not]
    rcases hx with rfl | ⟨a, rfl, c, rfl, hac, hc⟩
    · intro _
      rw [Int32.lt_iff_toInt_lt, Int32.toInt_add, nI_toInt (n := t) (by omega), nI_toInt (n := u) (by omega), show (-100000 : Int32).toInt = -100000 by decide, Int.bmod_eq_of_le (by omega) (by omega)]
      omega
    · rw [nI_plus, nI_plus, nI_ltI (by omega) (by omega), nI_ltI (by omega) (by omega)]
      omega
  rcases hxy with ⟨e1, e2⟩ | ⟨e1, e2⟩ <;> rw [e1, e2] <;> cases h : rr_bh R y (R.1 1 6)
  · rw [Bool.and_false]
  · rw [key h]; rfl
  · rfl
  · rw [key h]; rfl
theorem sU_bus {t : Nat} {M R : kz_M} (w : Bool) (hT : sT M R) (hU : sU t M R) (hn : R.1 0 2 = nI t) (ht : t ≤ 200000) : (!decide (cb_beg M w (nI t) < cb_bus M w)) = rr_bus R (if w = true then 3 else 2) (R.1 1 (if w = true then 11 else 10)) := by
  unfold cb_beg cb_bus rr_bus
  obtain ⟨u, -, hu, e1, e2⟩ := hT (if w = true then 11 else 10) (by split <;> decide)
  rw [show (if w = true then M.1 2 11 else M.1 2 10) = M.1 2 (if w = true then 11 else 10) by split <;> rfl, e1, e2, hn, nI_plus]
  congr 1
  refine decide_eq_decide.mpr ?_
  rcases hU with ⟨a, b, c, d⟩ | ⟨v, z, hv, a, b, c, d⟩
  · rw [a, b, c, d, if_pos rfl]
    have h1 : ¬ nI (t + u) < -100000 + 0 := by
      rw [Int32.lt_iff_toInt_lt, nI_toInt (n := t + u) (by omega), show (-100000 + 0 : Int32).toInt = -100000 by decide]
      omega
    refine ⟨fun q => absurd q ?_, fun q => absurd q h1⟩
    split
    · rw [Int32.lt_iff_toInt_lt, nI_toInt (n := t + u) (by omega), show (-1000000 + 4 + 0 : Int32).toInt = -999996 by decide]
      omega
    · rw [Int32.lt_iff_toInt_lt, nI_toInt (n := t + u) (by omega), show (-1000000 + 4 + 1 : Int32).toInt = -999995 by decide]
      omega
  · rw [a, b, c, d, show (4 : Int32) = nI 4 from rfl, nI_plus]
    cases w <;> cases z <;> exact Iff.rfl
theorem sB_tr {t b : Nat} {M R : kz_M} {r : Int32} (w : Bool) (hT : sT M R) (hA : sA t M R) (hL : sL t M R) (hU : sU t M R) (hK : sK t M R b) (hb : b < 4) (hn : R.1 0 2 = nI t) (ht : t ≤ 200000) : cb_mayTr M (nI b) r w (nI t) = (decide (R.1 4 b = r) && rr_mayMv R b w) := by
  have hcl : (nI b).toNatClampNeg = b := nI_clamp (by omega)
  unfold cb_mayTr rr_mayMv rr_near
  rw [hcl, hK.1, sT_bh hT (by decide) hn ht hK.2.2.1, sL_bh hT hL hn ht, sT_bh2 hT (by decide) (by decide) hn ht hA.2.2.2, sU_bus w hT hU hn ht]
  cases w
  · simp only [Bool.false_or, Bool.false_eq_true, if_false, Bool.and_assoc]
  · simp only [Bool.true_or, if_true, Bool.true_and, Bool.and_assoc]
