/-! The relation of class and reference: the banks, refreshing. -/
theorem sB_pok {t b : Nat} {M R : kz_M} (hT : sT M R) (hK : sK t M R b) (hn : R.1 0 2 = nI t) (ht : t ≤ 200000) : cb_pok M b (nI t) = (decide (R.1 4 b = -1) && rr_bh R (R.1 5 (5 * b + 1)) (R.1 1 1)) := by
  unfold cb_pok
  rw [hK.1, ← sT_bh hT (by decide) hn ht hK.2.2.2.1]
  congr 1
  rw [← decide_not]
  exact decide_eq_decide.mpr Int32.not_lt.symm
theorem sB_ref {t : Nat} {M R : kz_M} (hT : sT M R) (hA : sA t M R) (hK : ∀ b, b < 4 → sK t M R b) (hn : R.1 0 2 = nI t) (ht : t ≤ 200000) : cb_mayRef M (nI t) = (rr_cl R 4 3 true && rr_mr R (rr_bh R (R.1 6 4) (R.1 1 12)) 4 0) := by
  unfold cb_mayRef
  rw [sB_pok hT (hK 0 (by decide)) hn ht, sB_pok hT (hK 1 (by decide)) hn ht, sB_pok hT (hK 2 (by decide)) hn ht, sB_pok hT (hK 3 (by decide)) hn ht, sT_bh hT (by decide) hn ht hA.2.2.1]
  simp only [rr_cl, rr_mr, Nat.mul_zero, Nat.zero_add, Nat.reduceMul, Nat.reduceAdd, Nat.reduceSub, Bool.true_and]
  generalize decide (R.1 4 0 = -1) = a0
  generalize decide (R.1 4 1 = -1) = a1
  generalize decide (R.1 4 2 = -1) = a2
  generalize decide (R.1 4 3 = -1) = a3
  generalize rr_bh R (R.1 5 1) (R.1 1 1) = b0
  generalize rr_bh R (R.1 5 6) (R.1 1 1) = b1
  generalize rr_bh R (R.1 5 11) (R.1 1 1) = b2
  generalize rr_bh R (R.1 5 16) (R.1 1 1) = b3
  generalize rr_bh R (R.1 6 4) (R.1 1 12) = c
  revert a0 a1 a2 a3 b0 b1 b2 b3 c
  decide
