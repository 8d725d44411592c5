/-! The relation of class and reference: the banks. -/
theorem nI_plus (a b : Nat) : nI a + nI b = nI (a + b) := (Int32.ofNat_add a b).symm
def sT (M R : kz_M) : Prop := ∀ i, i < 14 → ∃ u, 1 ≤ u ∧ u ≤ 400 ∧ M.1 2 i = nI u ∧ R.1 1 i = nI u
def sK (t : Nat) (M R : kz_M) (b : Nat) : Prop := M.1 3 b = R.1 4 b ∧ (M.1 3 b = -1 ∨ ∃ r, r < 8 ∧ M.1 3 b = nI r) ∧ st t (M.1 4 b) (R.1 5 (5 * b)) ∧ st t (M.1 5 b) (R.1 5 (5 * b + 1)) ∧ st t (M.1 6 b) (R.1 5 (5 * b + 2)) ∧ st t (M.1 7 b) (R.1 5 (5 * b + 3))
def sA (t : Nat) (M R : kz_M) : Prop := st t (M.1 8 0) (R.1 6 0) ∧ (∀ i, i < 4 → st t (M.1 8 i) (R.1 7 (3 - i))) ∧ st t (M.1 1 9) (R.1 6 4) ∧ st t (M.1 1 8) (R.1 6 3)
def sL (t : Nat) (M R : kz_M) : Prop := ∃ x y, ((R.1 6 2 = x ∧ R.1 6 3 = y) ∨ (R.1 6 3 = x ∧ R.1 6 2 = y)) ∧ st t (M.1 1 7) y ∧ (x = -100000 ∨ ∃ a, x = nI a ∧ ∃ c, y = nI c ∧ a ≤ c ∧ c < t)
def sU (t : Nat) (M R : kz_M) : Prop := (M.1 1 10 = -1000000 ∧ R.1 0 16 = -100000 ∧ R.1 0 17 = -1 ∧ M.1 1 11 = 0) ∨ ∃ v w, v ≤ t + 400 ∧ M.1 1 10 = nI v ∧ R.1 0 16 = nI (v + 4) ∧ M.1 1 11 = kz_ib w ∧ R.1 0 17 = if w = true then 3 else 2
theorem sT_bh {t i : Nat} {M R : kz_M} {x y : Int32} (hT : sT M R) (hi : i < 14) (hn : R.1 0 2 = nI t) (ht : t ≤ 200000) (h : st t x y) : (!decide (nI t - x < M.1 2 i)) = rr_bh R y (R.1 1 i) := by
  obtain ⟨u, -, hu, e1, e2⟩ := hT i hi
  rw [rr_bh, hn, e1, e2, st_bh h ht (by omega)]
theorem sT_bh2 {t i j : Nat} {M R : kz_M} {x y : Int32} (hT : sT M R) (hi : i < 14) (hj : j < 14) (hn : R.1 0 2 = nI t) (ht : t ≤ 200000) (h : st t x y) : (!decide (nI t - x < M.1 2 i + 4 + M.1 2 j)) = rr_bh R y (R.1 1 i + 4 + R.1 1 j) := by
  obtain ⟨u, -, hu, e1, e2⟩ := hT i hi
  obtain ⟨v, -, hv, e3, e4⟩ := hT j hj
  rw [rr_bh, hn, e1, e2, e3, e4, show (4 : Int32) = nI 4 from rfl, nI_plus, nI_plus, st_bh h ht (by omega)]
theorem sB_act {t b : Nat} {M R : kz_M} (hT : sT M R) (hA : sA t M R) (hK : sK t M R b) (hb : b < 4) (hn : R.1 0 2 = nI t) (ht : t ≤ 200000) : cb_mayAct M (nI b) (nI t) = rr_mayAct R b := by
  have hcl : (nI b).toNatClampNeg = b := nI_clamp (by omega)
  unfold cb_mayAct rr_mayAct
  rw [hcl, hK.1, sT_bh hT (by decide) hn ht hK.2.2.2.1, sT_bh hT (by decide) hn ht hK.2.2.1, sT_bh hT (by decide) hn ht hA.1, sT_bh hT (by decide) hn ht (hA.2.1 3 (by decide)), sT_bh hT (by decide) hn ht hA.2.2.1]
theorem sB_pre {t b : Nat} {M R : kz_M} (hT : sT M R) (hK : sK t M R b) (hb : b < 4) (hn : R.1 0 2 = nI t) (ht : t ≤ 200000) : cb_mayPre M (nI b) (nI t) = rr_mayPre R b := by
  have hcl : (nI b).toNatClampNeg = b := nI_clamp (by omega)
  unfold cb_mayPre rr_mayPre
  rw [hcl, hK.1, sT_bh hT (by decide) hn ht hK.2.2.1, sT_bh hT (by decide) hn ht hK.2.2.2.2.1, sT_bh2 hT (by decide) (by decide) hn ht hK.2.2.2.2.2]
