/-! The relation of class and reference: stamps. -/
def st (t : Nat) (x y : Int32) : Prop := (x = -1000000 ∧ y = -100000) ∨ ∃ a, a < t ∧ x = nI a ∧ y = nI a
theorem st_mono {t u : Nat} {x y : Int32} (h : st t x y) (hu : t ≤ u) : st u x y := h.elim Or.inl (fun ⟨a, b, c⟩ => Or.inr ⟨a, by omega, c⟩)
theorem st_now {t : Nat} : st (t + 1) (nI t) (nI t) := Or.inr ⟨t, by omega, rfl, rfl⟩
theorem st_bh {t T : Nat} {x y : Int32} (h : st t x y) (ht : t ≤ 200000) (hT : T ≤ 1000) : (decide (nI t - x < nI T)) = decide (nI t < y + nI T) := by
  refine decide_eq_decide.mpr ?_
  rw [Int32.lt_iff_toInt_lt, Int32.lt_iff_toInt_lt, Int32.toInt_sub, Int32.toInt_add, nI_toInt (n := t) (by omega), nI_toInt (n := T) (by omega)]
  rcases h with ⟨rfl, rfl⟩ | ⟨a, ha, rfl, rfl⟩
  · rw [show (-1000000 : Int32).toInt = -1000000 by decide, show (-100000 : Int32).toInt = -100000 by decide]
    rw [Int.bmod_eq_of_le (by omega) (by omega), Int.bmod_eq_of_le (by omega) (by omega)]
    omega
  · rw [nI_toInt (n := a) (by omega), Int.bmod_eq_of_le (by omega) (by omega), Int.bmod_eq_of_le (by omega) (by omega)]
    omega
