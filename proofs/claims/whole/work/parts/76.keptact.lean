/-! The relation of class and reference: the banks, kept by an activate. -/
theorem gv_row {R : kz_M} {g : Nat} {k b d t : Int32} (j : Nat) (h : j ≠ 0) (h5 : j ≠ 5) (h6 : j ≠ 6) (h18 : j < 18) : (rr_give R g k b d t).1 j = R.1 j := by
  unfold rr_give
  split <;> simp only [] <;> repeat rw [kz_u_off _ _ _ _ (by omega)]
theorem gv_5 {R : kz_M} {g b k : Nat} {d t : Int32} (hb : b < 4) (hk : k < 4) (j : Nat) : (rr_give R g (nI k) (nI b) d t).1 5 j = if j = 5 * b + k then R.1 0 2 else R.1 5 j := by
  unfold rr_give
  rw [if_neg (nI_pos (by omega)), nI_clamp (n := b) (by omega), nI_clamp (n := k) (by omega)]
  simp only [kz_u_row]
  congr 1
  repeat rw [kz_u_off _ _ _ _ (by decide)]
theorem gv_6 {R : kz_M} {g k : Nat} {b d t : Int32} (hk : k < 5) (j : Nat) : (rr_give R g (nI k) b d t).1 6 j = if j = k then R.1 0 2 else R.1 6 j := by
  unfold rr_give
  rw [nI_clamp (n := k) (by omega)]
  split
  · simp only [kz_u_row]
    congr 1
    repeat rw [kz_u_off _ _ _ _ (by decide)]
  · simp only []
    rw [kz_u_off _ _ _ _ (by decide), kz_u_row]
    simp only []
    congr 1
    repeat rw [kz_u_off _ _ _ _ (by decide)]
