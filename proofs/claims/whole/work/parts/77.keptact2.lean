/-! The relation of class and reference: the banks, kept by an activate. -/
theorem gv_0 {R : kz_M} {g : Nat} {k b d t : Int32} (j : Nat) (h : j ≠ 4) : (rr_give R g k b d t).1 0 j = R.1 0 j := by
  unfold rr_give
  split <;> simp only [] <;> repeat first | rw [kz_u_off _ _ _ _ (by decide)] | rw [kz_u_ne _ _ _ _ (by omega)]
theorem act_4 {R : kz_M} {g b : Nat} {r : Int32} (hb : b < 4) (j : Nat) : (rr_act R g (nI b) r).1 4 j = if j = b then r else R.1 4 j := by
  simp only [rr_act]
  rw [kz_u_off _ _ _ _ (by decide), kz_u_off _ _ _ _ (by decide), kz_u_off _ _ _ _ (by decide), kz_u_off _ _ _ _ (by decide), kz_u_row, nI_clamp (n := b) (by omega), gv_row 4 (by decide) (by decide) (by decide) (by decide)]
theorem act_o {R : kz_M} {g : Nat} {b r : Int32} (k : Nat) (h4 : k ≠ 4) (h7 : k ≠ 7) : (rr_act R g b r).1 k = (rr_give R g 0 b r (-1)).1 k := by
  simp only [rr_act]
  rw [kz_u_off _ _ _ _ h7, kz_u_off _ _ _ _ h7, kz_u_off _ _ _ _ h7, kz_u_off _ _ _ _ h7, kz_u_off _ _ _ _ h4]
theorem act_7 {R : kz_M} {g : Nat} {b r : Int32} : (rr_act R g b r).1 7 0 = R.1 7 1 ∧ (rr_act R g b r).1 7 1 = R.1 7 2 ∧ (rr_act R g b r).1 7 2 = R.1 7 3 ∧ (rr_act R g b r).1 7 3 = R.1 0 2 := by
  simp [rr_act, kz_u]
