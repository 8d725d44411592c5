/-! Words: stored alike. -/
theorem wb_a64 (v : Int64) : v &&& 1 = if v.toBitVec.getLsbD 0 = true then 1 else 0 := by
  apply Int64.toBitVec_inj.mp
  rw [Int64.toBitVec_and]
  apply BitVec.eq_of_getLsbD_eq
  intro i hi
  rw [BitVec.getLsbD_and]
  by_cases h0 : i = 0
  · subst h0
    cases q : v.toBitVec.getLsbD 0 <;> simp
  · have e : (1 : Int64).toBitVec.getLsbD i = false := by
      show (1#64).getLsbD i = false
      simp [BitVec.getLsbD_one, h0]
    rw [e, Bool.and_false]
    cases q : v.toBitVec.getLsbD 0 <;> simp [e, h0]
theorem bo_turn (x : bt_T) (q : Nat) (hq : q < 72) : bt_odd (bt_turn x (nI q)) = !bt_odd x := by
  have key : ∀ a b a' b' : Nat, ((a' % 2 = (a + 1) % 2 ∧ b' = b) ∨ (a' = a ∧ b' % 2 = (b + 1) % 2)) → decide ((a' + b') % 2 = 1) = !decide ((a + b) % 2 = 1) := by
    intro a b a' b' h
    rw [← decide_not]
    exact decide_eq_decide.mpr (by omega)
  unfold bt_odd bt_turn
  apply key
  by_cases h : q < 64
  · rw [if_neg (wb_u64 ⟨q, h⟩).2.2]
    refine Or.inl ⟨?_, rfl⟩
    show pp_ds 2 64 (x.1 ^^^ (1 <<< ((nI q).toInt64 &&& 63))).toBitVec.toNat % 2 = (pp_ds 2 64 x.1.toBitVec.toNat + 1) % 2
    rw [Int64.toBitVec_xor, (wb_u64 ⟨q, h⟩).2.1, BitVec.toNat_xor, BitVec.toNat_twoPow, Nat.mod_eq_of_lt (Nat.pow_lt_pow_right (by decide) h)]
    exact pp_turn 64 _ q h
  · obtain ⟨k, rfl⟩ : ∃ k, q = 64 + k := ⟨q - 64, by omega⟩
    rw [if_pos (wb_u32 ⟨k, by omega⟩).2.2]
    refine Or.inr ⟨rfl, ?_⟩
    show pp_ds 2 32 (x.2 ^^^ (1 <<< ((nI (64 + k) - 64) &&& 31))).toBitVec.toNat % 2 = (pp_ds 2 32 x.2.toBitVec.toNat + 1) % 2
    rw [Int32.toBitVec_xor, (wb_u32 ⟨k, by omega⟩).2.1, BitVec.toNat_xor, BitVec.toNat_twoPow, Nat.mod_eq_of_lt (Nat.pow_lt_pow_right (by decide) (by omega))]
    exact pp_turn 32 _ k (by omega)
def wr_n : Nat → Nat → Nat
  | 0, _ => 0
  | n + 1, p => (if bt_chk (nI p) = true then 0 else 1) + wr_n n (p + 1)
theorem wr_64 : wr_n 69 3 = 64 := by decide +kernel
theorem wr_cmp (v : Int64) : (lg_cmp (v &&& 1) 0 = 0 ↔ v.toBitVec.getLsbD 0 = false) ∧ (lg_cmp (v &&& 1) 1 = 0 ↔ v.toBitVec.getLsbD 0 = true) := by
  rw [wb_a64]
  cases v.toBitVec.getLsbD 0 <;> decide
theorem wr_sh (r : Int64) (v : BitVec 64) (k : Nat) (h : r.toBitVec = v >>> k) : ((r.toUInt64 >>> ((1 : Int32).toInt64.toUInt64 &&& Int64.toUInt64 63)).toInt64).toBitVec = v >>> (k + 1) := by
  show (r.toUInt64 >>> ((1 : Int32).toInt64.toUInt64 &&& Int64.toUInt64 63)).toBitVec = _
  rw [UInt64.toBitVec_shiftRight]
  show r.toBitVec >>> (((1 : Int32).toInt64.toUInt64 &&& Int64.toUInt64 63).toBitVec % 64) = _
  rw [show ((1 : Int32).toInt64.toUInt64 &&& Int64.toUInt64 63).toBitVec % 64 = 1#64 by decide, h, BitVec.ushiftRight_eq', BitVec.shiftRight_add]
  rfl
