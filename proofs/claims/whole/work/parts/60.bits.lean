/-! Words: what the class and the reference make of them is the same. -/
def wb (x : bt_T) (p : Nat) : Bool := if p < 64 then x.1.toBitVec.getLsbD p else x.2.toBitVec.getLsbD (p - 64)
def wB (b : Bool) : Int32 := if b = true then 1 else 0
theorem wb_i64 : ∀ p : Fin 64, (nI p.val).toInt64 &&& 63 = Int64.ofNat p.val ∧ ((Int64.ofNat p.val).toBitVec.smod 64).toNat = p.val ∧ (Int64.ofNat p.val).toUInt64.toBitVec.toNat % 64 = p.val := by decide +kernel
theorem wb_i32 : ∀ p : Fin 8, (nI (64 + p.val) - 64) &&& 31 = nI p.val ∧ ((nI p.val).toBitVec.smod 32).toNat = p.val ∧ (nI p.val).toUInt32.toBitVec.toNat % 32 = p.val := by decide +kernel
theorem wb_and64 (v : Int64) : (v &&& 1).toInt32 = wB (v.toBitVec.getLsbD 0) := by
  have h : v &&& 1 = if v.toBitVec.getLsbD 0 = true then 1 else 0 := by
    apply Int64.toBitVec_inj.mp
    rw [Int64.toBitVec_and]
    apply BitVec.eq_of_getLsbD_eq
    intro i hi
    rw [BitVec.getLsbD_and]
    by_cases h0 : i = 0
    · subst h0
      cases q : v.toBitVec.getLsbD 0 <;> simp
    · have e : (1 : Int64).toBitVec.getLsbD i = false := by
        show (1#64).getLsbD i = false
        simp [BitVec.getLsbD_one, h0]
      rw [e, Bool.and_false]
      cases q : v.toBitVec.getLsbD 0 <;> simp [e, h0]
  rw [h]
  cases v.toBitVec.getLsbD 0 <;> rfl
theorem wb_and32 (v : Int32) : v &&& 1 = wB (v.toBitVec.getLsbD 0) := by
  have h : v &&& 1 = if v.toBitVec.getLsbD 0 = true then 1 else 0 := by
    apply Int32.toBitVec_inj.mp
    rw [Int32.toBitVec_and]
    apply BitVec.eq_of_getLsbD_eq
    intro i hi
    rw [BitVec.getLsbD_and]
    by_cases h0 : i = 0
    · subst h0
      cases q : v.toBitVec.getLsbD 0 <;> simp
    · have e : (1 : Int32).toBitVec.getLsbD i = false := by
        show (1#32).getLsbD i = false
        simp [BitVec.getLsbD_one, h0]
      rw [e, Bool.and_false]
      cases q : v.toBitVec.getLsbD 0 <;> simp [e, h0]
  rw [h]
  rfl
theorem wb_sh64 (v : Int64) (p : Nat) (hp : p < 64) : (v >>> Int64.ofNat p).toBitVec.getLsbD 0 = v.toBitVec.getLsbD p := by
  rw [Int64.toBitVec_shiftRight]
  have := (wb_i64 ⟨p, hp⟩).2.1
  simp only [BitVec.sshiftRight', this, BitVec.getLsbD_sshiftRight]
  simp [hp]
theorem wb_sh32 (v : Int32) (p : Nat) (hp : p < 8) : (v >>> nI p).toBitVec.getLsbD 0 = v.toBitVec.getLsbD p := by
  rw [Int32.toBitVec_shiftRight]
  have := (wb_i32 ⟨p, hp⟩).2.1
  simp only [BitVec.sshiftRight', this, BitVec.getLsbD_sshiftRight]
  simp
  omega
theorem wb_u64 : ∀ p : Fin 64, ((nI p.val).toInt64.toUInt64 &&& Int64.toUInt64 63).toBitVec % 64 = BitVec.ofNat 64 p.val ∧ (1 <<< ((nI p.val).toInt64 &&& 63) : Int64).toBitVec = BitVec.twoPow 64 p.val ∧ ¬ 64 ≤ nI p.val := by decide +kernel
theorem wb_u32 : ∀ p : Fin 8, ((nI (64 + p.val) - 64).toUInt32 &&& Int32.toUInt32 31).toBitVec % 32 = BitVec.ofNat 32 p.val ∧ (1 <<< ((nI (64 + p.val) - 64) &&& 31) : Int32).toBitVec = BitVec.twoPow 32 p.val ∧ 64 ≤ nI (64 + p.val) := by decide +kernel
theorem wb_rb (x : bt_T) (p : Nat) (hp : p < 72) : rb_bit x (nI p) = wB (wb x p) := by
  unfold rb_bit wb
  by_cases h : p < 64
  · rw [if_neg (wb_u64 ⟨p, h⟩).2.2, if_pos h, (wb_i64 ⟨p, h⟩).1, wb_and64, wb_sh64 _ _ h]
  · obtain ⟨k, rfl⟩ : ∃ k, p = 64 + k := ⟨p - 64, by omega⟩
    rw [if_pos (wb_u32 ⟨k, by omega⟩).2.2, if_neg h, (wb_i32 ⟨k, by omega⟩).1, wb_and32, wb_sh32 _ _ (by omega), Nat.add_sub_cancel_left]
theorem wb_bt (x : bt_T) (p : Nat) (hp : p < 72) : bt_bit x (nI p) = wB (wb x p) := by
  unfold bt_bit wb
  by_cases h : p < 64
  · rw [if_neg (wb_u64 ⟨p, h⟩).2.2, if_pos h, wb_and64]
    congr 1
    show (x.1.toUInt64 >>> ((nI p).toInt64.toUInt64 &&& Int64.toUInt64 63)).toBitVec.getLsbD 0 = _
    rw [UInt64.toBitVec_shiftRight, (wb_u64 ⟨p, h⟩).1]
    show (x.1.toBitVec >>> (BitVec.ofNat 64 p)).getLsbD 0 = _
    simp only [BitVec.ushiftRight_eq', BitVec.getLsbD_ushiftRight, BitVec.toNat_ofNat]
    rw [Nat.mod_eq_of_lt (by omega), Nat.add_zero]
  · obtain ⟨k, rfl⟩ : ∃ k, p = 64 + k := ⟨p - 64, by omega⟩
    rw [if_pos (wb_u32 ⟨k, by omega⟩).2.2, if_neg h, wb_and32, Nat.add_sub_cancel_left]
    congr 1
    show (x.2.toUInt32 >>> ((nI (64 + k) - 64).toUInt32 &&& Int32.toUInt32 31)).toBitVec.getLsbD 0 = _
    rw [UInt32.toBitVec_shiftRight, (wb_u32 ⟨k, by omega⟩).1]
    show (x.2.toBitVec >>> (BitVec.ofNat 32 k)).getLsbD 0 = _
    simp only [BitVec.ushiftRight_eq', BitVec.getLsbD_ushiftRight, BitVec.toNat_ofNat]
    rw [Nat.mod_eq_of_lt (by omega), Nat.add_zero]
theorem wb_rbt (x : bt_T) (p : Nat) (hp : p < 72) : rb_bit x (nI p) = bt_bit x (nI p) := (wb_rb x p hp).trans (wb_bt x p hp).symm
theorem wb_turn (x : bt_T) (q p : Nat) (hq : q < 72) (hp : p < 72) : wb (bt_turn x (nI q)) p = (wb x p ^^ decide (p = q)) := by
  unfold bt_turn wb
  by_cases h : q < 64
  · rw [if_neg (wb_u64 ⟨q, h⟩).2.2]
    by_cases h' : p < 64
    · rw [if_pos h', if_pos h']
      show (x.1 ^^^ (1 <<< ((nI q).toInt64 &&& 63))).toBitVec.getLsbD p = _
      rw [Int64.toBitVec_xor, (wb_u64 ⟨q, h⟩).2.1, BitVec.getLsbD_xor, BitVec.getLsbD_twoPow]
      by_cases e : p = q
      · simp [e, h]
      · rw [decide_eq_false e, decide_eq_false (fun z : q = p => e z.symm), Bool.and_false]
    · rw [if_neg h', if_neg h', decide_eq_false (by omega), Bool.xor_false]
  · obtain ⟨k, rfl⟩ : ∃ k, q = 64 + k := ⟨q - 64, by omega⟩
    rw [if_pos (wb_u32 ⟨k, by omega⟩).2.2]
    by_cases h' : p < 64
    · rw [if_pos h', if_pos h', decide_eq_false (by omega), Bool.xor_false]
    · obtain ⟨j, rfl⟩ : ∃ j, p = 64 + j := ⟨p - 64, by omega⟩
      rw [if_neg h', if_neg h', Nat.add_sub_cancel_left]
      show (x.2 ^^^ (1 <<< ((nI (64 + k) - 64) &&& 31))).toBitVec.getLsbD j = _
      rw [Int32.toBitVec_xor, (wb_u32 ⟨k, by omega⟩).2.1, BitVec.getLsbD_xor, BitVec.getLsbD_twoPow]
      by_cases e : j = k
      · subst e
        rw [decide_eq_true rfl, decide_eq_true (by omega : j < 32), decide_eq_true rfl, Bool.and_true]
      · rw [decide_eq_false (by omega : ¬ 64 + j = 64 + k)]
        rw [decide_eq_false (fun z : k = j => e z.symm), Bool.and_false]
