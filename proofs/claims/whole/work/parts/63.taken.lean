/-! Words: taken alike: the syndrome, the parity. -/
def bt_ok (x : bt_T) : Prop := x.2.toBitVec.toNat < 256
theorem ok_turn {x : bt_T} (h : bt_ok x) (q : Nat) (hq : q < 72) : bt_ok (bt_turn x (nI q)) := by
  unfold bt_ok bt_turn at *
  by_cases h' : q < 64
  · rw [if_neg (wb_u64 ⟨q, h'⟩).2.2]
    exact h
  · obtain ⟨k, rfl⟩ : ∃ k, q = 64 + k := ⟨q - 64, by omega⟩
    rw [if_pos (wb_u32 ⟨k, by omega⟩).2.2]
    show (x.2 ^^^ (1 <<< ((nI (64 + k) - 64) &&& 31))).toBitVec.toNat < 2 ^ 8
    rw [Int32.toBitVec_xor, (wb_u32 ⟨k, by omega⟩).2.1, BitVec.toNat_xor, BitVec.toNat_twoPow, Nat.mod_eq_of_lt (Nat.pow_lt_pow_right (by decide) (by omega))]
    exact Nat.xor_lt_two_pow h (Nat.pow_lt_pow_right (by decide) (by omega))
def wc (f : Nat → Bool) : Nat → Nat → Nat
  | 0, _ => 0
  | n + 1, p => (f p).toNat + wc f n (p + 1)
theorem wc_congr (f g : Nat → Bool) : ∀ (n p q : Nat), (∀ i, i < n → f (p + i) = g (q + i)) → wc f n p = wc g n q
  | 0, _, _, _ => rfl
  | n + 1, p, q, h => by
    have h0 := h 0 (by omega)
    rw [wc, wc, wc_congr f g n (p + 1) (q + 1) (fun i hi => by have := h (i + 1) (by omega); rw [Nat.add_right_comm, Nat.add_right_comm q]; exact this)]
    rw [Nat.add_zero, Nat.add_zero] at h0
    rw [h0]
theorem wc_add (f : Nat → Bool) : ∀ (n m p : Nat), wc f (n + m) p = wc f n p + wc f m (p + n)
  | 0, m, p => by simp [wc]
  | n + 1, m, p => by
    rw [Nat.add_right_comm, wc, wc, wc_add f n m (p + 1), Nat.add_assoc p 1 n, Nat.add_comm 1 n, Nat.add_assoc]
theorem wc_zero (f : Nat → Bool) : ∀ (n p : Nat), (∀ i, p ≤ i → f i = false) → wc f n p = 0
  | 0, _, _ => rfl
  | n + 1, p, h => by rw [wc, h p (Nat.le_refl _), wc_zero f n (p + 1) (fun i hi => h i (by omega))]; rfl
theorem wc_ds (n : Nat) : ∀ (k p : Nat), pp_ds 2 k (n / 2 ^ p) = wc n.testBit k p
  | 0, _ => rfl
  | k + 1, p => by
    rw [wc, pp_ds, ← wc_ds n k (p + 1), Nat.toNat_testBit, Nat.div_div_eq_div_mul, Nat.pow_succ]
theorem wc_odd {x : bt_T} (h : bt_ok x) : bt_odd x = decide (wc (wb x) 72 0 % 2 = 1) := by
  unfold bt_odd
  have e1 : pp_ds 2 64 x.1.toUInt64.toNat = wc (wb x) 64 0 := by
    have := wc_ds x.1.toUInt64.toNat 64 0
    rw [Nat.pow_zero, Nat.div_one] at this
    rw [this]
    refine wc_congr _ _ 64 0 0 (fun i hi => ?_)
    rw [Nat.zero_add, wb, if_pos hi]
    rfl
  have e2 : pp_ds 2 32 x.2.toUInt32.toNat = wc (wb x) 8 64 := by
    have := wc_ds x.2.toUInt32.toNat 32 0
    rw [Nat.pow_zero, Nat.div_one] at this
    rw [this, wc_add _ 8 24 0, wc_zero _ 24 _ (fun i hi => ?_), Nat.add_zero]
    · refine wc_congr _ _ 8 0 64 (fun i hi => ?_)
      rw [Nat.zero_add, wb, if_neg (by omega), Nat.add_sub_cancel_left]
      rfl
    · exact Nat.testBit_lt_two_pow (Nat.lt_of_lt_of_le (show x.2.toUInt32.toNat < 2 ^ 8 from h) (Nat.pow_le_pow_right (by decide) (by omega)))
  rw [e1, e2, ← wc_add (wb x) 64 8 0]
theorem wB_1 (b : Bool) : wB b = 1 ↔ b = true := by cases b <;> decide
theorem nI_xor (a b : Nat) : nI a ^^^ nI b = nI (a ^^^ b) := Int32.toBitVec_inj.mp (by
  rw [Int32.toBitVec_xor]
  exact (BitVec.ofNat_xor).symm)
theorem rt_1_eq (x : bt_T) : ∀ (n p : Nat) (s : Int32) (o : Nat), p + n = 72 → rt_1 x n p (s, nI o) = (bt_syn x n p s, nI (o + wc (wb x) n p))
  | 0, _, _, _, _ => rfl
  | n + 1, p, s, o, h => by
    rw [rt_1, bt_syn, wc, wb_rb x p (by omega), wb_bt x p (by omega)]
    by_cases hb : wb x p = true
    · rw [if_pos ((wB_1 _).mpr hb), if_pos ((wB_1 _).mpr hb), hb]
      show rt_1 x n (p + 1) (s ^^^ nI p, nI o + Int32.ofInt 1) = _
      rw [kz_inc, rt_1_eq x n (p + 1) _ _ (by omega), Bool.toNat_true, Nat.add_assoc]
    · rw [if_neg (fun z => hb ((wB_1 _).mp z)), if_neg (fun z => hb ((wB_1 _).mp z)), rt_1_eq x n (p + 1) _ _ (by omega), Bool.eq_false_iff.mpr hb, Bool.toNat_false, Nat.zero_add]
theorem bt_syn_lt (x : bt_T) : ∀ (n p m : Nat), p + n = 72 → m < 128 → ∃ m', bt_syn x n p (nI m) = nI m' ∧ m' < 128
  | 0, _, m, _, hm => ⟨m, rfl, hm⟩
  | n + 1, p, m, h, hm => by
    rw [bt_syn]
    split
    · rw [nI_xor]
      exact bt_syn_lt x n (p + 1) _ (by omega) (Nat.xor_lt_two_pow (n := 7) hm (by omega))
    · exact bt_syn_lt x n (p + 1) m (by omega) hm
theorem wc_le (f : Nat → Bool) : ∀ (n p : Nat), wc f n p ≤ n
  | 0, _ => Nat.le_refl _
  | n + 1, p => by
    rw [wc]
    have := wc_le f n (p + 1)
    have : (f p).toNat ≤ 1 := Bool.toNat_le _
    omega
theorem rt_1_all (x : bt_T) : rt_1 x 72 0 (0, 0) = (bt_syn x 71 1 0, nI (wc (wb x) 72 0)) := by
  have h := rt_1_eq x 72 0 0 0 (by decide)
  rw [Nat.zero_add] at h
  refine h.trans ?_
  rw [show bt_syn x 72 0 0 = bt_syn x 71 1 0 by
    rw [bt_syn]
    split <;> rfl]
theorem rt_odd_eq {x : bt_T} (h : bt_ok x) : rt_odd x = bt_odd x := by
  unfold rt_odd
  rw [rt_1_all, wc_odd h]
  exact decide_eq_decide.mpr (wr_end ⟨wc (wb x) 72 0, Nat.lt_of_le_of_lt (wc_le _ _ _) (by decide)⟩)
