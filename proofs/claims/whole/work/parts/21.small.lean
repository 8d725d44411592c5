/-! pure rows: ones -/
theorem pq_sh (a : Int64) (k : Nat) (hk : k < 64) (i : Int32) (hi : i.toInt64.toUInt64 &&& Int64.toUInt64 63 = UInt64.ofNat k) : ((a.toUInt64 >>> (i.toInt64.toUInt64 &&& Int64.toUInt64 63)).toInt64).toUInt64.toNat = a.toUInt64.toNat / 2 ^ k := by
  rw [hi]
  show (a.toUInt64 >>> UInt64.ofNat k).toNat = _
  rw [UInt64.toNat_shiftRight, UInt64.toNat_ofNat_of_lt' (by show k < 2 ^ 64; omega), Nat.mod_eq_of_lt hk, Nat.shiftRight_eq_div_pow]
theorem pq_and (a b : Int64) : (a &&& b).toUInt64.toNat = a.toUInt64.toNat &&& b.toUInt64.toNat := by
  show (a.toUInt64 &&& b.toUInt64).toNat = _
  rw [UInt64.toNat_and]
theorem pq_add (a b : Int64) (h : a.toUInt64.toNat + b.toUInt64.toNat < 2 ^ 64) : (a + b).toUInt64.toNat = a.toUInt64.toNat + b.toUInt64.toNat := by
  show (a.toUInt64 + b.toUInt64).toNat = _
  rw [UInt64.toNat_add, Nat.mod_eq_of_lt h]
theorem pq_sub (a b : Int64) (h : b.toUInt64.toNat ≤ a.toUInt64.toNat) : (a - b).toUInt64.toNat = a.toUInt64.toNat - b.toUInt64.toNat := by
  show (a.toUInt64 - b.toUInt64).toNat = _
  rw [UInt64.toNat_sub_of_le _ _ h]
theorem pq_lt (a : Int64) : a.toUInt64.toNat < 2 ^ 64 := a.toUInt64.toNat_lt
theorem pq_b16 (k : Nat) : ∀ n, n < 16 ^ k → pp_le 16 4 k n → 15 * n + 4 ≤ 4 * 16 ^ k := by
  induction k with
  | zero => intro n h _; rw [Nat.pow_zero] at h; omega
  | succ k ih =>
    intro n h hl
    have := ih (n / 16) (by rw [Nat.pow_succ] at h; omega) hl.2
    have h1 := hl.1
    rw [Nat.pow_succ]
    omega
theorem pq_b256 (k : Nat) : ∀ n, n < 256 ^ k → pp_le 256 8 k n → 255 * n + 8 ≤ 8 * 256 ^ k := by
  induction k with
  | zero => intro n h _; rw [Nat.pow_zero] at h; omega
  | succ k ih =>
    intro n h hl
    have := ih (n / 256) (by rw [Nat.pow_succ] at h; omega) hl.2
    have h1 := hl.1
    rw [Nat.pow_succ]
    omega
theorem pq_a3lt (k n : Nat) : (n &&& pp_m 256 15 k) < 256 ^ k := by
  induction k generalizing n with
  | zero => rw [show n &&& pp_m 256 15 0 = 0 from Nat.and_zero _]; decide
  | succ k ih =>
    rw [pp_a3]
    have := ih (n / 256)
    rw [Nat.pow_succ]
    omega
theorem pq_last (y : Int64) : (y.toInt32 &&& 127).toUInt32.toNat = y.toUInt64.toNat % 128 := by
  show (y.toInt32.toUInt32 &&& 127).toNat = _
  rw [UInt32.toNat_and]
  have e : y.toInt32.toUInt32.toNat = y.toUInt64.toNat % 2 ^ 32 := by
    show (y.toInt32).toBitVec.toNat = y.toBitVec.toNat % 2 ^ 32
    rw [Int64.toBitVec_toInt32, BitVec.signExtend_eq_setWidth_of_le _ (by decide), BitVec.toNat_setWidth]
  rw [e, show (127 : UInt32).toNat = 2 ^ 7 - 1 by decide, Nat.and_two_pow_sub_one_eq_mod]
  omega
theorem pq_nI {a : Int32} {m : Nat} (hm : m < 2 ^ 31) (h : a.toUInt32.toNat = m) : a = nI m := by
  apply Int32.toBitVec_inj.mp
  apply BitVec.eq_of_toNat_eq
  show a.toUInt32.toNat = (nI m).toBitVec.toNat
  rw [h]
  show m = (Int32.ofNat m).toBitVec.toNat
  rw [Int32.toBitVec_ofNat', BitVec.toNat_ofNat]
  omega
theorem pq_long {x y1 y2 y3 y4 y5 y6 : Int64}
    (e1 : y1 = x - ((x.toUInt64 >>> ((1 : Int32).toInt64.toUInt64 &&& Int64.toUInt64 63)).toInt64 &&& 6148914691236517205))
    (e2 : y2 = (y1 &&& 3689348814741910323) + ((y1.toUInt64 >>> ((2 : Int32).toInt64.toUInt64 &&& Int64.toUInt64 63)).toInt64 &&& 3689348814741910323))
    (e3 : y3 = y2 + (y2.toUInt64 >>> ((4 : Int32).toInt64.toUInt64 &&& Int64.toUInt64 63)).toInt64 &&& 1085102592571150095)
    (e4 : y4 = y3 + (y3.toUInt64 >>> ((8 : Int32).toInt64.toUInt64 &&& Int64.toUInt64 63)).toInt64)
    (e5 : y5 = y4 + (y4.toUInt64 >>> ((16 : Int32).toInt64.toUInt64 &&& Int64.toUInt64 63)).toInt64)
    (e6 : y6 = y5 + (y5.toUInt64 >>> ((32 : Int32).toInt64.toUInt64 &&& Int64.toUInt64 63)).toInt64) : y6.toInt32 &&& 127 = nI (pp_ds 2 64 x.toUInt64.toNat) := by
  have p1 : (4 : Nat) ^ 32 = 2 ^ 64 := by decide
  have p2 : (16 : Nat) ^ 16 = 2 ^ 64 := by decide
  have p3 : (256 : Nat) ^ 8 = 2 ^ 64 := by decide
  have c1 : (Int64.toUInt64 6148914691236517205).toNat = pp_m 4 1 32 := by decide
  have c2 : (Int64.toUInt64 3689348814741910323).toNat = pp_m 16 3 16 := by decide
  have c3 : (Int64.toUInt64 1085102592571150095).toNat = pp_m 256 15 8 := by decide
  have hx := pq_lt x
  generalize hn : x.toUInt64.toNat = n at hx
  obtain ⟨a1, a2⟩ := pp_1 32 n
  obtain ⟨a3, a4⟩ := a2 (by rw [p1]; exact hx)
  have u1 : y1.toUInt64.toNat = n - (n / 2 &&& pp_m 4 1 32) := by
    have e : ((x.toUInt64 >>> ((1 : Int32).toInt64.toUInt64 &&& Int64.toUInt64 63)).toInt64 &&& 6148914691236517205).toUInt64.toNat = n / 2 &&& pp_m 4 1 32 := by
      rw [pq_and, pq_sh x 1 (by decide) 1 (by decide), hn, c1]
    rw [e1, pq_sub _ _ (by rw [e, hn]; exact a1), e, hn]
  generalize hn1 : n - (n / 2 &&& pp_m 4 1 32) = n1 at a3 a4 u1
  have hx1 : n1 < 2 ^ 64 := by omega
  obtain ⟨b3, b4⟩ := pp_2 16 n1 (by rw [p2]; exact hx1) a4
  have b5 : (n1 &&& pp_m 16 3 16) + (n1 / 4 &&& pp_m 16 3 16) < 2 ^ 64 := by
    rcases pp_lt2 16 n1 (by rw [p2]; exact hx1) with h | h
    · rw [p2] at h; exact h
    · omega
  have u2 : y2.toUInt64.toNat = (n1 &&& pp_m 16 3 16) + (n1 / 4 &&& pp_m 16 3 16) := by
    have q1 : (y1 &&& 3689348814741910323).toUInt64.toNat = n1 &&& pp_m 16 3 16 := by rw [pq_and, u1, c2]
    have q2 : ((y1.toUInt64 >>> ((2 : Int32).toInt64.toUInt64 &&& Int64.toUInt64 63)).toInt64 &&& 3689348814741910323).toUInt64.toNat = n1 / 4 &&& pp_m 16 3 16 := by
      rw [pq_and, pq_sh y1 2 (by decide) 2 (by decide), u1, c2]
    rw [e2, pq_add _ _ (by rw [q1, q2]; exact b5), q1, q2]
  generalize hn2 : (n1 &&& pp_m 16 3 16) + (n1 / 4 &&& pp_m 16 3 16) = n2 at b3 b4 b5 u2
  have b6 := pq_b16 16 n2 (by rw [p2]; exact b5) b4
  rw [p2] at b6
  obtain ⟨d3, d4⟩ := pp_3 8 n2 (by rw [p3]; exact b5) b4
  have d5 := pq_a3lt 8 (n2 + n2 / 16)
  have u3 : y3.toUInt64.toNat = n2 + n2 / 16 &&& pp_m 256 15 8 := by
    have q1 : ((y2.toUInt64 >>> ((4 : Int32).toInt64.toUInt64 &&& Int64.toUInt64 63)).toInt64).toUInt64.toNat = n2 / 16 := by rw [pq_sh y2 4 (by decide) 4 (by decide), u2]
    rw [e3, pq_and, pq_add _ _ (by rw [q1, u2]; omega), q1, u2, c3]
  generalize hn3 : n2 + n2 / 16 &&& pp_m 256 15 8 = n3 at d3 d4 d5 u3
  have d6 := pq_b256 8 n3 d5 d4
  rw [p3] at d6
  have u4 : y4.toUInt64.toNat = n3 + n3 / 256 := by
    have q1 : ((y3.toUInt64 >>> ((8 : Int32).toInt64.toUInt64 &&& Int64.toUInt64 63)).toInt64).toUInt64.toNat = n3 / 256 := by rw [pq_sh y3 8 (by decide) 8 (by decide), u3]
    rw [e4, pq_add _ _ (by rw [q1, u3]; omega), q1, u3]
  have u5 : y5.toUInt64.toNat = n3 + n3 / 256 + (n3 + n3 / 256) / 65536 := by
    have q1 : ((y4.toUInt64 >>> ((16 : Int32).toInt64.toUInt64 &&& Int64.toUInt64 63)).toInt64).toUInt64.toNat = (n3 + n3 / 256) / 65536 := by rw [pq_sh y4 16 (by decide) 16 (by decide), u4]
    rw [e5, pq_add _ _ (by rw [q1, u4]; omega), q1, u4]
  have u6 : y6.toUInt64.toNat = n3 + n3 / 256 + (n3 + n3 / 256) / 65536 + (n3 + n3 / 256 + (n3 + n3 / 256) / 65536) / 4294967296 := by
    have q1 : ((y5.toUInt64 >>> ((32 : Int32).toInt64.toUInt64 &&& Int64.toUInt64 63)).toInt64).toUInt64.toNat = (n3 + n3 / 256 + (n3 + n3 / 256) / 65536) / 4294967296 := by rw [pq_sh y5 32 (by decide) 32 (by decide), u5]
    rw [e6, pq_add _ _ (by rw [q1, u5]; omega), q1, u5]
  have f := pq_last y6
  rw [u6, pp_4 n3 d5 d4, d3, b3, a3] at f
  refine pq_nI ?_ f
  rw [← f]
  have := Nat.mod_lt y6.toUInt64.toNat (show 0 < 128 by decide)
  rw [pq_last]
  omega
theorem pr_sh (a : Int32) (k : Nat) (hk : k < 32) (i : Int32) (hi : i.toUInt32 &&& Int32.toUInt32 31 = UInt32.ofNat k) : ((a.toUInt32 >>> (i.toUInt32 &&& Int32.toUInt32 31)).toInt32).toUInt32.toNat = a.toUInt32.toNat / 2 ^ k := by
  rw [hi]
  show (a.toUInt32 >>> UInt32.ofNat k).toNat = _
  rw [UInt32.toNat_shiftRight, UInt32.toNat_ofNat_of_lt' (by show k < 2 ^ 32; omega), Nat.mod_eq_of_lt hk, Nat.shiftRight_eq_div_pow]
theorem pr_and (a b : Int32) : (a &&& b).toUInt32.toNat = a.toUInt32.toNat &&& b.toUInt32.toNat := by
  show (a.toUInt32 &&& b.toUInt32).toNat = _
  rw [UInt32.toNat_and]
theorem pr_add (a b : Int32) (h : a.toUInt32.toNat + b.toUInt32.toNat < 2 ^ 32) : (a + b).toUInt32.toNat = a.toUInt32.toNat + b.toUInt32.toNat := by
  show (a.toUInt32 + b.toUInt32).toNat = _
  rw [UInt32.toNat_add, Nat.mod_eq_of_lt h]
theorem pr_sub (a b : Int32) (h : b.toUInt32.toNat ≤ a.toUInt32.toNat) : (a - b).toUInt32.toNat = a.toUInt32.toNat - b.toUInt32.toNat := by
  show (a.toUInt32 - b.toUInt32).toNat = _
  rw [UInt32.toNat_sub_of_le _ _ h]
theorem pr_lt (a : Int32) : a.toUInt32.toNat < 2 ^ 32 := a.toUInt32.toNat_lt
theorem pr_last (y : Int32) : (y &&& 63).toUInt32.toNat = y.toUInt32.toNat % 64 := by
  rw [pr_and, show (Int32.toUInt32 63).toNat = 2 ^ 6 - 1 by decide, Nat.and_two_pow_sub_one_eq_mod]
theorem pq_int {x y1 y2 y3 y4 y5 : Int32}
    (e1 : y1 = x - ((x.toUInt32 >>> ((1 : Int32).toUInt32 &&& Int32.toUInt32 31)).toInt32 &&& 1431655765))
    (e2 : y2 = (y1 &&& 858993459) + ((y1.toUInt32 >>> ((2 : Int32).toUInt32 &&& Int32.toUInt32 31)).toInt32 &&& 858993459))
    (e3 : y3 = y2 + (y2.toUInt32 >>> ((4 : Int32).toUInt32 &&& Int32.toUInt32 31)).toInt32 &&& 252645135)
    (e4 : y4 = y3 + (y3.toUInt32 >>> ((8 : Int32).toUInt32 &&& Int32.toUInt32 31)).toInt32)
    (e5 : y5 = y4 + (y4.toUInt32 >>> ((16 : Int32).toUInt32 &&& Int32.toUInt32 31)).toInt32) : y5 &&& 63 = nI (pp_ds 2 32 x.toUInt32.toNat) := by
  have p1 : (4 : Nat) ^ 16 = 2 ^ 32 := by decide
  have p2 : (16 : Nat) ^ 8 = 2 ^ 32 := by decide
  have p3 : (256 : Nat) ^ 4 = 2 ^ 32 := by decide
  have c1 : (Int32.toUInt32 1431655765).toNat = pp_m 4 1 16 := by decide
  have c2 : (Int32.toUInt32 858993459).toNat = pp_m 16 3 8 := by decide
  have c3 : (Int32.toUInt32 252645135).toNat = pp_m 256 15 4 := by decide
  have hx := pr_lt x
  generalize hn : x.toUInt32.toNat = n at hx
  obtain ⟨a1, a2⟩ := pp_1 16 n
  obtain ⟨a3, a4⟩ := a2 (by rw [p1]; exact hx)
  have u1 : y1.toUInt32.toNat = n - (n / 2 &&& pp_m 4 1 16) := by
    have e : ((x.toUInt32 >>> ((1 : Int32).toUInt32 &&& Int32.toUInt32 31)).toInt32 &&& 1431655765).toUInt32.toNat = n / 2 &&& pp_m 4 1 16 := by
      rw [pr_and, pr_sh x 1 (by decide) 1 (by decide), hn, c1]
    rw [e1, pr_sub _ _ (by rw [e, hn]; exact a1), e, hn]
  generalize hn1 : n - (n / 2 &&& pp_m 4 1 16) = n1 at a3 a4 u1
  have hx1 : n1 < 2 ^ 32 := by omega
  obtain ⟨b3, b4⟩ := pp_2 8 n1 (by rw [p2]; exact hx1) a4
  have b5 : (n1 &&& pp_m 16 3 8) + (n1 / 4 &&& pp_m 16 3 8) < 2 ^ 32 := by
    rcases pp_lt2 8 n1 (by rw [p2]; exact hx1) with h | h
    · rw [p2] at h; exact h
    · omega
  have u2 : y2.toUInt32.toNat = (n1 &&& pp_m 16 3 8) + (n1 / 4 &&& pp_m 16 3 8) := by
    have q1 : (y1 &&& 858993459).toUInt32.toNat = n1 &&& pp_m 16 3 8 := by rw [pr_and, u1, c2]
    have q2 : ((y1.toUInt32 >>> ((2 : Int32).toUInt32 &&& Int32.toUInt32 31)).toInt32 &&& 858993459).toUInt32.toNat = n1 / 4 &&& pp_m 16 3 8 := by
      rw [pr_and, pr_sh y1 2 (by decide) 2 (by decide), u1, c2]
    rw [e2, pr_add _ _ (by rw [q1, q2]; exact b5), q1, q2]
  generalize hn2 : (n1 &&& pp_m 16 3 8) + (n1 / 4 &&& pp_m 16 3 8) = n2 at b3 b4 b5 u2
  have b6 := pq_b16 8 n2 (by rw [p2]; exact b5) b4
  rw [p2] at b6
  obtain ⟨d3, d4⟩ := pp_3 4 n2 (by rw [p3]; exact b5) b4
  have d5 := pq_a3lt 4 (n2 + n2 / 16)
  have u3 : y3.toUInt32.toNat = n2 + n2 / 16 &&& pp_m 256 15 4 := by
    have q1 : ((y2.toUInt32 >>> ((4 : Int32).toUInt32 &&& Int32.toUInt32 31)).toInt32).toUInt32.toNat = n2 / 16 := by rw [pr_sh y2 4 (by decide) 4 (by decide), u2]
    rw [e3, pr_and, pr_add _ _ (by rw [q1, u2]; omega), q1, u2, c3]
  generalize hn3 : n2 + n2 / 16 &&& pp_m 256 15 4 = n3 at d3 d4 d5 u3
  have d6 := pq_b256 4 n3 d5 d4
  rw [p3] at d6
  have u4 : y4.toUInt32.toNat = n3 + n3 / 256 := by
    have q1 : ((y3.toUInt32 >>> ((8 : Int32).toUInt32 &&& Int32.toUInt32 31)).toInt32).toUInt32.toNat = n3 / 256 := by rw [pr_sh y3 8 (by decide) 8 (by decide), u3]
    rw [e4, pr_add _ _ (by rw [q1, u3]; omega), q1, u3]
  have u5 : y5.toUInt32.toNat = n3 + n3 / 256 + (n3 + n3 / 256) / 65536 := by
    have q1 : ((y4.toUInt32 >>> ((16 : Int32).toUInt32 &&& Int32.toUInt32 31)).toInt32).toUInt32.toNat = (n3 + n3 / 256) / 65536 := by rw [pr_sh y4 16 (by decide) 16 (by decide), u4]
    rw [e5, pr_add _ _ (by rw [q1, u4]; omega), q1, u4]
  have f := pr_last y5
  rw [u5, pp_4i n3 d5 d4, d3, b3, a3] at f
  refine pq_nI ?_ f
  rw [← f]
  have := Nat.mod_lt y5.toUInt32.toNat (show 0 < 64 by decide)
  rw [pr_last]
  omega
theorem pq_dsle (k : Nat) : ∀ n, pp_ds 2 k n ≤ k := by
  induction k with
  | zero => intro n; exact Nat.le_refl _
  | succ k ih =>
    intro n
    have := ih (n / 2)
    show n % 2 + pp_ds 2 k (n / 2) ≤ k + 1
    omega
theorem pq_odd (x : bt_T) : (¬ nI (pp_ds 2 64 x.1.toUInt64.toNat) + nI (pp_ds 2 32 x.2.toUInt32.toNat) - (nI (pp_ds 2 64 x.1.toUInt64.toNat) + nI (pp_ds 2 32 x.2.toUInt32.toNat)) / 2 * 2 = 1 → bt_odd x = false) ∧ (nI (pp_ds 2 64 x.1.toUInt64.toNat) + nI (pp_ds 2 32 x.2.toUInt32.toNat) - (nI (pp_ds 2 64 x.1.toUInt64.toNat) + nI (pp_ds 2 32 x.2.toUInt32.toNat)) / 2 * 2 = 1 → bt_odd x = true) := by
  have h1 := pq_dsle 64 x.1.toUInt64.toNat
  have h2 := pq_dsle 32 x.2.toUInt32.toNat
  unfold bt_odd
  generalize pp_ds 2 64 x.1.toUInt64.toNat = a at h1 ⊢
  generalize pp_ds 2 32 x.2.toUInt32.toNat = b at h2 ⊢
  have e := pk_rem (a := a + b) (d := 2) (by omega) (by decide) (by decide)
  rw [nI_add]
  have e2 : nI (a + b) - nI (a + b) / 2 * 2 = nI ((a + b) % 2) := e
  rw [e2]
  rcases Nat.mod_two_eq_zero_or_one (a + b) with h | h
  · rw [h]; exact ⟨fun _ => by decide, fun q => absurd q (by decide)⟩
  · rw [h]; exact ⟨fun q => absurd (by decide) q, fun _ => by decide⟩
theorem cb_in14 {i : Int32} (h1 : ¬ i < 0) (h2 : i < Int32.ofNat 14) : vp_in i 14 := by
  rw [vp_in_iff]
  rw [Int32.lt_iff_toInt_lt] at h1 h2
  have e1 : (0 : Int32).toInt = 0 := by decide
  have e2 : (Int32.ofNat 14).toInt = 14 := by decide
  rw [e1] at h1
  rw [e2] at h2
  omega
/-! Contracts of the class: ones of a word, small helpers, timings, journal. -/
set_option maxRecDepth 100000 in
set_option maxHeartbeats 1000000 in
theorem c_Lo_bitCount (l : Launch) {M : kz_M} {x : Int64} : kz_Dt l sC m_Lo_bitCount [.long x] M (some (.int (nI (pp_ds 2 64 x.toUInt64.toNat)))) M := by
  refine kz_intro (by decide +kernel) (Nat.le_of_ble_eq_true rfl) ?_
  show kz_G l sC m_Lo_bitCount 0 [some (.long x), none] [] M _
  refine kz_lload_n d_Lo_bitCount_0 rfl rfl ?_
  refine kz_lload_n d_Lo_bitCount_1 rfl rfl ?_
  refine kz_iconst (v := 1) d_Lo_bitCount_2 (by decide) rfl ?_
  refine kz_lushr d_Lo_bitCount_3 rfl ?_
  refine kz_ldc2 d_Lo_bitCount_4 (bw_mem2 90 rfl rfl) rfl ?_
  refine kz_land d_Lo_bitCount_7 rfl ?_
  refine kz_lsub d_Lo_bitCount_8 rfl ?_
  refine kz_naml (fun y1 e1 => ?_)
  refine kz_lstore_n (i := 0) d_Lo_bitCount_9 rfl rfl (Nat.le_of_ble_eq_true rfl) rfl ?_
  refine kz_lload_n d_Lo_bitCount_10 rfl rfl ?_
  refine kz_ldc2 d_Lo_bitCount_11 (bw_mem2 91 rfl rfl) rfl ?_
  refine kz_land d_Lo_bitCount_14 rfl ?_
  refine kz_lload_n d_Lo_bitCount_15 rfl rfl ?_
  refine kz_iconst (v := 2) d_Lo_bitCount_16 (by decide) rfl ?_
  refine kz_lushr d_Lo_bitCount_17 rfl ?_
  refine kz_ldc2 d_Lo_bitCount_18 (bw_mem2 91 rfl rfl) rfl ?_
  refine kz_land d_Lo_bitCount_21 rfl ?_
  refine kz_ladd d_Lo_bitCount_22 rfl ?_
  refine kz_naml (fun y2 e2 => ?_)
  refine kz_lstore_n (i := 0) d_Lo_bitCount_23 rfl rfl (Nat.le_of_ble_eq_true rfl) rfl ?_
  refine kz_lload_n d_Lo_bitCount_24 rfl rfl ?_
  refine kz_lload_n d_Lo_bitCount_25 rfl rfl ?_
  refine kz_iconst (v := 4) d_Lo_bitCount_26 (by decide) rfl ?_
  refine kz_lushr d_Lo_bitCount_27 rfl ?_
  refine kz_ladd d_Lo_bitCount_28 rfl ?_
  refine kz_ldc2 d_Lo_bitCount_29 (bw_mem2 92 rfl rfl) rfl ?_
  refine kz_land d_Lo_bitCount_32 rfl ?_
  refine kz_naml (fun y3 e3 => ?_)
  refine kz_lstore_n (i := 0) d_Lo_bitCount_33 rfl rfl (Nat.le_of_ble_eq_true rfl) rfl ?_
  refine kz_lload_n d_Lo_bitCount_34 rfl rfl ?_
  refine kz_lload_n d_Lo_bitCount_35 rfl rfl ?_
  refine kz_bipush (v := 8) d_Lo_bitCount_36 (by decide) rfl ?_
  refine kz_lushr d_Lo_bitCount_38 rfl ?_
  refine kz_ladd d_Lo_bitCount_39 rfl ?_
  refine kz_naml (fun y4 e4 => ?_)
  refine kz_lstore_n (i := 0) d_Lo_bitCount_40 rfl rfl (Nat.le_of_ble_eq_true rfl) rfl ?_
  refine kz_lload_n d_Lo_bitCount_41 rfl rfl ?_
  refine kz_lload_n d_Lo_bitCount_42 rfl rfl ?_
  refine kz_bipush (v := 16) d_Lo_bitCount_43 (by decide) rfl ?_
  refine kz_lushr d_Lo_bitCount_45 rfl ?_
  refine kz_ladd d_Lo_bitCount_46 rfl ?_
  refine kz_naml (fun y5 e5 => ?_)
  refine kz_lstore_n (i := 0) d_Lo_bitCount_47 rfl rfl (Nat.le_of_ble_eq_true rfl) rfl ?_
  refine kz_lload_n d_Lo_bitCount_48 rfl rfl ?_
  refine kz_lload_n d_Lo_bitCount_49 rfl rfl ?_
  refine kz_bipush (v := 32) d_Lo_bitCount_50 (by decide) rfl ?_
  refine kz_lushr d_Lo_bitCount_52 rfl ?_
  refine kz_ladd d_Lo_bitCount_53 rfl ?_
  refine kz_naml (fun y6 e6 => ?_)
  refine kz_lstore_n (i := 0) d_Lo_bitCount_54 rfl rfl (Nat.le_of_ble_eq_true rfl) rfl ?_
  refine kz_lload_n d_Lo_bitCount_55 rfl rfl ?_
  refine kz_l2i d_Lo_bitCount_56 rfl ?_
  refine kz_bipush (v := 127) d_Lo_bitCount_57 (by decide) rfl ?_
  refine kz_iand d_Lo_bitCount_59 rfl ?_
  exact kz_iret rfl d_Lo_bitCount_60 (⟨congrArg (fun z => some (Value.int z)) (pq_long e1 e2 e3 e4 e5 e6), rfl⟩)
set_option maxRecDepth 100000 in
set_option maxHeartbeats 1000000 in
theorem c_In_bitCount (l : Launch) {M : kz_M} {x : Int32} : kz_Dt l sC m_In_bitCount [.int x] M (some (.int (nI (pp_ds 2 32 x.toUInt32.toNat)))) M := by
  refine kz_intro (by decide +kernel) (Nat.le_of_ble_eq_true rfl) ?_
  show kz_G l sC m_In_bitCount 0 [some (.int x)] [] M _
  refine kz_iload_n d_In_bitCount_0 rfl rfl ?_
  refine kz_iload_n d_In_bitCount_1 rfl rfl ?_
  refine kz_iconst (v := 1) d_In_bitCount_2 (by decide) rfl ?_
  refine kz_iushr d_In_bitCount_3 rfl ?_
  refine kz_ldc_w d_In_bitCount_4 (bw_mem2 96 rfl rfl) rfl ?_
  refine kz_iand d_In_bitCount_7 rfl ?_
  refine kz_isub d_In_bitCount_8 rfl ?_
  refine kz_nami (fun y1 e1 => ?_)
  refine kz_istore_n (i := 0) d_In_bitCount_9 rfl rfl (Nat.le_of_ble_eq_true rfl) rfl ?_
  refine kz_iload_n d_In_bitCount_10 rfl rfl ?_
  refine kz_ldc_w d_In_bitCount_11 (bw_mem2 97 rfl rfl) rfl ?_
  refine kz_iand d_In_bitCount_14 rfl ?_
  refine kz_iload_n d_In_bitCount_15 rfl rfl ?_
  refine kz_iconst (v := 2) d_In_bitCount_16 (by decide) rfl ?_
  refine kz_iushr d_In_bitCount_17 rfl ?_
  refine kz_ldc_w d_In_bitCount_18 (bw_mem2 97 rfl rfl) rfl ?_
  refine kz_iand d_In_bitCount_21 rfl ?_
  refine kz_iadd d_In_bitCount_22 rfl ?_
  refine kz_nami (fun y2 e2 => ?_)
  refine kz_istore_n (i := 0) d_In_bitCount_23 rfl rfl (Nat.le_of_ble_eq_true rfl) rfl ?_
  refine kz_iload_n d_In_bitCount_24 rfl rfl ?_
  refine kz_iload_n d_In_bitCount_25 rfl rfl ?_
  refine kz_iconst (v := 4) d_In_bitCount_26 (by decide) rfl ?_
  refine kz_iushr d_In_bitCount_27 rfl ?_
  refine kz_iadd d_In_bitCount_28 rfl ?_
  refine kz_ldc_w d_In_bitCount_29 (bw_mem2 98 rfl rfl) rfl ?_
  refine kz_iand d_In_bitCount_32 rfl ?_
  refine kz_nami (fun y3 e3 => ?_)
  refine kz_istore_n (i := 0) d_In_bitCount_33 rfl rfl (Nat.le_of_ble_eq_true rfl) rfl ?_
  refine kz_iload_n d_In_bitCount_34 rfl rfl ?_
  refine kz_iload_n d_In_bitCount_35 rfl rfl ?_
  refine kz_bipush (v := 8) d_In_bitCount_36 (by decide) rfl ?_
  refine kz_iushr d_In_bitCount_38 rfl ?_
  refine kz_iadd d_In_bitCount_39 rfl ?_
  refine kz_nami (fun y4 e4 => ?_)
  refine kz_istore_n (i := 0) d_In_bitCount_40 rfl rfl (Nat.le_of_ble_eq_true rfl) rfl ?_
  refine kz_iload_n d_In_bitCount_41 rfl rfl ?_
  refine kz_iload_n d_In_bitCount_42 rfl rfl ?_
  refine kz_bipush (v := 16) d_In_bitCount_43 (by decide) rfl ?_
  refine kz_iushr d_In_bitCount_45 rfl ?_
  refine kz_iadd d_In_bitCount_46 rfl ?_
  refine kz_nami (fun y5 e5 => ?_)
  refine kz_istore_n (i := 0) d_In_bitCount_47 rfl rfl (Nat.le_of_ble_eq_true rfl) rfl ?_
  refine kz_iload_n d_In_bitCount_48 rfl rfl ?_
  refine kz_bipush (v := 63) d_In_bitCount_49 (by decide) rfl ?_
  refine kz_iand d_In_bitCount_51 rfl ?_
  exact kz_iret rfl d_In_bitCount_52 (⟨congrArg (fun z => some (Value.int z)) (pq_int e1 e2 e3 e4 e5), rfl⟩)
set_option maxRecDepth 100000 in
set_option maxHeartbeats 1000000 in
theorem c_St_isCheck (l : Launch) {M : kz_M} {p : Int32} : kz_Dt l sC m_St_isCheck [.int p] M (some (.int (kz_ib (bt_chk p)))) M := by
  refine kz_intro (by decide +kernel) (Nat.le_of_ble_eq_true rfl) ?_
  show kz_G l sC m_St_isCheck 0 [some (.int p)] [] M _
  refine kz_iload_n d_St_isCheck_0 rfl rfl ?_
  refine kz_iload_n d_St_isCheck_1 rfl rfl ?_
  refine kz_iconst (v := 1) d_St_isCheck_2 (by decide) rfl ?_
  refine kz_isub d_St_isCheck_3 rfl ?_
  refine kz_iand d_St_isCheck_4 rfl ?_
  refine kz_if_ne (tgt := 12) d_St_isCheck_5 (by decide) rfl (fun h5 => ?_) (fun h5 => ?_)
  · refine kz_iconst (v := 0) d_St_isCheck_12 (by decide) rfl ?_
    exact kz_zret rfl d_St_isCheck_13 (by first | assumption | decide | exact kz_ib_or _) (⟨by simp [bt_chk, kz_ib, *], rfl⟩)
  · refine kz_iconst (v := 1) d_St_isCheck_8 (by decide) rfl ?_
    refine kz_goto (tgt := 13) d_St_isCheck_9 (by decide) ?_
    exact kz_zret rfl d_St_isCheck_13 (by first | assumption | decide | exact kz_ib_or _) (⟨by simp [bt_chk, kz_ib, *], rfl⟩)
set_option maxRecDepth 100000 in
set_option maxHeartbeats 1000000 in
theorem c_St_bitAt (l : Launch) {M : kz_M} {a p : Int32} (ha : vp_in a 256) : kz_Dt l sC m_St_bitAt [.ref 9, .int a, .int p] M (some (.int (bt_bit (cw_get M a.toNatClampNeg) p))) M := by
  refine kz_intro (by decide +kernel) (Nat.le_of_ble_eq_true rfl) ?_
  show kz_G l sC m_St_bitAt 0 [some (.ref 9), some (.int a), some (.int p)] [] M _
  refine kz_iload_n d_St_bitAt_0 rfl rfl ?_
  refine kz_bipush (v := 64) d_St_bitAt_1 (by decide) rfl ?_
  refine kz_icmp_ge (tgt := 18) d_St_bitAt_3 (by decide) rfl (fun h3 => ?_) (fun h3 => ?_)
  · refine kz_aload_n d_St_bitAt_18 rfl rfl ?_
    refine kz_getR fd_St_15 rfl rfl rfl d_St_bitAt_19 rfl ?_
    refine kz_iload_n d_St_bitAt_22 rfl rfl ?_
    refine kz_ialdp rfl (by first | assumption | exact kz_vin (by decide)) rfl d_St_bitAt_23 rfl ?_
    refine kz_iload_n d_St_bitAt_24 rfl rfl ?_
    refine kz_bipush (v := 64) d_St_bitAt_25 (by decide) rfl ?_
    refine kz_isub d_St_bitAt_27 rfl ?_
    refine kz_iushr d_St_bitAt_28 rfl ?_
    refine kz_iconst (v := 1) d_St_bitAt_29 (by decide) rfl ?_
    refine kz_iand d_St_bitAt_30 rfl ?_
    exact kz_iret rfl d_St_bitAt_31 (⟨by simp [bt_bit, cw_get, *], rfl⟩)
  · refine kz_aload_n d_St_bitAt_6 rfl rfl ?_
    refine kz_getR fd_St_9 rfl rfl rfl d_St_bitAt_7 rfl ?_
    refine kz_iload_n d_St_bitAt_10 rfl rfl ?_
    refine kz_laldp rfl (by first | assumption | exact kz_vin (by decide)) rfl d_St_bitAt_11 rfl ?_
    refine kz_iload_n d_St_bitAt_12 rfl rfl ?_
    refine kz_lushr d_St_bitAt_13 rfl ?_
    refine kz_lconst (v := 1) d_St_bitAt_14 (by decide) rfl ?_
    refine kz_land d_St_bitAt_15 rfl ?_
    refine kz_l2i d_St_bitAt_16 rfl ?_
    exact kz_iret rfl d_St_bitAt_17 (⟨by simp [bt_bit, cw_get, *], rfl⟩)
set_option maxRecDepth 100000 in
set_option maxHeartbeats 1000000 in
theorem c_St_turn (l : Launch) {M : kz_M} {a p : Int32} (ha : vp_in a 256) : kz_Dt l sC m_St_turn [.ref 9, .int a, .int p] M none (cw_put M a.toNatClampNeg (bt_turn (cw_get M a.toNatClampNeg) p)) := by
  refine kz_intro (by decide +kernel) (Nat.le_of_ble_eq_true rfl) ?_
  show kz_G l sC m_St_turn 0 [some (.ref 9), some (.int a), some (.int p)] [] M _
  refine kz_iload_n d_St_turn_0 rfl rfl ?_
  refine kz_bipush (v := 64) d_St_turn_1 (by decide) rfl ?_
  refine kz_icmp_ge (tgt := 21) d_St_turn_3 (by decide) rfl (fun h3 => ?_) (fun h3 => ?_)
  · refine kz_aload_n d_St_turn_21 rfl rfl ?_
    refine kz_getR fd_St_15 rfl rfl rfl d_St_turn_22 rfl ?_
    refine kz_iload_n d_St_turn_25 rfl rfl ?_
    refine kz_dup2_11 d_St_turn_26 rfl rfl rfl ?_
    refine kz_ialdp rfl (by first | assumption | exact kz_vin (by decide)) rfl d_St_turn_27 rfl ?_
    refine kz_iconst (v := 1) d_St_turn_28 (by decide) rfl ?_
    refine kz_iload_n d_St_turn_29 rfl rfl ?_
    refine kz_bipush (v := 64) d_St_turn_30 (by decide) rfl ?_
    refine kz_isub d_St_turn_32 rfl ?_
    refine kz_ishl d_St_turn_33 rfl ?_
    refine kz_ixor d_St_turn_34 rfl ?_
    refine kz_iastp rfl (by first | assumption | exact kz_vin (by decide)) rfl d_St_turn_35 rfl ?_
    exact kz_vret rfl d_St_turn_36 (⟨rfl, by simp [cw_put, bt_turn, cw_get, kz_u_id, *]⟩)
  · refine kz_aload_n d_St_turn_6 rfl rfl ?_
    refine kz_getR fd_St_9 rfl rfl rfl d_St_turn_7 rfl ?_
    refine kz_iload_n d_St_turn_10 rfl rfl ?_
    refine kz_dup2_11 d_St_turn_11 rfl rfl rfl ?_
    refine kz_laldp rfl (by first | assumption | exact kz_vin (by decide)) rfl d_St_turn_12 rfl ?_
    refine kz_lconst (v := 1) d_St_turn_13 (by decide) rfl ?_
    refine kz_iload_n d_St_turn_14 rfl rfl ?_
    refine kz_lshl d_St_turn_15 rfl ?_
    refine kz_lxor d_St_turn_16 rfl ?_
    refine kz_lastp rfl (by first | assumption | exact kz_vin (by decide)) rfl d_St_turn_17 rfl ?_
    refine kz_goto (tgt := 36) d_St_turn_18 (by decide) ?_
    exact kz_vret rfl d_St_turn_36 (⟨rfl, by simp [cw_put, bt_turn, cw_get, kz_u_id, *]⟩)
set_option maxRecDepth 100000 in
set_option maxHeartbeats 1000000 in
theorem c_St_onesAreOdd (l : Launch) {M : kz_M} {a : Int32} (ha : vp_in a 256) : kz_Dt l sC m_St_onesAreOdd [.ref 9, .int a] M (some (.int (kz_ib (bt_odd (cw_get M a.toNatClampNeg))))) M := by
  refine kz_intro (by decide +kernel) (Nat.le_of_ble_eq_true rfl) ?_
  show kz_G l sC m_St_onesAreOdd 0 [some (.ref 9), some (.int a), none] [] M _
  refine kz_aload_n d_St_onesAreOdd_0 rfl rfl ?_
  refine kz_getR fd_St_9 rfl rfl rfl d_St_onesAreOdd_1 rfl ?_
  refine kz_iload_n d_St_onesAreOdd_4 rfl rfl ?_
  refine kz_laldp rfl (by first | assumption | exact kz_vin (by decide)) rfl d_St_onesAreOdd_5 rfl ?_
  refine kz_callSi (c_Lo_bitCount l) cs_St_34 rfl ⟨by decide, by decide⟩ rfl (Nat.le_of_ble_eq_true rfl) d_St_onesAreOdd_6 rfl ?_
  refine kz_aload_n d_St_onesAreOdd_9 rfl rfl ?_
  refine kz_getR fd_St_15 rfl rfl rfl d_St_onesAreOdd_10 rfl ?_
  refine kz_iload_n d_St_onesAreOdd_13 rfl rfl ?_
  refine kz_ialdp rfl (by first | assumption | exact kz_vin (by decide)) rfl d_St_onesAreOdd_14 rfl ?_
  refine kz_callSi (c_In_bitCount l) cs_St_40 rfl ⟨by decide, by decide⟩ rfl (Nat.le_of_ble_eq_true rfl) d_St_onesAreOdd_15 rfl ?_
  refine kz_iadd d_St_onesAreOdd_18 rfl ?_
  refine kz_istore_n (i := 2) d_St_onesAreOdd_19 rfl rfl (Nat.le_of_ble_eq_true rfl) rfl ?_
  refine kz_iload_n d_St_onesAreOdd_20 rfl rfl ?_
  refine kz_iconst (v := 2) d_St_onesAreOdd_21 (by decide) rfl ?_
  refine kz_irem d_St_onesAreOdd_22 (by first | assumption | decide) rfl ?_
  refine kz_iconst (v := 1) d_St_onesAreOdd_23 (by decide) rfl ?_
  refine kz_icmp_ne (tgt := 31) d_St_onesAreOdd_24 (by decide) rfl (fun h24 => ?_) (fun h24 => ?_)
  · refine kz_iconst (v := 0) d_St_onesAreOdd_31 (by decide) rfl ?_
    exact kz_zret rfl d_St_onesAreOdd_32 (by first | assumption | decide | exact kz_ib_or _) (⟨by first | exact congrArg (fun z => some (Value.int (kz_ib z)))  ((pq_odd (cw_get M a.toNatClampNeg)).1 h24).symm | exact congrArg (fun z => some (Value.int (kz_ib z)))  ((pq_odd (cw_get M a.toNatClampNeg)).2 h24).symm, rfl⟩)
  · refine kz_iconst (v := 1) d_St_onesAreOdd_27 (by decide) rfl ?_
    refine kz_goto (tgt := 32) d_St_onesAreOdd_28 (by decide) ?_
    exact kz_zret rfl d_St_onesAreOdd_32 (by first | assumption | decide | exact kz_ib_or _) (⟨by first | exact congrArg (fun z => some (Value.int (kz_ib z)))  ((pq_odd (cw_get M a.toNatClampNeg)).1 h24).symm | exact congrArg (fun z => some (Value.int (kz_ib z)))  ((pq_odd (cw_get M a.toNatClampNeg)).2 h24).symm, rfl⟩)
def ck_adr (a : Int32) : Bool := !decide (a < 0) && !decide (256 ≤ a)
def ck_plc (a : Int32) : Bool := !decide (a < 0) && !decide (72 ≤ a)
def ck_bank (a : Int32) : Int32 := a / 8 - a / 8 / 4 * 4
def ck_row (a : Int32) : Int32 := a / 32
def ck_col (a : Int32) : Int32 := a - a / 8 * 8
def ck_after (f : Int32) : Int32 := if f = -1 then 2 else if f = -2 then 4 else 3
set_option maxRecDepth 100000 in
set_option maxHeartbeats 1000000 in
theorem c_Bk_isAddress (l : Launch) {M : kz_M} {a : Int32} : kz_Dt l sC m_Bk_isAddress [.int a] M (some (.int (kz_ib (ck_adr a)))) M := by
  refine kz_intro (by decide +kernel) (Nat.le_of_ble_eq_true rfl) ?_
  show kz_G l sC m_Bk_isAddress 0 [some (.int a)] [] M _
  refine kz_iload_n d_Bk_isAddress_0 rfl rfl ?_
  refine kz_if_lt (tgt := 15) d_Bk_isAddress_1 (by decide) rfl (fun h1 => ?_) (fun h1 => ?_)
  · refine kz_iconst (v := 0) d_Bk_isAddress_15 (by decide) rfl ?_
    exact kz_zret rfl d_Bk_isAddress_16 (by first | assumption | decide | exact kz_ib_or _) (⟨by simp [ck_adr, kz_ib, *], rfl⟩)
  · refine kz_iload_n d_Bk_isAddress_4 rfl rfl ?_
    refine kz_sipush (v := 256) d_Bk_isAddress_5 (by decide) rfl ?_
    refine kz_icmp_ge (tgt := 15) d_Bk_isAddress_8 (by decide) rfl (fun h8 => ?_) (fun h8 => ?_)
    · refine kz_iconst (v := 0) d_Bk_isAddress_15 (by decide) rfl ?_
      exact kz_zret rfl d_Bk_isAddress_16 (by first | assumption | decide | exact kz_ib_or _) (⟨by simp [ck_adr, kz_ib, *], rfl⟩)
    · refine kz_iconst (v := 1) d_Bk_isAddress_11 (by decide) rfl ?_
      refine kz_goto (tgt := 16) d_Bk_isAddress_12 (by decide) ?_
      exact kz_zret rfl d_Bk_isAddress_16 (by first | assumption | decide | exact kz_ib_or _) (⟨by simp [ck_adr, kz_ib, *], rfl⟩)
set_option maxRecDepth 100000 in
set_option maxHeartbeats 1000000 in
theorem c_Bk_isPlace (l : Launch) {M : kz_M} {a : Int32} : kz_Dt l sC m_Bk_isPlace [.int a] M (some (.int (kz_ib (ck_plc a)))) M := by
  refine kz_intro (by decide +kernel) (Nat.le_of_ble_eq_true rfl) ?_
  show kz_G l sC m_Bk_isPlace 0 [some (.int a)] [] M _
  refine kz_iload_n d_Bk_isPlace_0 rfl rfl ?_
  refine kz_if_lt (tgt := 14) d_Bk_isPlace_1 (by decide) rfl (fun h1 => ?_) (fun h1 => ?_)
  · refine kz_iconst (v := 0) d_Bk_isPlace_14 (by decide) rfl ?_
    exact kz_zret rfl d_Bk_isPlace_15 (by first | assumption | decide | exact kz_ib_or _) (⟨by simp [ck_plc, kz_ib, *], rfl⟩)
  · refine kz_iload_n d_Bk_isPlace_4 rfl rfl ?_
    refine kz_bipush (v := 72) d_Bk_isPlace_5 (by decide) rfl ?_
    refine kz_icmp_ge (tgt := 14) d_Bk_isPlace_7 (by decide) rfl (fun h7 => ?_) (fun h7 => ?_)
    · refine kz_iconst (v := 0) d_Bk_isPlace_14 (by decide) rfl ?_
      exact kz_zret rfl d_Bk_isPlace_15 (by first | assumption | decide | exact kz_ib_or _) (⟨by simp [ck_plc, kz_ib, *], rfl⟩)
    · refine kz_iconst (v := 1) d_Bk_isPlace_10 (by decide) rfl ?_
      refine kz_goto (tgt := 15) d_Bk_isPlace_11 (by decide) ?_
      exact kz_zret rfl d_Bk_isPlace_15 (by first | assumption | decide | exact kz_ib_or _) (⟨by simp [ck_plc, kz_ib, *], rfl⟩)
set_option maxRecDepth 100000 in
set_option maxHeartbeats 1000000 in
theorem c_Bk_bankOf (l : Launch) {M : kz_M} {a : Int32} : kz_Dt l sC m_Bk_bankOf [.int a] M (some (.int (ck_bank a))) M := by
  refine kz_intro (by decide +kernel) (Nat.le_of_ble_eq_true rfl) ?_
  show kz_G l sC m_Bk_bankOf 0 [some (.int a)] [] M _
  refine kz_iload_n d_Bk_bankOf_0 rfl rfl ?_
  refine kz_bipush (v := 8) d_Bk_bankOf_1 (by decide) rfl ?_
  refine kz_idiv d_Bk_bankOf_3 (by first | assumption | decide) rfl ?_
  refine kz_iconst (v := 4) d_Bk_bankOf_4 (by decide) rfl ?_
  refine kz_irem d_Bk_bankOf_5 (by first | assumption | decide) rfl ?_
  exact kz_iret rfl d_Bk_bankOf_6 (⟨rfl, rfl⟩)
set_option maxRecDepth 100000 in
set_option maxHeartbeats 1000000 in
theorem c_Bk_rowOf (l : Launch) {M : kz_M} {a : Int32} : kz_Dt l sC m_Bk_rowOf [.int a] M (some (.int (ck_row a))) M := by
  refine kz_intro (by decide +kernel) (Nat.le_of_ble_eq_true rfl) ?_
  show kz_G l sC m_Bk_rowOf 0 [some (.int a)] [] M _
  refine kz_iload_n d_Bk_rowOf_0 rfl rfl ?_
  refine kz_bipush (v := 32) d_Bk_rowOf_1 (by decide) rfl ?_
  refine kz_idiv d_Bk_rowOf_3 (by first | assumption | decide) rfl ?_
  exact kz_iret rfl d_Bk_rowOf_4 (⟨rfl, rfl⟩)
set_option maxRecDepth 100000 in
set_option maxHeartbeats 1000000 in
theorem c_Bk_columnOf (l : Launch) {M : kz_M} {a : Int32} : kz_Dt l sC m_Bk_columnOf [.int a] M (some (.int (ck_col a))) M := by
  refine kz_intro (by decide +kernel) (Nat.le_of_ble_eq_true rfl) ?_
  show kz_G l sC m_Bk_columnOf 0 [some (.int a)] [] M _
  refine kz_iload_n d_Bk_columnOf_0 rfl rfl ?_
  refine kz_bipush (v := 8) d_Bk_columnOf_1 (by decide) rfl ?_
  refine kz_irem d_Bk_columnOf_3 (by first | assumption | decide) rfl ?_
  exact kz_iret rfl d_Bk_columnOf_4 (⟨rfl, rfl⟩)
set_option maxRecDepth 100000 in
set_option maxHeartbeats 1000000 in
theorem c_Bk_stageAfter (l : Launch) {M : kz_M} {f : Int32} : kz_Dt l sC m_Bk_stageAfter [.int f] M (some (.int (ck_after f))) M := by
  refine kz_intro (by decide +kernel) (Nat.le_of_ble_eq_true rfl) ?_
  show kz_G l sC m_Bk_stageAfter 0 [some (.int f)] [] M _
  refine kz_iload_n d_Bk_stageAfter_0 rfl rfl ?_
  refine kz_iconst (v := -1) d_Bk_stageAfter_1 (by decide) rfl ?_
  refine kz_icmp_ne (tgt := 7) d_Bk_stageAfter_2 (by decide) rfl (fun h2 => ?_) (fun h2 => ?_)
  · refine kz_iload_n d_Bk_stageAfter_7 rfl rfl ?_
    refine kz_bipush (v := -2) d_Bk_stageAfter_8 (by decide) rfl ?_
    refine kz_icmp_ne (tgt := 17) d_Bk_stageAfter_10 (by decide) rfl (fun h10 => ?_) (fun h10 => ?_)
    · refine kz_iconst (v := 3) d_Bk_stageAfter_17 (by decide) rfl ?_
      exact kz_iret rfl d_Bk_stageAfter_18 (⟨by simp [ck_after, *], rfl⟩)
    · refine kz_iconst (v := 4) d_Bk_stageAfter_13 (by decide) rfl ?_
      refine kz_goto (tgt := 18) d_Bk_stageAfter_14 (by decide) ?_
      exact kz_iret rfl d_Bk_stageAfter_18 (⟨by simp [ck_after, *], rfl⟩)
  · refine kz_iconst (v := 2) d_Bk_stageAfter_5 (by decide) rfl ?_
    exact kz_iret rfl d_Bk_stageAfter_6 (⟨by simp [ck_after, *], rfl⟩)
set_option maxRecDepth 100000 in
set_option maxHeartbeats 1000000 in
theorem c_Ba_setTiming (l : Launch) {M : kz_M} {i v : Int32} : kz_Dt l sC m_Ba_setTiming [.ref 1, .int i, .int v] M (some (.int (kz_ib (cb_set M i v)))) (if cb_set M i v = true then (kz_u M.1 2 i.toNatClampNeg v, M.2) else M) := by
  have e14 : (Int32.ofNat 14) = 14 := by decide
  refine kz_intro (by decide +kernel) (Nat.le_of_ble_eq_true rfl) ?_
  show kz_G l sC m_Ba_setTiming 0 [some (.ref 1), some (.int i), some (.int v), none, none] [] M _
  refine kz_iload_n d_Ba_setTiming_0 rfl rfl ?_
  refine kz_if_lt (tgt := 13) d_Ba_setTiming_1 (by decide) rfl (fun h1 => ?_) (fun h1 => ?_)
  · refine kz_iconst (v := 0) d_Ba_setTiming_13 (by decide) rfl ?_
    exact kz_zret rfl d_Ba_setTiming_14 (by first | assumption | decide | exact kz_ib_or _) (by first | exact absurd h31 h18 | exact absurd h18 h31 | ((try rw [e14] at h10); simp [cb_set, kz_ib, *]; done))
  · refine kz_iload_n d_Ba_setTiming_4 rfl rfl ?_
    refine kz_aload_n d_Ba_setTiming_5 rfl rfl ?_
    refine kz_getR fd_Ba_18 rfl rfl rfl d_Ba_setTiming_6 rfl ?_
    refine kz_alen rfl (by decide) rfl d_Ba_setTiming_9 rfl ?_
    refine kz_icmp_lt (tgt := 15) d_Ba_setTiming_10 (by decide) rfl (fun h10 => ?_) (fun h10 => ?_)
    · refine kz_iload_n d_Ba_setTiming_15 rfl rfl ?_
      refine kz_bipush (v := 13) d_Ba_setTiming_16 (by decide) rfl ?_
      refine kz_icmp_ne (tgt := 26) d_Ba_setTiming_18 (by decide) rfl (fun h18 => ?_) (fun h18 => ?_)
      · refine kz_iconst (v := 1) d_Ba_setTiming_26 (by decide) rfl ?_
        refine kz_istore_n (i := 3) d_Ba_setTiming_27 rfl rfl (Nat.le_of_ble_eq_true rfl) rfl ?_
        refine kz_iload_n d_Ba_setTiming_28 rfl rfl ?_
        refine kz_bipush (v := 13) d_Ba_setTiming_29 (by decide) rfl ?_
        refine kz_icmp_ne (tgt := 40) d_Ba_setTiming_31 (by decide) rfl (fun h31 => ?_) (fun h31 => ?_)
        · refine kz_bipush (v := 30) d_Ba_setTiming_40 (by decide) rfl ?_
          refine kz_istore d_Ba_setTiming_42 rfl (Nat.le_of_ble_eq_true rfl) rfl ?_
          refine kz_iload_n d_Ba_setTiming_44 rfl rfl ?_
          refine kz_iload_n d_Ba_setTiming_45 rfl rfl ?_
          refine kz_icmp_lt (tgt := 55) d_Ba_setTiming_46 (by decide) rfl (fun h46 => ?_) (fun h46 => ?_)
          · refine kz_iconst (v := 0) d_Ba_setTiming_55 (by decide) rfl ?_
            exact kz_zret rfl d_Ba_setTiming_56 (by first | assumption | decide | exact kz_ib_or _) (by first | exact absurd h31 h18 | exact absurd h18 h31 | ((try rw [e14] at h10); simp [cb_set, kz_ib, *]; done))
          · refine kz_iload_n d_Ba_setTiming_49 rfl rfl ?_
            refine kz_iload d_Ba_setTiming_50 rfl rfl ?_
            refine kz_icmp_le (tgt := 57) d_Ba_setTiming_52 (by decide) rfl (fun h52 => ?_) (fun h52 => ?_)
            · refine kz_aload_n d_Ba_setTiming_57 rfl rfl ?_
              refine kz_getR fd_Ba_18 rfl rfl rfl d_Ba_setTiming_58 rfl ?_
              refine kz_iload_n d_Ba_setTiming_61 rfl rfl ?_
              refine kz_iload_n d_Ba_setTiming_62 rfl rfl ?_
              refine kz_iastp rfl (cb_in14 (by assumption) (by assumption)) rfl d_Ba_setTiming_63 rfl ?_
              refine kz_iconst (v := 1) d_Ba_setTiming_64 (by decide) rfl ?_
              exact kz_zret rfl d_Ba_setTiming_65 (by first | assumption | decide | exact kz_ib_or _) (by first | exact absurd h31 h18 | exact absurd h18 h31 | ((try rw [e14] at h10); simp [cb_set, kz_ib, *]; done))
            · refine kz_iconst (v := 0) d_Ba_setTiming_55 (by decide) rfl ?_
              exact kz_zret rfl d_Ba_setTiming_56 (by first | assumption | decide | exact kz_ib_or _) (by first | exact absurd h31 h18 | exact absurd h18 h31 | ((try rw [e14] at h10); simp [cb_set, kz_ib, *]; done))
        · refine kz_sipush (v := 400) d_Ba_setTiming_34 (by decide) rfl ?_
          refine kz_goto (tgt := 42) d_Ba_setTiming_37 (by decide) ?_
          refine kz_istore d_Ba_setTiming_42 rfl (Nat.le_of_ble_eq_true rfl) rfl ?_
          refine kz_iload_n d_Ba_setTiming_44 rfl rfl ?_
          refine kz_iload_n d_Ba_setTiming_45 rfl rfl ?_
          refine kz_icmp_lt (tgt := 55) d_Ba_setTiming_46 (by decide) rfl (fun h46 => ?_) (fun h46 => ?_)
          · refine kz_iconst (v := 0) d_Ba_setTiming_55 (by decide) rfl ?_
            exact kz_zret rfl d_Ba_setTiming_56 (by first | assumption | decide | exact kz_ib_or _) (by first | exact absurd h31 h18 | exact absurd h18 h31 | ((try rw [e14] at h10); simp [cb_set, kz_ib, *]; done))
          · refine kz_iload_n d_Ba_setTiming_49 rfl rfl ?_
            refine kz_iload d_Ba_setTiming_50 rfl rfl ?_
            refine kz_icmp_le (tgt := 57) d_Ba_setTiming_52 (by decide) rfl (fun h52 => ?_) (fun h52 => ?_)
            · refine kz_aload_n d_Ba_setTiming_57 rfl rfl ?_
              refine kz_getR fd_Ba_18 rfl rfl rfl d_Ba_setTiming_58 rfl ?_
              refine kz_iload_n d_Ba_setTiming_61 rfl rfl ?_
              refine kz_iload_n d_Ba_setTiming_62 rfl rfl ?_
              refine kz_iastp rfl (cb_in14 (by assumption) (by assumption)) rfl d_Ba_setTiming_63 rfl ?_
              refine kz_iconst (v := 1) d_Ba_setTiming_64 (by decide) rfl ?_
              exact kz_zret rfl d_Ba_setTiming_65 (by first | assumption | decide | exact kz_ib_or _) (by first | exact absurd h31 h18 | exact absurd h18 h31 | ((try rw [e14] at h10); simp [cb_set, kz_ib, *]; done))
            · refine kz_iconst (v := 0) d_Ba_setTiming_55 (by decide) rfl ?_
              exact kz_zret rfl d_Ba_setTiming_56 (by first | assumption | decide | exact kz_ib_or _) (by first | exact absurd h31 h18 | exact absurd h18 h31 | ((try rw [e14] at h10); simp [cb_set, kz_ib, *]; done))
      · refine kz_bipush (v := 60) d_Ba_setTiming_21 (by decide) rfl ?_
        refine kz_goto (tgt := 27) d_Ba_setTiming_23 (by decide) ?_
        refine kz_istore_n (i := 3) d_Ba_setTiming_27 rfl rfl (Nat.le_of_ble_eq_true rfl) rfl ?_
        refine kz_iload_n d_Ba_setTiming_28 rfl rfl ?_
        refine kz_bipush (v := 13) d_Ba_setTiming_29 (by decide) rfl ?_
        refine kz_icmp_ne (tgt := 40) d_Ba_setTiming_31 (by decide) rfl (fun h31 => ?_) (fun h31 => ?_)
        · refine kz_bipush (v := 30) d_Ba_setTiming_40 (by decide) rfl ?_
          refine kz_istore d_Ba_setTiming_42 rfl (Nat.le_of_ble_eq_true rfl) rfl ?_
          refine kz_iload_n d_Ba_setTiming_44 rfl rfl ?_
          refine kz_iload_n d_Ba_setTiming_45 rfl rfl ?_
          refine kz_icmp_lt (tgt := 55) d_Ba_setTiming_46 (by decide) rfl (fun h46 => ?_) (fun h46 => ?_)
          · refine kz_iconst (v := 0) d_Ba_setTiming_55 (by decide) rfl ?_
            exact kz_zret rfl d_Ba_setTiming_56 (by first | assumption | decide | exact kz_ib_or _) (by first | exact absurd h31 h18 | exact absurd h18 h31 | ((try rw [e14] at h10); simp [cb_set, kz_ib, *]; done))
          · refine kz_iload_n d_Ba_setTiming_49 rfl rfl ?_
            refine kz_iload d_Ba_setTiming_50 rfl rfl ?_
            refine kz_icmp_le (tgt := 57) d_Ba_setTiming_52 (by decide) rfl (fun h52 => ?_) (fun h52 => ?_)
            · refine kz_aload_n d_Ba_setTiming_57 rfl rfl ?_
              refine kz_getR fd_Ba_18 rfl rfl rfl d_Ba_setTiming_58 rfl ?_
              refine kz_iload_n d_Ba_setTiming_61 rfl rfl ?_
              refine kz_iload_n d_Ba_setTiming_62 rfl rfl ?_
              refine kz_iastp rfl (cb_in14 (by assumption) (by assumption)) rfl d_Ba_setTiming_63 rfl ?_
              refine kz_iconst (v := 1) d_Ba_setTiming_64 (by decide) rfl ?_
              exact kz_zret rfl d_Ba_setTiming_65 (by first | assumption | decide | exact kz_ib_or _) (by first | exact absurd h31 h18 | exact absurd h18 h31 | ((try rw [e14] at h10); simp [cb_set, kz_ib, *]; done))
            · refine kz_iconst (v := 0) d_Ba_setTiming_55 (by decide) rfl ?_
              exact kz_zret rfl d_Ba_setTiming_56 (by first | assumption | decide | exact kz_ib_or _) (by first | exact absurd h31 h18 | exact absurd h18 h31 | ((try rw [e14] at h10); simp [cb_set, kz_ib, *]; done))
        · refine kz_sipush (v := 400) d_Ba_setTiming_34 (by decide) rfl ?_
          refine kz_goto (tgt := 42) d_Ba_setTiming_37 (by decide) ?_
          refine kz_istore d_Ba_setTiming_42 rfl (Nat.le_of_ble_eq_true rfl) rfl ?_
          refine kz_iload_n d_Ba_setTiming_44 rfl rfl ?_
          refine kz_iload_n d_Ba_setTiming_45 rfl rfl ?_
          refine kz_icmp_lt (tgt := 55) d_Ba_setTiming_46 (by decide) rfl (fun h46 => ?_) (fun h46 => ?_)
          · refine kz_iconst (v := 0) d_Ba_setTiming_55 (by decide) rfl ?_
            exact kz_zret rfl d_Ba_setTiming_56 (by first | assumption | decide | exact kz_ib_or _) (by first | exact absurd h31 h18 | exact absurd h18 h31 | ((try rw [e14] at h10); simp [cb_set, kz_ib, *]; done))
          · refine kz_iload_n d_Ba_setTiming_49 rfl rfl ?_
            refine kz_iload d_Ba_setTiming_50 rfl rfl ?_
            refine kz_icmp_le (tgt := 57) d_Ba_setTiming_52 (by decide) rfl (fun h52 => ?_) (fun h52 => ?_)
            · refine kz_aload_n d_Ba_setTiming_57 rfl rfl ?_
              refine kz_getR fd_Ba_18 rfl rfl rfl d_Ba_setTiming_58 rfl ?_
              refine kz_iload_n d_Ba_setTiming_61 rfl rfl ?_
              refine kz_iload_n d_Ba_setTiming_62 rfl rfl ?_
              refine kz_iastp rfl (cb_in14 (by assumption) (by assumption)) rfl d_Ba_setTiming_63 rfl ?_
              refine kz_iconst (v := 1) d_Ba_setTiming_64 (by decide) rfl ?_
              exact kz_zret rfl d_Ba_setTiming_65 (by first | assumption | decide | exact kz_ib_or _) (by first | exact absurd h31 h18 | exact absurd h18 h31 | ((try rw [e14] at h10); simp [cb_set, kz_ib, *]; done))
            · refine kz_iconst (v := 0) d_Ba_setTiming_55 (by decide) rfl ?_
              exact kz_zret rfl d_Ba_setTiming_56 (by first | assumption | decide | exact kz_ib_or _) (by first | exact absurd h31 h18 | exact absurd h18 h31 | ((try rw [e14] at h10); simp [cb_set, kz_ib, *]; done))
    · refine kz_iconst (v := 0) d_Ba_setTiming_13 (by decide) rfl ?_
      exact kz_zret rfl d_Ba_setTiming_14 (by first | assumption | decide | exact kz_ib_or _) (by first | exact absurd h31 h18 | exact absurd h18 h31 | ((try rw [e14] at h10); simp [cb_set, kz_ib, *]; done))
