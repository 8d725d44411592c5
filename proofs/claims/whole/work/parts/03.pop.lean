/-! How many ones a word has: Java's bitCount (shifts and masks) is the sum of the bits. -/
/-- the sum of k digits to the base B -/
def pp_ds (B : Nat) : Nat → Nat → Nat
  | 0, _ => 0
  | k + 1, n => n % B + pp_ds B k (n / B)
/-- k digits to the base B are at most m -/
def pp_le (B m : Nat) : Nat → Nat → Prop
  | 0, _ => True
  | k + 1, n => n % B ≤ m ∧ pp_le B m k (n / B)
theorem pp_and (w a b : Nat) : a &&& b = (a % 2 ^ w &&& b % 2 ^ w) + 2 ^ w * (a / 2 ^ w &&& b / 2 ^ w) := by
  have h := (Nat.div_add_mod (a &&& b) (2 ^ w)).symm
  rw [Nat.and_div_two_pow, Nat.and_mod_two_pow] at h
  omega
def pp_m (B c : Nat) : Nat → Nat
  | 0 => 0
  | k + 1 => c + B * pp_m B c k
theorem pp_a1 (k a : Nat) : a &&& pp_m 4 1 (k + 1) = a % 2 + 4 * (a / 4 &&& pp_m 4 1 k) := by
  rw [pp_and 2]
  have e1 : pp_m 4 1 (k + 1) % 2 ^ 2 = 1 := by show (1 + 4 * pp_m 4 1 k) % 4 = 1; omega
  have e2 : pp_m 4 1 (k + 1) / 2 ^ 2 = pp_m 4 1 k := by show (1 + 4 * pp_m 4 1 k) / 4 = _; omega
  rw [e1, e2, Nat.and_one_is_mod]
  show a % 4 % 2 + 4 * (a / 4 &&& pp_m 4 1 k) = _
  omega
theorem pp_a2 (k a : Nat) : a &&& pp_m 16 3 (k + 1) = a % 4 + 16 * (a / 16 &&& pp_m 16 3 k) := by
  rw [pp_and 4]
  have e1 : pp_m 16 3 (k + 1) % 2 ^ 4 = 2 ^ 2 - 1 := by show (3 + 16 * pp_m 16 3 k) % 16 = 3; omega
  have e2 : pp_m 16 3 (k + 1) / 2 ^ 4 = pp_m 16 3 k := by show (3 + 16 * pp_m 16 3 k) / 16 = _; omega
  rw [e1, e2, Nat.and_two_pow_sub_one_eq_mod]
  show a % 16 % 4 + 16 * (a / 16 &&& pp_m 16 3 k) = _
  omega
theorem pp_a3 (k a : Nat) : a &&& pp_m 256 15 (k + 1) = a % 16 + 256 * (a / 256 &&& pp_m 256 15 k) := by
  rw [pp_and 8]
  have e1 : pp_m 256 15 (k + 1) % 2 ^ 8 = 2 ^ 4 - 1 := by show (15 + 256 * pp_m 256 15 k) % 256 = 15; omega
  have e2 : pp_m 256 15 (k + 1) / 2 ^ 8 = pp_m 256 15 k := by show (15 + 256 * pp_m 256 15 k) / 256 = _; omega
  rw [e1, e2, Nat.and_two_pow_sub_one_eq_mod]
  show a % 256 % 16 + 256 * (a / 256 &&& pp_m 256 15 k) = _
  omega
/-- pairs -/
theorem pp_1 (k : Nat) : ∀ n, n / 2 &&& pp_m 4 1 k ≤ n ∧ (n < 4 ^ k → pp_ds 4 k (n - (n / 2 &&& pp_m 4 1 k)) = pp_ds 2 (2 * k) n ∧ pp_le 4 2 k (n - (n / 2 &&& pp_m 4 1 k))) := by
  induction k with
  | zero =>
    intro n
    have h0 : n / 2 &&& pp_m 4 1 0 = 0 := Nat.and_zero _
    rw [h0]
    exact ⟨Nat.zero_le _, fun _ => ⟨rfl, trivial⟩⟩
  | succ k ih =>
    intro n
    have e := pp_a1 k (n / 2)
    rw [show n / 2 / 4 = n / 4 / 2 by omega] at e
    obtain ⟨i1, i2⟩ := ih (n / 4)
    refine ⟨by rw [e]; omega, fun hn => ?_⟩
    obtain ⟨j1, j2⟩ := i2 (by rw [Nat.pow_succ] at hn; omega)
    rw [e]
    have d1 : (n - (n / 2 % 2 + 4 * (n / 4 / 2 &&& pp_m 4 1 k))) % 4 = n % 2 + n / 2 % 2 := by omega
    have d2 : (n - (n / 2 % 2 + 4 * (n / 4 / 2 &&& pp_m 4 1 k))) / 4 = n / 4 - (n / 4 / 2 &&& pp_m 4 1 k) := by omega
    refine ⟨?_, ?_, ?_⟩
    · show _ % 4 + pp_ds 4 k (_ / 4) = _
      rw [d1, d2, j1, show 2 * (k + 1) = 2 * k + 1 + 1 by omega]
      show _ = n % 2 + (n / 2 % 2 + pp_ds 2 (2 * k) (n / 2 / 2))
      rw [show n / 2 / 2 = n / 4 by omega]
      omega
    · rw [d1]; omega
    · rw [d2]; exact j2
/-- fours -/
theorem pp_2 (k : Nat) : ∀ n, n < 16 ^ k → pp_le 4 2 (2 * k) n → pp_ds 16 k ((n &&& pp_m 16 3 k) + (n / 4 &&& pp_m 16 3 k)) = pp_ds 4 (2 * k) n ∧ pp_le 16 4 k ((n &&& pp_m 16 3 k) + (n / 4 &&& pp_m 16 3 k)) := by
  induction k with
  | zero => intro n _ _; exact ⟨rfl, trivial⟩
  | succ k ih =>
    intro n hn hle
    have e1 := pp_a2 k n
    have e2 := pp_a2 k (n / 4)
    rw [show n / 4 / 16 = n / 16 / 4 by omega] at e2
    rw [show 2 * (k + 1) = 2 * k + 1 + 1 by omega] at hle
    obtain ⟨l1, l2, l3⟩ := hle
    rw [show n / 4 / 4 = n / 16 by omega] at l3
    obtain ⟨j1, j2⟩ := ih (n / 16) (by rw [Nat.pow_succ] at hn; omega) l3
    rw [e1, e2]
    have d1 : (n % 4 + 16 * (n / 16 &&& pp_m 16 3 k) + (n / 4 % 4 + 16 * (n / 16 / 4 &&& pp_m 16 3 k))) % 16 = n % 4 + n / 4 % 4 := by omega
    have d2 : (n % 4 + 16 * (n / 16 &&& pp_m 16 3 k) + (n / 4 % 4 + 16 * (n / 16 / 4 &&& pp_m 16 3 k))) / 16 = (n / 16 &&& pp_m 16 3 k) + (n / 16 / 4 &&& pp_m 16 3 k) := by omega
    refine ⟨?_, ?_, ?_⟩
    · show _ % 16 + pp_ds 16 k (_ / 16) = _
      rw [d1, d2, j1, show 2 * (k + 1) = 2 * k + 1 + 1 by omega]
      show _ = n % 4 + (n / 4 % 4 + pp_ds 4 (2 * k) (n / 4 / 4))
      rw [show n / 4 / 4 = n / 16 by omega]
      omega
    · rw [d1]; omega
    · rw [d2]; exact j2
/-- eights -/
theorem pp_3 (k : Nat) : ∀ n, n < 256 ^ k → pp_le 16 4 (2 * k) n → pp_ds 256 k (n + n / 16 &&& pp_m 256 15 k) = pp_ds 16 (2 * k) n ∧ pp_le 256 8 k (n + n / 16 &&& pp_m 256 15 k) := by
  induction k with
  | zero => intro n _ _; exact ⟨rfl, trivial⟩
  | succ k ih =>
    intro n hn hle
    rw [show 2 * (k + 1) = 2 * k + 1 + 1 by omega] at hle
    obtain ⟨l1, l2, l3⟩ := hle
    rw [show n / 16 / 16 = n / 256 by omega] at l3
    have hw : n / 256 % 16 ≤ 4 := by
      cases k with
      | zero => rw [Nat.pow_succ] at hn; have : n / 256 = 0 := by omega
                rw [this]; omega
      | succ k => rw [show 2 * (k + 1) = 2 * k + 1 + 1 by omega] at l3; exact l3.1
    obtain ⟨j1, j2⟩ := ih (n / 256) (by rw [Nat.pow_succ] at hn; omega) l3
    have e := pp_a3 k (n + n / 16)
    have q1 : (n + n / 16) / 256 = n / 256 + n / 256 / 16 := by
      have e0 : n / 16 / 16 = n / 256 := by omega
      have e1 : n / 16 = 16 * (n / 256) + n / 16 % 16 := by omega
      have e2 : n = 256 * (n / 256) + 16 * (n / 16 % 16) + n % 16 := by omega
      have e3 : n / 256 = 16 * (n / 256 / 16) + n / 256 % 16 := by omega
      have e4 : n + n / 16 = 256 * (n / 256 + n / 256 / 16) + (16 * (n / 256 % 16) + 17 * (n / 16 % 16) + n % 16) := by omega
      rw [e4]
      omega
    rw [q1] at e
    rw [e]
    have d0 : (n + n / 16) % 16 = n % 16 + n / 16 % 16 := by omega
    have d1 : ((n + n / 16) % 16 + 256 * (n / 256 + n / 256 / 16 &&& pp_m 256 15 k)) % 256 = n % 16 + n / 16 % 16 := by omega
    have d2 : ((n + n / 16) % 16 + 256 * (n / 256 + n / 256 / 16 &&& pp_m 256 15 k)) / 256 = (n / 256 + n / 256 / 16 &&& pp_m 256 15 k) := by omega
    refine ⟨?_, ?_, ?_⟩
    · show _ % 256 + pp_ds 256 k (_ / 256) = _
      rw [d1, d2, j1, show 2 * (k + 1) = 2 * k + 1 + 1 by omega]
      show _ = n % 16 + (n / 16 % 16 + pp_ds 16 (2 * k) (n / 16 / 16))
      rw [show n / 16 / 16 = n / 256 by omega]
      omega
    · rw [d1]; omega
    · rw [d2]; exact j2
theorem pp_lt2 (k n : Nat) (h : n < 16 ^ k) : (n &&& pp_m 16 3 k) + (n / 4 &&& pp_m 16 3 k) < 16 ^ k ∨ k = 0 := by
  induction k generalizing n with
  | zero => exact Or.inr rfl
  | succ k ih =>
    refine Or.inl ?_
    rw [pp_a2 k n, pp_a2 k (n / 4), show n / 4 / 16 = n / 16 / 4 by omega, Nat.pow_succ]
    rw [Nat.pow_succ] at h
    rcases ih (n / 16) (by omega) with h1 | h1
    · omega
    · subst h1
      have e : ∀ x, x &&& pp_m 16 3 0 = 0 := fun x => Nat.and_zero x
      rw [e, e]
      omega
/-- the last: eight bytes are added -/
theorem pp_4a (c0 c1 c2 c3 c4 c5 c6 c7 : Nat) (h0 : c0 ≤ 8) (h1 : c1 ≤ 8) (h2 : c2 ≤ 8) (h3 : c3 ≤ 8) (h4 : c4 ≤ 8) (h5 : c5 ≤ 8) (h6 : c6 ≤ 8) (h7 : c7 ≤ 8) (s u v w : Nat) (hs : s = c0 + 256 * c1 + 65536 * c2 + 16777216 * c3 + 4294967296 * c4 + 1099511627776 * c5 + 281474976710656 * c6 + 72057594037927936 * c7) (hu : u = s + s / 256) (hv : v = u + u / 65536) (hw : w = v + v / 4294967296) : w % 128 = c0 + c1 + c2 + c3 + c4 + c5 + c6 + c7 := by
  have a1 : s / 256 = c1 + 256 * c2 + 65536 * c3 + 16777216 * c4 + 4294967296 * c5 + 1099511627776 * c6 + 281474976710656 * c7 := by omega
  have a2 : u = (c0 + c1) + 256 * (c1 + c2) + 65536 * (c2 + c3) + 16777216 * (c3 + c4) + 4294967296 * (c4 + c5) + 1099511627776 * (c5 + c6) + 281474976710656 * (c6 + c7) + 72057594037927936 * c7 := by omega
  have a3 : u / 65536 = (c2 + c3) + 256 * (c3 + c4) + 65536 * (c4 + c5) + 16777216 * (c5 + c6) + 4294967296 * (c6 + c7) + 1099511627776 * c7 := by
    rw [a2]; clear hu hv hw hs a1 a2; omega
  have a4 : v = (c0 + c1 + c2 + c3) + 256 * (c1 + c2 + c3 + c4) + 65536 * (c2 + c3 + c4 + c5) + 16777216 * (c3 + c4 + c5 + c6) + 4294967296 * (c4 + c5 + c6 + c7) + 1099511627776 * (c5 + c6 + c7) + 281474976710656 * (c6 + c7) + 72057594037927936 * c7 := by
    rw [hv, a3, a2]; clear hu hv hw hs a1 a2 a3; omega
  have a5 : v / 4294967296 = (c4 + c5 + c6 + c7) + 256 * (c5 + c6 + c7) + 65536 * (c6 + c7) + 16777216 * c7 := by
    rw [a4]; clear hu hv hw hs a1 a2 a3 a4; omega
  rw [hw, a5, a4]
  clear hu hv hw hs a1 a2 a3 a4 a5
  omega
theorem pp_4 (s : Nat) (hs : s < 256 ^ 8) (h : pp_le 256 8 8 s) : (s + s / 256 + (s + s / 256) / 65536 + (s + s / 256 + (s + s / 256) / 65536) / 4294967296) % 128 = pp_ds 256 8 s := by
  obtain ⟨h0, h1, h2, h3, h4, h5, h6, h7, -⟩ := h
  have e8 : (256 : Nat) ^ 8 = 18446744073709551616 := by decide
  rw [e8] at hs
  have e := pp_4a _ _ _ _ _ _ _ _ h0 h1 h2 h3 h4 h5 h6 h7 s _ _ _ (by omega) rfl rfl rfl
  rw [e]
  show _ = s % 256 + (s / 256 % 256 + (s / 256 / 256 % 256 + (s / 256 / 256 / 256 % 256 + (s / 256 / 256 / 256 / 256 % 256 + (s / 256 / 256 / 256 / 256 / 256 % 256 + (s / 256 / 256 / 256 / 256 / 256 / 256 % 256 + (s / 256 / 256 / 256 / 256 / 256 / 256 / 256 % 256 + 0)))))))
  omega
theorem pp_4b (c0 c1 c2 c3 : Nat) (h0 : c0 ≤ 8) (h1 : c1 ≤ 8) (h2 : c2 ≤ 8) (h3 : c3 ≤ 8) (s u v : Nat) (hs : s = c0 + 256 * c1 + 65536 * c2 + 16777216 * c3) (hu : u = s + s / 256) (hv : v = u + u / 65536) : v % 64 = c0 + c1 + c2 + c3 := by
  have a1 : s / 256 = c1 + 256 * c2 + 65536 * c3 := by omega
  have a2 : u = (c0 + c1) + 256 * (c1 + c2) + 65536 * (c2 + c3) + 16777216 * c3 := by omega
  have a3 : u / 65536 = (c2 + c3) + 256 * c3 := by
    rw [a2]; clear hu hv hs a1 a2; omega
  rw [hv, a3, a2]
  clear hu hv hs a1 a2 a3
  omega
theorem pp_4i (s : Nat) (hs : s < 256 ^ 4) (h : pp_le 256 8 4 s) : (s + s / 256 + (s + s / 256) / 65536) % 64 = pp_ds 256 4 s := by
  obtain ⟨h0, h1, h2, h3, -⟩ := h
  have e4 : (256 : Nat) ^ 4 = 4294967296 := by decide
  rw [e4] at hs
  have e := pp_4b _ _ _ _ h0 h1 h2 h3 s _ _ (by omega) rfl rfl
  rw [e]
  show _ = s % 256 + (s / 256 % 256 + (s / 256 / 256 % 256 + (s / 256 / 256 / 256 % 256 + 0)))
  omega
/-- a bit turned: the sum's parity turns -/
theorem pp_turn (k : Nat) : ∀ n p, p < k → (pp_ds 2 k (n ^^^ 2 ^ p)) % 2 = (pp_ds 2 k n + 1) % 2 := by
  induction k with
  | zero => intro n p h; omega
  | succ k ih =>
    intro n p h
    show ((n ^^^ 2 ^ p) % 2 + pp_ds 2 k ((n ^^^ 2 ^ p) / 2)) % 2 = (n % 2 + pp_ds 2 k (n / 2) + 1) % 2
    cases p with
    | zero =>
      have e1 : (n ^^^ 2 ^ 0) / 2 = n / 2 := by
        have := Nat.xor_div_two_pow (a := n) (b := 2 ^ 0) (n := 1)
        simpa using this
      have e2 : (n ^^^ 2 ^ 0) % 2 = (n + 1) % 2 := by
        have := Nat.xor_mod_two_pow (a := n) (b := 2 ^ 0) (n := 1)
        simp at this
        rw [Nat.pow_zero, this]
        rcases Nat.mod_two_eq_zero_or_one n with h0 | h0 <;> rw [h0] <;> (try simp) <;> omega
      rw [e1, e2]
      omega
    | succ p =>
      have e1 : (n ^^^ 2 ^ (p + 1)) / 2 = n / 2 ^^^ 2 ^ p := by
        have := Nat.xor_div_two_pow (a := n) (b := 2 ^ (p + 1)) (n := 1)
        rw [Nat.pow_one, Nat.pow_succ, Nat.mul_div_cancel _ (by decide : 0 < 2)] at this
        rw [Nat.pow_succ]
        exact this
      have e2 : (n ^^^ 2 ^ (p + 1)) % 2 = n % 2 := by
        have := Nat.xor_mod_two_pow (a := n) (b := 2 ^ (p + 1)) (n := 1)
        rw [Nat.pow_one, Nat.pow_succ, Nat.mul_mod_left, Nat.xor_zero] at this
        rw [Nat.pow_succ]
        exact this
      rw [e1, e2]
      have := ih (n / 2) p (by omega)
      omega
