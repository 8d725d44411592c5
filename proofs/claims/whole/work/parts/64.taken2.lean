/-! Words: taken alike: the place, the check, the word. -/
theorem tk_all : ∀ (b : Bool) (m : Fin 128), (if b = true then (if 72 ≤ nI m.val then -1 else nI m.val) else -1) = (if (if b = true then (if 72 ≤ nI m.val then -2 else nI m.val) else (if nI m.val = 0 then -1 else -2)) < 0 then -1 else (if b = true then (if 72 ≤ nI m.val then -2 else nI m.val) else (if nI m.val = 0 then -1 else -2)))
    ∧ (if (if b = true then (if 72 ≤ nI m.val then (-1 : Int32) else nI m.val) else -1) < 0 then (if b = true then (4 : Int32) else if nI m.val = 0 then 2 else 4) else 3) = ck_after (if b = true then (if 72 ≤ nI m.val then -2 else nI m.val) else (if nI m.val = 0 then -1 else -2)) := by decide +kernel
theorem tk_pc {x : bt_T} (h : bt_ok x) : rt_pl x = (if bt_fault x < 0 then -1 else bt_fault x) ∧ rt_ck x = ck_after (bt_fault x) := by
  obtain ⟨m, hm, hl⟩ := bt_syn_lt x 71 1 0 (by decide) (by decide)
  have hm : bt_syn x 71 1 0 = nI m := hm
  unfold rt_ck rt_pl bt_fault
  rw [rt_odd_eq h, rt_1_all]
  simp only [hm]
  exact tk_all (bt_odd x) ⟨m, hl⟩
def ww (g : Nat → Bool) : Nat → Nat → BitVec 64
  | 0, _ => 0#64
  | n + 1, p => if bt_chk (nI p) = true then ww g n (p + 1) else (ww g n (p + 1) <<< 1) ||| (if g p = true then 1#64 else 0#64)
theorem ww_congr (f g : Nat → Bool) : ∀ (n p : Nat), (∀ i, p ≤ i → i < p + n → f i = g i) → ww f n p = ww g n p
  | 0, _, _ => rfl
  | n + 1, p, h => by rw [ww, ww, ww_congr f g n (p + 1) (fun i a b => h i (by omega) (by omega)), h p (Nat.le_refl _) (by omega)]
theorem ww_B (c : Bool) : (wB c).toInt64.toBitVec = if c = true then 1#64 else 0#64 := by cases c <;> rfl
theorem ww_1 (w : Int64) : (w <<< ((1 : Int32).toInt64 &&& 63)).toBitVec = w.toBitVec <<< 1 := by
  rw [Int64.toBitVec_shiftLeft]
  rfl
theorem ww_k (w : Int64) (k : Nat) (hk : k < 64) : (w <<< ((nI k).toInt64 &&& 63)).toBitVec = w.toBitVec <<< k := by
  rw [Int64.toBitVec_shiftLeft, (wb_i64 ⟨k, hk⟩).1, BitVec.shiftLeft_eq', (wb_i64 ⟨k, hk⟩).2.1]
theorem wd_eq (x : bt_T) (f : Int32) : ∀ (n : Nat) (w : Int64), n ≤ 69 → w.toBitVec = ww (fun p => wb x p ^^ decide (nI p = f)) (69 - n) (n + 3) → (bt_wd x f n w).toBitVec = ww (fun p => wb x p ^^ decide (nI p = f)) 69 3
  | 0, w, _, h => h
  | n + 1, w, hn, h => by
    rw [bt_wd]
    refine wd_eq x f n _ (by omega) ?_
    rw [show 69 - n = (69 - (n + 1)) + 1 by omega, ww, show n + 3 + 1 = n + 1 + 3 by omega, ← h]
    by_cases hc : bt_chk (nI (n + 3)) = true
    · rw [if_pos hc, if_pos hc]
    · rw [if_neg hc, if_neg hc, Int64.toBitVec_or, ww_1, wb_bt x (n + 3) (by omega)]
      congr 1
      rw [← ww_B]
      congr 2
      by_cases he : nI (n + 3) = f
      · rw [if_pos he, decide_eq_true he]
        cases wb x (n + 3) <;> rfl
      · rw [if_neg he, decide_eq_false he, Bool.xor_false]
theorem rt_2_eq (x : bt_T) (f : Int32) : ∀ (n p k : Nat) (w : Int64), p + n = 72 → k + wr_n n p = 64 → (rt_2 x f n p (nI k, w)).2.toBitVec = w.toBitVec ||| (ww (fun p => wb x p ^^ decide (nI p = f)) n p <<< k)
  | 0, _, k, w, _, _ => by
    rw [rt_2, ww, BitVec.zero_shiftLeft, BitVec.or_zero]
  | n + 1, p, k, w, hp, hk => by
    rw [wr_n] at hk
    rw [rt_2, ww]
    by_cases hc : bt_chk (nI p) = true
    · rw [if_pos hc] at hk
      rw [if_pos hc, if_pos hc]
      exact rt_2_eq x f n (p + 1) k w (by omega) (by omega)
    · rw [if_neg hc] at hk
      rw [if_neg hc, if_neg hc]
      simp only [kz_inc]
      rw [rt_2_eq x f n (p + 1) (k + 1) _ (by omega) (by omega), Int64.toBitVec_or, ww_k _ k (by omega), wb_rb x p (by omega)]
      have e : (wB (wb x p) ^^^ (if nI p = f then 1 else 0)) = wB (wb x p ^^ decide (nI p = f)) := by
        by_cases he : nI p = f
        · rw [if_pos he, decide_eq_true he]
          cases wb x p <;> rfl
        · rw [if_neg he, decide_eq_false he]
          cases wb x p <;> rfl
      rw [e, ww_B, BitVec.shiftLeft_or_distrib, ← BitVec.shiftLeft_add, Nat.add_comm 1 k, BitVec.or_assoc]
      congr 1
      exact BitVec.or_comm _ _
