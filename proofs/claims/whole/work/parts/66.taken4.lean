/-! Words: taken alike: the word. -/
theorem tk_w1 (x : bt_T) (f : Int32) (n : Nat) (hn : n = 69) : (bt_wd x f n 0).toBitVec = ww (wg x f) 69 3 := by
  refine wd_eq x f n 0 (by omega) ?_
  rw [hn, Nat.sub_self]
  rfl
theorem tk_w2 (x : bt_T) (f : Int32) (n : Nat) (hn : n = 69) : (rt_2 x f n 3 (nI 0, 0)).2.toBitVec = ww (wg x f) n 3 := by
  rw [rt_2_eq x f n 3 0 0 (by omega) (by rw [hn, wr_64]), BitVec.shiftLeft_zero]
  exact BitVec.zero_or
theorem tk_word {x : bt_T} (h : bt_ok x) : (rt_2 x (rt_pl x) 69 3 (nI 0, 0)).2 = bt_wd x (bt_fault x) 69 0 :=
  Int64.toBitVec_inj.mp ((tk_w2 x (rt_pl x) 69 rfl).trans ((tk_ww h).trans (tk_w1 x (bt_fault x) 69 rfl).symm))
