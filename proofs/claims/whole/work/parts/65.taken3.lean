/-! Words: taken alike: the word, whole. -/
theorem tk_eq {x : bt_T} (h : bt_ok x) (p : Nat) (b : p < 72) : nI p = rt_pl x ↔ nI p = bt_fault x := by
  rw [(tk_pc h).1]
  have hp : ¬ nI p < 0 := nI_pos (by omega)
  by_cases hf : bt_fault x < 0
  · rw [if_pos hf]
    exact ⟨fun z => absurd (by rw [z]; decide) hp, fun z => absurd (by rw [z]; exact hf) hp⟩
  · rw [if_neg hf]
def wg (x : bt_T) (f : Int32) (p : Nat) : Bool := wb x p ^^ decide (nI p = f)
theorem tk_ww {x : bt_T} (h : bt_ok x) : ww (wg x (rt_pl x)) 69 3 = ww (wg x (bt_fault x)) 69 3 := ww_congr _ _ 69 3 (fun p _ b => by
  unfold wg
  rw [decide_eq_decide.mpr (tk_eq h p b)])
