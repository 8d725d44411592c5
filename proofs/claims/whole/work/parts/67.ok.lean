/-! Words: what is stored has 8 high places. -/
theorem ok_kps : ∀ (n p : Nat) (st : bt_T × Int32 × Int64), p + n = 72 → bt_ok st.1 → bt_ok (bt_kps n p st).1
  | 0, _, _, _, h => h
  | n + 1, p, st, hp, h => by
    rw [bt_kps]
    refine ok_kps n (p + 1) _ (by omega) ?_
    unfold bt_kp
    split
    · exact h
    · split
      · exact h
      · exact ok_turn h p (by omega)
theorem ok_kc {x : bt_T} (h : bt_ok x) (syn : Int32) (q : Nat) (hq : q < 72) : bt_ok (bt_kc syn (nI q) x) := by
  unfold bt_kc
  split
  · exact h
  · exact ok_turn h q hq
theorem ok_keep (v : Int64) : bt_ok (bt_keep v) := by
  have h := ok_kps 69 3 ((0, 0), 0, v) (by decide) (show (0#32).toNat < 256 by decide)
  unfold bt_keep bt_kcs
  generalize bt_kps 69 3 ((0, 0), 0, v) = st at h
  have h7 := ok_kc (ok_kc (ok_kc (ok_kc (ok_kc (ok_kc (ok_kc h st.2.1 1 (by decide)) st.2.1 2 (by decide)) st.2.1 4 (by decide)) st.2.1 8 (by decide)) st.2.1 16 (by decide)) st.2.1 32 (by decide)) st.2.1 64 (by decide)
  unfold bt_end
  split
  · exact ok_turn h7 0 (by decide)
  · exact h7
