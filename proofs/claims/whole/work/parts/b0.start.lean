/-! The relation of class and reference: new objects. -/
theorem mo_off {q c : Int32} {a b : Nat} (h : a = 2 ∨ a = 3 ∨ 8 ≤ a) : (mo_M q c).1 a b = 0 := by
  simp only [mo_M, kz_fl]
  rw [if_neg (by omega), if_neg (by omega), if_neg (by omega), if_neg (by omega), if_neg (by omega), kz_u_off _ _ _ _ (by omega), kz_u_off _ _ _ _ (by omega), kz_u_off _ _ _ _ (by omega), kz_u_off _ _ _ _ (by omega)]
theorem ba_at {k b : Nat} (hb : b < 4) : (3 ≤ k ∧ k ≤ 7 → ba_M.1 k b = -1000000) ∧ ba_M.1 2 b = -1 := by
  refine ⟨fun h => ?_, ?_⟩
  · simp only [ba_M, kz_fl]
    by_cases h7 : k = 7
    · rw [if_pos ⟨h7, hb⟩]
    · rw [if_neg (fun z => h7 z.1)]
      by_cases h6 : k = 6
      · rw [if_pos ⟨h6, hb⟩]
      · rw [if_neg (fun z => h6 z.1)]
        by_cases h5 : k = 5
        · rw [if_pos ⟨h5, hb⟩]
        · rw [if_neg (fun z => h5 z.1)]
          by_cases h4 : k = 4
          · rw [if_pos ⟨h4, hb⟩]
          · rw [if_neg (fun z => h4 z.1), if_pos ⟨by omega, hb⟩]
  · simp only [ba_M, kz_fl]
    rw [if_neg (by omega), if_neg (by omega), if_neg (by omega), if_neg (by omega), if_neg (by omega), if_pos ⟨trivial, hb⟩]
theorem mo_at {q c : Int32} : (∀ b, b < 4 → (mo_M q c).1 4 b = -1) ∧ (∀ b, b < 4 → (mo_M q c).1 7 b = -100000) ∧ (∀ b, b < 20 → (mo_M q c).1 5 b = -100000) ∧ ∀ b, b < 5 → (mo_M q c).1 6 b = -100000 := by
  refine ⟨fun b hb => ?_, fun b hb => ?_, fun b hb => ?_, fun b hb => ?_⟩ <;> simp only [mo_M, kz_fl]
  · rw [if_neg (by omega), if_neg (by omega), if_neg (by omega), if_pos ⟨trivial, hb⟩]
  · rw [if_neg (by omega), if_neg (by omega), if_pos ⟨trivial, hb⟩]
  · rw [if_neg (by omega), if_pos ⟨trivial, hb⟩]
  · rw [if_pos ⟨trivial, hb⟩]
theorem mo_qn (q : Int32) : ∃ n, n ≤ 8 ∧ mo_q q = nI n := by
  have h : ¬ mo_q q < 0 ∧ mo_q q ≤ 8 := by
    unfold mo_q
    by_cases h1 : 2 ≤ q
    · rw [if_pos h1]
      by_cases h2 : q ≤ 8
      · rw [if_pos h2]
        exact ⟨Int32.not_lt.mpr (Int32.le_trans (by decide) h1), h2⟩
      · rw [if_neg h2]; decide
    · rw [if_neg h1]; decide
  obtain ⟨n, h1, h2⟩ := nI_of2 (M := 8) (n := 8) (by decide) h.1 h.2
  exact ⟨n, h1, h2⟩
set_option maxRecDepth 100000 in
set_option maxHeartbeats 1000000 in
theorem z_start (q c : Int32) : zF 0 (bk_M q c) (mo_M q c) := by
  have hb0 : ∀ k j, 9 ≤ k → (bk_M q c).1 k j = 0 := fun k j h => bk_0 h
  have hb1 : ∀ k, k < 8 → (bk_M q c).1 (k + 1) = ba_M.1 k := fun k h => bk_1 h
  have st0 : st 0 (-1000000) (-100000) := Or.inl ⟨rfl, rfl⟩
  obtain ⟨o4, o7, o5, o6⟩ := mo_at (q := q) (c := c)
  have hT : sT (bk_M q c) (mo_M q c) := fun i hi => by
    have e1 : (bk_M q c).1 2 i = nI (mo_f i) := by
      rw [hb1 1 (by decide)]
      simp only [ba_M, kz_fl, ba_0]
      rw [if_neg (by omega), if_neg (by omega), if_neg (by omega), if_neg (by omega), if_neg (by omega), if_neg (by omega), if_pos trivial]
    have e2 : (mo_M q c).1 1 i = nI (mo_f i) := by
      simp only [mo_M, kz_fl]
      rw [if_neg (by omega), if_neg (by omega), if_neg (by omega), if_neg (by omega), if_pos ⟨trivial, hi⟩]
    have : ∀ i, i < 14 → 1 ≤ mo_f i ∧ mo_f i ≤ 400 := by decide
    exact ⟨mo_f i, (this i hi).1, (this i hi).2, e1, e2⟩
  refine ⟨0, [], [], ⟨[], 0, 0, 0, 0, ⟨⟨⟨rfl, rfl⟩, ⟨rfl, rfl, rfl, rfl, rfl, rfl, vp_in_nI (n := 0) (by decide) (by decide)⟩, ⟨0, 120, by decide, by decide, rfl, rfl, Or.inl ⟨rfl, rfl⟩⟩, fun a ha => ⟨?_, ?_⟩, ⟨rfl, rfl, by decide, fun i hi => by omega, fun i _ hi => ⟨hb0 17 i (by decide), rfl⟩⟩, ⟨⟨by decide, by decide, rfl, rfl, fun i hi => by omega⟩, fun _ => 0, fun _ => 0, fun i h1 h2 => by omega, fun i j h1 h2 h3 => by omega, fun τ h1 => by omega⟩, ⟨⟨rfl, by decide, (fun i x hx => by cases hx), (fun t ht => by cases ht)⟩, List.Pairwise.nil, (fun x hx => by cases hx), rfl, rfl, rfl, rfl, by decide⟩⟩, ⟨hT, fun b hb => ⟨?_, ?_, ?_, ?_, ?_, ?_⟩, ⟨?_, fun i hi => ?_, ?_, ?_⟩, ⟨-100000, -100000, Or.inl ⟨o6 2 (by decide), o6 3 (by decide)⟩, ?_, Or.inl rfl⟩, Or.inl ⟨rfl, rfl, rfl, rfl⟩⟩, ⟨rfl, rfl, rfl, rfl, fun j hj k hk => ?_⟩⟩, by decide⟩, ⟨⟨rfl, by decide, (fun i x hx => by cases hx)⟩, ⟨rfl, by decide, (fun i x hx => by cases hx)⟩, (fun t ht => by cases ht), (fun t ht => by cases ht), ⟨⟨0, by decide, rfl⟩, ⟨0, by decide, rfl⟩, vp_in_nI (n := 0) (by decide) (by decide)⟩, ?_, 0, by decide, rfl, (fun t ht => by cases ht), (fun t ht => by cases ht)⟩, by decide⟩
  · unfold cw_get rw_get
    rw [hb0 11 a (by decide), mo_off (by decide)]
    rfl
  · unfold cw_get bt_ok
    rw [hb0 11 a (by decide)]
    show (0 : Int32).toBitVec.toNat < 256
    decide
  · rw [hb1 2 (by decide), (ba_at hb (k := 2)).2, o4 b hb]
  · left
    rw [hb1 2 (by decide), (ba_at hb (k := 2)).2]
  · rw [hb1 3 (by decide), (ba_at hb (k := 3)).1 (by decide), o5 _ (by omega)]; exact st0
  · rw [hb1 4 (by decide), (ba_at hb (k := 4)).1 (by decide), o5 _ (by omega)]; exact st0
  · rw [hb1 5 (by decide), (ba_at hb (k := 5)).1 (by decide), o5 _ (by omega)]; exact st0
  · rw [hb1 6 (by decide), (ba_at hb (k := 6)).1 (by decide), o5 _ (by omega)]; exact st0
  · rw [hb1 7 (by decide), (ba_at (by decide) (k := 7)).1 (by decide), o6 _ (by decide)]; exact st0
  · rw [hb1 7 (by decide), (ba_at hi (k := 7)).1 (by decide), o7 _ (by omega)]; exact st0
  · rw [o6 _ (by decide)]; exact st0
  · rw [o6 _ (by decide)]; exact st0
  · exact st0
  · rw [hb0 (27 + j) k (by omega), mo_off (by omega)]
  · obtain ⟨n, n8, hn⟩ := mo_qn q
    exact ⟨n, n8, hn, by simp, by simp⟩
