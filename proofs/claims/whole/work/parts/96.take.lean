/-! The relation of class and reference: a request is taken. -/
theorem z_take {t c b e : Nat} {M R O S : kz_M} {wq rs ws wq' rs' ws' : List Int32} {a x17 x18 : Int32} {w : Bool} {wd : Int64} (h : zX t t c b e M R wq rs ws) (hc : c < 400) (hO : ∀ k, k ≤ 2 ∨ k = 11 → O.1 k = M.1 k) (o12 : O.1 12 6 = nI (c + 1)) (o13 : ∀ j, O.1 13 j = if j = c then a else M.1 13 j) (o14 : ∀ j, O.1 14 j = if j = c then kz_ib w else M.1 14 j) (o15 : ∀ j, O.1 15 j = if j = c then nI t else M.1 15 j) (o17 : ∀ j, O.1 17 j = if j = c then x17 else M.1 17 j) (o18 : ∀ j, O.1 18 j = if j = c then x18 else M.1 18 j) (p10 : O.2 10 = M.2 10) (p16 : ∀ j, O.2 16 j = if j = c then wd else M.2 16 j) (hS0 : ∀ j, j ≠ 7 → j ≠ 26 → j ≠ 27 → j ≠ 28 → S.1 0 j = R.1 0 j) (s7 : S.1 0 7 = nI (c + 1)) (hSk : ∀ k, k = 3 ∨ k = 13 ∨ k = 14 ∨ k = 16 → S.1 k = R.1 k) (s8 : ∀ j, S.1 8 j = if j = c then kz_ib w else R.1 8 j) (s9 : ∀ j, S.1 9 j = if j = c then a else R.1 9 j) (s10 : ∀ j, S.1 10 j = if j = c then nI t else R.1 10 j) (s11 : ∀ j, S.1 11 j = if j = c then zg t x17 x18 else R.1 11 j) (s2 : S.2 2 = R.2 2) (s12 : ∀ j, S.2 12 j = if j = c then wd else R.2 12 j) (hx : x17 ≠ 0 → ¬ nI t ≤ x18) (hL : zL (c + 1) b O S wq' rs' ws') : zX t t (c + 1) b e O S wq' rs' ws' := by
  obtain ⟨hN, ⟨z1, z2, z3, z4, z5, z6, z7⟩, hZO, hW, ⟨q1, q2, q3, q4, q5⟩, ⟨⟨b1, b2, b3, b4, b5⟩, T, U, d1, d2, d3⟩, -⟩ := h
  refine ⟨⟨?_, ?_⟩, ⟨?_, ?_, ?_, ?_, ?_, ?_, ?_⟩, ?_, zW_fr hW (hO 11 (by omega)) p10 (hSk 3 (by omega)) s2, ⟨o12, s7, by omega, fun i hi => ?_, fun i h1 h2 => ?_⟩, ⟨⟨b1, b2, ?_, ?_, fun i hi => ?_⟩, T, U, fun i h1 h2 => ?_, d2, fun y h1 h2 h3 => ?_⟩, hL⟩
  · rw [hO 0 (by omega)]; exact hN.1
  · rw [hS0 2 (by decide) (by decide) (by decide) (by decide)]; exact hN.2
  · rw [hO 0 (by omega), hS0 0 (by decide) (by decide) (by decide) (by decide)]; exact z1
  · rw [hO 0 (by omega), hS0 1 (by decide) (by decide) (by decide) (by decide)]; exact z2
  · rw [hO 0 (by omega), hS0 3 (by decide) (by decide) (by decide) (by decide)]; exact z3
  · rw [hO 0 (by omega), hS0 8 (by decide) (by decide) (by decide) (by decide)]; exact z4
  · rw [hO 0 (by omega), hS0 5 (by decide) (by decide) (by decide) (by decide)]; exact z5
  · rw [hO 0 (by omega), hS0 6 (by decide) (by decide) (by decide) (by decide)]; exact z6
  · rw [hO 0 (by omega)]; exact z7
  · unfold zO
    rw [hO 0 (by omega), hO 2 (by omega)]
    exact hZO
  · rw [o13, o14, o15, o17, o18, p16, s8, s9, s10, s11, s12]
    by_cases q : i = c
    · simp only [if_pos q, and_self]
    · simp only [if_neg q]
      exact q4 i (by omega)
  · rw [o17, p16, if_neg (by omega), if_neg (by omega)]
    exact q5 i (by omega) h2
  · rw [hS0 30 (by decide) (by decide) (by decide) (by decide)]; exact b3
  · rw [hS0 31 (by decide) (by decide) (by decide) (by decide)]; exact b4
  · rw [hSk 16 (by omega)]; exact b5 i hi
  · obtain ⟨w1, w2, w3, w4, w5, w6, w7, w8⟩ := d1 i h1 h2
    rw [hSk 16 (by omega), hSk 13 (by omega), hSk 14 (by omega), o17, o18, if_neg (by omega), if_neg (by omega), hO 1 (by omega)]
    exact ⟨by omega, w2, w3, w4, w5, w6, w7, w8⟩
  · rw [o17] at h2
    rw [o18] at h3
    by_cases q : y = c
    · rw [if_pos q] at h2 h3
      exact absurd h3 (hx h2)
    · rw [if_neg q] at h2 h3
      exact d3 y (by omega) h2 h3
theorem cxw_cg {c : Nat} {M O : kz_M} {w : Bool} (hc : c ≤ 400) (o14 : ∀ j, O.1 14 j = if j = c then kz_ib w else M.1 14 j) {x : Int32} {j : Nat} (hj : j < c) (hx : x = nI j) : cx_w O x = cx_w M x := by
  unfold cx_w
  rw [hx, nI_clamp (n := j) (by omega), o14, if_neg (by omega)]
theorem cxw_new {c : Nat} {M O : kz_M} {w : Bool} (hc : c ≤ 400) (o14 : ∀ j, O.1 14 j = if j = c then kz_ib w else M.1 14 j) : cx_w O (nI c) = w := by
  unfold cx_w
  rw [nI_clamp (n := c) (by omega), o14, if_pos rfl]
  cases w <;> decide
/-- the queue with a new one at its end -/
theorem zL_add {c b : Nat} {M R O S : kz_M} {wq rs ws : List Int32} {a : Int32} {w : Bool} (h : zL c b M R wq rs ws) (hc : c < 400) (hl : wq.length < 16) (ha : vp_in a 256) (o14 : ∀ j, O.1 14 j = if j = c then kz_ib w else M.1 14 j) (o17 : O.1 17 = M.1 17) (hc17 : M.1 17 c = 0) (s8 : ∀ j, S.1 8 j = if j = c then kz_ib w else R.1 8 j) (s9 : ∀ j, S.1 9 j = if j = c then a else R.1 9 j) (s15 : ∀ j, S.1 15 j = if j = wq.length then nI c else R.1 15 j) (s26 : S.1 0 26 = nI (wq.length + 1)) (s27 : S.1 0 27 = if w = true then R.1 0 27 else R.1 0 27 + 1) (s28 : S.1 0 28 = if w = true then R.1 0 28 + 1 else R.1 0 28) : zL (c + 1) b O S (wq ++ [nI c]) (if w = true then rs else rs ++ [nI c]) (if w = true then ws ++ [nI c] else ws) := by
  obtain ⟨⟨r1, r2, r3, r4⟩, l2, l3, l4, l5, l6, l7, l8⟩ := h
  have ew : ∀ x ∈ wq, cx_w O x = cx_w M x := fun x hx => by
    obtain ⟨j, j1, j2, -⟩ := l3 x hx
    exact cxw_cg (by omega) o14 j1 j2
  have en := cxw_new (M := M) (O := O) (c := c) (w := w) (by omega) o14
  have hcl : (nI c).toNatClampNeg = c := nI_clamp (by omega)
  refine ⟨⟨?_, ?_, fun i x hx => ?_, fun x hx => ?_⟩, ?_, fun x hx => ?_, ?_, ?_, ?_, ?_, ?_⟩
  · rw [s26, List.length_append]; rfl
  · rw [List.length_append]; simp; omega
  · rw [s15]
    rw [List.getElem?_append] at hx
    by_cases q : i < wq.length
    · rw [if_pos q] at hx
      rw [if_neg (by omega)]
      exact r3 i x hx
    · rw [if_neg q] at hx
      have : i = wq.length := by
        have := (List.getElem?_eq_some_iff.mp hx).1
        simp at this
        omega
      subst this
      simp at hx
      rw [if_pos rfl, hx]
  · rw [s8, s9]
    rcases List.mem_append.mp hx with z | z
    · obtain ⟨j, j1, rfl, -⟩ := l3 x z
      have := r4 _ z
      rw [nI_clamp (n := j) (by omega)] at this ⊢
      rw [if_neg (by omega), if_neg (by omega)]
      exact this
    · rw [List.mem_singleton.mp z, hcl, if_pos rfl, if_pos rfl]
      exact ⟨vp_in_nI hc (by decide), ha, by cases w <;> decide⟩
  · rw [List.pairwise_append]
    refine ⟨l2, List.pairwise_singleton _ _, fun x hx y hy => ?_⟩
    obtain ⟨j, j1, rfl, -⟩ := l3 x hx
    rw [List.mem_singleton.mp hy]
    exact nI_lt j1 (by omega)
  · rw [o17]
    rcases List.mem_append.mp hx with z | z
    · obtain ⟨j, j1, j2, j3⟩ := l3 x z
      exact ⟨j, by omega, j2, j3⟩
    · exact ⟨c, by omega, List.mem_singleton.mp z, hc17⟩
  · rw [List.filter_append, List.filter_congr (q := fun x => !cx_w M x) (fun x hx => by rw [ew x hx]), ← l4, List.filter_cons, en]
    cases w <;> simp
  · rw [List.filter_append, List.filter_congr (q := cx_w M) (fun x hx => ew x hx), ← l5, List.filter_cons, en]
    cases w <;> simp
  · rw [s27, l6]
    cases w
    · rw [if_neg (by decide), if_neg (by decide), List.length_append, nI_1]; rfl
    · rw [if_pos rfl, if_pos rfl]
  · rw [s28, l7]
    cases w
    · rw [if_neg (by decide), if_neg (by decide)]
    · rw [if_pos rfl, if_pos rfl, List.length_append, nI_1]; rfl
  · rw [List.length_append]; simp; omega
/-- the queue as it was, with one request more that never waits -/
theorem zL_on {c b : Nat} {M R O S : kz_M} {wq rs ws : List Int32} {w : Bool} (h : zL c b M R wq rs ws) (hc : c < 400) (o14 : ∀ j, O.1 14 j = if j = c then kz_ib w else M.1 14 j) (o17 : ∀ j, j ≠ c → O.1 17 j = M.1 17 j) (s8 : ∀ j, j ≠ c → S.1 8 j = R.1 8 j) (s9 : ∀ j, j ≠ c → S.1 9 j = R.1 9 j) (s15 : S.1 15 = R.1 15) (s26 : S.1 0 26 = R.1 0 26) (s27 : S.1 0 27 = R.1 0 27) (s28 : S.1 0 28 = R.1 0 28) : zL (c + 1) b O S wq rs ws := by
  obtain ⟨⟨r1, r2, r3, r4⟩, l2, l3, l4, l5, l6, l7, l8⟩ := h
  have ew : ∀ x ∈ wq, cx_w O x = cx_w M x := fun x hx => by
    obtain ⟨j, j1, j2, -⟩ := l3 x hx
    exact cxw_cg (by omega) o14 j1 j2
  refine ⟨⟨by rw [s26]; exact r1, r2, fun i x hx => by rw [s15]; exact r3 i x hx, fun x hx => ?_⟩, l2, fun x hx => ?_, ?_, ?_, by rw [s27]; exact l6, by rw [s28]; exact l7, by omega⟩
  · obtain ⟨j, j1, rfl, -⟩ := l3 x hx
    have := r4 _ hx
    rw [nI_clamp (n := j) (by omega)] at this ⊢
    rw [s8 j (by omega), s9 j (by omega)]
    exact this
  · obtain ⟨j, j1, j2, j3⟩ := l3 x hx
    exact ⟨j, by omega, j2, by rw [o17 j (by omega)]; exact j3⟩
  · rw [List.filter_congr (q := fun x => !cx_w M x) (fun x hx => by rw [ew x hx]), ← l4]
  · rw [List.filter_congr (q := cx_w M) (fun x hx => ew x hx), ← l5]
