/-! The relation of class and reference: reading and writing. -/
theorem find_cg {p q : Int32 → Bool} : ∀ (xs : List Int32), (∀ x ∈ xs, p x = q x) → xs.find? p = xs.find? q
  | [], _ => rfl
  | x :: xs, h => by
    rw [List.find?_cons, List.find?_cons, h x (List.mem_cons_self), find_cg xs (fun y hy => h y (List.mem_cons_of_mem _ hy))]
theorem find_flt {p q : Int32 → Bool} : ∀ (xs : List Int32), (xs.filter p).find? q = xs.find? (fun x => p x && q x)
  | [] => rfl
  | x :: xs => by
    rw [List.filter_cons, List.find?_cons]
    cases p x
    · simp only [Bool.false_eq_true, if_false, Bool.false_and]; exact find_flt xs
    · simp only [if_true, Bool.true_and, List.find?_cons]
      rw [find_flt xs]
theorem z_last {u c b : Nat} {M R : kz_M} {wq rs ws : List Int32} {a : Int32} (hQ : zQ u c M R) (hL : zL c b M R wq rs ws) : rq_last R wq a = cx_last M ws a ∧ (cx_last M ws a = -1 ∨ ∃ j, j < c ∧ cx_last M ws a = nI j) := by
  have pt := z_pt hQ hL
  have e : rq_last R wq a = cx_last M ws a := by
    unfold rq_last cx_last
    rw [hL.2.2.2.2.1, ← List.filter_reverse, find_flt]
    congr 1
    refine find_cg _ (fun x hx => ?_)
    obtain ⟨p1, p2, -⟩ := pt x (List.mem_reverse.mp hx)
    rw [p1, p2]
  refine ⟨e, ?_⟩
  rw [← e]
  unfold rq_last
  cases hf : wq.reverse.find? (fun t => rq_w R t && decide (rq_a R t = a)) with
  | none => exact Or.inl rfl
  | some x =>
    obtain ⟨j, j1, j2, -⟩ := hL.2.2.1 x (List.mem_reverse.mp (List.mem_of_find?_eq_some hf))
    exact Or.inr ⟨j, j1, j2⟩
theorem tkr_o {R : kz_M} {c : Nat} {w : Bool} {a : Int32} {v : Int64} : (∀ k, k ≠ 0 → k ≠ 8 → k ≠ 9 → k ≠ 10 → k ≠ 11 → (rr_tick R c w a v).1 k = R.1 k) ∧ (∀ j, j ≠ 7 → (rr_tick R c w a v).1 0 j = R.1 0 j) ∧ (rr_tick R c w a v).1 0 7 = R.1 0 7 + 1 ∧ (∀ j, (rr_tick R c w a v).1 8 j = if j = c then kz_ib w else R.1 8 j) ∧ (∀ j, (rr_tick R c w a v).1 9 j = if j = c then a else R.1 9 j) ∧ (∀ j, (rr_tick R c w a v).1 10 j = if j = c then R.1 0 2 else R.1 10 j) ∧ (∀ j, (rr_tick R c w a v).1 11 j = if j = c then 0 else R.1 11 j) ∧ (∀ k, k ≠ 12 → (rr_tick R c w a v).2 k = R.2 k) ∧ (∀ j, (rr_tick R c w a v).2 12 j = if j = c then v else R.2 12 j) := by
  simp only [rr_tick]
  refine ⟨fun k h0 h8 h9 h10 h11 => ?_, fun j hj => ?_, ?_, fun j => ?_, fun j => ?_, fun j => ?_, fun j => ?_, fun k hk => ?_, fun j => ?_⟩
  · rw [kz_u_off _ _ _ _ h0, kz_u_off _ _ _ _ h11, kz_u_off _ _ _ _ h10, kz_u_off _ _ _ _ h9, kz_u_off _ _ _ _ h8]
  · rw [kz_u_ne _ _ _ _ (fun z => hj z.2), kz_u_off _ _ _ _ (by decide), kz_u_off _ _ _ _ (by decide), kz_u_off _ _ _ _ (by decide), kz_u_off _ _ _ _ (by decide)]
  · rw [kz_u_same]
  · rw [kz_u_off _ _ _ _ (by decide), kz_u_off _ _ _ _ (by decide), kz_u_off _ _ _ _ (by decide), kz_u_off _ _ _ _ (by decide), kz_u_row]
  · rw [kz_u_off _ _ _ _ (by decide), kz_u_off _ _ _ _ (by decide), kz_u_off _ _ _ _ (by decide), kz_u_row, kz_u_off _ _ _ _ (by decide)]
  · rw [kz_u_off _ _ _ _ (by decide), kz_u_off _ _ _ _ (by decide), kz_u_row, kz_u_off _ _ _ _ (by decide), kz_u_off _ _ _ _ (by decide)]
  · rw [kz_u_off _ _ _ _ (by decide), kz_u_row, kz_u_off _ _ _ _ (by decide), kz_u_off _ _ _ _ (by decide), kz_u_off _ _ _ _ (by decide)]
  · rw [kz_u_off _ _ _ _ hk]
  · rw [kz_u_row]
theorem add_o {R : kz_M} {n : Nat} {t : Int32} {w : Bool} : (rr_add R n t w).2 = R.2 ∧ (∀ k, k ≠ 0 → k ≠ 15 → (rr_add R n t w).1 k = R.1 k) ∧ (∀ j, j ≠ 26 → j ≠ 27 → j ≠ 28 → (rr_add R n t w).1 0 j = R.1 0 j) ∧ (rr_add R n t w).1 0 26 = nI (n + 1) ∧ (rr_add R n t w).1 0 27 = (if w = true then R.1 0 27 else R.1 0 27 + 1) ∧ (rr_add R n t w).1 0 28 = (if w = true then R.1 0 28 + 1 else R.1 0 28) ∧ ∀ j, (rr_add R n t w).1 15 j = if j = n then t else R.1 15 j := by
  cases w
  · simp only [rr_add, Bool.false_eq_true, if_false]
    refine ⟨trivial, fun k h0 h15 => ?_, fun j h1 h2 h3 => ?_, ?_, ?_, ?_, fun j => ?_⟩
    · rw [kz_u_off _ _ _ _ h0, kz_u_off _ _ _ _ h0, kz_u_off _ _ _ _ h15]
    · rw [kz_u_ne _ _ _ _ (fun z => h2 z.2), kz_u_ne _ _ _ _ (fun z => h1 z.2), kz_u_off _ _ _ _ (by decide)]
    · rw [kz_u_ne _ _ _ _ (by decide), kz_u_same]
    · rw [kz_u_same]
    · rw [kz_u_ne _ _ _ _ (by decide), kz_u_ne _ _ _ _ (by decide), kz_u_off _ _ _ _ (by decide)]
    · rw [kz_u_off _ _ _ _ (by decide), kz_u_off _ _ _ _ (by decide), kz_u_row]
  · simp only [rr_add, if_true]
    refine ⟨trivial, fun k h0 h15 => ?_, fun j h1 h2 h3 => ?_, ?_, ?_, ?_, fun j => ?_⟩
    · rw [kz_u_off _ _ _ _ h0, kz_u_off _ _ _ _ h0, kz_u_off _ _ _ _ h15]
    · rw [kz_u_ne _ _ _ _ (fun z => h3 z.2), kz_u_ne _ _ _ _ (fun z => h1 z.2), kz_u_off _ _ _ _ (by decide)]
    · rw [kz_u_ne _ _ _ _ (by decide), kz_u_same]
    · rw [kz_u_ne _ _ _ _ (by decide), kz_u_ne _ _ _ _ (by decide), kz_u_off _ _ _ _ (by decide)]
    · rw [kz_u_same]
    · rw [kz_u_off _ _ _ _ (by decide), kz_u_off _ _ _ _ (by decide), kz_u_row]
theorem tkm_o {M : kz_M} {c : Nat} {a t : Int32} {w : Bool} (hc : c ≤ 400) (he : M.1 12 6 = nI c) : (∀ k, k ≠ 12 → k ≠ 13 → k ≠ 14 → k ≠ 15 → (cq_take M a w t).1 k = M.1 k) ∧ (cq_take M a w t).1 12 6 = nI (c + 1) ∧ (∀ j, (cq_take M a w t).1 13 j = if j = c then a else M.1 13 j) ∧ (∀ j, (cq_take M a w t).1 14 j = if j = c then kz_ib w else M.1 14 j) ∧ (∀ j, (cq_take M a w t).1 15 j = if j = c then t else M.1 15 j) := by
  simp only [cq_take, he, nI_clamp (n := c) (show c < 2 ^ 31 by omega)]
  refine ⟨fun k h12 h13 h14 h15 => ?_, ?_, fun j => ?_, fun j => ?_, fun j => ?_⟩
  · rw [kz_u_off _ _ _ _ h12, kz_u_off _ _ _ _ h15, kz_u_off _ _ _ _ h14, kz_u_off _ _ _ _ h13]
  · rw [kz_u_same, nI_1]
  · rw [kz_u_off _ _ _ _ (by decide), kz_u_off _ _ _ _ (by decide), kz_u_off _ _ _ _ (by decide), kz_u_row]
  · rw [kz_u_off _ _ _ _ (by decide), kz_u_off _ _ _ _ (by decide), kz_u_row, kz_u_off _ _ _ _ (by decide)]
  · rw [kz_u_off _ _ _ _ (by decide), kz_u_row, kz_u_off _ _ _ _ (by decide), kz_u_off _ _ _ _ (by decide)]
/-- a request that waits -/
theorem z_new {t g c b e : Nat} {M R O : kz_M} {wq rs ws : List Int32} {a : Int32} {w : Bool} {wd : Int64} (h : zZ t t t c g b e M R wq rs ws) (hc : c < 400) (hl : wq.length < 16) (ha : vp_in a 256) (hwd : w = false → wd = 0) (hO : cy_ag O (if w = true then cq_word (cq_take M a w (M.1 0 9)) (M.1 12 6) wd else cq_take M a w (M.1 0 9))) : zZ t t t (c + 1) g b e O (rr_add (rr_tick R c w a wd) wq.length (nI c) w) (wq ++ [nI c]) (if w = true then rs else rs ++ [nI c]) (if w = true then ws ++ [nI c] else ws) := by
  obtain ⟨hX, hB, hJ⟩ := h
  obtain ⟨hN, hZS, hZO, hW, hQ, hP, hL⟩ := id hX
  obtain ⟨r1, r2, r3, r4, r5, r6, r7, r8, r9⟩ := tkr_o (R := R) (c := c) (w := w) (a := a) (v := wd)
  obtain ⟨a1, a2, a3, a4, a5, a6, a7⟩ := add_o (R := rr_tick R c w a wd) (n := wq.length) (t := nI c) (w := w)
  obtain ⟨m1, m2, m3, m4, m5⟩ := tkm_o (M := M) (c := c) (a := a) (t := M.1 0 9) (w := w) (by omega) hQ.1
  have hcl : (M.1 12 6).toNatClampNeg = c := by rw [hQ.1]; exact nI_clamp (by omega)
  have e1 : ∀ k, k < 19 ∨ 25 ≤ k → O.1 k = (cq_take M a w (M.1 0 9)).1 k := fun k hk => by
    rw [hO.2 k hk]
    split <;> rfl
  have e16 : ∀ j, O.2 16 j = if j = c then wd else M.2 16 j := fun j => by
    rw [hO.1]
    cases w
    · rw [if_neg (by decide)]
      show M.2 16 j = _
      split
      · rename_i q; rw [q, hwd rfl]; exact (hQ.2.2.2.2 c (by omega) hc).2
      · rfl
    · rw [if_pos rfl]
      simp only [cq_word, hcl]
      rw [kz_u_row]
      rfl
  have e10 : O.2 10 = M.2 10 := by
    rw [hO.1]
    cases w
    · rfl
    · rw [if_pos rfl]
      simp only [cq_word]
      rw [kz_u_off _ _ _ _ (by decide)]
      rfl
  have ok : ∀ k, (k < 12 ∨ 16 ≤ k) → (k < 19 ∨ 25 ≤ k) → O.1 k = M.1 k := fun k h1 h2 => by
    rw [e1 k h2, m1 k (by omega) (by omega) (by omega) (by omega)]
  have o13 : ∀ j, O.1 13 j = if j = c then a else M.1 13 j := fun j => by rw [e1 13 (by decide)]; exact m3 j
  have o14 : ∀ j, O.1 14 j = if j = c then kz_ib w else M.1 14 j := fun j => by rw [e1 14 (by decide)]; exact m4 j
  have o15 : ∀ j, O.1 15 j = if j = c then nI t else M.1 15 j := fun j => by rw [e1 15 (by decide), m5, hN.1]
  have c17 := (hQ.2.2.2.2 c (by omega) hc).1
  have sk : ∀ k, k ≠ 0 → k ≠ 15 → k ≠ 8 → k ≠ 9 → k ≠ 10 → k ≠ 11 → (rr_add (rr_tick R c w a wd) wq.length (nI c) w).1 k = R.1 k := fun k h0 h15 h8 h9 h10 h11 => by
    rw [a2 k h0 h15, r1 k h0 h8 h9 h10 h11]
  have s0 : ∀ j, j ≠ 7 → j ≠ 26 → j ≠ 27 → j ≠ 28 → (rr_add (rr_tick R c w a wd) wq.length (nI c) w).1 0 j = R.1 0 j := fun j h7 h26 h27 h28 => by
    rw [a3 j h26 h27 h28, r2 j h7]
  have s8 : ∀ j, (rr_add (rr_tick R c w a wd) wq.length (nI c) w).1 8 j = if j = c then kz_ib w else R.1 8 j := fun j => by rw [a2 8 (by decide) (by decide)]; exact r4 j
  have s9 : ∀ j, (rr_add (rr_tick R c w a wd) wq.length (nI c) w).1 9 j = if j = c then a else R.1 9 j := fun j => by rw [a2 9 (by decide) (by decide)]; exact r5 j
  refine ⟨z_take (a := a) (w := w) (wd := wd) (x17 := 0) (x18 := M.1 18 c) hX hc (fun k hk => ok k (by omega) (by omega)) (by rw [e1 12 (by decide)]; exact m2) o13 o14 o15 (fun j => ?_) (fun j => ?_) e10 e16 s0 (by rw [a3 7 (by decide) (by decide) (by decide), r3, hQ.2.1, nI_1]) (fun k hk => sk k (by omega) (by omega) (by omega) (by omega) (by omega) (by omega)) s8 s9 (fun j => by rw [a2 10 (by decide) (by decide), r6, hN.2]) (fun j => ?_) (by rw [a1, r8 2 (by decide)]) (fun j => by rw [a1, r9]) (fun z => absurd rfl z) (zL_add hL hc hl ha o14 (ok 17 (by decide) (by decide)) c17 s8 s9 (fun j => by rw [a7, r1 15 (by decide) (by decide) (by decide) (by decide) (by decide)]) a4 (by rw [a5, r2 27 (by decide)]) (by rw [a6, r2 28 (by decide)])), sB_fr hB (fun k h1 h2 => ok k (by omega) (by omega)) (sk 1 (by decide) (by decide) (by decide) (by decide) (by decide) (by decide)) (fun k h1 h2 => sk k (by omega) (by omega) (by omega) (by omega) (by omega) (by omega)) (s0 16 (by decide) (by decide) (by decide) (by decide)) (s0 17 (by decide) (by decide) (by decide) (by decide)), zJ_fr hJ (fun k h1 => ok k (by omega) (by omega)) (fun k h1 h2 => sk k (by omega) (by omega) (by omega) (by omega) (by omega) (by omega)) (s0 4 (by decide) (by decide) (by decide) (by decide))⟩
  · rw [ok 17 (by decide) (by decide)]
    split
    · rename_i q; rw [q, c17]
    · rfl
  · rw [ok 18 (by decide) (by decide)]
    split
    · rename_i q; rw [q]
    · rfl
  · rw [a2 11 (by decide) (by decide), r7]
    rfl
/-- a reading that a waiting writing answers -/
theorem z_fwd {t g c b e : Nat} {M R : kz_M} {wq rs ws : List Int32} {a : Int32} {wd : Int64} (h : zZ t t t c g b e M R wq rs ws) (hc : c < 400) (ht : t ≤ 200000) : zZ t t t (c + 1) g b e (cq_fin (cq_take M a false (M.1 0 9)) (M.1 12 6) wd 2 (-1)) (kz_u (rr_tick R c false a wd).1 11 c 2, (rr_tick R c false a wd).2) wq rs ws := by
  obtain ⟨hX, hB, hJ⟩ := h
  obtain ⟨hN, hZS, hZO, hW, hQ, hP, hL⟩ := id hX
  obtain ⟨r1, r2, r3, r4, r5, r6, r7, r8, r9⟩ := tkr_o (R := R) (c := c) (w := false) (a := a) (v := wd)
  obtain ⟨m1, m2, m3, m4, m5⟩ := tkm_o (M := M) (c := c) (a := a) (t := M.1 0 9) (w := false) (by omega) hQ.1
  have hcl : (M.1 12 6).toNatClampNeg = c := by rw [hQ.1]; exact nI_clamp (by omega)
  have f1 : ∀ k, k ≠ 17 → k ≠ 18 → (cq_fin (cq_take M a false (M.1 0 9)) (M.1 12 6) wd 2 (-1)).1 k = (cq_take M a false (M.1 0 9)).1 k := fun k h1 h2 => by
    simp only [cq_fin]
    rw [kz_u_off _ _ _ _ h2, kz_u_off _ _ _ _ h1]
  have ok : ∀ k, k ≠ 12 → k ≠ 13 → k ≠ 14 → k ≠ 15 → k ≠ 17 → k ≠ 18 → (cq_fin (cq_take M a false (M.1 0 9)) (M.1 12 6) wd 2 (-1)).1 k = M.1 k := fun k h1 h2 h3 h4 h5 h6 => by
    rw [f1 k h5 h6, m1 k h1 h2 h3 h4]
  have o14 : ∀ j, (cq_fin (cq_take M a false (M.1 0 9)) (M.1 12 6) wd 2 (-1)).1 14 j = if j = c then kz_ib false else M.1 14 j := fun j => by rw [f1 14 (by decide) (by decide)]; exact m4 j
  have o17 : ∀ j, (cq_fin (cq_take M a false (M.1 0 9)) (M.1 12 6) wd 2 (-1)).1 17 j = if j = c then 2 else M.1 17 j := fun j => by
    simp only [cq_fin, hcl]
    rw [kz_u_off _ _ _ _ (by decide), kz_u_row, m1 17 (by decide) (by decide) (by decide) (by decide)]
  have o18 : ∀ j, (cq_fin (cq_take M a false (M.1 0 9)) (M.1 12 6) wd 2 (-1)).1 18 j = if j = c then -1 else M.1 18 j := fun j => by
    simp only [cq_fin, hcl]
    rw [kz_u_row, kz_u_off _ _ _ _ (by decide), m1 18 (by decide) (by decide) (by decide) (by decide)]
  have sk : ∀ k, k ≠ 11 → (kz_u (rr_tick R c false a wd).1 11 c 2) k = (rr_tick R c false a wd).1 k := fun k h => kz_u_off _ _ _ _ h
  have hneg : ¬ nI t ≤ -1 := by
    rw [Int32.le_iff_toInt_le, nI_toInt (n := t) (by omega), show (-1 : Int32).toInt = -1 by decide]
    omega
  have so : ∀ k, k ≠ 0 → k ≠ 8 → k ≠ 9 → k ≠ 10 → k ≠ 11 → (kz_u (rr_tick R c false a wd).1 11 c 2) k = R.1 k := fun k h0 h8 h9 h10 h11 => by
    rw [sk k h11, r1 k h0 h8 h9 h10 h11]
  have s0 : ∀ j, j ≠ 7 → (kz_u (rr_tick R c false a wd).1 11 c 2) 0 j = R.1 0 j := fun j h7 => by rw [sk 0 (by decide), r2 j h7]
  have s8 : ∀ j, (kz_u (rr_tick R c false a wd).1 11 c 2) 8 j = if j = c then kz_ib false else R.1 8 j := fun j => by rw [sk 8 (by decide)]; exact r4 j
  have s9 : ∀ j, (kz_u (rr_tick R c false a wd).1 11 c 2) 9 j = if j = c then a else R.1 9 j := fun j => by rw [sk 9 (by decide)]; exact r5 j
  refine ⟨z_take (a := a) (w := false) (wd := wd) (x17 := 2) (x18 := -1) hX hc (fun k hk => ok k (by omega) (by omega) (by omega) (by omega) (by omega) (by omega)) (by rw [f1 12 (by decide) (by decide)]; exact m2) (fun j => by rw [f1 13 (by decide) (by decide)]; exact m3 j) o14 (fun j => by rw [f1 15 (by decide) (by decide), m5, hN.1]) o17 o18 ?_ (fun j => ?_) (fun j h7 _ _ _ => s0 j h7) ?_ (fun k hk => so k (by omega) (by omega) (by omega) (by omega) (by omega)) s8 s9 (fun j => ?_) (fun j => ?_) (r8 2 (by decide)) r9 (fun _ => hneg) (zL_on (w := false) hL hc o14 (fun j hj => by rw [o17, if_neg hj]) (fun j hj => (s8 j).trans (if_neg hj)) (fun j hj => (s9 j).trans (if_neg hj)) (so 15 (by decide) (by decide) (by decide) (by decide) (by decide)) (s0 26 (by decide)) (s0 27 (by decide)) (s0 28 (by decide))), sB_fr hB (fun k h1 h2 => ok k (by omega) (by omega) (by omega) (by omega) (by omega) (by omega)) (so 1 (by decide) (by decide) (by decide) (by decide) (by decide)) (fun k h1 h2 => so k (by omega) (by omega) (by omega) (by omega) (by omega)) (s0 16 (by decide)) (s0 17 (by decide)), zJ_fr hJ (fun k h1 => ok k (by omega) (by omega) (by omega) (by omega) (by omega) (by omega)) (fun k h1 h2 => so k (by omega) (by omega) (by omega) (by omega) (by omega)) (s0 4 (by decide))⟩
  · simp only [cq_fin]
    rw [kz_u_off _ _ _ _ (by decide)]
    rfl
  · simp only [cq_fin, hcl]
    rw [kz_u_row]
    rfl
  · exact (congrFun (sk 0 (by decide)) 7).trans (by rw [r3, hQ.2.1, nI_1])
  · exact (congrFun (sk 10 (by decide)) j).trans (by rw [r6, hN.2])
  · simp only []
    rw [kz_u_row]
    simp only [r7]
    by_cases q : j = c
    · rw [if_pos q, if_pos q, zg, if_neg (by decide), if_neg hneg]
    · rw [if_neg q, if_neg q, if_neg q]
