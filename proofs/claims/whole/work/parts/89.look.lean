/-! The relation of class and reference: what is looked at. -/
theorem z_pt {u c b : Nat} {M R : kz_M} {wq rs ws : List Int32} (hQ : zQ u c M R) (hL : zL c b M R wq rs ws) : ∀ x ∈ wq, rq_w R x = cx_w M x ∧ rq_a R x = cx_adr M x ∧ R.1 8 x.toNatClampNeg = kz_ib (cx_w M x) ∧ R.1 10 x.toNatClampNeg = M.1 15 x.toNatClampNeg ∧ vp_in (cx_adr M x) 256 := fun x hx => by
  obtain ⟨hq, -, hm, -⟩ := hL
  obtain ⟨j, j1, rfl, -⟩ := hm x hx
  obtain ⟨-, v2, v3⟩ := hq.2.2.2 _ hx
  have c4 := hQ.2.2.1
  have hcl : (nI j).toNatClampNeg = j := nI_clamp (by omega)
  obtain ⟨w1, w2, w3, -, -⟩ := hQ.2.2.2.1 j j1
  rw [hcl] at v2 v3
  unfold rq_w rq_a cx_w cx_adr
  rw [hcl, w2, ← w1, ← w3]
  rw [← w1] at v2
  refine ⟨?_, rfl, ?_, rfl, v2⟩
  · rcases v3 with z | z <;> rw [z] <;> decide
  · rcases v3 with z | z <;> rw [z] <;> decide
theorem sel_r {u c b : Nat} {M R : kz_M} {wq rs ws : List Int32} (hQ : zQ u c M R) (hL : zL c b M R wq rs ws) : ∀ (xs : List Int32) (i : Nat), wq.drop i = xs → selI (rq_f R wq false) i xs = xs.filter (fun x => !cx_w M x)
  | [], _, _ => rfl
  | x :: xs, i, h => by
    obtain ⟨h1, -, h3⟩ := dr_hd h
    have ih := sel_r hQ hL xs (i + 1) h3
    obtain ⟨-, -, p3, -⟩ := z_pt hQ hL x (List.mem_of_getElem? h1)
    rw [selI, rq_f_at h1, p3, List.filter_cons, ih]
    cases cx_w M x <;> rfl
theorem any_no {p : Int32 → Bool} : ∀ (xs : List Int32), (∀ x ∈ xs, p x = false) → xs.any p = false := fun xs h => by
  rw [List.any_eq_false]
  intro x hx
  rw [h x hx]
  decide
theorem any_cg {p q : Int32 → Bool} : ∀ (xs : List Int32), (∀ x ∈ xs, p x = q x) → xs.any p = xs.any q
  | [], _ => rfl
  | x :: xs, h => by
    rw [List.any_cons, List.any_cons, h x (List.mem_cons_self), any_cg xs (fun y hy => h y (List.mem_cons_of_mem _ hy))]
theorem held_eq {u c b : Nat} {M R : kz_M} {wq rs ws xs : List Int32} {x : Int32} {i : Nat} (hQ : zQ u c M R) (hL : zL c b M R wq rs ws) (h : wq.drop i = x :: xs) : rq_held R (wq.take i) (rq_a R x) = cx_held M rs x := by
  obtain ⟨h1, -, -⟩ := dr_hd h
  have hx := List.mem_of_getElem? h1
  have pt := z_pt hQ hL
  have hs := hL.2.1
  rw [← List.take_append_drop i wq, h, List.pairwise_append] at hs
  obtain ⟨-, s2, s3⟩ := hs
  rw [List.pairwise_cons] at s2
  unfold cx_held rq_held
  rw [hL.2.2.2.1, List.any_filter, (pt x hx).2.1]
  conv => rhs; rw [← List.take_append_drop i wq, h, List.any_append, List.any_cons]
  rw [show (decide (x ≤ x)) = true from decide_eq_true (Int32.le_refl _), any_no xs (fun y hy => by
    rw [show (decide (x ≤ y)) = true from decide_eq_true (Int32.le_of_lt (s2.1 y hy))]
    simp)]
  simp only [Bool.not_true, Bool.false_and, Bool.and_false, Bool.or_false]
  refine any_cg _ (fun y hy => ?_)
  obtain ⟨p1, p2, -⟩ := pt y (List.mem_of_mem_take hy)
  rw [p1, p2, show (decide (x ≤ y)) = false from decide_eq_false (Int32.not_le.mpr (s3 y hy x (List.mem_cons_self)))]
  simp
theorem sel_w {u c b : Nat} {M R : kz_M} {wq rs ws : List Int32} (hQ : zQ u c M R) (hL : zL c b M R wq rs ws) : ∀ (xs : List Int32) (i : Nat), wq.drop i = xs → selI (rq_f R wq true) i xs = (xs.filter (cx_w M)).filter (fun w => !cx_held M rs w)
  | [], _, _ => rfl
  | x :: xs, i, h => by
    obtain ⟨h1, -, h3⟩ := dr_hd h
    have ih := sel_w hQ hL xs (i + 1) h3
    obtain ⟨-, -, p3, -⟩ := z_pt hQ hL x (List.mem_of_getElem? h1)
    rw [selI, rq_f_at h1, p3, held_eq hQ hL h, List.filter_cons, ih]
    cases cx_w M x
    · rfl
    · simp only [Bool.not_true, Bool.false_or, decide_true, Bool.true_and, if_true, List.filter_cons]
theorem z_pick {u c b : Nat} {M R : kz_M} {wq rs ws : List Int32} {d : Bool} (hQ : zQ u c M R) (hL : zL c b M R wq rs ws) (hd : M.1 0 12 = kz_ib d) : selI (rv_fl R wq d) 0 wq = cx_pick M rs ws := by
  have er : selI (rq_f R wq false) 0 wq = rs := by rw [sel_r hQ hL wq 0 rfl]; exact hL.2.2.2.1.symm
  have ew : selI (rq_f R wq true) 0 wq = cx_free M rs ws := by rw [sel_w hQ hL wq 0 rfl]; unfold cx_free; rw [← hL.2.2.2.2.1]
  have h16 := hL.1.2.1
  have e0 : ∀ f, rq_n f wq.length 0 0 = 0 ↔ selI f 0 wq = [] := fun f => by
    have l1 := sel_len f wq 0
    rw [show rq_n f wq.length 0 0 = nI (0 + (selI f 0 wq).length) from sel_n f wq 0 0, show (0 : Int32) = nI 0 from rfl, nI_eq (by omega) (by omega), Nat.zero_add]
    exact List.length_eq_zero_iff
  unfold rv_fl cx_pick
  cases d
  · rw [hd, if_pos (show kz_ib false = 0 from rfl)]
    by_cases q : rs = []
    · rw [if_pos ((e0 _).mpr (er.trans q)), if_pos q]; exact ew
    · rw [if_neg (fun z => q (er.symm.trans ((e0 _).mp z))), if_neg q]; exact er
  · rw [hd, if_neg (show ¬ kz_ib true = 0 by decide)]
    by_cases q : cx_free M rs ws = []
    · rw [if_pos ((e0 _).mpr (ew.trans q)), if_pos q]; exact er
    · rw [if_neg (fun z => q (ew.symm.trans ((e0 _).mp z))), if_neg q]; exact ew
theorem z_cap {t u c b : Nat} {M R : kz_M} {wq rs ws : List Int32} (f : Nat → Bool) (hN : zN t M R) (hS : zS M R) (hQ : zQ u c M R) (hL : zL c b M R wq rs ws) : selI (rq_cap R wq f) 0 wq = cx_cap M (selI f 0 wq) := by
  have h := sel_cut (wq := wq) f wq 0 rfl
  unfold rq_cap
  cases hk : rq_fst f wq.length 0 with
  | none =>
    rw [hk] at h
    simp only []
    rw [h]
    rfl
  | some k =>
    rw [hk] at h
    obtain ⟨r, r1, r2⟩ := h
    have hk2 := rq_fst_lt _ _ _ hk
    have hm : wq.getD k 0 ∈ wq := by
      rw [List.getD_eq_getElem?_getD, List.getElem?_eq_getElem (show k < wq.length by omega)]
      exact List.getElem_mem _
    obtain ⟨-, -, -, p4, -⟩ := z_pt hQ hL _ hm
    simp only [r1, cx_cap]
    unfold rq_capd
    rw [p4, ← hS.2.1, hN.2, hN.1]
    by_cases q : nI t - M.1 15 (wq.getD k 0).toNatClampNeg ≤ M.1 0 1
    · rw [if_neg (by rw [decide_eq_true_eq]; exact Int32.not_lt.mpr q), if_pos q]; exact r1
    · rw [if_pos (by rw [decide_eq_true_eq]; exact Int32.not_le.mp q), if_neg q]; exact r2
/-- what is looked at -/
theorem z_look {t u c b e : Nat} {M R : kz_M} {wq rs ws : List Int32} {d : Bool} (h : zX t u c b e M R wq rs ws) (hd : M.1 0 12 = kz_ib d) : selI (rq_cap R wq (rv_fl R wq d)) 0 wq = cx_look M rs ws := by
  obtain ⟨hN, hS, -, -, hQ, -, hL⟩ := h
  rw [z_cap _ hN hS hQ hL, z_pick hQ hL hd, cx_look_eq]
