/-! The relation of class and reference: what is chosen. -/
theorem ck_row_in {a : Int32} (h : vp_in a 256) : ∃ r, r < 8 ∧ ck_row a = nI r := by
  obtain ⟨j, hj, rfl⟩ := vp_in_of h (by decide)
  have : ∀ j, j < 256 → ck_row (nI j) = nI (j / 32) := by decide +kernel
  exact ⟨j / 32, by omega, this j hj⟩
theorem gd_mem {wq : List Int32} {k : Nat} (h : k < wq.length) : wq.getD k 0 ∈ wq := by
  rw [List.getD_eq_getElem?_getD, List.getElem?_eq_getElem h]
  exact List.getElem_mem _
theorem gd_at {wq : List Int32} {k : Nat} {t : Int32} (h : wq[k]? = some t) : wq.getD k 0 = t := by
  rw [List.getD_eq_getElem?_getD, h]; rfl
theorem z_may {t u c b e : Nat} {M R : kz_M} {wq rs ws : List Int32} (h : zX t u c b e M R wq rs ws) (hB : sB t M R) (ht : t ≤ 200000) (f : Nat → Bool) : (selI f 0 wq).find? (cx_may M) = (rq_fst (rq_qk R wq f) wq.length 0).map (fun k => wq.getD k 0) := by
  obtain ⟨⟨hm, hn⟩, -, -, -, hQ, -, hL⟩ := h
  rw [sel_fst f (cx_may M) wq 0 rfl, rq_fst_cg (f := fun k => f k && cx_may M (wq.getD k 0)) (g := rq_qk R wq f)]
  intro k _ hk
  obtain ⟨p1, p2, p3, p4, p5⟩ := z_pt hQ hL _ (gd_mem (wq := wq) (k := k) (by omega))
  obtain ⟨b', hb, eb⟩ := vp_in_of (ck_bank_in p5) (by decide)
  unfold rq_qk cx_may
  rw [p1, p2, hm, eb, sB_tr _ hB.1 hB.2.2.1 hB.2.2.2.1 hB.2.2.2.2 (hB.2.1 b' hb) hb hn ht, nI_clamp (n := b') (by omega)]
theorem z_want {t u c b e k : Nat} {M R : kz_M} {wq rs ws : List Int32} (h : zX t u c b e M R wq rs ws) (hB : sB t M R) (hk : k < 4) (f : Nat → Bool) : cx_want M (selI f 0 wq) (nI k) = rq_an (rq_wt R wq f (nI k)) wq.length 0 := by
  obtain ⟨-, -, -, -, hQ, -, hL⟩ := h
  unfold cx_want
  rw [sel_any f _ wq 0 rfl]
  refine rq_an_cg _ _ (fun i _ hi => ?_)
  obtain ⟨p1, p2, p3, p4, p5⟩ := z_pt hQ hL _ (gd_mem (wq := wq) (k := i) (by omega))
  unfold rq_wt
  rw [p2, nI_clamp (n := k) (by omega), (hB.2.1 k hk).1]
theorem go_b : ∀ o A P W E : Bool, (A = true → o = true) → (P = true → o = false) → (E = true → W = true) → ((o && A) || (!o && (!E && (!W && P)))) = (A || (P && !W)) := by decide
theorem z_go {t u c b e : Nat} {M R : kz_M} {wq rs ws : List Int32} (h : zX t u c b e M R wq rs ws) (hB : sB t M R) (ht : t ≤ 200000) (f : Nat → Bool) : (selI f 0 wq).find? (cx_go M (selI f 0 wq)) = (rq_fst (fun i => rv_op R wq f i || rv_cl R wq f i) wq.length 0).map (fun k => wq.getD k 0) := by
  have hw := fun (k : Nat) (hk : k < 4) => z_want h hB hk f
  obtain ⟨⟨hm, hn⟩, -, -, -, hQ, -, hL⟩ := h
  rw [sel_fst f (cx_go M (selI f 0 wq)) wq 0 rfl, rq_fst_cg (f := fun k => f k && cx_go M (selI f 0 wq) (wq.getD k 0)) (g := fun i => rv_op R wq f i || rv_cl R wq f i)]
  intro k _ hk
  obtain ⟨p1, p2, p3, p4, p5⟩ := z_pt hQ hL _ (gd_mem (wq := wq) (k := k) (by omega))
  obtain ⟨b', hb, eb⟩ := vp_in_of (ck_bank_in p5) (by decide)
  have hcl : (nI b').toNatClampNeg = b' := nI_clamp (by omega)
  unfold rv_op rv_cl rv_b cx_go
  rw [p2, hm, eb, hcl, sB_act hB.1 hB.2.2.1 (hB.2.1 b' hb) hb hn ht, sB_pre hB.1 (hB.2.1 b' hb) hb hn ht, hw b' hb]
  cases hf : f k
  · rfl
  · simp only [Bool.true_and]
    refine (go_b _ _ _ _ _ (fun z => ?_) (fun z => ?_) (fun z => ?_)).symm
    · unfold rr_mayAct at z
      rw [Bool.and_eq_true] at z
      exact z.1
    · unfold rr_mayPre at z
      rw [Bool.and_eq_true, Bool.not_eq_true'] at z
      exact z.1
    · refine rq_an_of _ 0 k (by omega) (by omega) ?_
      unfold rq_wt
      rw [hf, p2, eb, hcl]
      rw [decide_eq_true_eq] at z
      rw [z]
      simp
theorem z_do {t u c b e g : Nat} {M R : kz_M} {wq rs ws : List Int32} (h : zX t u c b e M R wq rs ws) (hB : sB t M R) (hJ : zJ g M R) (hg : g ≤ 200000) (ht : t ≤ 200000) (f : Nat → Bool) : ∃ g', g' ≤ g + 1 ∧ zX t u c b e (cx_do M (g % 32) ((selI f 0 wq).find? (cx_go M (selI f 0 wq)))) (rv_do R wq f g (rq_fst (fun i => rv_op R wq f i || rv_cl R wq f i) wq.length 0)) wq rs ws ∧ sB (t + 1) (cx_do M (g % 32) ((selI f 0 wq).find? (cx_go M (selI f 0 wq)))) (rv_do R wq f g (rq_fst (fun i => rv_op R wq f i || rv_cl R wq f i) wq.length 0)) ∧ zJ g' (cx_do M (g % 32) ((selI f 0 wq).find? (cx_go M (selI f 0 wq)))) (rv_do R wq f g (rq_fst (fun i => rv_op R wq f i || rv_cl R wq f i) wq.length 0)) := by
  rw [z_go h hB ht f]
  cases hk : rq_fst (fun i => rv_op R wq f i || rv_cl R wq f i) wq.length 0 with
  | none => exact ⟨g, by omega, h, sB_up hB, hJ⟩
  | some k =>
    have hk2 := rq_fst_lt _ _ _ hk
    have hk3 := rq_fst_t _ _ _ hk
    have hf : f k = true := by
      unfold rv_op rv_cl at hk3
      cases hf : f k
      · rw [hf] at hk3; exact absurd hk3 (by simp)
      · rfl
    obtain ⟨⟨hm, hn⟩, -, -, -, hQ, -, hL⟩ := id h
    obtain ⟨p1, p2, p3, p4, p5⟩ := z_pt hQ hL _ (gd_mem (wq := wq) (k := k) (by omega))
    obtain ⟨b', hb, eb⟩ := vp_in_of (ck_bank_in p5) (by decide)
    obtain ⟨r, hr, er⟩ := ck_row_in p5
    have hcl : (nI b').toNatClampNeg = b' := nI_clamp (by omega)
    have e1 : rv_op R wq f k = cb_mayAct M (nI b') (nI t) := by
      unfold rv_op rv_b
      rw [p2, eb, hcl, hf, sB_act hB.1 hB.2.2.1 (hB.2.1 b' hb) hb hn ht]
      unfold rr_mayAct
      cases decide (R.1 4 b' = -1) <;> rfl
    simp only [Option.map_some, cx_do, rv_do, e1]
    rw [show rv_b R wq k = nI b' by unfold rv_b; rw [p2, eb], p2, eb, er, hm]
    split
    · obtain ⟨a1, a2, a3⟩ := z_act (k := b') (r := r) h hB hJ hg hb hr
      exact ⟨g + 1, by omega, a1, a2, a3⟩
    · obtain ⟨a1, a2, a3⟩ := z_pre (k := b') h hB hJ hg hb
      exact ⟨g + 1, by omega, a1, a2, a3⟩
