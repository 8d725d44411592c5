/-! A cycle's steps don't look at the lines. -/
theorem cg_u {M N : kz_M} (h : cy_ag N M) (k j : Nat) (x : Int32) : cy_ag (kz_u N.1 k j x, N.2) (kz_u M.1 k j x, M.2) :=
  ⟨h.1, fun a ha => by
    show kz_u N.1 k j x a = kz_u M.1 k j x a
    funext b
    unfold kz_u
    rw [h.2 a ha]⟩
theorem cg_tr {M N : kz_M} (h : cy_ag N M) (b : Int32) (w : Bool) (t : Int32) : cy_ag (cb_tr N b w t) (cb_tr M b w t) := by
  have e : cb_beg N w t = cb_beg M w t := by unfold cb_beg; rw [h.2 2 (by decide)]
  cases w
  · unfold cb_tr
    rw [e, if_neg (by decide), if_neg (by decide)]
    exact cg_u (cg_u (cg_u (cg_u h 1 7 t) 1 10 (cb_beg M false t)) 1 11 (kz_ib false)) 6 b.toNatClampNeg t
  · unfold cb_tr
    rw [e, if_pos rfl, if_pos rfl]
    exact cg_u (cg_u (cg_u (cg_u (cg_u h 1 7 t) 1 10 (cb_beg M true t)) 1 11 (kz_ib true)) 7 b.toNatClampNeg t) 1 8 t
theorem cg_ent {M N : kz_M} (h : cy_ag N M) (r : Nat) (w b d c t : Int32) : cy_ag (cj_ent N r w b d c t) (cj_ent M r w b d c t) := by
  have e : N.1 25 = M.1 25 := h.2 25 (by decide)
  unfold cj_ent
  rw [e]
  exact cg_u (cg_u (cg_u (cg_u (cg_u (cg_u (cg_u (cg_u h r 0 w) r 1 b) r 2 d) r 3 c) r 4 t) 25 1 _) 25 2 _) 25 3 _
theorem cg_put {M N : kz_M} (h : cy_ag N M) (a : Nat) (x : bt_T) : cy_ag (cw_put N a x) (cw_put M a x) :=
  ⟨by show kz_u N.2 10 a x.1 = kz_u M.2 10 a x.1; rw [h.1], (cg_u h 11 a x.2).2⟩
theorem cg_fin {M N : kz_M} (h : cy_ag N M) (t : Int32) (w : Int64) (st e : Int32) : cy_ag (cq_fin N t w st e) (cq_fin M t w st e) :=
  ⟨by show kz_u N.2 16 _ w = kz_u M.2 16 _ w; rw [h.1], (cg_u (cg_u h 17 t.toNatClampNeg st) 18 t.toNatClampNeg e).2⟩
theorem cg_pre {M N : kz_M} (h : cy_ag N M) (n : Nat) (b : Int32) : cy_ag (co_pre N n b) (co_pre M n b) := by
  have e : N.1 0 = M.1 0 := h.2 0 (by decide)
  unfold co_pre
  rw [e]
  exact cg_ent (cg_u (cg_u h 3 b.toNatClampNeg (-1)) 5 b.toNatClampNeg (M.1 0 9)) _ _ _ _ _ _
theorem cg_act {M N : kz_M} (h : cy_ag N M) (n : Nat) (b r : Int32) : cy_ag (co_act N n b r) (co_act M n b r) := by
  have e : N.1 0 = M.1 0 := h.2 0 (by decide)
  have e8 : N.1 8 = M.1 8 := h.2 8 (by decide)
  unfold co_act
  rw [e]
  have h2 : cy_ag (cb_act N b r (M.1 0 9)) (cb_act M b r (M.1 0 9)) := by
    refine ⟨h.1, fun k hk => ?_⟩
    have h3 := (cg_u (cg_u h 3 b.toNatClampNeg r) 4 b.toNatClampNeg (M.1 0 9)).2 k hk
    funext j
    simp only [cb_act, e8]
    simp only at h3
    rw [h3]
  exact cg_ent h2 _ _ _ _ _ _
theorem cg_ct0 {M N : kz_M} (h : cy_ag N M) (n : Nat) (w : Bool) (t a : Int32) : cy_ag (ct_0 N n w t a) (ct_0 M n w t a) := by
  have e : N.1 0 = M.1 0 := h.2 0 (by decide)
  unfold ct_0
  rw [e]
  exact cg_ent (cg_tr h _ _ _) _ _ _ _ _ _
theorem cg_ctw {M N : kz_M} (h : cy_ag N M) (n : Nat) (t a : Int32) : cy_ag (ct_w N n t a) (ct_w M n t a) := by
  have e : N.1 0 = M.1 0 := h.2 0 (by decide)
  unfold ct_w
  rw [e, h.1]
  exact cg_fin (cg_put (cg_ct0 h _ _ _ _) _ _) _ _ _ _
theorem cg_ctr {M N : kz_M} (h : cy_ag N M) (n : Nat) (t a : Int32) : cy_ag (ct_r N n t a) (ct_r M n t a) := by
  have e : N.1 0 = M.1 0 := h.2 0 (by decide)
  have e2 : cb_beg N false (M.1 0 9) = cb_beg M false (M.1 0 9) := by unfold cb_beg; rw [h.2 2 (by decide)]
  have e3 : cw_get N a.toNatClampNeg = cw_get M a.toNatClampNeg := by unfold cw_get; rw [h.1, h.2 11 (by decide)]
  unfold ct_r
  rw [e, e2, e3]
  exact cg_fin (cg_ct0 h _ _ _ _) _ _ _ _
theorem cg_adr {M N : kz_M} (h : cy_ag N M) (t : Int32) : cx_adr N t = cx_adr M t := by unfold cx_adr; rw [h.2 13 (by decide)]
theorem cg_w {M N : kz_M} (h : cy_ag N M) (t : Int32) : cx_w N t = cx_w M t := by unfold cx_w; rw [h.2 14 (by decide)]
theorem cg_may {M N : kz_M} (h : cy_ag N M) (t : Int32) : cx_may N t = cx_may M t := by
  unfold cx_may
  rw [cg_adr h, cg_w h]
  unfold cb_mayTr cb_beg cb_bus
  rw [h.2 0 (by decide), h.2 1 (by decide), h.2 2 (by decide), h.2 3 (by decide), h.2 4 (by decide)]
theorem cg_mact {M N : kz_M} (h : cy_ag N M) (b t : Int32) : cb_mayAct N b t = cb_mayAct M b t := by
  unfold cb_mayAct
  rw [h.2 1 (by decide), h.2 2 (by decide), h.2 3 (by decide), h.2 4 (by decide), h.2 5 (by decide), h.2 8 (by decide)]
theorem cg_mpre {M N : kz_M} (h : cy_ag N M) (b t : Int32) : cb_mayPre N b t = cb_mayPre M b t := by
  unfold cb_mayPre
  rw [h.2 2 (by decide), h.2 3 (by decide), h.2 4 (by decide), h.2 6 (by decide), h.2 7 (by decide)]
theorem cg_want {M N : kz_M} (h : cy_ag N M) (lk : List Int32) (b : Int32) : cx_want N lk b = cx_want M lk b := by
  unfold cx_want
  rw [h.2 3 (by decide)]
  simp only [cg_adr h]
theorem cg_go {M N : kz_M} (h : cy_ag N M) (lk : List Int32) (t : Int32) : cx_go N lk t = cx_go M lk t := by
  unfold cx_go
  rw [cg_adr h, h.2 0 (by decide), cg_mact h, cg_mpre h, cg_want h]
theorem cg_do {M N : kz_M} (h : cy_ag N M) (n : Nat) (o : Option Int32) : cy_ag (cx_do N n o) (cx_do M n o) := by
  cases o with
  | none => exact h
  | some t =>
    show cy_ag (if _ then _ else _) (if _ then _ else _)
    rw [cg_adr h, h.2 0 (by decide), cg_mact h]
    split
    · exact cg_act h _ _ _
    · exact cg_pre h _ _
/-- one cycle -/
def cy_R (M : kz_M) (n : Nat) (rs ws : List Int32) (N : kz_M) (rs' ws' : List Int32) : Prop :=
  if co_fst (co_owe M) = true then cy_ag N (cy_tk (co_roc (co_owe M) n)) ∧ rs' = rs ∧ ws' = ws
  else match (cx_look (co_dr (co_owe M)) rs ws).find? (cx_may (co_dr (co_owe M))) with
    | some t => if cx_w (co_dr (co_owe M)) t = true then cy_ag N (cy_tk (ct_w (co_dr (co_owe M)) n t (cx_adr (co_dr (co_owe M)) t))) ∧ rs' = rs ∧ ws' = ws.filter (fun y => !decide (y = t))
      else cy_ag N (cy_tk (ct_r (co_dr (co_owe M)) n t (cx_adr (co_dr (co_owe M)) t))) ∧ rs' = rs.filter (fun y => !decide (y = t)) ∧ ws' = ws
    | none => cy_ag N (cy_tk (cx_do (co_dr (co_owe M)) n ((cx_look (co_dr (co_owe M)) rs ws).find? (cx_go (co_dr (co_owe M)) (cx_look (co_dr (co_owe M)) rs ws))))) ∧ rs' = rs ∧ ws' = ws
theorem ln_kp {M X : kz_M} {k : Nat} {xs : List Int32} (h : ln_at M k xs) (hk : cy_kp M X) (h1 : 19 ≤ k) (h2 : k < 24) : ln_at X k xs :=
  ⟨by rw [hk.1 k (by unfold cy_pl; omega)]; exact h.1, h.2.1, fun i x hx => by rw [hk.1 (k + 1) (by unfold cy_pl; omega)]; exact h.2.2 i x hx⟩
theorem ln_tk {M : kz_M} {k : Nat} {xs : List Int32} (h : ln_at M k xs) (h1 : k ≠ 0) : ln_at (cy_tk M) k xs := by
  have e : ∀ j, j ≠ 0 → (cy_tk M).1 j = M.1 j := fun j hj => kz_u_off _ _ _ _ hj
  exact ⟨by rw [e k h1]; exact h.1, h.2.1, fun i x hx => by rw [e (k + 1) (by omega)]; exact h.2.2 i x hx⟩
/-- the end of a cycle that refreshes or closes -/
theorem cy_e1 {M : kz_M} {n : Nat} {rs ws : List Int32} (h : cy_wf M rs ws) (hn : n < 32) (hnx : M.1 25 1 = nI n) (hf : co_fst (co_owe M) = true) : ∃ rs' ws', cy_R M n rs ws (cy_tk (co_roc (co_owe M) n)) rs' ws' ∧ cy_wf (cy_tk (co_roc (co_owe M) n)) rs' ws' := by
  have k1 := cy_owe h.2.2.2.2.1
  have hnx1 : (co_owe M).1 25 1 = nI n := by rw [show (co_owe M).1 25 = M.1 25 by unfold co_owe; split <;> simp [kz_u_off]]; exact hnx
  have k2 := k1.tr (cy_roc k1.2.2.2 hn hnx1)
  have k3 := k2.tr (cy_tkk k2.2.2.2)
  refine ⟨rs, ws, ?_, h.go k3 cy_ag.rf (ln_tk (ln_kp h.1 k2 (by decide) (by decide)) (by decide)) (ln_tk (ln_kp h.2.1 k2 (by decide) (by decide)) (by decide)) (List.Sublist.refl _) (List.Sublist.refl _)⟩
  unfold cy_R
  rw [if_pos hf]
  exact ⟨cy_ag.rf, rfl, rfl⟩
theorem cy_n2 {M : kz_M} {n : Nat} (hnx : M.1 25 1 = nI n) : (co_dr (co_owe M)).1 25 1 = nI n := by
  rw [show (co_dr (co_owe M)).1 25 = M.1 25 by unfold co_dr co_owe; split <;> simp [kz_u_off]]
  exact hnx
theorem cy_k2 {M : kz_M} {rs ws : List Int32} (h : cy_wf M rs ws) : cy_kp M (co_dr (co_owe M)) := by
  have k1 := cy_owe h.2.2.2.2.1
  exact k1.tr (cy_dr k1.2.2.2)
/-- the end of a cycle with a transfer; O1 is the state behind the looking, O behind the transfer -/
theorem cy_e2 {M O1 O : kz_M} {n : Nat} {rs ws : List Int32} {t : Int32} (h : cy_wf M rs ws) (hn : n < 32) (hnx : M.1 25 1 = nI n) (hf : co_fst (co_owe M) = false) (ha : ln_ag 23 (co_dr (co_owe M)) O1) (ht : (cx_look (co_dr (co_owe M)) rs ws).find? (cx_may O1) = some t) (hR : ct_R O1 n t (cx_adr O1 t) rs ws O (cx_w O1 t)) : ∃ rs' ws', cy_R M n rs ws (cy_tk O) rs' ws' ∧ cy_wf (cy_tk O) rs' ws' := by
  have hc := ha.cy (by decide) (by decide)
  have k2 := cy_k2 h
  have hnx2 := cy_n2 hnx
  have hm : cx_may O1 = cx_may (co_dr (co_owe M)) := funext (cg_may hc)
  have hr1 := ln_kp h.1 k2 (by decide) (by decide)
  have hw1 := ln_kp h.2.1 k2 (by decide) (by decide)
  have hr2 := hr1.ag ha (by decide) (by decide) (by decide)
  have hw2 := hw1.ag ha (by decide) (by decide) (by decide)
  rw [hm] at ht
  rw [cg_adr hc, cg_w hc] at hR
  cases hw : cx_w (co_dr (co_owe M)) t with
  | true =>
    rw [hw] at hR
    obtain ⟨r1, r2⟩ := hR
    have c1 : cy_ag O (ct_w (co_dr (co_owe M)) n t (cx_adr (co_dr (co_owe M)) t)) := (r1.cy (by decide) (by decide)).tr (cg_ctw hc _ _ _)
    have k3 := k2.tr (cy_ctw (t := t) (a := cx_adr (co_dr (co_owe M)) t) k2.2.2.2 hn hnx2)
    have k4 := k3.tr (cy_tkk k3.2.2.2)
    have off : ∀ k, 19 ≤ k → k < 25 → k ≠ 21 → k ≠ 22 → O.1 k = O1.1 k := fun k a b c d => by
      rw [r1.2 k c d]
      simp only [ct_w, cq_fin, cw_put]
      rw [kz_u_off _ _ _ _ (by omega), kz_u_off _ _ _ _ (by omega), kz_u_off _ _ _ _ (by omega), ct_0_off k (by omega) (by omega) (by omega) (by omega) (by omega)]
    have hr3 : ln_at O 19 rs := ⟨by rw [off 19 (by decide) (by decide) (by decide) (by decide)]; exact hr2.1, hr2.2.1, fun i x hx => by rw [off 20 (by decide) (by decide) (by decide) (by decide)]; exact hr2.2.2 i x hx⟩
    refine ⟨rs, ws.filter (fun y => !decide (y = t)), ?_, h.go k4 (cy_tk_ag c1) (ln_tk hr3 (by decide)) (ln_tk r2 (by decide)) (List.Sublist.refl _) List.filter_sublist⟩
    unfold cy_R
    rw [if_neg (by rw [hf]; decide), ht]
    simp only [hw, if_true]
    exact ⟨cy_tk_ag c1, trivial, trivial⟩
  | false =>
    rw [hw] at hR
    obtain ⟨r1, r2⟩ := hR
    have c1 : cy_ag O (ct_r (co_dr (co_owe M)) n t (cx_adr (co_dr (co_owe M)) t)) := (r1.cy (by decide) (by decide)).tr (cg_ctr hc _ _ _)
    have k3 := k2.tr (cy_ctr (t := t) (a := cx_adr (co_dr (co_owe M)) t) k2.2.2.2 hn hnx2)
    have k4 := k3.tr (cy_tkk k3.2.2.2)
    have off : ∀ k, 19 ≤ k → k < 25 → k ≠ 19 → k ≠ 20 → O.1 k = O1.1 k := fun k a b c d => by
      rw [r1.2 k c d]
      simp only [ct_r, cq_fin]
      rw [kz_u_off _ _ _ _ (by omega), kz_u_off _ _ _ _ (by omega), ct_0_off k (by omega) (by omega) (by omega) (by omega) (by omega)]
    have hw3 : ln_at O 21 ws := ⟨by rw [off 21 (by decide) (by decide) (by decide) (by decide)]; exact hw2.1, hw2.2.1, fun i x hx => by rw [off 22 (by decide) (by decide) (by decide) (by decide)]; exact hw2.2.2 i x hx⟩
    refine ⟨rs.filter (fun y => !decide (y = t)), ws, ?_, h.go k4 (cy_tk_ag c1) (ln_tk r2 (by decide)) (ln_tk hw3 (by decide)) List.filter_sublist (List.Sublist.refl _)⟩
    unfold cy_R
    rw [if_neg (by rw [hf]; decide), ht]
    simp only [hw]
    exact ⟨cy_tk_ag c1, trivial, trivial⟩
/-- the end of a cycle without a transfer -/
theorem cy_e3 {M O1 : kz_M} {n : Nat} {rs ws : List Int32} (h : cy_wf M rs ws) (hn : n < 32) (hnx : M.1 25 1 = nI n) (hf : co_fst (co_owe M) = false) (ha : ln_ag 23 (co_dr (co_owe M)) O1) (ht : (cx_look (co_dr (co_owe M)) rs ws).find? (cx_may O1) = none) : ∃ rs' ws', cy_R M n rs ws (cy_tk (cx_do O1 n ((cx_look (co_dr (co_owe M)) rs ws).find? (cx_go O1 (cx_look (co_dr (co_owe M)) rs ws))))) rs' ws' ∧ cy_wf (cy_tk (cx_do O1 n ((cx_look (co_dr (co_owe M)) rs ws).find? (cx_go O1 (cx_look (co_dr (co_owe M)) rs ws))))) rs' ws' := by
  have hc := ha.cy (by decide) (by decide)
  have k2 := cy_k2 h
  have hnx2 := cy_n2 hnx
  have hm : cx_may O1 = cx_may (co_dr (co_owe M)) := funext (cg_may hc)
  have hg : cx_go O1 (cx_look (co_dr (co_owe M)) rs ws) = cx_go (co_dr (co_owe M)) (cx_look (co_dr (co_owe M)) rs ws) := funext (cg_go hc _)
  have hr2 := (ln_kp h.1 k2 (by decide) (by decide)).ag ha (by decide) (by decide) (by decide)
  have hw2 := (ln_kp h.2.1 k2 (by decide) (by decide)).ag ha (by decide) (by decide) (by decide)
  rw [hm] at ht
  rw [hg]
  generalize ho : (cx_look (co_dr (co_owe M)) rs ws).find? (cx_go (co_dr (co_owe M)) (cx_look (co_dr (co_owe M)) rs ws)) = o
  have k3 := k2.tr (cy_do k2.2.2.2 hn hnx2 o)
  have k4 := k3.tr (cy_tkk k3.2.2.2)
  have c1 := cg_do hc n o
  have hj1 : cy_jk O1 := by
    obtain ⟨⟨n, d1, d2⟩, ⟨c, d3, d4⟩, d5⟩ := k2.2.2.2
    exact ⟨⟨n, d1, by rw [hc.2 25 (by decide)]; exact d2⟩, ⟨c, d3, by rw [hc.2 25 (by decide)]; exact d4⟩, by rw [hc.2 0 (by decide)]; exact d5⟩
  have k5 := cy_do (n := n) hj1 hn (by rw [hc.2 25 (by decide)]; exact hnx2) o
  refine ⟨rs, ws, ?_, h.go k4 (cy_tk_ag c1) (ln_tk (ln_kp hr2 k5 (by decide) (by decide)) (by decide)) (ln_tk (ln_kp hw2 k5 (by decide) (by decide)) (by decide)) (List.Sublist.refl _) (List.Sublist.refl _)⟩
  unfold cy_R
  rw [if_neg (by rw [hf]; decide), ht]
  simp only [ho]
  exact ⟨cy_tk_ag c1, trivial, trivial⟩
