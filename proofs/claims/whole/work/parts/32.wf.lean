/-! What a cycle keeps. -/
def cy_tk (X : kz_M) : kz_M := (kz_u X.1 0 9 (X.1 0 9 + 1), X.2)
/-- the same but for the lines -/
def cy_ag (N X : kz_M) : Prop := N.2 = X.2 ∧ ∀ k, (k < 19 ∨ 25 ≤ k) → N.1 k = X.1 k
theorem cy_ag.rf {X : kz_M} : cy_ag X X := ⟨rfl, fun _ _ => rfl⟩
theorem cy_ag.tr {M N O : kz_M} (h1 : cy_ag M N) (h2 : cy_ag N O) : cy_ag M O := ⟨h1.1.trans h2.1, fun k h => (h1.2 k h).trans (h2.2 k h)⟩
theorem ln_ag.cy {k : Nat} {M N : kz_M} (h : ln_ag k M N) (h1 : 19 ≤ k) (h2 : k < 24) : cy_ag N M := ⟨h.1, fun j hj => h.2 j (by omega) (by omega)⟩
theorem cy_tk_ag {M N : kz_M} (h : cy_ag N M) : cy_ag (cy_tk N) (cy_tk M) :=
  ⟨h.1, fun k hk => by
    show kz_u N.1 0 9 _ k = kz_u M.1 0 9 _ k
    funext b
    unfold kz_u
    rw [h.2 k hk, h.2 0 (by omega)]⟩
def cy_jk (X : kz_M) : Prop := (∃ n, n < 32 ∧ X.1 25 1 = nI n) ∧ (∃ c, c ≤ 32 ∧ X.1 25 2 = nI c) ∧ vp_in (X.1 0 14) 256
def cy_pl (k : Nat) : Prop := k = 2 ∨ (12 ≤ k ∧ k ≤ 15) ∨ (19 ≤ k ∧ k < 25)
def cy_kp (M X : kz_M) : Prop := (∀ k, cy_pl k → X.1 k = M.1 k) ∧ X.1 0 0 = M.1 0 0 ∧ X.1 0 1 = M.1 0 1 ∧ cy_jk X
theorem cy_kp.tr {M N O : kz_M} (h1 : cy_kp M N) (h2 : cy_kp N O) : cy_kp M O := ⟨fun k h => (h2.1 k h).trans (h1.1 k h), h2.2.1.trans h1.2.1, h2.2.2.1.trans h1.2.2.1, h2.2.2.2⟩
theorem cy_kp.rf {M : kz_M} (h : cy_jk M) : cy_kp M M := ⟨fun _ _ => rfl, rfl, rfl, h⟩
/-- a change that touches none of these -/
theorem cy_kp.of {M X : kz_M} (hj : cy_jk M) (h : ∀ k, cy_pl k → X.1 k = M.1 k) (h0 : X.1 0 0 = M.1 0 0) (h1 : X.1 0 1 = M.1 0 1) (h2 : X.1 25 1 = M.1 25 1) (h3 : X.1 25 2 = M.1 25 2) (h4 : X.1 0 14 = M.1 0 14) : cy_kp M X :=
  ⟨h, h0, h1, by obtain ⟨⟨n, a, b⟩, ⟨c, d, e⟩, f⟩ := hj; exact ⟨⟨n, a, by rw [h2]; exact b⟩, ⟨c, d, by rw [h3]; exact e⟩, by rw [h4]; exact f⟩⟩
theorem cy_ent {M : kz_M} {n : Nat} {w b d c t : Int32} (hj : cy_jk M) (hn : n < 32) (hnx : M.1 25 1 = nI n) : cy_kp M (cj_ent M (27 + n) w b d c t) := by
  have off : ∀ k, k ≠ 25 → k ≠ 27 + n → (cj_ent M (27 + n) w b d c t).1 k = M.1 k := fun k h1 h2 => by
    simp only [cj_ent]
    rw [kz_u_off _ _ _ _ h1, kz_u_off _ _ _ _ h1, kz_u_off _ _ _ _ h1, kz_u_off _ _ _ _ h2, kz_u_off _ _ _ _ h2, kz_u_off _ _ _ _ h2, kz_u_off _ _ _ _ h2, kz_u_off _ _ _ _ h2]
  obtain ⟨-, ⟨q, hq, he⟩, hs⟩ := hj
  refine ⟨fun k h => off k (by unfold cy_pl at h; omega) (by unfold cy_pl at h; omega), by rw [off 0 (by decide) (by omega)], by rw [off 0 (by decide) (by omega)], ⟨(n + 1) % 32, Nat.mod_lt _ (by decide), ?_⟩, ?_, by rw [off 0 (by decide) (by omega)]; exact hs⟩
  · have e : (cj_ent M (27 + n) w b d c t).1 25 1 = M.1 25 1 + 1 - (M.1 25 1 + 1) / 32 * 32 := by simp [cj_ent, kz_u_ne, kz_u_same]
    rw [e, hnx, nI_1]
    exact pk_rem (a := n + 1) (d := 32) (by omega) (by decide) (by decide)
  · have e : (cj_ent M (27 + n) w b d c t).1 25 2 = if 32 < M.1 25 2 + 1 then 32 else M.1 25 2 + 1 := by simp [cj_ent, kz_u_ne, kz_u_same]
    rw [e, he, nI_1]
    by_cases hlt : (32 : Int32) < nI (q + 1)
    · rw [if_pos hlt]; exact ⟨32, Nat.le_refl _, rfl⟩
    · rw [if_neg hlt]
      have hz : ¬ 32 < q + 1 := fun h => hlt ((nI_ltI (a := 32) (b := q + 1) (by decide) (by omega)).mpr h)
      exact ⟨q + 1, by omega, rfl⟩
theorem cy_pre {M : kz_M} {n : Nat} {b : Int32} (hj : cy_jk M) (hn : n < 32) (hnx : M.1 25 1 = nI n) : cy_kp M (co_pre M n b) := by
  have h : cy_kp M (cb_pre M b (M.1 0 9)) := cy_kp.of hj (fun k h => by
    simp only [cb_pre]
    rw [kz_u_off _ _ _ _ (by unfold cy_pl at h; omega), kz_u_off _ _ _ _ (by unfold cy_pl at h; omega)]) (by simp [cb_pre, kz_u_ne]) (by simp [cb_pre, kz_u_ne]) (by simp [cb_pre, kz_u_ne]) (by simp [cb_pre, kz_u_ne]) (by simp [cb_pre, kz_u_ne])
  exact h.tr (cy_ent h.2.2.2 hn (by simp [cb_pre, kz_u_ne]; exact hnx))
theorem cy_act {M : kz_M} {n : Nat} {b r : Int32} (hj : cy_jk M) (hn : n < 32) (hnx : M.1 25 1 = nI n) : cy_kp M (co_act M n b r) := by
  have off : ∀ k, k ≠ 3 → k ≠ 4 → k ≠ 8 → (cb_act M b r (M.1 0 9)).1 k = M.1 k := fun k h1 h2 h3 => by
    funext j
    simp only [cb_act]
    rw [if_neg h3, kz_u_off _ _ _ _ h2, kz_u_off _ _ _ _ h1]
  have h : cy_kp M (cb_act M b r (M.1 0 9)) := cy_kp.of hj (fun k h => off k (by unfold cy_pl at h; omega) (by unfold cy_pl at h; omega) (by unfold cy_pl at h; omega)) (by rw [off 0 (by decide) (by decide) (by decide)]) (by rw [off 0 (by decide) (by decide) (by decide)]) (by rw [off 25 (by decide) (by decide) (by decide)]) (by rw [off 25 (by decide) (by decide) (by decide)]) (by rw [off 0 (by decide) (by decide) (by decide)])
  exact h.tr (cy_ent h.2.2.2 hn (by rw [off 25 (by decide) (by decide) (by decide)]; exact hnx))
theorem cy_dr {M : kz_M} (hj : cy_jk M) : cy_kp M (co_dr M) :=
  cy_kp.of hj (fun k h => kz_u_off _ _ _ _ (by unfold cy_pl at h; omega)) (by simp [co_dr, kz_u_ne]) (by simp [co_dr, kz_u_ne]) (by simp [co_dr, kz_u_ne]) (by simp [co_dr, kz_u_ne]) (by simp [co_dr, kz_u_ne])
theorem cy_tkk {M : kz_M} (hj : cy_jk M) : cy_kp M (cy_tk M) :=
  cy_kp.of hj (fun k h => kz_u_off _ _ _ _ (by unfold cy_pl at h; omega)) (by simp [cy_tk, kz_u_ne]) (by simp [cy_tk, kz_u_ne]) (by simp [cy_tk, kz_u_ne]) (by simp [cy_tk, kz_u_ne]) (by simp [cy_tk, kz_u_ne])
theorem cy_owe {M : kz_M} (hj : cy_jk M) : cy_kp M (co_owe M) := by
  unfold co_owe
  split
  · exact cy_kp.of hj (fun k h => kz_u_off _ _ _ _ (by unfold cy_pl at h; omega)) (by simp [kz_u_ne]) (by simp [kz_u_ne]) (by simp [kz_u_ne]) (by simp [kz_u_ne]) (by simp [kz_u_ne])
  · exact cy_kp.of hj (fun k h => (kz_u_off _ _ _ _ (by unfold cy_pl at h; omega)).trans (kz_u_off _ _ _ _ (by unfold cy_pl at h; omega))) (by simp [kz_u_ne]) (by simp [kz_u_ne]) (by simp [kz_u_ne]) (by simp [kz_u_ne]) (by simp [kz_u_ne])
theorem cy_right {M : kz_M} (a : Nat) (k : Nat) (h : k ≠ 11) : (cw_right M a).1 k = M.1 k := by
  unfold cw_right
  split
  · rfl
  · exact kz_u_off _ _ _ _ h
theorem cy_scr_off {M : kz_M} (k : Nat) (h0 : k ≠ 0) (h : k ≠ 11) : (co_scr M).1 k = M.1 k := by
  simp only [co_scr]
  rw [kz_u_off _ _ _ _ h0]
  split
  · exact cy_right _ k h
  · rw [kz_u_off _ _ _ _ h0]; exact cy_right _ k h
theorem cy_scr_0 {M : kz_M} (j : Nat) (h13 : j ≠ 13) (h14 : j ≠ 14) : (co_scr M).1 0 j = M.1 0 j := by
  simp only [co_scr]
  rw [kz_u_ne _ _ _ _ (fun q => h14 q.2)]
  split
  · rw [cy_right _ 0 (by decide)]
  · rw [kz_u_ne _ _ _ _ (fun q => h13 q.2), cy_right _ 0 (by decide)]
theorem cy_scr {M : kz_M} (hj : cy_jk M) : cy_kp M (co_scr M) := by
  obtain ⟨⟨n, a, b⟩, ⟨c, d, e⟩, f⟩ := hj
  exact ⟨fun k h => cy_scr_off k (by unfold cy_pl at h; omega) (by unfold cy_pl at h; omega), cy_scr_0 0 (by decide) (by decide), cy_scr_0 1 (by decide) (by decide), ⟨n, a, by rw [cy_scr_off 25 (by decide) (by decide)]; exact b⟩, ⟨c, d, by rw [cy_scr_off 25 (by decide) (by decide)]; exact e⟩, co_scrin f⟩
theorem cy_rf0 {M : kz_M} {n : Nat} (hj : cy_jk M) (hn : n < 32) (hnx : M.1 25 1 = nI n) : cy_kp M (co_rf0 M n) := by
  have h : cy_kp M (kz_u M.1 1 9 (M.1 0 9), M.2) := cy_kp.of hj (fun k h => kz_u_off _ _ _ _ (by unfold cy_pl at h; omega)) (by simp [kz_u_ne]) (by simp [kz_u_ne]) (by simp [kz_u_ne]) (by simp [kz_u_ne]) (by simp [kz_u_ne])
  have h2 := h.tr (cy_ent (w := 4) (b := -1) (d := -1) (c := M.1 0 9) (t := -1) h.2.2.2 hn (by simp [kz_u_ne]; exact hnx))
  refine h2.tr (cy_kp.of h2.2.2.2 (fun k h => kz_u_off _ _ _ _ (by unfold cy_pl at h; omega)) (by simp [co_rf0, kz_u_ne]) (by simp [co_rf0, kz_u_ne]) (by simp [co_rf0, kz_u_ne]) (by simp [co_rf0, kz_u_ne]) (by simp [co_rf0, kz_u_ne]))
theorem cy_ref {M : kz_M} {n : Nat} (hj : cy_jk M) (hn : n < 32) (hnx : M.1 25 1 = nI n) : cy_kp M (co_ref M n) := by
  have h := cy_rf0 hj hn hnx
  have h2 := h.tr (cy_scr h.2.2.2)
  exact h2.tr (cy_scr h2.2.2.2)
theorem cy_roc {M : kz_M} {n : Nat} (hj : cy_jk M) (hn : n < 32) (hnx : M.1 25 1 = nI n) : cy_kp M (co_roc M n) := by
  unfold co_roc
  split
  · exact cy_ref hj hn hnx
  · split
    · exact cy_pre hj hn hnx
    · exact cy_kp.rf hj
theorem cy_do {M : kz_M} {n : Nat} (hj : cy_jk M) (hn : n < 32) (hnx : M.1 25 1 = nI n) (o : Option Int32) : cy_kp M (cx_do M n o) := by
  cases o with
  | none => exact cy_kp.rf hj
  | some t =>
    show cy_kp M (if _ then _ else _)
    split
    · exact cy_act hj hn hnx
    · exact cy_pre hj hn hnx
theorem cy_ct0 {M : kz_M} {n : Nat} {w : Bool} {t a : Int32} (hj : cy_jk M) (hn : n < 32) (hnx : M.1 25 1 = nI n) : cy_kp M (ct_0 M n w t a) := by
  have off : ∀ k, k ≠ 1 → k ≠ 6 → k ≠ 7 → (cb_tr M (ck_bank a) w (M.1 0 9)).1 k = M.1 k := fun k h1 h2 h3 => by
    cases w <;> simp [cb_tr, kz_u_off, *]
  have h : cy_kp M (cb_tr M (ck_bank a) w (M.1 0 9)) := cy_kp.of hj (fun k h => off k (by unfold cy_pl at h; omega) (by unfold cy_pl at h; omega) (by unfold cy_pl at h; omega)) (by rw [off 0 (by decide) (by decide) (by decide)]) (by rw [off 0 (by decide) (by decide) (by decide)]) (by rw [off 25 (by decide) (by decide) (by decide)]) (by rw [off 25 (by decide) (by decide) (by decide)]) (by rw [off 0 (by decide) (by decide) (by decide)])
  exact h.tr (cy_ent h.2.2.2 hn (by rw [off 25 (by decide) (by decide) (by decide)]; exact hnx))
theorem cy_fin {M : kz_M} {t : Int32} {w : Int64} {st e : Int32} (hj : cy_jk M) : cy_kp M (cq_fin M t w st e) := by
  have off : ∀ k, k ≠ 17 → k ≠ 18 → (cq_fin M t w st e).1 k = M.1 k := fun k h1 h2 => by
    simp only [cq_fin]
    rw [kz_u_off _ _ _ _ h2, kz_u_off _ _ _ _ h1]
  exact cy_kp.of hj (fun k h => off k (by unfold cy_pl at h; omega) (by unfold cy_pl at h; omega)) (by rw [off 0 (by decide) (by decide)]) (by rw [off 0 (by decide) (by decide)]) (by rw [off 25 (by decide) (by decide)]) (by rw [off 25 (by decide) (by decide)]) (by rw [off 0 (by decide) (by decide)])
theorem cy_put {M : kz_M} {a : Nat} {x : bt_T} (hj : cy_jk M) : cy_kp M (cw_put M a x) :=
  cy_kp.of hj (fun k h => kz_u_off _ _ _ _ (by unfold cy_pl at h; omega)) (by simp [cw_put, kz_u_ne]) (by simp [cw_put, kz_u_ne]) (by simp [cw_put, kz_u_ne]) (by simp [cw_put, kz_u_ne]) (by simp [cw_put, kz_u_ne])
theorem cy_ctw {M : kz_M} {n : Nat} {t a : Int32} (hj : cy_jk M) (hn : n < 32) (hnx : M.1 25 1 = nI n) : cy_kp M (ct_w M n t a) := by
  have h := cy_ct0 (w := true) (t := t) (a := a) hj hn hnx
  have h2 := h.tr (cy_put (a := a.toNatClampNeg) (x := bt_keep (M.2 16 t.toNatClampNeg)) h.2.2.2)
  exact h2.tr (cy_fin h2.2.2.2)
theorem cy_ctr {M : kz_M} {n : Nat} {t a : Int32} (hj : cy_jk M) (hn : n < 32) (hnx : M.1 25 1 = nI n) : cy_kp M (ct_r M n t a) := by
  have h := cy_ct0 (w := false) (t := t) (a := a) hj hn hnx
  exact h.tr (cy_fin h.2.2.2)
/-- what a state of the class is -/
def cy_wf (M : kz_M) (rs ws : List Int32) : Prop := ln_at M 19 rs ∧ ln_at M 21 ws ∧ (∀ t ∈ rs, vp_in t 400 ∧ vp_in (cx_adr M t) 256 ∧ M.1 14 t.toNatClampNeg = 0) ∧ (∀ t ∈ ws, vp_in t 400 ∧ vp_in (cx_adr M t) 256 ∧ M.1 14 t.toNatClampNeg = 1) ∧ cy_jk M ∧ (∃ q, q ≤ 8 ∧ M.1 0 0 = nI q ∧ rs.length ≤ q ∧ ws.length ≤ q) ∧ ∃ c, c ≤ 400 ∧ M.1 12 6 = nI c ∧ (∀ t ∈ rs, ∃ j, j < c ∧ t = nI j) ∧ ∀ t ∈ ws, ∃ j, j < c ∧ t = nI j
theorem cy_wf.go {M X N : kz_M} {rs ws rs' ws' : List Int32} (h : cy_wf M rs ws) (hk : cy_kp M X) (ha : cy_ag N X) (hr : ln_at N 19 rs') (hw : ln_at N 21 ws') (h1 : rs'.Sublist rs) (h2 : ws'.Sublist ws) : cy_wf N rs' ws' := by
  obtain ⟨-, -, a3, a4, -, ⟨q, b1, b2, b3, b4⟩, c, c1, c2, c3, c4⟩ := h
  have e13 : N.1 13 = M.1 13 := (ha.2 13 (by decide)).trans (hk.1 13 (by unfold cy_pl; omega))
  have e14 : N.1 14 = M.1 14 := (ha.2 14 (by decide)).trans (hk.1 14 (by unfold cy_pl; omega))
  have e12 : N.1 12 = M.1 12 := (ha.2 12 (by decide)).trans (hk.1 12 (by unfold cy_pl; omega))
  have ea : ∀ t, cx_adr N t = cx_adr M t := fun t => by unfold cx_adr; rw [e13]
  refine ⟨hr, hw, fun t ht => ?_, fun t ht => ?_, ?_, ⟨q, b1, ?_, Nat.le_trans h1.length_le b3, Nat.le_trans h2.length_le b4⟩, c, c1, by rw [e12]; exact c2, fun t ht => c3 t (h1.subset ht), fun t ht => c4 t (h2.subset ht)⟩
  · rw [ea, e14]; exact a3 t (h1.subset ht)
  · rw [ea, e14]; exact a4 t (h2.subset ht)
  · obtain ⟨⟨n, d1, d2⟩, ⟨c, d3, d4⟩, d5⟩ := hk.2.2.2
    exact ⟨⟨n, d1, by rw [ha.2 25 (by decide)]; exact d2⟩, ⟨c, d3, by rw [ha.2 25 (by decide)]; exact d4⟩, by rw [ha.2 0 (by decide)]; exact d5⟩
  · rw [ha.2 0 (by decide), hk.2.1]; exact b2
