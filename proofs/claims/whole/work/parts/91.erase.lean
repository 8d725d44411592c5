/-! The relation of class and reference: a transfer's beginnings. -/
theorem er_flt : ∀ (wq : List Int32) (k : Nat) (x : Int32), wq.Pairwise (· < ·) → wq[k]? = some x → wq.eraseIdx k = wq.filter (fun y => !decide (y = x))
  | [], k, x, _, h => by simp at h
  | y :: ys, 0, x, hs, h => by
    rw [List.pairwise_cons] at hs
    have e : y = x := by simpa using h
    subst e
    rw [List.eraseIdx_cons_zero, List.filter_cons, if_neg (by simp)]
    refine (List.filter_eq_self.mpr (fun z hz => ?_)).symm
    have := hs.1 z hz
    rw [Bool.not_eq_true', decide_eq_false_iff_not]
    intro q
    rw [q] at this
    exact Int32.lt_irrefl this
  | y :: ys, k + 1, x, hs, h => by
    rw [List.pairwise_cons] at hs
    have h' : ys[k]? = some x := by simpa using h
    have hne : y ≠ x := fun q => by
      have := hs.1 x (List.mem_of_getElem? h')
      rw [q] at this
      exact Int32.lt_irrefl this
    rw [List.eraseIdx_cons_succ, List.filter_cons, if_pos (by simp [hne]), er_flt ys k x hs.2 h']
theorem z_bus {t u v : Nat} {M : kz_M} {b r : Int32} {w : Bool} (h : cb_mayTr M b r w (nI t) = true) (ht : t ≤ 200000) (hu : u ≤ 400) (he : M.1 2 (if w = true then 11 else 10) = nI u) (hv : M.1 1 10 = nI v) (hv3 : v ≤ 300000) : v + 4 ≤ t + u := by
  unfold cb_mayTr at h
  simp only [Bool.and_eq_true] at h
  have h2 := h.2.2.2.2
  unfold cb_beg cb_bus at h2
  rw [show (if w = true then M.1 2 11 else M.1 2 10) = M.1 2 (if w = true then 11 else 10) by split <;> rfl, he, hv, nI_plus, Bool.not_eq_true', decide_eq_false_iff_not] at h2
  rw [show nI v + 4 = nI (v + 4) from nI_add v 4] at h2
  split at h2
  · rw [show nI (v + 4) + 0 = nI (v + 4) from nI_add (v + 4) 0, nI_ltI (by omega) (by omega)] at h2
    omega
  · rw [nI_1, nI_ltI (by omega) (by omega)] at h2
    omega
theorem z_t0 {t g k : Nat} {M R : kz_M} {w : Bool} {x a : Int32} (hN : zN t M R) (hB : sB t M R) (hJ : zJ g M R) (hg : g ≤ 200000) (hk : k < 4) (ha : ck_bank a = nI k) : sB (t + 1) (ct_0 M (g % 32) w x a) (rm_0 R g w x a) ∧ zJ (g + 1) (ct_0 M (g % 32) w x a) (rm_0 R g w x a) := by
  obtain ⟨hm, hn⟩ := hN
  have hb := sB_ktr (w := w) (τ := x) (a := a) (g := g) hB hk ha hn
  refine ⟨sB_fr hb (fun j a1 a2 => ?_) rfl (fun _ _ _ => rfl) rfl rfl, ?_⟩
  · unfold ct_0
    rw [je_off j (by omega) (by omega), ha, hm]
  · unfold ct_0
    rw [hm]
    refine zJ_ent hJ hg hn (fun j q => tr_o j (by omega) (by omega) (by omega)) (fun j a1 a2 => ?_) ?_
    · simp only [rm_0]
      rw [kz_u_off _ _ _ _ (by omega), kz_u_off _ _ _ _ (by omega)]
    · simp only [rm_0]
      rw [kz_u_ne _ _ _ _ (by decide), kz_u_ne _ _ _ _ (by decide), gv_4]
theorem ct_10 {t u n : Nat} {M : kz_M} {w : Bool} {x a : Int32} (hm : M.1 0 9 = nI t) (hu : M.1 2 (if w = true then 11 else 10) = nI u) (hn : n < 32) : (ct_0 M n w x a).1 1 10 = nI (t + u) := by
  unfold ct_0
  rw [je_off 1 (by omega) (by omega), tr_1.2.1]
  unfold cb_beg
  rw [show (if w = true then M.1 2 11 else M.1 2 10) = M.1 2 (if w = true then 11 else 10) by split <;> rfl, hu, hm, nI_plus]
/-- the queue without the one that was moved -/
theorem zL_er {c b b' k n : Nat} {M R N S : kz_M} {wq rs ws : List Int32} {x : Int32} {w : Bool} (h : zL c b M R wq rs ws) (hx : wq[k]? = some x) (hn : wq.length = n + 1) (hb : b' + n ≤ c) (hw : cx_w M x = w) (h14 : N.1 14 = M.1 14) (h17 : ∀ j, nI j ≠ x → N.1 17 j = M.1 17 j) (h8 : S.1 8 = R.1 8) (h9 : S.1 9 = R.1 9) (h15 : ∀ (j : Nat) (y : Int32), (wq.eraseIdx k)[j]? = some y → S.1 15 j = y) (h26 : S.1 0 26 = nI n) (h27 : S.1 0 27 = if w = true then R.1 0 27 else R.1 0 27 - 1) (h28 : S.1 0 28 = if w = true then R.1 0 28 - 1 else R.1 0 28) : zL c b' N S (wq.eraseIdx k) (if w = true then rs else rs.filter (fun y => !decide (y = x))) (if w = true then ws.filter (fun y => !decide (y = x)) else ws) := by
  have hl := zL_len h
  obtain ⟨⟨q1, q2, q3, q4⟩, a2, a3, a4, a5, a6, a7, a8⟩ := h
  have hkl : k < wq.length := (List.getElem?_eq_some_iff.mp hx).1
  have ew : cx_w N = cx_w M := by funext y; unfold cx_w; rw [h14]
  have he := er_flt wq k x a2 hx
  have hle : (wq.eraseIdx k).length = n := by rw [List.length_eraseIdx_of_lt hkl]; omega
  have hsub : ∀ y ∈ wq.eraseIdx k, y ∈ wq := fun y hy => List.mem_of_mem_eraseIdx hy
  have hne : ∀ y ∈ wq.eraseIdx k, y ≠ x := fun y hy => by
    rw [he, List.mem_filter] at hy
    simpa using hy.2
  have er : (if w = true then rs else rs.filter (fun y => !decide (y = x))) = (wq.eraseIdx k).filter (fun y => !cx_w N y) := by
    rw [ew, he, List.filter_filter]
    cases w
    · rw [if_neg (by decide), a4, List.filter_filter]
      exact List.filter_congr (fun y _ => Bool.and_comm _ _)
    · rw [if_pos rfl, a4]
      refine List.filter_congr (fun y _ => ?_)
      by_cases q : y = x
      · rw [q, hw]; rfl
      · rw [decide_eq_false q]; simp
  have ewr : (if w = true then ws.filter (fun y => !decide (y = x)) else ws) = (wq.eraseIdx k).filter (cx_w N) := by
    rw [ew, he, List.filter_filter]
    cases w
    · rw [if_neg (by decide), a5]
      refine List.filter_congr (fun y _ => ?_)
      by_cases q : y = x
      · rw [q, hw]; rfl
      · rw [decide_eq_false q]; simp
    · rw [if_pos rfl, a5, List.filter_filter]
      exact List.filter_congr (fun y _ => Bool.and_comm _ _)
  have hl2 := len_two (cx_w N) (wq.eraseIdx k)
  rw [← er, ← ewr, hle] at hl2
  refine ⟨⟨by rw [h26, hle], by omega, h15, fun y hy => by rw [h8, h9]; exact q4 y (hsub y hy)⟩, a2.sublist (List.eraseIdx_sublist _ _), fun y hy => ?_, er, ewr, ?_, ?_, by rw [hle]; exact hb⟩
  · obtain ⟨j, j1, j2, j3⟩ := a3 y (hsub y hy)
    exact ⟨j, j1, j2, by rw [h17 j (by rw [← j2]; exact hne y hy)]; exact j3⟩
  · rw [h27, a6]
    cases w
    · rw [if_neg (by decide), if_neg (by decide)] at *
      rw [show rs.length = (rs.filter (fun y => !decide (y = x))).length + 1 by omega, nI_pred]
    · rw [if_pos rfl, if_pos rfl]
  · rw [h28, a7]
    cases w
    · rw [if_neg (by decide), if_neg (by decide)]
    · rw [if_pos rfl, if_pos rfl] at *
      rw [show ws.length = (ws.filter (fun y => !decide (y = x))).length + 1 by omega, nI_pred]
