/-! Contracts of the reference: serving. -/
def rv_dr (M : kz_M) : kz_M := (kz_u M.1 0 8 (kz_ib (rr_drv M)), M.2)
def rv_fl (M : kz_M) (wq : List Int32) (d : Bool) : Nat → Bool := if rq_n (rq_f M wq d) wq.length 0 0 = 0 then rq_f M wq (!d) else rq_f M wq d
def rv_R (M : kz_M) (wq : List Int32) (g c : Nat) (f : Nat → Bool) (N : kz_M) : Prop := ∃ O, rq_ag M O ∧ rq_fl O wq.length f ∧ ((∃ k t n, rq_fst (rq_qk O wq f) wq.length 0 = some k ∧ wq[k]? = some t ∧ wq.length = n + 1 ∧ rm_R O g n c t wq k N (rq_w O t)) ∨ (rq_fst (rq_qk O wq f) wq.length 0 = none ∧ N = rv_do O wq f g (rq_fst (fun i => rv_op O wq f i || rv_cl O wq f i) wq.length 0)))
theorem rq_ag.tr {M N O : kz_M} (h1 : rq_ag M N) (h2 : rq_ag N O) : rq_ag M O := ⟨h2.1.trans h1.1, fun k h => (h2.2 k h).trans (h1.2 k h)⟩
theorem rq_cap_ag {M N : kz_M} (h : rq_ag M N) (wq : List Int32) (f : Nat → Bool) : rq_cap N wq f = rq_cap M wq f := by
  unfold rq_cap rq_capd
  rw [h.2 0 (by decide), h.2 10 (by decide)]
theorem rq_f_ag {M N : kz_M} (h : rq_ag M N) (wq : List Int32) (w : Bool) : rq_f N wq w = rq_f M wq w := by
  funext k
  unfold rq_f
  have e : ∀ t, rq_a N t = rq_a M t := fun t => by unfold rq_a; rw [h.2 9 (by decide)]
  simp only [rq_held_ag h, e]
  rw [h.2 8 (by decide)]
theorem rv_drq {M : kz_M} {wq : List Int32} (hq : rq_at M wq) : rq_at (rv_dr M) wq := by
  unfold rq_at
  rw [show (rv_dr M).1 0 26 = M.1 0 26 by simp [rv_dr, kz_u_ne], show (rv_dr M).1 15 = M.1 15 by simp [rv_dr, kz_u_off], show (rv_dr M).1 9 = M.1 9 by simp [rv_dr, kz_u_off], show (rv_dr M).1 8 = M.1 8 by simp [rv_dr, kz_u_off]]
  exact hq
set_option maxRecDepth 100000 in
set_option maxHeartbeats 1000000 in
theorem sv_end (l : Launch) {M X : kz_M} {wq : List Int32} {f : Nat → Bool} {g c : Nat} (hq : rq_at M wq) (hX : rq_ag M X) (hf : rq_fl X wq.length f) (hg : g < 2 ^ 31) (hge : M.1 0 4 = nI g) (hc4 : c + wq.length ≤ 400) (hce : M.1 0 30 = nI c) : kz_G l sR m_Mo_serve 32 [some (.ref 0), none, none, none, none, none, none, none, none] [] X (fun v N => v = none ∧ rv_R M wq g c (rq_cap M wq f) N) := by
  have h16 := hq.2.1
  have hqX := hq.ag hX
  refine kz_eta ?_
  refine kz_aload_n d_Mo_serve_32 rfl rfl ?_
  refine kz_callVr (c_Mo_capped l hqX hf) cv_Mo_221 rfl rfl rfl ⟨by decide, by decide⟩ rfl (Nat.le_of_ble_eq_true rfl) d_Mo_serve_33 rfl (fun v33 N33 q33 => ?_)
  obtain ⟨rfl, ha33, hf33⟩ := q33
  have ha33 : rq_ag X N33 := ha33
  have haO := hX.tr ha33
  have hqO := hq.ag haO
  have hf33 : rq_fl N33 wq.length (rq_cap X wq f) := hf33
  rw [rq_cap_ag hX] at hf33
  have hgO : N33.1 0 4 = nI g := by rw [haO.2 0 (by decide)]; exact hge
  have hcO : N33.1 0 30 = nI c := by rw [haO.2 0 (by decide)]; exact hce
  cases ho : rq_fst (rq_qk N33 wq (rq_cap M wq f)) wq.length 0 with
  | none =>
    refine kz_aload_n d_Mo_serve_36 rfl rfl ?_
    refine kz_callVi (c_Mo_quick l hqO hf33) cv_Mo_224 rfl rfl rfl ⟨by decide, by decide⟩ rfl (Nat.le_of_ble_eq_true rfl) d_Mo_serve_37 rfl ?_
    refine kz_topi (y := -1) (by rw [ho]; rfl) ?_
    refine kz_istore_n (i := 1) d_Mo_serve_40 rfl rfl (Nat.le_of_ble_eq_true rfl) rfl ?_
    refine kz_iload_n d_Mo_serve_41 rfl rfl ?_
    refine kz_if_lt (tgt := 51) d_Mo_serve_42 (by decide) rfl (fun h42 => ?_) (fun h42 => ?_)
    · refine kz_iconst (v := 1) d_Mo_serve_51 (by decide) rfl ?_
      refine kz_istore_n (i := 2) d_Mo_serve_52 rfl rfl (Nat.le_of_ble_eq_true rfl) rfl ?_
      refine kz_iconst (v := 0) d_Mo_serve_53 (by decide) rfl ?_
      refine kz_istore_n (i := 3) d_Mo_serve_54 rfl rfl (Nat.le_of_ble_eq_true rfl) rfl ?_
      have h := lp_rsv l (a1 := -1) hqO hf33 hg hgO wq.length 0 none none none none none (by omega)
      exact kz_mono (fun v N h => ⟨h.1, N33, haO, hf33, Or.inr ⟨ho, h.2⟩⟩) h
    · exact absurd (by decide) h42
  | some k =>
    obtain ⟨-, hk⟩ := rq_fst_lt _ _ _ ho
    rw [Nat.zero_add] at hk
    obtain ⟨y, hy⟩ : ∃ y, wq[k]? = some y := ⟨_, List.getElem?_eq_getElem hk⟩
    obtain ⟨n, hn⟩ : ∃ n, wq.length = n + 1 := ⟨wq.length - 1, by omega⟩
    refine kz_aload_n d_Mo_serve_36 rfl rfl ?_
    refine kz_callVi (c_Mo_quick l hqO hf33) cv_Mo_224 rfl rfl rfl ⟨by decide, by decide⟩ rfl (Nat.le_of_ble_eq_true rfl) d_Mo_serve_37 rfl ?_
    refine kz_topi (y := nI k) (by rw [ho]; rfl) ?_
    refine kz_istore_n (i := 1) d_Mo_serve_40 rfl rfl (Nat.le_of_ble_eq_true rfl) rfl ?_
    refine kz_iload_n d_Mo_serve_41 rfl rfl ?_
    refine kz_if_lt (tgt := 51) d_Mo_serve_42 (by decide) rfl (fun h42 => ?_) (fun h42 => ?_)
    · exact absurd h42 (nI_pos (by omega))
    · refine kz_aload_n d_Mo_serve_45 rfl rfl ?_
      refine kz_iload_n d_Mo_serve_46 rfl rfl ?_
      refine kz_callVr (c_Mo_move l hqO hy hn hg hgO (by omega) hcO) cv_Mo_227 rfl rfl rfl ⟨by decide, by decide⟩ rfl (Nat.le_of_ble_eq_true rfl) d_Mo_serve_47 rfl (fun v47 N47 q47 => ?_)
      obtain ⟨rfl, hR47⟩ := q47
      exact kz_vret rfl d_Mo_serve_50 (⟨rfl, N33, haO, hf33, Or.inl ⟨k, y, n, ho, hy, hn, hR47⟩⟩)
set_option maxRecDepth 100000 in
set_option maxHeartbeats 1000000 in
theorem c_Mo_serve (l : Launch) {M : kz_M} {wq : List Int32} {g c : Nat} (hq : rq_at M wq) (hg : g < 2 ^ 31) (hge : M.1 0 4 = nI g) (hc4 : c + wq.length ≤ 400) (hce : M.1 0 30 = nI c) : kz_T l sR m_Mo_serve [.ref 0] M (fun v N => v = none ∧ rv_R (rv_dr M) wq g c (rq_cap (rv_dr M) wq (rv_fl (rv_dr M) wq (rr_drv M))) N) := by
  have e8 : (rv_dr M).1 0 8 = kz_ib (rr_drv M) := by simp [rv_dr, kz_u_same]
  refine kz_intro (by decide +kernel) (Nat.le_of_ble_eq_true rfl) ?_
  show kz_G l sR m_Mo_serve 0 [some (.ref 0), none, none, none, none, none, none, none, none] [] M _
  refine kz_aload_n d_Mo_serve_0 rfl rfl ?_
  refine kz_callVv (c_Mo_drain l) cv_Mo_214 rfl rfl rfl ⟨by decide, by decide⟩ rfl (Nat.le_of_ble_eq_true rfl) d_Mo_serve_1 rfl ?_
  refine kz_eta ?_
  have hg1 : (rv_dr M).1 0 4 = nI g := by simp [rv_dr, kz_u_ne]; exact hge
  have hc1 : (rv_dr M).1 0 30 = nI c := by simp [rv_dr, kz_u_ne]; exact hce
  have hq1 := rv_drq hq
  refine kz_memq (N := rv_dr M) rfl ?_
  refine kz_eta ?_
  refine kz_aload_n d_Mo_serve_4 rfl rfl ?_
  refine kz_aload_n d_Mo_serve_5 rfl rfl ?_
  refine kz_getIp fd_Mo_206 rfl rfl (Or.inr rfl) d_Mo_serve_6 rfl ?_
  refine kz_topi (y := kz_ib (rr_drv M)) e8 ?_
  refine kz_callVr (c_Mo_look l hq1) cv_Mo_217 rfl rfl rfl ⟨by decide, by decide⟩ rfl (Nat.le_of_ble_eq_true rfl) d_Mo_serve_9 rfl (fun v9 N9 q9 => ?_)
  obtain ⟨rfl, ha9, hf9⟩ := q9
  have ha9 : rq_ag (rv_dr M) N9 := ha9
  have hq9 := (rv_drq hq).ag ha9
  refine kz_if_ne (tgt := 32) d_Mo_serve_12 (by decide) rfl (fun h12 => ?_) (fun h12 => ?_)
  · rw [rv_fl, if_neg h12]
    exact sv_end l hq1 ha9 hf9 hg hg1 hc4 hc1
  · refine kz_aload_n d_Mo_serve_15 rfl rfl ?_
    refine kz_aload_n d_Mo_serve_16 rfl rfl ?_
    refine kz_getIp fd_Mo_206 rfl rfl (Or.inr rfl) d_Mo_serve_17 rfl ?_
    refine kz_topi (y := kz_ib (rr_drv M)) (by rw [ha9.2 0 (by decide)]; exact e8) ?_
    refine kz_if_neb (tgt := 27) d_Mo_serve_20 (by decide) rfl (fun h20 => ?_) (fun h20 => ?_)
    · refine kz_iconst (v := kz_ib false) d_Mo_serve_27 (by decide) rfl ?_
      refine kz_callVr (c_Mo_look l (wq := wq) hq9) cv_Mo_217 rfl rfl rfl ⟨by decide, by decide⟩ rfl (Nat.le_of_ble_eq_true rfl) d_Mo_serve_28 rfl (fun v28 N28 q28 => ?_)
      obtain ⟨rfl, ha28, hf28⟩ := q28
      have haB := ha9.tr ha28
      refine kz_pop d_Mo_serve_31 rfl rfl ?_
      rw [rv_fl, if_pos h12, h20]
      rw [rq_f_ag ha9] at hf28
      exact sv_end l hq1 haB hf28 hg hg1 hc4 hc1
    · refine kz_iconst (v := kz_ib true) d_Mo_serve_23 (by decide) rfl ?_
      refine kz_goto (tgt := 28) d_Mo_serve_24 (by decide) ?_
      refine kz_callVr (c_Mo_look l (wq := wq) hq9) cv_Mo_217 rfl rfl rfl ⟨by decide, by decide⟩ rfl (Nat.le_of_ble_eq_true rfl) d_Mo_serve_28 rfl (fun v28 N28 q28 => ?_)
      obtain ⟨rfl, ha28, hf28⟩ := q28
      have haB := ha9.tr ha28
      refine kz_pop d_Mo_serve_31 rfl rfl ?_
      rw [rv_fl, if_pos h12, h20]
      rw [rq_f_ag ha9] at hf28
      exact sv_end l hq1 haB hf28 hg hg1 hc4 hc1
