/-! Queues as lists. -/
/-- line k holds xs -/
def ln_at (M : kz_M) (k : Nat) (xs : List Int32) : Prop := M.1 k 1 = nI xs.length ∧ xs.length ≤ 8 ∧ ∀ (i : Nat) (x : Int32), xs[i]? = some x → M.1 (k + 1) i = x
/-- the same but for line k -/
def ln_ag (k : Nat) (M N : kz_M) : Prop := N.2 = M.2 ∧ ∀ j, j ≠ k → j ≠ k + 1 → N.1 j = M.1 j
theorem ln_ag.rf {k : Nat} {M : kz_M} : ln_ag k M M := ⟨rfl, fun _ _ _ => rfl⟩
theorem ln_ag.tr {k : Nat} {M N O : kz_M} (h1 : ln_ag k M N) (h2 : ln_ag k N O) : ln_ag k M O := ⟨h2.1.trans h1.1, fun j a b => (h2.2 j a b).trans (h1.2 j a b)⟩
theorem ln_at.ag {k q : Nat} {M N : kz_M} {xs : List Int32} (h : ln_at M q xs) (ha : ln_ag k M N) (h1 : q ≠ k) (h2 : q ≠ k + 1) (h3 : q + 1 ≠ k) : ln_at N q xs :=
  ⟨by rw [ha.2 q h1 h2]; exact h.1, h.2.1, fun i x hx => by rw [ha.2 (q + 1) h3 (by omega)]; exact h.2.2 i x hx⟩
theorem ln_drop {xs ys : List Int32} {i : Nat} {y : Int32} (h : xs.drop i = y :: ys) : i < xs.length ∧ xs[i]? = some y ∧ xs.drop (i + 1) = ys := by
  have hl : i < xs.length := by
    apply Decidable.byContradiction
    intro q
    rw [List.drop_eq_nil_of_le (by omega)] at h
    cases h
  rw [List.drop_eq_getElem_cons hl] at h
  cases h
  exact ⟨hl, List.getElem?_eq_getElem hl, rfl⟩
theorem ln_drop0 {xs : List Int32} {i : Nat} (h : xs.drop i = []) : xs.length ≤ i := by
  apply Decidable.byContradiction
  intro q
  rw [List.drop_eq_getElem_cons (by omega)] at h
  cases h
theorem ln_in8 {i n : Nat} (h : i < n) (hn : n ≤ 8) : vp_in (nI i) 8 := vp_in_nI (by omega) (by decide)
theorem ln_read {M : kz_M} {k : Nat} {xs : List Int32} {i : Nat} {y : Int32} (h : ln_at M k xs) (hy : xs[i]? = some y) : M.1 (k + 1) (nI i).toNatClampNeg = y := by
  have hl : i < xs.length := (List.getElem?_eq_some_iff.mp hy).1
  have := h.2.1
  rw [nI_clamp (by omega)]
  exact h.2.2 i y hy
/-- an append -/
theorem ln_app {M : kz_M} {k : Nat} {xs : List Int32} {t : Int32} (h : ln_at M k xs) (h8 : xs.length < 8) : ln_at (kz_u (kz_u M.1 (k + 1) (M.1 k 1).toNatClampNeg t) k 1 (M.1 k 1 + 1), M.2) k (xs ++ [t]) ∧ ln_ag k M (kz_u (kz_u M.1 (k + 1) (M.1 k 1).toNatClampNeg t) k 1 (M.1 k 1 + 1), M.2) := by
  have hc : (M.1 k 1).toNatClampNeg = xs.length := by rw [h.1, nI_clamp (by omega)]
  refine ⟨⟨?_, ?_, ?_⟩, rfl, fun j h1 h2 => ?_⟩
  · show kz_u _ k 1 _ k 1 = _
    rw [kz_u_same, h.1, nI_1, List.length_append]
    rfl
  · rw [List.length_append]; simp; omega
  · intro i x hx
    show kz_u (kz_u M.1 (k + 1) _ t) k 1 _ (k + 1) i = x
    rw [kz_u_off _ _ _ _ (by omega), hc]
    by_cases hi : i < xs.length
    · rw [kz_u_ne _ _ _ _ (fun q => by omega)]
      rw [List.getElem?_append_left hi] at hx
      exact h.2.2 i x hx
    · rw [List.getElem?_append_right (by omega)] at hx
      have hz : i - xs.length < 1 := (List.getElem?_eq_some_iff.mp hx).1
      obtain rfl : i = xs.length := by omega
      rw [Nat.sub_self] at hx
      cases hx
      rw [kz_u_same]
  · show kz_u (kz_u M.1 (k + 1) _ t) k 1 _ j = _
    rw [kz_u_off _ _ _ _ h1, kz_u_off _ _ _ _ h2]
theorem ln_room {M : kz_M} {k : Nat} {xs : List Int32} (h : ln_at M k xs) (h8 : xs.length < 8) : vp_in (M.1 k 1) 8 ∧ ¬ Int32.ofNat 8 ≤ M.1 k 1 := by
  rw [h.1]
  exact ⟨vp_in_nI h8 (by decide), nI_ge h8 (by decide)⟩
theorem ln_clear {M : kz_M} {k : Nat} : ln_at (kz_u M.1 k 1 0, M.2) k [] ∧ ln_ag k M (kz_u M.1 k 1 0, M.2) :=
  ⟨⟨kz_u_same _ _ _ _, by simp, fun i x h => by simp at h⟩, rfl, fun j h1 _ => kz_u_off _ _ _ _ h1⟩
theorem ln_first {M : kz_M} {k : Nat} {t : Int32} {xs : List Int32} (h : ln_at M k (t :: xs)) : ln_at (kz_u M.1 k 1 (if 1 < M.1 k 1 then 1 else M.1 k 1), M.2) k [t] ∧ ln_ag k M (kz_u M.1 k 1 (if 1 < M.1 k 1 then 1 else M.1 k 1), M.2) := by
  have h8 := h.2.1
  have e : (if 1 < M.1 k 1 then 1 else M.1 k 1) = nI 1 := by
    rw [h.1]
    by_cases q : xs.length = 0
    · rw [List.length_cons, q]; decide
    · have hlt : (1 : Int32) < nI (t :: xs).length := nI_lt (a := 1) (b := (t :: xs).length) (by rw [List.length_cons]; omega) (by omega)
      rw [if_pos hlt]; rfl
  rw [e]
  refine ⟨⟨kz_u_same _ _ _ _, by simp, fun i x hx => ?_⟩, rfl, fun j h1 _ => kz_u_off _ _ _ _ h1⟩
  have hz : i < 1 := (List.getElem?_eq_some_iff.mp hx).1
  obtain rfl : i = 0 := by omega
  cases hx
  show kz_u M.1 k 1 _ (k + 1) 0 = t
  rw [kz_u_off _ _ _ _ (by omega)]
  exact h.2.2 0 t rfl
def cx_adr (M : kz_M) (t : Int32) : Int32 := M.1 13 t.toNatClampNeg
def cx_held (M : kz_M) (rs : List Int32) (w : Int32) : Bool := rs.any (fun r => !decide (w ≤ r) && decide (cx_adr M r = cx_adr M w))
def cx_last (M : kz_M) (ws : List Int32) (a : Int32) : Int32 := (ws.reverse.find? (fun t => decide (cx_adr M t = a))).getD (-1)
def cx_free (M : kz_M) (rs ws : List Int32) : List Int32 := ws.filter (fun w => !cx_held M rs w)
def cx_pick (M : kz_M) (rs ws : List Int32) : List Int32 := if M.1 0 12 = 0 then (if rs = [] then cx_free M rs ws else rs) else (if cx_free M rs ws = [] then rs else cx_free M rs ws)
def cx_look (M : kz_M) (rs ws : List Int32) : List Int32 := match cx_pick M rs ws with
  | [] => []
  | t :: r => if M.1 0 9 - M.1 15 t.toNatClampNeg ≤ M.1 0 1 then t :: r else [t]
def cx_want (M : kz_M) (lk : List Int32) (b : Int32) : Bool := lk.any (fun t => decide (ck_bank (cx_adr M t) = b) && decide (ck_row (cx_adr M t) = M.1 3 b.toNatClampNeg))
