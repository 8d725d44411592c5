/-! The relation of class and reference: all but the banks. -/
def zN (t : Nat) (M R : kz_M) : Prop := M.1 0 9 = nI t ∧ R.1 0 2 = nI t
def zS (M R : kz_M) : Prop := M.1 0 0 = R.1 0 0 ∧ M.1 0 1 = R.1 0 1 ∧ M.1 0 11 = R.1 0 3 ∧ M.1 0 12 = R.1 0 8 ∧ M.1 0 13 = R.1 0 5 ∧ M.1 0 14 = R.1 0 6 ∧ vp_in (M.1 0 14) 256
def zO (t : Nat) (M : kz_M) : Prop := ∃ s u, 1 ≤ u ∧ u ≤ 400 ∧ M.1 0 10 = nI s ∧ M.1 2 13 = nI u ∧ ((t = 0 ∧ s = 0) ∨ (1 ≤ s ∧ s ≤ u ∧ ∃ k, t = s + k * u))
def zW (M R : kz_M) : Prop := ∀ a, a < 256 → cw_get M a = rw_get R a ∧ bt_ok (cw_get M a)
def zg (t : Nat) (x y : Int32) : Int32 := if x = 0 then 0 else if nI t ≤ y then 1 else x
def zQ (t c : Nat) (M R : kz_M) : Prop := M.1 12 6 = nI c ∧ R.1 0 7 = nI c ∧ c ≤ 400 ∧ (∀ i, i < c → M.1 13 i = R.1 9 i ∧ M.1 14 i = R.1 8 i ∧ M.1 15 i = R.1 10 i ∧ M.2 16 i = R.2 12 i ∧ R.1 11 i = zg t (M.1 17 i) (M.1 18 i)) ∧ ∀ i, c ≤ i → i < 400 → M.1 17 i = 0 ∧ M.2 16 i = 0
def zPa (t c b e : Nat) (T U : Nat → Nat) (M R : kz_M) : Prop := (∀ i, e ≤ i → i < b → T i < c ∧ R.1 16 i = nI (T i) ∧ R.1 13 (T i) = nI (U i) ∧ M.1 18 (T i) = nI (U i) ∧ t ≤ U i ∧ R.1 14 (T i) = M.1 17 (T i) ∧ M.1 17 (T i) ≠ 0 ∧ ∃ v, M.1 1 10 = nI v ∧ v ≤ 300000 ∧ U i ≤ v + 4) ∧ (∀ i j, e ≤ i → i < j → j < b → U i < U j) ∧ ∀ τ, τ < c → M.1 17 τ ≠ 0 → nI t ≤ M.1 18 τ → ∃ i, e ≤ i ∧ i < b ∧ T i = τ
def zP (t c b e : Nat) (M R : kz_M) : Prop := rc_bs R b e ∧ ∃ T U : Nat → Nat, zPa t c b e T U M R
def zL (c b : Nat) (M R : kz_M) (wq rs ws : List Int32) : Prop := rq_at R wq ∧ wq.Pairwise (· < ·) ∧ (∀ x ∈ wq, ∃ j, j < c ∧ x = nI j ∧ M.1 17 j = 0) ∧ rs = wq.filter (fun x => !cx_w M x) ∧ ws = wq.filter (cx_w M) ∧ R.1 0 27 = nI rs.length ∧ R.1 0 28 = nI ws.length ∧ b + wq.length ≤ c
def zJ (g : Nat) (M R : kz_M) : Prop := M.1 25 3 = nI g ∧ R.1 0 4 = nI g ∧ M.1 25 1 = nI (g % 32) ∧ M.1 25 2 = nI (min g 32) ∧ ∀ j, j < 32 → ∀ k, k < 5 → M.1 (27 + j) k = R.1 (18 + k) j
def zX (t u c b e : Nat) (M R : kz_M) (wq rs ws : List Int32) : Prop := zN t M R ∧ zS M R ∧ zO u M ∧ zW M R ∧ zQ u c M R ∧ zP u c b e M R ∧ zL c b M R wq rs ws
theorem zX_fr {t u c b e : Nat} {M R N S : kz_M} {wq rs ws : List Int32} (h : zX t u c b e M R wq rs ws) (hM : ∀ k, (k = 0 ∨ k = 2 ∨ (11 ≤ k ∧ k ≤ 18)) → N.1 k = M.1 k) (h1 : N.1 1 10 = M.1 1 10) (hM2 : N.2 = M.2) (hR : ∀ k, (k = 3 ∨ (8 ≤ k ∧ k ≤ 16)) → S.1 k = R.1 k) (h0 : ∀ j, j ≤ 31 → j ≠ 4 → j ≠ 16 → j ≠ 17 → S.1 0 j = R.1 0 j) (h2 : S.2 2 = R.2 2) (h12 : S.2 12 = R.2 12) : zX t u c b e N S wq rs ws := by
  have ew : cx_w N = cx_w M := by funext x; unfold cx_w; rw [hM 14 (by decide)]
  have eg : ∀ a, cw_get N a = cw_get M a := fun a => by unfold cw_get; rw [hM 11 (by decide), hM2]
  have er : ∀ a, rw_get S a = rw_get R a := fun a => by unfold rw_get; rw [hR 3 (by decide), h2]
  unfold zX zN zS zO zW zQ zP zPa zL rc_bs rq_at at *
  rw [hM 0 (by decide), hM 2 (by decide), hM 12 (by decide), hM 13 (by decide), hM 14 (by decide), hM 15 (by decide), hM 17 (by decide), hM 18 (by decide), h1, hM2, hR 8 (by decide), hR 9 (by decide), hR 10 (by decide), hR 11 (by decide), hR 13 (by decide), hR 14 (by decide), hR 15 (by decide), hR 16 (by decide), h0 0 (by decide) (by decide) (by decide) (by decide), h0 1 (by decide) (by decide) (by decide) (by decide), h0 2 (by decide) (by decide) (by decide) (by decide), h0 3 (by decide) (by decide) (by decide) (by decide), h0 5 (by decide) (by decide) (by decide) (by decide), h0 6 (by decide) (by decide) (by decide) (by decide), h0 7 (by decide) (by decide) (by decide) (by decide), h0 8 (by decide) (by decide) (by decide) (by decide), h0 26 (by decide) (by decide) (by decide) (by decide), h0 27 (by decide) (by decide) (by decide) (by decide), h0 28 (by decide) (by decide) (by decide) (by decide), h0 30 (by decide) (by decide) (by decide) (by decide), h0 31 (by decide) (by decide) (by decide) (by decide), h12, ew]
  simp only [eg, er]
  exact h
theorem zJ_fr {g : Nat} {M R N S : kz_M} (h : zJ g M R) (hM : ∀ k, 25 ≤ k → N.1 k = M.1 k) (hR : ∀ k, 18 ≤ k → k ≤ 22 → S.1 k = R.1 k) (h4 : S.1 0 4 = R.1 0 4) : zJ g N S := by
  obtain ⟨a, b, c, d, f⟩ := h
  unfold zJ
  rw [hM 25 (by decide), h4]
  exact ⟨a, b, c, d, fun j hj k hk => by rw [hM (27 + j) (by omega), hR (18 + k) (by omega) (by omega)]; exact f j hj k hk⟩
