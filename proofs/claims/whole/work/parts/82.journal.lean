/-! The relation of class and reference: the journal. -/
theorem gv_4 {R : kz_M} {g : Nat} {k b d t : Int32} : (rr_give R g k b d t).1 0 4 = R.1 0 4 + 1 := by
  unfold rr_give
  split <;> simp [kz_u]
def gv_v (i : Nat) (k b d n t : Int32) : Int32 := match i with
  | 0 => k
  | 1 => b
  | 2 => d
  | 3 => n
  | _ => t
theorem gv_J {R : kz_M} {g : Nat} {k b d t : Int32} (i : Nat) (hi : i < 5) (j : Nat) : (rr_give R g k b d t).1 (18 + i) j = if j = g % 32 then gv_v i k b d (R.1 0 2) t else R.1 (18 + i) j := by
  unfold rr_give
  match i, hi with
  | 0, _ => split <;> simp [kz_u, gv_v]
  | 1, _ => split <;> simp [kz_u, gv_v]
  | 2, _ => split <;> simp [kz_u, gv_v]
  | 3, _ => split <;> simp [kz_u, gv_v]
  | 4, _ => split <;> simp [kz_u, gv_v]
theorem je_row {M : kz_M} {r : Nat} {w b d c t : Int32} (hr : 27 ≤ r) (i : Nat) (hi : i < 5) : (cj_ent M r w b d c t).1 r i = gv_v i w b d c t := by
  simp only [cj_ent]
  rw [kz_u_off _ _ _ _ (by omega), kz_u_off _ _ _ _ (by omega), kz_u_off _ _ _ _ (by omega)]
  match i, hi with
  | 0, _ => simp [kz_u, gv_v]
  | 1, _ => simp [kz_u, gv_v]
  | 2, _ => simp [kz_u, gv_v]
  | 3, _ => simp [kz_u, gv_v]
  | 4, _ => simp [kz_u, gv_v]
theorem je_off {M : kz_M} {r : Nat} {w b d c t : Int32} (k : Nat) (hk : k ≠ r) (h25 : k ≠ 25) : (cj_ent M r w b d c t).1 k = M.1 k := by
  simp only [cj_ent]
  rw [kz_u_off _ _ _ _ h25, kz_u_off _ _ _ _ h25, kz_u_off _ _ _ _ h25, kz_u_off _ _ _ _ hk, kz_u_off _ _ _ _ hk, kz_u_off _ _ _ _ hk, kz_u_off _ _ _ _ hk, kz_u_off _ _ _ _ hk]
theorem je_25 {M : kz_M} {r : Nat} {w b d c t : Int32} : (cj_ent M r w b d c t).1 25 1 = M.1 25 1 + 1 - (M.1 25 1 + 1) / 32 * 32 ∧ (cj_ent M r w b d c t).1 25 2 = (if 32 < M.1 25 2 + 1 then 32 else M.1 25 2 + 1) ∧ (cj_ent M r w b d c t).1 25 3 = M.1 25 3 + 1 := by
  simp [cj_ent, kz_u]
theorem zJ_ent {g : Nat} {M R X S : kz_M} {k b d τ n : Int32} (h : zJ g M R) (hg : g ≤ 200000) (hn : R.1 0 2 = n) (hX : ∀ j, 25 ≤ j → X.1 j = M.1 j) (hS : ∀ j, 18 ≤ j → j ≤ 22 → S.1 j = (rr_give R g k b d τ).1 j) (h4 : S.1 0 4 = R.1 0 4 + 1) : zJ (g + 1) (cj_ent X (27 + g % 32) k b d n τ) S := by
  obtain ⟨a1, a2, a3, a4, a5⟩ := h
  obtain ⟨j1, j2, j3⟩ := je_25 (M := X) (r := 27 + g % 32) (w := k) (b := b) (d := d) (c := n) (t := τ)
  have hm := Nat.mod_lt g (show 0 < 32 by decide)
  refine ⟨?_, ?_, ?_, ?_, fun j hj i hi => ?_⟩
  · rw [j3, hX 25 (by decide), a1, nI_1]
  · rw [h4, a2, nI_1]
  · rw [j1, hX 25 (by decide), a3, nI_1, rr_g32 (by omega)]
    congr 1
    omega
  · rw [j2, hX 25 (by decide), a4, nI_1]
    have e : (32 < nI (min g 32 + 1)) ↔ 32 < min g 32 + 1 := nI_ltI (a := 32) (by decide) (by omega)
    by_cases q : 32 ≤ g
    · rw [if_pos (e.mpr (by omega))]
      show nI 32 = _
      congr 1
      omega
    · rw [if_neg (fun z => by have := e.mp z; omega)]
      congr 1
      omega
  · rw [hS (18 + i) (by omega) (by omega), gv_J i hi, hn]
    by_cases q : j = g % 32
    · rw [if_pos q, q, je_row (by omega) i hi]
    · rw [if_neg q, je_off (27 + j) (by omega) (by omega), hX (27 + j) (by omega)]
      exact a5 j hj i hi
