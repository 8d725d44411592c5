/-! The relation of class and reference: a cycle. -/
def zZ (t u v c g b e : Nat) (M R : kz_M) (wq rs ws : List Int32) : Prop := zX t u c b e M R wq rs ws ∧ sB v M R ∧ zJ g M R
theorem z_ag {t u v c g b e : Nat} {M N R : kz_M} {wq rs ws : List Int32} (h : zZ t u v c g b e M R wq rs ws) (ha : cy_ag N M) : zZ t u v c g b e N R wq rs ws :=
  ⟨zX_fr h.1 (fun k a => ha.2 k (by omega)) (by rw [ha.2 1 (by decide)]) ha.1 (fun _ _ => rfl) (fun _ _ _ _ _ => rfl) rfl rfl, sB_fr h.2.1 (fun k a a' => ha.2 k (by omega)) rfl (fun _ _ _ => rfl) rfl rfl, zJ_fr h.2.2 (fun k a => ha.2 k (by omega)) (fun _ _ _ => rfl) rfl⟩
theorem z_rag {t u v c g b e : Nat} {M R O : kz_M} {wq rs ws : List Int32} (h : zZ t u v c g b e M R wq rs ws) (ha : rq_ag R O) : zZ t u v c g b e M O wq rs ws :=
  ⟨zX_fr h.1 (fun _ _ => rfl) rfl rfl (fun k a => ha.2 k (by omega)) (fun j a1 a2 a3 a4 => by rw [ha.2 0 (by decide)]) (by rw [ha.1]) (by rw [ha.1]), sB_fr h.2.1 (fun _ _ _ => rfl) (ha.2 1 (by decide)) (fun k a a' => ha.2 k (by omega)) (by rw [ha.2 0 (by decide)]) (by rw [ha.2 0 (by decide)]), zJ_fr h.2.2 (fun _ _ => rfl) (fun k a a' => ha.2 k (by omega)) (by rw [ha.2 0 (by decide)])⟩
theorem z_tk {t u v c g b e : Nat} {M R : kz_M} {wq rs ws : List Int32} (h : zZ t u v c g b e M R wq rs ws) : zZ (t + 1) u v c g b e (cy_tk M) (kz_u R.1 0 2 (R.1 0 2 + 1), R.2) wq rs ws := by
  obtain ⟨⟨hN, hS, hO, hW, hQ, hP, hL⟩, hB, hJ⟩ := h
  have mk : ∀ k, k ≠ 0 → (cy_tk M).1 k = M.1 k := fun k a => kz_u_off _ _ _ _ a
  have m0 : ∀ j, j ≠ 9 → (cy_tk M).1 0 j = M.1 0 j := fun j a => by simp only [cy_tk]; rw [kz_u_ne _ _ _ _ (fun z => a z.2)]
  have rk : ∀ k, k ≠ 0 → (kz_u R.1 0 2 (R.1 0 2 + 1)) k = R.1 k := fun k a => kz_u_off _ _ _ _ a
  have r0 : ∀ j, j ≠ 2 → (kz_u R.1 0 2 (R.1 0 2 + 1)) 0 j = R.1 0 j := fun j a => by rw [kz_u_ne _ _ _ _ (fun z => a z.2)]
  refine ⟨⟨⟨?_, ?_⟩, ⟨?_, ?_, ?_, ?_, ?_, ?_, ?_⟩, ?_, zW_fr hW (mk 11 (by decide)) rfl (rk 3 (by decide)) rfl, zQ_fr hQ (fun k a _ => mk k (by omega)) rfl (fun k a _ => rk k (by omega)) (r0 7 (by decide)) rfl, zP_fr hP (mk 17 (by decide)) (mk 18 (by decide)) (by rw [mk 1 (by decide)]) (fun k a _ => rk k (by omega)) (r0 30 (by decide)) (r0 31 (by decide)), zL_fr hL (mk 14 (by decide)) (mk 17 (by decide)) (rk 8 (by decide)) (rk 9 (by decide)) (rk 15 (by decide)) (r0 26 (by decide)) (r0 27 (by decide)) (r0 28 (by decide))⟩, sB_fr hB (fun k a _ => mk k (by omega)) (rk 1 (by decide)) (fun k a b' => rk k (by omega)) (r0 16 (by decide)) (r0 17 (by decide)), zJ_fr hJ (fun k a => mk k (by omega)) (fun k a b' => rk k (by omega)) (r0 4 (by decide))⟩
  · simp only [cy_tk]; rw [kz_u_same, hN.1, nI_1]
  · simp only []; rw [kz_u_same, hN.2, nI_1]
  · rw [m0 0 (by decide)]; exact hS.1.trans (r0 0 (by decide)).symm
  · rw [m0 1 (by decide)]; exact hS.2.1.trans (r0 1 (by decide)).symm
  · rw [m0 11 (by decide)]; exact hS.2.2.1.trans (r0 3 (by decide)).symm
  · rw [m0 12 (by decide)]; exact hS.2.2.2.1.trans (r0 8 (by decide)).symm
  · rw [m0 13 (by decide)]; exact hS.2.2.2.2.1.trans (r0 5 (by decide)).symm
  · rw [m0 14 (by decide)]; exact hS.2.2.2.2.2.1.trans (r0 6 (by decide)).symm
  · rw [m0 14 (by decide)]; exact hS.2.2.2.2.2.2
  · unfold zO
    rw [m0 10 (by decide), mk 2 (by decide)]
    exact hO
theorem ln_ow {M : kz_M} {k : Nat} {xs : List Int32} (h : ln_at M k xs) (hk : k ≠ 0) : ln_at (co_owe M) k xs :=
  ⟨by rw [owe_o.2.1 k hk]; exact h.1, h.2.1, fun i x hx => by rw [owe_o.2.1 (k + 1) (by omega)]; exact h.2.2 i x hx⟩
/-- the relation between two cycles -/
def zR (t : Nat) (M R : kz_M) (rs ws : List Int32) : Prop := ∃ (wq : List Int32) (g c b e : Nat), zZ t t t c g b e M R wq rs ws ∧ g ≤ t
theorem z_step {t n : Nat} {M N R : kz_M} {rs ws rs' ws' : List Int32} (h : zR t M R rs ws) (hwf : cy_wf M rs ws) (hn : n < 32) (hnx : M.1 25 1 = nI n) (hR : cy_R M n rs ws N rs' ws') (ht : t < 200000) : ∃ (wq : List Int32) (g c e : Nat), rq_at R wq ∧ g < 2 ^ 31 ∧ R.1 0 4 = nI g ∧ c + wq.length ≤ 400 ∧ rc_bs R c e ∧ vp_in (R.1 0 6) 256 ∧ ¬ R.1 1 13 = 0 ∧ ∀ S, rc_R (rc_in R c e) wq g c S → zR (t + 1) N S rs' ws' := by
  obtain ⟨wq, g, c, b, e, ⟨hX, hB, hJ⟩, hg⟩ := h
  obtain ⟨hN, hS, hO, hW, hQ, hP, hL⟩ := id hX
  obtain ⟨u, u1, u2, u3, u4⟩ := hB.1 13 (by decide)
  have c4 := hQ.2.2.1
  have hb8 := hL.2.2.2.2.2.2.2
  refine ⟨wq, g, b, e, hL.1, by omega, hJ.2.1, by omega, hP.1, by rw [← hS.2.2.2.2.2.1]; exact hS.2.2.2.2.2.2, by rw [u4]; exact nI_ne0 (by omega) (by omega), fun S hRS => ?_⟩
  have hm32 := Nat.mod_lt g (show 0 < 32 by decide)
  obtain rfl : n = g % 32 := (nI_eq (by omega) (by omega)).mp (hnx.symm.trans hJ.2.2.1)
  obtain ⟨e', x1, x2, x3⟩ := z_owe hX hB hJ (by omega)
  have l1 := ln_ow hwf.1 (by decide)
  have l2 := ln_ow hwf.2.1 (by decide)
  have hq : ∃ q, q ≤ 8 ∧ (co_owe M).1 0 0 = nI q ∧ rs.length ≤ q ∧ ws.length ≤ q := by
    rw [owe_o.2.2 0 (by decide) (by decide)]
    exact hwf.2.2.2.2.2.1
  have hf := fst_eq x1 l1 l2
  obtain ⟨O, hO1, rfl⟩ := hRS
  unfold cy_R at hR
  rw [hf] at hR
  by_cases q : rc_b (rc_in R b e) = true
  · rw [if_pos q] at hR hO1
    obtain ⟨ha, rfl, rfl⟩ := hR
    subst hO1
    obtain ⟨g', hg', y1, y2, y3⟩ := z_roc x1 x2 x3 (by omega) (by omega)
    exact ⟨wq, g', c, b, e', z_ag (z_tk ⟨y1, y2, y3⟩) ha, by omega⟩
  · rw [if_neg q] at hR hO1
    have hd := drv_eq x1 l1 l2 hq
    obtain ⟨y1, y2, y3⟩ := z_dr x1 x2 x3 l1 l2 hq
    have hdd : (co_dr (co_owe M)).1 0 12 = kz_ib (rr_drv (rc_in R b e)) := by
      simp only [co_dr]
      rw [kz_u_same, hd]
    have hlk := z_look y1 hdd
    obtain ⟨O1, hag, -, hO2⟩ := hO1
    obtain ⟨w1, w2, w3⟩ := z_rag ⟨y1, y2, y3⟩ hag
    rw [← hlk] at hR
    have hmay := z_may w1 w2 (by omega) (rq_cap (rv_dr (rc_in R b e)) wq (rv_fl (rv_dr (rc_in R b e)) wq (rr_drv (rc_in R b e))))
    rcases hO2 with ⟨k, x, m, o1, o2, o3, o4⟩ | ⟨o1, rfl⟩
    · rw [o1, Option.map_some, gd_at o2] at hmay
      have hmx : cx_may (co_dr (co_owe M)) x = true := by
        have := List.find?_some hmay
        exact this
      rw [hmay] at hR
      simp only [] at hR
      obtain ⟨p1, -⟩ := z_pt w1.2.2.2.2.1 w1.2.2.2.2.2.2 x (List.mem_of_getElem? o2)
      rw [p1] at o4
      cases hw : cx_w (co_dr (co_owe M)) x
      · rw [hw] at o4 hR
        rw [if_neg (by decide)] at hR
        obtain ⟨ha, rfl, rfl⟩ := hR
        obtain ⟨v1, v2, v3⟩ := z_trr w1 w2 w3 (by omega) (by omega) o2 o3 hw hmx o4
        exact ⟨wq.eraseIdx k, g + 1, c, b + 1, e', z_ag (z_tk ⟨v1, v2, v3⟩) ha, by omega⟩
      · rw [hw] at o4 hR
        rw [if_pos rfl] at hR
        obtain ⟨ha, rfl, rfl⟩ := hR
        obtain ⟨v1, v2, v3⟩ := z_trw w1 w2 w3 (by omega) (by omega) o2 o3 hw hmx o4
        exact ⟨wq.eraseIdx k, g + 1, c, b, e', z_ag (z_tk ⟨v1, v2, v3⟩) ha, by omega⟩
    · rw [o1, Option.map_none] at hmay
      rw [hmay] at hR
      simp only [] at hR
      obtain ⟨ha, rfl, rfl⟩ := hR
      obtain ⟨g', hg', v1, v2, v3⟩ := z_do w1 w2 w3 (by omega) (by omega) (rq_cap (rv_dr (rc_in R b e)) wq (rv_fl (rv_dr (rc_in R b e)) wq (rr_drv (rc_in R b e))))
      exact ⟨wq, g', c, b, e', z_ag (z_tk ⟨v1, v2, v3⟩) ha, by omega⟩
