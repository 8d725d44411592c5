/-! The relation of class and reference: kept by a precharge, an activate, a refresh. -/
theorem z_pre {t u c b e g k : Nat} {M R : kz_M} {wq rs ws : List Int32} (h : zX t u c b e M R wq rs ws) (hB : sB t M R) (hJ : zJ g M R) (hg : g ≤ 200000) (hk : k < 4) : zX t u c b e (co_pre M (g % 32) (nI k)) (rr_pre R g (nI k)) wq rs ws ∧ sB (t + 1) (co_pre M (g % 32) (nI k)) (rr_pre R g (nI k)) ∧ zJ (g + 1) (co_pre M (g % 32) (nI k)) (rr_pre R g (nI k)) := by
  obtain ⟨hm, hn⟩ := h.1
  have ro : ∀ j, j ≠ 4 → (rr_pre R g (nI k)).1 j = (rr_give R g 1 (nI k) (-1) (-1)).1 j := fun j h4 => by
    simp only [rr_pre]
    rw [kz_u_off _ _ _ _ h4]
  have mo : ∀ j, j ≠ 3 → j ≠ 5 → (cb_pre M (nI k) (nI t)).1 j = M.1 j := fun j a c => by
    simp only [cb_pre]
    rw [kz_u_off _ _ _ _ c, kz_u_off _ _ _ _ a]
  have jo : ∀ j, j < 25 → (co_pre M (g % 32) (nI k)).1 j = (cb_pre M (nI k) (nI t)).1 j := fun j a => by
    unfold co_pre
    rw [je_off j (by omega) (by omega), hm]
  refine ⟨zX_fr h (fun j a => ?_) ?_ rfl (fun j a => ?_) (fun j a1 a2 a3 a4 => ?_) rfl rfl, sB_fr (sB_kpre (g := g) hB hk hn) (fun j a a' => jo j (by omega)) rfl (fun _ _ _ => rfl) rfl rfl, ?_⟩
  · rw [jo j (by omega), mo j (by omega) (by omega)]
  · rw [jo 1 (by omega), mo 1 (by omega) (by omega)]
  · rw [ro j (by omega), gv_row j (by omega) (by omega) (by omega) (by omega)]
  · rw [ro 0 (by decide), gv_0 j a2]
  · unfold co_pre
    rw [hm]
    exact zJ_ent hJ hg hn (fun j a => mo j (by omega) (by omega)) (fun j a a' => ro j (by omega)) (by rw [ro 0 (by decide), gv_4])
theorem z_act {t u c b e g k r : Nat} {M R : kz_M} {wq rs ws : List Int32} (h : zX t u c b e M R wq rs ws) (hB : sB t M R) (hJ : zJ g M R) (hg : g ≤ 200000) (hk : k < 4) (hr : r < 8) : zX t u c b e (co_act M (g % 32) (nI k) (nI r)) (rr_act R g (nI k) (nI r)) wq rs ws ∧ sB (t + 1) (co_act M (g % 32) (nI k) (nI r)) (rr_act R g (nI k) (nI r)) ∧ zJ (g + 1) (co_act M (g % 32) (nI k) (nI r)) (rr_act R g (nI k) (nI r)) := by
  obtain ⟨hm, hn⟩ := h.1
  have mo : ∀ j, j ≠ 3 → j ≠ 4 → j ≠ 8 → (cb_act M (nI k) (nI r) (nI t)).1 j = M.1 j := fun j a c d => by
    funext i
    simp only [cb_act]
    rw [if_neg d, kz_u_off _ _ _ _ c, kz_u_off _ _ _ _ a]
  have jo : ∀ j, j < 25 → (co_act M (g % 32) (nI k) (nI r)).1 j = (cb_act M (nI k) (nI r) (nI t)).1 j := fun j a => by
    unfold co_act
    rw [je_off j (by omega) (by omega), hm]
  refine ⟨zX_fr h (fun j a => ?_) ?_ rfl (fun j a => ?_) (fun j a1 a2 a3 a4 => ?_) rfl rfl, sB_fr (sB_kact (g := g) hB hk hr hn) (fun j a a' => jo j (by omega)) rfl (fun _ _ _ => rfl) rfl rfl, ?_⟩
  · rw [jo j (by omega), mo j (by omega) (by omega) (by omega)]
  · rw [jo 1 (by omega), mo 1 (by omega) (by omega) (by omega)]
  · rw [act_o j (by omega) (by omega), gv_row j (by omega) (by omega) (by omega) (by omega)]
  · rw [act_o 0 (by decide) (by decide), gv_0 j a2]
  · unfold co_act
    rw [hm]
    exact zJ_ent hJ hg hn (fun j a => mo j (by omega) (by omega) (by omega)) (fun j a a' => act_o j (by omega) (by omega)) (by rw [act_o 0 (by decide) (by decide), gv_4])
theorem zX_fr0 {t u c b e : Nat} {M R N S : kz_M} {wq rs ws : List Int32} (h : zX t u c b e M R wq rs ws) (hN : zN t N S) (hS : zS N S) (hO : zO u N) (hW : zW N S) (hM : ∀ k, 12 ≤ k → k ≤ 18 → N.1 k = M.1 k) (h1 : N.1 1 10 = M.1 1 10) (h16 : N.2 16 = M.2 16) (hR : ∀ k, 8 ≤ k → k ≤ 16 → S.1 k = R.1 k) (h0 : ∀ j, j = 7 ∨ j = 26 ∨ j = 27 ∨ j = 28 ∨ j = 30 ∨ j = 31 → S.1 0 j = R.1 0 j) (h12 : S.2 12 = R.2 12) : zX t u c b e N S wq rs ws := by
  obtain ⟨-, -, -, -, hQ, hP, hL⟩ := h
  exact ⟨hN, hS, hO, hW, zQ_fr hQ hM h16 (fun k a a' => hR k a (by omega)) (h0 7 (by omega)) h12, zP_fr hP (hM 17 (by decide) (by decide)) (hM 18 (by decide) (by decide)) h1 (fun k a a' => hR k (by omega) a') (h0 30 (by omega)) (h0 31 (by omega)), zL_fr hL (hM 14 (by decide) (by decide)) (hM 17 (by decide) (by decide)) (hR 8 (by decide) (by decide)) (hR 9 (by decide) (by decide)) (hR 15 (by decide) (by decide)) (h0 26 (by omega)) (h0 27 (by omega)) (h0 28 (by omega))⟩
theorem z_rf0 {t u c b e g : Nat} {M R : kz_M} {wq rs ws : List Int32} (h : zX t u c b e M R wq rs ws) (hB : sB t M R) (hJ : zJ g M R) (hg : g ≤ 200000) : zX t u c b e (co_rf0 M (g % 32)) (rr_rf0 R g) wq rs ws ∧ sB (t + 1) (co_rf0 M (g % 32)) (rr_rf0 R g) ∧ zJ (g + 1) (co_rf0 M (g % 32)) (rr_rf0 R g) := by
  obtain ⟨hm, hn⟩ := h.1
  have ro : ∀ j, j ≠ 0 → (rr_rf0 R g).1 j = (rr_give R g 4 (-1) (-1) (-1)).1 j := fun j h4 => by
    simp only [rr_rf0]
    rw [kz_u_off _ _ _ _ h4]
  have r0 : ∀ j, j ≠ 3 → (rr_rf0 R g).1 0 j = (rr_give R g 4 (-1) (-1) (-1)).1 0 j := fun j h4 => by
    simp only [rr_rf0]
    rw [kz_u_ne _ _ _ _ (fun z => h4 z.2)]
  have r3 : (rr_rf0 R g).1 0 3 = R.1 0 3 - 1 := by
    simp only [rr_rf0]
    rw [kz_u_same]
  have m11 : (co_rf0 M (g % 32)).1 0 11 = M.1 0 11 - 1 := by
    simp only [co_rf0]
    rw [kz_u_same]
  have jo : ∀ j, 1 ≤ j → j < 25 → (co_rf0 M (g % 32)).1 j = (kz_u M.1 1 9 (nI t)) j := fun j a' a => by
    simp only [co_rf0]
    rw [kz_u_off _ _ _ _ (by omega), je_off j (by omega) (by omega), hm]
  have mk : ∀ j, 2 ≤ j → j < 25 → (co_rf0 M (g % 32)).1 j = M.1 j := fun j a a' => by
    rw [jo j (by omega) (by omega), kz_u_off _ _ _ _ (by omega)]
  have m0 : ∀ j, j ≠ 11 → (co_rf0 M (g % 32)).1 0 j = M.1 0 j := fun j a => by
    simp only [co_rf0]
    rw [kz_u_ne _ _ _ _ (fun z => a z.2), je_off 0 (by omega) (by omega)]
    simp only []
    rw [kz_u_off _ _ _ _ (by omega)]
  obtain ⟨-, hS, hO, hW, -, -, -⟩ := id h
  refine ⟨zX_fr0 h ⟨?_, ?_⟩ ⟨?_, ?_, ?_, ?_, ?_, ?_, ?_⟩ ?_ (zW_fr hW (mk 11 (by decide) (by decide)) rfl (by rw [ro 3 (by decide), gv_row 3 (by decide) (by decide) (by decide) (by decide)]) rfl) (fun j a a' => mk j (by omega) (by omega)) ?_ rfl (fun j a a' => by rw [ro j (by omega), gv_row j (by omega) (by omega) (by omega) (by omega)]) (fun j a => by rw [r0 j (by omega), gv_0 j (by omega)]) rfl, sB_fr (sB_kref (g := g) hB hn) (fun j a a' => jo j (by omega) (by omega)) (ro 1 (by decide)) (fun j a a' => ro j (by omega)) (r0 16 (by decide)) (r0 17 (by decide)), ?_⟩
  · rw [m0 9 (by decide)]; exact hm
  · rw [r0 2 (by decide), gv_0 2 (by decide)]; exact hn
  · rw [m0 0 (by decide), r0 0 (by decide), gv_0 0 (by decide)]; exact hS.1
  · rw [m0 1 (by decide), r0 1 (by decide), gv_0 1 (by decide)]; exact hS.2.1
  · rw [m11, r3, hS.2.2.1]
  · rw [m0 12 (by decide), r0 8 (by decide), gv_0 8 (by decide)]; exact hS.2.2.2.1
  · rw [m0 13 (by decide), r0 5 (by decide), gv_0 5 (by decide)]; exact hS.2.2.2.2.1
  · rw [m0 14 (by decide), r0 6 (by decide), gv_0 6 (by decide)]; exact hS.2.2.2.2.2.1
  · rw [m0 14 (by decide)]; exact hS.2.2.2.2.2.2
  · unfold zO; rw [m0 10 (by decide), mk 2 (by decide) (by decide)]; exact hO
  · rw [jo 1 (by decide) (by decide), kz_u_ne _ _ _ _ (by decide)]
  · refine zJ_fr (zJ_ent (X := (kz_u M.1 1 9 (M.1 0 9), M.2)) (S := rr_give R g 4 (-1) (-1) (-1)) hJ hg hn (fun j a => kz_u_off _ _ _ _ (by omega)) (fun _ _ _ => rfl) gv_4) (fun j a => ?_) (fun j a a' => ro j (by omega)) (r0 4 (by decide))
    simp only [co_rf0]
    rw [kz_u_off _ _ _ _ (by omega), hm]
