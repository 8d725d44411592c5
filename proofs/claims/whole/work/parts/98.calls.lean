/-! The relation of class and reference: the calls. -/
theorem adr_eq {a : Int32} : (a < 0 ∨ ¬ a ≤ 255) ↔ ck_adr a = false := by
  unfold ck_adr
  rw [Bool.and_eq_false_iff, Bool.not_eq_false', decide_eq_true_eq, Bool.not_eq_false', decide_eq_true_eq]
  have : ¬ a ≤ 255 ↔ 256 ≤ a := by
    rw [Int32.le_iff_toInt_le, Int32.le_iff_toInt_le, show (255 : Int32).toInt = 255 by decide, show (256 : Int32).toInt = 256 by decide]
    omega
  rw [this]
theorem out_eq2 {c : Nat} {M R : kz_M} (hc : c ≤ 400) (h1 : M.1 12 6 = nI c) (h2 : R.1 0 7 = nI c) : (cq_out M = true ↔ R.1 0 7 = 400) ∧ (¬ R.1 0 7 = 400 → c < 400) := by
  unfold cq_out
  rw [h1, h2, Bool.not_eq_true', decide_eq_false_iff_not, show (400 : Int32) = nI 400 from rfl, nI_ltI (by omega) (by decide), nI_eq (by omega) (by decide)]
  omega
theorem zCl_read (l : Launch) (a : Int32) : zCl l true m_Bk_read m_Mo_read [.ref 0, .int a] := by
  intro k M R hF hk
  obtain ⟨t, rs, ws, ⟨wq, g, c, b, e, hZ, hgt⟩, hwf, ht⟩ := hF
  obtain ⟨hN, hZS, hZO, hW, hQ, hP, hL⟩ := id hZ.1
  obtain ⟨l1, l2⟩ := z_last (a := a) hQ hL
  obtain ⟨o1, o2⟩ := out_eq2 (M := M) (R := R) hQ.2.2.1 hQ.1 hQ.2.1
  obtain ⟨h1w, h2w, -, -, -, ⟨q, q8, qe, ql, qw⟩, -⟩ := id hwf
  have hlen := zL_len hL
  have hR0 : R.1 0 0 = nI q := by rw [← hZS.1, qe]
  have hneg : rq_last R wq a < 0 ↔ cx_last M ws a = -1 := by
    rw [l1]
    rcases l2 with z | ⟨j, j1, z⟩
    · rw [z]; decide
    · rw [z]
      have c4 := hQ.2.2.1
      exact ⟨fun y => absurd y (nI_pos (by omega)), fun y => by
        have := congrArg Int32.toInt y
        rw [nI_toInt (n := j) (by omega), show (-1 : Int32).toInt = -1 by decide] at this
        omega⟩
  have hful : (¬ M.1 19 1 < M.1 0 0) ↔ R.1 0 27 = R.1 0 0 := by
    rw [h1w.1, qe, hR0, hL.2.2.2.2.2.1, nI_ltI (by omega) (by omega), nI_eq (by omega) (by omega)]
    omega
  refine ⟨fun r O => ∃ rs' r', r = .int r' ∧ cp_rd M rs ws a O rs' r' ∧ cy_wf O rs' ws, kz_Tm (fun v N z => ?_) (c_Bk_read l hwf), fun r O z => (by obtain ⟨_, _, q1, -⟩ := z; exact ⟨_, q1⟩), fun r O z => ?_⟩
  · obtain ⟨rs', r', z1, z2, z3⟩ := z
    exact ⟨_, z1, rs', r', rfl, z2, z3⟩
  · obtain ⟨rs', r', rfl, z2, z3⟩ := z
    refine kz_Tm (fun v N y => ?_) (c_Mo_read l (a := a) hL.1 hQ.2.1 o2 (fun y y2 => ?_))
    · obtain ⟨rfl, rfl⟩ := y
      unfold cp_rd at z2
      unfold rp_rd
      by_cases y1 : ck_adr a = false
      · rw [if_pos y1] at z2
        rw [if_pos (adr_eq.mpr y1)]
        obtain ⟨rfl, rfl, rfl⟩ := z2
        exact ⟨rfl, t, rs', ws, ⟨wq, g, c, b, e, hZ, hgt⟩, hwf, by omega⟩
      · rw [if_neg y1] at z2
        rw [if_neg (fun z => y1 (adr_eq.mp z))]
        by_cases y2 : cx_last M ws a = -1 ∧ ¬ M.1 19 1 < M.1 0 0
        · rw [if_pos y2] at z2
          rw [if_pos ⟨hneg.mpr y2.1, hful.mp y2.2⟩]
          obtain ⟨rfl, rfl, rfl⟩ := z2
          exact ⟨rfl, t, rs', ws, ⟨wq, g, c, b, e, hZ, hgt⟩, hwf, by omega⟩
        · rw [if_neg y2] at z2
          rw [if_neg (fun z => y2 ⟨hneg.mp z.1, hful.mpr z.2⟩)]
          by_cases y3 : cq_out M = true
          · rw [if_pos y3] at z2
            rw [if_pos (o1.mp y3)]
            obtain ⟨rfl, rfl, rfl⟩ := z2
            exact ⟨rfl, t, rs', ws, ⟨wq, g, c, b, e, hZ, hgt⟩, hwf, by omega⟩
          · rw [if_neg y3] at z2
            rw [if_neg (fun z => y3 (o1.mpr z))]
            have hc := o2 (fun z => y3 (o1.mpr z))
            obtain ⟨rfl, z4⟩ := z2
            by_cases y4 : cx_last M ws a = -1
            · rw [if_pos y4] at z4
              rw [if_pos (hneg.mpr y4), hQ.1]
              obtain ⟨z5, rfl⟩ := z4
              rw [hQ.1] at z3
              have hlt : rs.length < q := by
                have : M.1 19 1 < M.1 0 0 := Classical.not_not.mp (fun z => y2 ⟨y4, z⟩)
                rw [h1w.1, qe, nI_ltI (by omega) (by omega)] at this
                exact this
              have := z_new (w := false) (wd := 0) (a := a) (O := O) hZ hc (by omega) (ck_adr_in (by cases hh : ck_adr a; exact absurd hh y1; rfl)) (fun _ => rfl) (by rw [if_neg (by decide)]; exact z5)
              rw [if_neg (by decide), if_neg (by decide)] at this
              exact ⟨rfl, t, _, ws, ⟨_, g, c + 1, b, e, this, hgt⟩, z3, by omega⟩
            · rw [if_neg y4] at z4
              rw [if_neg (fun z => y4 (hneg.mp z)), hQ.1, l1]
              obtain ⟨rfl, rfl⟩ := z4
              have hwd : R.2 12 (cx_last M ws a).toNatClampNeg = M.2 16 (cx_last M ws a).toNatClampNeg := by
                rcases l2 with z | ⟨j, j1, z⟩
                · exact absurd z y4
                · have c4 := hQ.2.2.1
                  rw [z, nI_clamp (n := j) (by omega)]
                  exact (hQ.2.2.2.1 j j1).2.2.2.1.symm
              rw [hwd]
              exact ⟨rfl, t, _, ws, ⟨_, g, c + 1, b, e, z_fwd hZ hc (by omega), hgt⟩, z3, by omega⟩
    · have : ¬ R.1 0 27 = R.1 0 0 := y.2
      have h2 : M.1 19 1 < M.1 0 0 := Classical.not_not.mp (fun z => this (hful.mp z))
      rw [h1w.1, qe, nI_ltI (by omega) (by omega)] at h2
      omega
theorem zCl_write (l : Launch) (a : Int32) (v : Int64) : zCl l true m_Bk_write m_Mo_write [.ref 0, .int a, .long v] := by
  intro k M R hF hk
  obtain ⟨t, rs, ws, ⟨wq, g, c, b, e, hZ, hgt⟩, hwf, ht⟩ := hF
  obtain ⟨hN, hZS, hZO, hW, hQ, hP, hL⟩ := id hZ.1
  obtain ⟨o1, o2⟩ := out_eq2 (M := M) (R := R) hQ.2.2.1 hQ.1 hQ.2.1
  obtain ⟨h1w, h2w, -, -, -, ⟨q, q8, qe, ql, qw⟩, -⟩ := id hwf
  have hlen := zL_len hL
  have hR0 : R.1 0 0 = nI q := by rw [← hZS.1, qe]
  have hful : (¬ M.1 21 1 < M.1 0 0) ↔ R.1 0 28 = R.1 0 0 := by
    rw [h2w.1, qe, hR0, hL.2.2.2.2.2.2.1, nI_ltI (by omega) (by omega), nI_eq (by omega) (by omega)]
    omega
  refine ⟨fun r O => ∃ ws' r', r = .int r' ∧ cp_wr M ws a v O ws' r' ∧ cy_wf O rs ws', kz_Tm (fun v N z => ?_) (c_Bk_write l hwf), fun r O z => (by obtain ⟨_, _, q1, -⟩ := z; exact ⟨_, q1⟩), fun r O z => ?_⟩
  · obtain ⟨ws', r', z1, z2, z3⟩ := z
    exact ⟨_, z1, ws', r', rfl, z2, z3⟩
  · obtain ⟨ws', r', rfl, z2, z3⟩ := z
    refine kz_Tm (fun v N y => ?_) (c_Mo_write l (a := a) (v := v) hL.1 hQ.2.1 o2 (fun y y2 => ?_))
    · obtain ⟨rfl, rfl⟩ := y
      unfold cp_wr at z2
      unfold rp_wr
      by_cases y1 : ck_adr a = false
      · rw [if_pos y1] at z2
        rw [if_pos (adr_eq.mpr y1)]
        obtain ⟨rfl, rfl, rfl⟩ := z2
        exact ⟨rfl, t, rs, ws', ⟨wq, g, c, b, e, hZ, hgt⟩, hwf, by omega⟩
      · rw [if_neg y1] at z2
        rw [if_neg (fun z => y1 (adr_eq.mp z))]
        by_cases y2 : ¬ M.1 21 1 < M.1 0 0
        · rw [if_pos y2] at z2
          rw [if_pos (hful.mp y2)]
          obtain ⟨rfl, rfl, rfl⟩ := z2
          exact ⟨rfl, t, rs, ws', ⟨wq, g, c, b, e, hZ, hgt⟩, hwf, by omega⟩
        · rw [if_neg y2] at z2
          rw [if_neg (fun z => y2 (hful.mpr z))]
          by_cases y3 : cq_out M = true
          · rw [if_pos y3] at z2
            rw [if_pos (o1.mp y3)]
            obtain ⟨rfl, rfl, rfl⟩ := z2
            exact ⟨rfl, t, rs, ws', ⟨wq, g, c, b, e, hZ, hgt⟩, hwf, by omega⟩
          · rw [if_neg y3] at z2
            rw [if_neg (fun z => y3 (o1.mpr z))]
            have hc := o2 (fun z => y3 (o1.mpr z))
            obtain ⟨rfl, z5, rfl⟩ := z2
            rw [hQ.1] at z3
            have hlt : ws.length < q := by
              have : M.1 21 1 < M.1 0 0 := Classical.not_not.mp y2
              rw [h2w.1, qe, nI_ltI (by omega) (by omega)] at this
              exact this
            have := z_new (w := true) (wd := v) (a := a) (O := O) hZ hc (by omega) (ck_adr_in (by cases hh : ck_adr a; exact absurd hh y1; rfl)) (fun z => by cases z) (by rw [if_pos rfl]; exact z5)
            rw [if_pos rfl, if_pos rfl] at this
            exact ⟨by rw [hQ.1], t, rs, _, ⟨_, g, c + 1, b, e, this, hgt⟩, z3, by omega⟩
    · have : ¬ R.1 0 28 = R.1 0 0 := y
      have h2 : M.1 21 1 < M.1 0 0 := Classical.not_not.mp (fun z => this (hful.mp z))
      rw [h2w.1, qe, nI_ltI (by omega) (by omega)] at h2
      omega
