/-! Contracts of the reference: reading and writing. -/
def rp_rd (M : kz_M) (wq : List Int32) (c : Nat) (a : Int32) : Int32 × kz_M :=
  if a < 0 ∨ ¬ a ≤ 255 then (-1, M)
  else if rq_last M wq a < 0 ∧ M.1 0 27 = M.1 0 0 then (-2, M)
  else if M.1 0 7 = 400 then (-3, M)
  else if rq_last M wq a < 0 then (nI c, rr_add (rr_tick M c false a 0) wq.length (nI c) false)
  else (nI c, (kz_u (rr_tick M c false a (M.2 12 (rq_last M wq a).toNatClampNeg)).1 11 c 2, (rr_tick M c false a (M.2 12 (rq_last M wq a).toNatClampNeg)).2))
def rp_wr (M : kz_M) (wq : List Int32) (c : Nat) (a : Int32) (v : Int64) : Int32 × kz_M :=
  if a < 0 ∨ ¬ a ≤ 255 then (-1, M)
  else if M.1 0 28 = M.1 0 0 then (-2, M)
  else if M.1 0 7 = 400 then (-3, M)
  else (nI c, rr_add (rr_tick M c true a v) wq.length (nI c) true)
theorem rq_last_in {M : kz_M} {wq : List Int32} {a : Int32} (hq : rq_at M wq) (h : ¬ rq_last M wq a < 0) : vp_in (rq_last M wq a) 400 := by
  unfold rq_last at h ⊢
  cases hf : wq.reverse.find? (fun t => rq_w M t && decide (rq_a M t = a)) with
  | none => rw [hf] at h; exact absurd (by decide) h
  | some t => exact (hq.2.2.2 t (List.mem_reverse.mp (List.mem_of_find?_eq_some hf))).1
theorem tick_26 {M : kz_M} {c : Nat} {w : Bool} {a : Int32} {v : Int64} : (rr_tick M c w a v).1 0 26 = M.1 0 26 := by
  simp only [rr_tick]
  rw [kz_u_ne _ _ _ _ (by decide), kz_u_off _ _ _ _ (by decide), kz_u_off _ _ _ _ (by decide), kz_u_off _ _ _ _ (by decide), kz_u_off _ _ _ _ (by decide)]
theorem tick_8 {M : kz_M} {c : Nat} {w : Bool} {a : Int32} {v : Int64} : (rr_tick M c w a v).1 8 c = kz_ib w := by
  simp only [rr_tick]
  rw [kz_u_off _ _ _ _ (by decide), kz_u_off _ _ _ _ (by decide), kz_u_off _ _ _ _ (by decide), kz_u_off _ _ _ _ (by decide), kz_u_same]
set_option maxRecDepth 100000 in
set_option maxHeartbeats 1000000 in
theorem c_Mo_read (l : Launch) {M : kz_M} {wq : List Int32} {c : Nat} {a : Int32} (hq : rq_at M wq) (hc : M.1 0 7 = nI c) (hc4 : ¬ M.1 0 7 = 400 → c < 400) (hw : (rq_last M wq a < 0 ∧ ¬ M.1 0 27 = M.1 0 0) → ¬ M.1 0 7 = 400 → wq.length < 16) : kz_Dt l sR m_Mo_read [.ref 0, .int a] M (some (.int (rp_rd M wq c a).1)) (rp_rd M wq c a).2 := by
  refine kz_intro (by decide +kernel) (Nat.le_of_ble_eq_true rfl) ?_
  show kz_G l sR m_Mo_read 0 [some (.ref 0), some (.int a), none, none] [] M _
  refine kz_iload_n d_Mo_read_0 rfl rfl ?_
  refine kz_if_lt (tgt := 11) d_Mo_read_1 (by decide) rfl (fun h1 => ?_) (fun h1 => ?_)
  · refine kz_iconst (v := -1) d_Mo_read_11 (by decide) rfl ?_
    exact kz_iret rfl d_Mo_read_12 (by rw [rp_rd, if_pos (by first | exact Or.inl h1 | exact Or.inr h8)]; exact ⟨rfl, rfl⟩)
  · refine kz_iload_n d_Mo_read_4 rfl rfl ?_
    refine kz_sipush (v := 255) d_Mo_read_5 (by decide) rfl ?_
    refine kz_icmp_le (tgt := 13) d_Mo_read_8 (by decide) rfl (fun h8 => ?_) (fun h8 => ?_)
    · refine kz_aload_n d_Mo_read_13 rfl rfl ?_
      refine kz_iload_n d_Mo_read_14 rfl rfl ?_
      refine kz_callVi (c_Mo_writing l hq) cv_Mo_143 rfl rfl rfl ⟨by decide, by decide⟩ rfl (Nat.le_of_ble_eq_true rfl) d_Mo_read_15 rfl ?_
      refine kz_istore_n (i := 2) d_Mo_read_18 rfl rfl (Nat.le_of_ble_eq_true rfl) rfl ?_
      refine kz_iload_n d_Mo_read_19 rfl rfl ?_
      refine kz_if_ge (tgt := 37) d_Mo_read_20 (by decide) rfl (fun h20 => ?_) (fun h20 => ?_)
      · refine kz_aload_n d_Mo_read_37 rfl rfl ?_
        refine kz_getIp fd_Mo_131 rfl rfl (Or.inl rfl) d_Mo_read_38 rfl ?_
        refine kz_sipush (v := 400) d_Mo_read_41 (by decide) rfl ?_
        refine kz_icmp_ne (tgt := 50) d_Mo_read_44 (by decide) rfl (fun h44 => ?_) (fun h44 => ?_)
        · refine kz_aload_n d_Mo_read_50 rfl rfl ?_
          refine kz_iconst (v := kz_ib false) d_Mo_read_51 (by decide) rfl ?_
          refine kz_iload_n d_Mo_read_52 rfl rfl ?_
          refine kz_iload_n d_Mo_read_53 rfl rfl ?_
          refine kz_if_ge (tgt := 61) d_Mo_read_54 (by decide) rfl (fun h54 => ?_) (fun h54 => ?_)
          · have h20n : ¬ rq_last M wq a < 0 := Int32.not_lt.mpr h54
            have hin := rq_last_in hq h20n
            refine kz_aload_n d_Mo_read_61 rfl rfl ?_
            refine kz_getR fd_Mo_53 rfl rfl rfl d_Mo_read_62 rfl ?_
            refine kz_iload_n d_Mo_read_65 rfl rfl ?_
            refine kz_laldp rfl (by first | assumption | exact kz_vin (by decide)) rfl d_Mo_read_66 rfl ?_
            refine kz_callVi (c_Mo_ticket l (w := false) (hc4 h44) hc) cv_Mo_146 rfl rfl rfl ⟨by decide, by decide⟩ rfl (Nat.le_of_ble_eq_true rfl) d_Mo_read_67 rfl ?_
            refine kz_eta ?_
            refine kz_istore_n (i := 3) d_Mo_read_70 rfl rfl (Nat.le_of_ble_eq_true rfl) rfl ?_
            refine kz_iload_n d_Mo_read_71 rfl rfl ?_
            refine kz_if_ge (tgt := 83) d_Mo_read_72 (by decide) rfl (fun h72 => ?_) (fun h72 => ?_)
            · refine kz_aload_n d_Mo_read_83 rfl rfl ?_
              refine kz_getR fd_Mo_50 rfl rfl rfl d_Mo_read_84 rfl ?_
              have hcl : (nI c).toNatClampNeg = c := nI_clamp (by have := hc4 h44; omega)
              have hin2 : vp_in (nI c) 400 := vp_in_nI (hc4 h44) (by decide)
              refine kz_iload_n d_Mo_read_87 rfl rfl ?_
              refine kz_iconst (v := 2) d_Mo_read_88 (by decide) rfl ?_
              refine kz_iastp rfl (by first | assumption | exact kz_vin (by decide)) hcl d_Mo_read_89 rfl ?_
              refine kz_iload_n d_Mo_read_90 rfl rfl ?_
              exact kz_iret rfl d_Mo_read_91 (by first | (rw [rp_rd, if_neg (fun z => z.elim h1 (fun y => y h8)), if_neg (fun z => h31 z.2), if_neg h44, if_pos h20n]; exact ⟨rfl, rfl⟩) | (rw [rp_rd, if_neg (fun z => z.elim h1 (fun y => y h8)), if_neg (fun z => h20n z.1), if_neg h44, if_neg h20n]; exact ⟨rfl, rfl⟩))
            · exact absurd h20 h72
          · exact absurd h20 h54
        · refine kz_bipush (v := -3) d_Mo_read_47 (by decide) rfl ?_
          exact kz_iret rfl d_Mo_read_49 (by rw [rp_rd, if_neg (fun z => z.elim h1 (fun y => y h8)), if_neg (by first | exact fun z => h31 z.2 | exact fun z => absurd z.1 (Int32.not_lt.mpr h20)), if_pos h44]; exact ⟨rfl, rfl⟩)
      · have h20n : rq_last M wq a < 0 := Int32.not_le.mp h20
        refine kz_aload_n d_Mo_read_23 rfl rfl ?_
        refine kz_getIp fd_Mo_140 rfl rfl (Or.inl rfl) d_Mo_read_24 rfl ?_
        refine kz_aload_n d_Mo_read_27 rfl rfl ?_
        refine kz_getIp fd_Mo_86 rfl rfl (Or.inl rfl) d_Mo_read_28 rfl ?_
        refine kz_icmp_ne (tgt := 37) d_Mo_read_31 (by decide) rfl (fun h31 => ?_) (fun h31 => ?_)
        · refine kz_aload_n d_Mo_read_37 rfl rfl ?_
          refine kz_getIp fd_Mo_131 rfl rfl (Or.inl rfl) d_Mo_read_38 rfl ?_
          refine kz_sipush (v := 400) d_Mo_read_41 (by decide) rfl ?_
          refine kz_icmp_ne (tgt := 50) d_Mo_read_44 (by decide) rfl (fun h44 => ?_) (fun h44 => ?_)
          · refine kz_aload_n d_Mo_read_50 rfl rfl ?_
            refine kz_iconst (v := kz_ib false) d_Mo_read_51 (by decide) rfl ?_
            refine kz_iload_n d_Mo_read_52 rfl rfl ?_
            refine kz_iload_n d_Mo_read_53 rfl rfl ?_
            refine kz_if_ge (tgt := 61) d_Mo_read_54 (by decide) rfl (fun h54 => ?_) (fun h54 => ?_)
            · exact absurd h54 h20
            · refine kz_lconst (v := 0) d_Mo_read_57 (by decide) rfl ?_
              refine kz_goto (tgt := 67) d_Mo_read_58 (by decide) ?_
              refine kz_callVi (c_Mo_ticket l (w := false) (hc4 h44) hc) cv_Mo_146 rfl rfl rfl ⟨by decide, by decide⟩ rfl (Nat.le_of_ble_eq_true rfl) d_Mo_read_67 rfl ?_
              refine kz_eta ?_
              refine kz_istore_n (i := 3) d_Mo_read_70 rfl rfl (Nat.le_of_ble_eq_true rfl) rfl ?_
              refine kz_iload_n d_Mo_read_71 rfl rfl ?_
              refine kz_if_ge (tgt := 83) d_Mo_read_72 (by decide) rfl (fun h72 => ?_) (fun h72 => ?_)
              · exact absurd h72 h20
              · refine kz_aload_n d_Mo_read_75 rfl rfl ?_
                refine kz_iload_n d_Mo_read_76 rfl rfl ?_
                refine kz_callVv (c_Mo_add l (n := wq.length) (t := nI c) (w := false) (hw ⟨h20n, h31⟩ h44) (tick_26.trans hq.1) (vp_in_nI (hc4 h44) (by decide)) (by rw [nI_clamp (by have := hc4 h44; omega)]; exact tick_8)) cv_Mo_150 rfl rfl rfl ⟨by decide, by decide⟩ rfl (Nat.le_of_ble_eq_true rfl) d_Mo_read_77 rfl ?_
                refine kz_eta ?_
                refine kz_goto (tgt := 90) d_Mo_read_80 (by decide) ?_
                refine kz_iload_n d_Mo_read_90 rfl rfl ?_
                exact kz_iret rfl d_Mo_read_91 (by first | (rw [rp_rd, if_neg (fun z => z.elim h1 (fun y => y h8)), if_neg (fun z => h31 z.2), if_neg h44, if_pos h20n]; exact ⟨rfl, rfl⟩) | (rw [rp_rd, if_neg (fun z => z.elim h1 (fun y => y h8)), if_neg (fun z => h20n z.1), if_neg h44, if_neg h20n]; exact ⟨rfl, rfl⟩))
          · refine kz_bipush (v := -3) d_Mo_read_47 (by decide) rfl ?_
            exact kz_iret rfl d_Mo_read_49 (by rw [rp_rd, if_neg (fun z => z.elim h1 (fun y => y h8)), if_neg (by first | exact fun z => h31 z.2 | exact fun z => absurd z.1 (Int32.not_lt.mpr h20)), if_pos h44]; exact ⟨rfl, rfl⟩)
        · refine kz_bipush (v := -2) d_Mo_read_34 (by decide) rfl ?_
          exact kz_iret rfl d_Mo_read_36 (by rw [rp_rd, if_neg (fun z => z.elim h1 (fun y => y h8)), if_pos ⟨h20n, h31⟩]; exact ⟨rfl, rfl⟩)
    · refine kz_iconst (v := -1) d_Mo_read_11 (by decide) rfl ?_
      exact kz_iret rfl d_Mo_read_12 (by rw [rp_rd, if_pos (by first | exact Or.inl h1 | exact Or.inr h8)]; exact ⟨rfl, rfl⟩)
set_option maxRecDepth 100000 in
set_option maxHeartbeats 1000000 in
theorem c_Mo_write (l : Launch) {M : kz_M} {wq : List Int32} {c : Nat} {a : Int32} {v : Int64} (hq : rq_at M wq) (hc : M.1 0 7 = nI c) (hc4 : ¬ M.1 0 7 = 400 → c < 400) (hw : ¬ M.1 0 28 = M.1 0 0 → ¬ M.1 0 7 = 400 → wq.length < 16) : kz_Dt l sR m_Mo_write [.ref 0, .int a, .long v] M (some (.int (rp_wr M wq c a v).1)) (rp_wr M wq c a v).2 := by
  refine kz_intro (by decide +kernel) (Nat.le_of_ble_eq_true rfl) ?_
  show kz_G l sR m_Mo_write 0 [some (.ref 0), some (.int a), some (.long v), none, none] [] M _
  refine kz_iload_n d_Mo_write_0 rfl rfl ?_
  refine kz_if_lt (tgt := 11) d_Mo_write_1 (by decide) rfl (fun h1 => ?_) (fun h1 => ?_)
  · refine kz_iconst (v := -1) d_Mo_write_11 (by decide) rfl ?_
    exact kz_iret rfl d_Mo_write_12 (by rw [rp_wr, if_pos (by first | exact Or.inl h1 | exact Or.inr h8)]; exact ⟨rfl, rfl⟩)
  · refine kz_iload_n d_Mo_write_4 rfl rfl ?_
    refine kz_sipush (v := 255) d_Mo_write_5 (by decide) rfl ?_
    refine kz_icmp_le (tgt := 13) d_Mo_write_8 (by decide) rfl (fun h8 => ?_) (fun h8 => ?_)
    · refine kz_aload_n d_Mo_write_13 rfl rfl ?_
      refine kz_getIp fd_Mo_137 rfl rfl (Or.inl rfl) d_Mo_write_14 rfl ?_
      refine kz_aload_n d_Mo_write_17 rfl rfl ?_
      refine kz_getIp fd_Mo_86 rfl rfl (Or.inl rfl) d_Mo_write_18 rfl ?_
      refine kz_icmp_ne (tgt := 27) d_Mo_write_21 (by decide) rfl (fun h21 => ?_) (fun h21 => ?_)
      · refine kz_aload_n d_Mo_write_27 rfl rfl ?_
        refine kz_getIp fd_Mo_131 rfl rfl (Or.inl rfl) d_Mo_write_28 rfl ?_
        refine kz_sipush (v := 400) d_Mo_write_31 (by decide) rfl ?_
        refine kz_icmp_ne (tgt := 40) d_Mo_write_34 (by decide) rfl (fun h34 => ?_) (fun h34 => ?_)
        · refine kz_aload_n d_Mo_write_40 rfl rfl ?_
          refine kz_iconst (v := kz_ib true) d_Mo_write_41 (by decide) rfl ?_
          refine kz_iload_n d_Mo_write_42 rfl rfl ?_
          refine kz_lload_n d_Mo_write_43 rfl rfl ?_
          refine kz_callVi (c_Mo_ticket l (w := true) (hc4 h34) hc) cv_Mo_146 rfl rfl rfl ⟨by decide, by decide⟩ rfl (Nat.le_of_ble_eq_true rfl) d_Mo_write_44 rfl ?_
          refine kz_eta ?_
          refine kz_istore d_Mo_write_47 rfl (Nat.le_of_ble_eq_true rfl) rfl ?_
          refine kz_aload_n d_Mo_write_49 rfl rfl ?_
          refine kz_iload d_Mo_write_50 rfl rfl ?_
          refine kz_callVv (c_Mo_add l (n := wq.length) (t := nI c) (w := true) (hw h21 h34) (tick_26.trans hq.1) (vp_in_nI (hc4 h34) (by decide)) (by rw [nI_clamp (by have := hc4 h34; omega)]; exact tick_8)) cv_Mo_150 rfl rfl rfl ⟨by decide, by decide⟩ rfl (Nat.le_of_ble_eq_true rfl) d_Mo_write_52 rfl ?_
          refine kz_eta ?_
          refine kz_iload d_Mo_write_55 rfl rfl ?_
          exact kz_iret rfl d_Mo_write_57 (by rw [rp_wr, if_neg (fun z => z.elim h1 (fun y => y h8)), if_neg h21, if_neg h34]; exact ⟨rfl, rfl⟩)
        · refine kz_bipush (v := -3) d_Mo_write_37 (by decide) rfl ?_
          exact kz_iret rfl d_Mo_write_39 (by rw [rp_wr, if_neg (fun z => z.elim h1 (fun y => y h8)), if_neg h21, if_pos h34]; exact ⟨rfl, rfl⟩)
      · refine kz_bipush (v := -2) d_Mo_write_24 (by decide) rfl ?_
        exact kz_iret rfl d_Mo_write_26 (by rw [rp_wr, if_neg (fun z => z.elim h1 (fun y => y h8)), if_pos h21]; exact ⟨rfl, rfl⟩)
    · refine kz_iconst (v := -1) d_Mo_write_11 (by decide) rfl ?_
      exact kz_iret rfl d_Mo_write_12 (by rw [rp_wr, if_pos (by first | exact Or.inl h1 | exact Or.inr h8)]; exact ⟨rfl, rfl⟩)
