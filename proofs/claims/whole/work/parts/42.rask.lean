/-! Contracts of the reference: what a caller asks; may refresh; words stored and taken. -/
def rp_adr (a p : Int32) : Bool := !decide (a < 0) && (!decide (255 < a) && (!decide (p < 0) && decide (p ≤ 71)))
theorem rp_in {a : Int32} (h1 : ¬ a < 0) (h2 : ¬ 255 < a) : vp_in a 256 := by
  rw [vp_in_iff]
  rw [Int32.lt_iff_toInt_lt] at h1 h2
  have e1 : (0 : Int32).toInt = 0 := by decide
  have e2 : (255 : Int32).toInt = 255 := by decide
  omega
theorem rp_tin {t : Int32} {c : Nat} (hc : c ≤ 400) (h1 : ¬ t < 0) (h2 : t < nI c) : vp_in t 400 := by
  rw [vp_in_iff]
  rw [Int32.lt_iff_toInt_lt] at h1 h2
  rw [nI_toInt (by omega)] at h2
  have e1 : (0 : Int32).toInt = 0 := by decide
  omega
def rp_set (i v : Int32) : Bool := if i = 13 then (!decide (v < 60) && !decide (400 < v)) else (!decide (v < 1) && !decide (30 < v))
def rp_tim (M : kz_M) (i v : Int32) : Bool := !decide (0 < M.1 0 2) && (!decide (i < 0) && (decide (i ≤ 13) && rp_set i v))
set_option maxRecDepth 100000 in
set_option maxHeartbeats 1000000 in
theorem c_Mo_flip (l : Launch) {M : kz_M} {a p : Int32} : kz_Dt l sR m_Mo_flip [.ref 0, .int a, .int p] M (some (.int (kz_ib (rp_adr a p)))) (if rp_adr a p = true then rw_put M a.toNatClampNeg (bt_turn (rw_get M a.toNatClampNeg) p) else M) := by
  refine kz_intro (by decide +kernel) (Nat.le_of_ble_eq_true rfl) ?_
  show kz_G l sR m_Mo_flip 0 [some (.ref 0), some (.int a), some (.int p)] [] M _
  refine kz_iload_n d_Mo_flip_0 rfl rfl ?_
  refine kz_if_lt (tgt := 21) d_Mo_flip_1 (by decide) rfl (fun h1 => ?_) (fun h1 => ?_)
  · refine kz_iconst (v := 0) d_Mo_flip_21 (by decide) rfl ?_
    exact kz_zret rfl d_Mo_flip_22 (by first | assumption | decide | exact kz_ib_or _) (⟨by simp [rp_adr, kz_ib, *], by simp [rp_adr, *]⟩)
  · refine kz_iload_n d_Mo_flip_4 rfl rfl ?_
    refine kz_sipush (v := 255) d_Mo_flip_5 (by decide) rfl ?_
    refine kz_icmp_gt (tgt := 21) d_Mo_flip_8 (by decide) rfl (fun h8 => ?_) (fun h8 => ?_)
    · refine kz_iconst (v := 0) d_Mo_flip_21 (by decide) rfl ?_
      exact kz_zret rfl d_Mo_flip_22 (by first | assumption | decide | exact kz_ib_or _) (⟨by simp [rp_adr, kz_ib, *], by simp [rp_adr, *]⟩)
    · refine kz_iload_n d_Mo_flip_11 rfl rfl ?_
      refine kz_if_lt (tgt := 21) d_Mo_flip_12 (by decide) rfl (fun h12 => ?_) (fun h12 => ?_)
      · refine kz_iconst (v := 0) d_Mo_flip_21 (by decide) rfl ?_
        exact kz_zret rfl d_Mo_flip_22 (by first | assumption | decide | exact kz_ib_or _) (⟨by simp [rp_adr, kz_ib, *], by simp [rp_adr, *]⟩)
      · refine kz_iload_n d_Mo_flip_15 rfl rfl ?_
        refine kz_bipush (v := 71) d_Mo_flip_16 (by decide) rfl ?_
        refine kz_icmp_le (tgt := 23) d_Mo_flip_18 (by decide) rfl (fun h18 => ?_) (fun h18 => ?_)
        · refine kz_aload_n d_Mo_flip_23 rfl rfl ?_
          refine kz_iload_n d_Mo_flip_24 rfl rfl ?_
          refine kz_iload_n d_Mo_flip_25 rfl rfl ?_
          refine kz_callVv (c_Mo_turn l (rp_in h1 h8)) cv_Mo_103 rfl rfl rfl ⟨by decide, by decide⟩ rfl (Nat.le_of_ble_eq_true rfl) d_Mo_flip_26 rfl ?_
          refine kz_eta ?_
          refine kz_iconst (v := 1) d_Mo_flip_29 (by decide) rfl ?_
          exact kz_zret rfl d_Mo_flip_30 (by first | assumption | decide | exact kz_ib_or _) (⟨by simp [rp_adr, kz_ib, *], by simp [rp_adr, *]⟩)
        · refine kz_iconst (v := 0) d_Mo_flip_21 (by decide) rfl ?_
          exact kz_zret rfl d_Mo_flip_22 (by first | assumption | decide | exact kz_ib_or _) (⟨by simp [rp_adr, kz_ib, *], by simp [rp_adr, *]⟩)
set_option maxRecDepth 100000 in
set_option maxHeartbeats 1000000 in
theorem c_Mo_bit (l : Launch) {M : kz_M} {a p : Int32} : kz_Dt l sR m_Mo_bit [.ref 0, .int a, .int p] M (some (.int (if rp_adr a p = true then rb_bit (rw_get M a.toNatClampNeg) p else -1))) M := by
  refine kz_intro (by decide +kernel) (Nat.le_of_ble_eq_true rfl) ?_
  show kz_G l sR m_Mo_bit 0 [some (.ref 0), some (.int a), some (.int p)] [] M _
  refine kz_iload_n d_Mo_bit_0 rfl rfl ?_
  refine kz_if_lt (tgt := 21) d_Mo_bit_1 (by decide) rfl (fun h1 => ?_) (fun h1 => ?_)
  · refine kz_iconst (v := -1) d_Mo_bit_21 (by decide) rfl ?_
    refine kz_goto (tgt := 31) d_Mo_bit_22 (by decide) ?_
    exact kz_iret rfl d_Mo_bit_31 (⟨by simp [rp_adr, *], rfl⟩)
  · refine kz_iload_n d_Mo_bit_4 rfl rfl ?_
    refine kz_sipush (v := 255) d_Mo_bit_5 (by decide) rfl ?_
    refine kz_icmp_gt (tgt := 21) d_Mo_bit_8 (by decide) rfl (fun h8 => ?_) (fun h8 => ?_)
    · refine kz_iconst (v := -1) d_Mo_bit_21 (by decide) rfl ?_
      refine kz_goto (tgt := 31) d_Mo_bit_22 (by decide) ?_
      exact kz_iret rfl d_Mo_bit_31 (⟨by simp [rp_adr, *], rfl⟩)
    · refine kz_iload_n d_Mo_bit_11 rfl rfl ?_
      refine kz_if_lt (tgt := 21) d_Mo_bit_12 (by decide) rfl (fun h12 => ?_) (fun h12 => ?_)
      · refine kz_iconst (v := -1) d_Mo_bit_21 (by decide) rfl ?_
        refine kz_goto (tgt := 31) d_Mo_bit_22 (by decide) ?_
        exact kz_iret rfl d_Mo_bit_31 (⟨by simp [rp_adr, *], rfl⟩)
      · refine kz_iload_n d_Mo_bit_15 rfl rfl ?_
        refine kz_bipush (v := 71) d_Mo_bit_16 (by decide) rfl ?_
        refine kz_icmp_le (tgt := 25) d_Mo_bit_18 (by decide) rfl (fun h18 => ?_) (fun h18 => ?_)
        · refine kz_aload_n d_Mo_bit_25 rfl rfl ?_
          refine kz_iload_n d_Mo_bit_26 rfl rfl ?_
          refine kz_iload_n d_Mo_bit_27 rfl rfl ?_
          refine kz_callVi (c_Mo_bitAt l (rp_in h1 h8)) cv_Mo_107 rfl rfl rfl ⟨by decide, by decide⟩ rfl (Nat.le_of_ble_eq_true rfl) d_Mo_bit_28 rfl ?_
          exact kz_iret rfl d_Mo_bit_31 (⟨by simp [rp_adr, *], rfl⟩)
        · refine kz_iconst (v := -1) d_Mo_bit_21 (by decide) rfl ?_
          refine kz_goto (tgt := 31) d_Mo_bit_22 (by decide) ?_
          exact kz_iret rfl d_Mo_bit_31 (⟨by simp [rp_adr, *], rfl⟩)
set_option maxRecDepth 100000 in
set_option maxHeartbeats 1000000 in
theorem c_Mo_status (l : Launch) {M : kz_M} {t : Int32} {c : Nat} (hc : c ≤ 400) (he : M.1 0 7 = nI c) : kz_Dt l sR m_Mo_status [.ref 0, .int t] M (some (.int (if (!decide (t < 0) && decide (t < M.1 0 7)) = true then M.1 11 t.toNatClampNeg else -1))) M := by
  refine kz_intro (by decide +kernel) (Nat.le_of_ble_eq_true rfl) ?_
  show kz_G l sR m_Mo_status 0 [some (.ref 0), some (.int t)] [] M _
  refine kz_iload_n d_Mo_status_0 rfl rfl ?_
  refine kz_if_lt (tgt := 12) d_Mo_status_1 (by decide) rfl (fun h1 => ?_) (fun h1 => ?_)
  · refine kz_iconst (v := -1) d_Mo_status_12 (by decide) rfl ?_
    refine kz_goto (tgt := 22) d_Mo_status_13 (by decide) ?_
    exact kz_iret rfl d_Mo_status_22 (⟨by first | (simp [h1, h9]; done) | (simp [h1]; done), rfl⟩)
  · refine kz_iload_n d_Mo_status_4 rfl rfl ?_
    refine kz_aload_n d_Mo_status_5 rfl rfl ?_
    refine kz_getIp fd_Mo_131 rfl rfl (Or.inl rfl) d_Mo_status_6 rfl ?_
    refine kz_icmp_lt (tgt := 16) d_Mo_status_9 (by decide) rfl (fun h9 => ?_) (fun h9 => ?_)
    · refine kz_aload_n d_Mo_status_16 rfl rfl ?_
      refine kz_getR fd_Mo_50 rfl rfl rfl d_Mo_status_17 rfl ?_
      refine kz_iload_n d_Mo_status_20 rfl rfl ?_
      refine kz_ialdp rfl (rp_tin hc h1 (by rw [← he]; exact h9)) rfl d_Mo_status_21 rfl ?_
      exact kz_iret rfl d_Mo_status_22 (⟨by first | (simp [h1, h9]; done) | (simp [h1]; done), rfl⟩)
    · refine kz_iconst (v := -1) d_Mo_status_12 (by decide) rfl ?_
      refine kz_goto (tgt := 22) d_Mo_status_13 (by decide) ?_
      exact kz_iret rfl d_Mo_status_22 (⟨by first | (simp [h1, h9]; done) | (simp [h1]; done), rfl⟩)
set_option maxRecDepth 100000 in
set_option maxHeartbeats 1000000 in
theorem c_Mo_value (l : Launch) {M : kz_M} {t : Int32} {c : Nat} (hc : c ≤ 400) (he : M.1 0 7 = nI c) : kz_Dt l sR m_Mo_value [.ref 0, .int t] M (some (.long (if (!decide (t < 0) && decide (t < M.1 0 7)) = true then M.2 12 t.toNatClampNeg else 0))) M := by
  refine kz_intro (by decide +kernel) (Nat.le_of_ble_eq_true rfl) ?_
  show kz_G l sR m_Mo_value 0 [some (.ref 0), some (.int t)] [] M _
  refine kz_iload_n d_Mo_value_0 rfl rfl ?_
  refine kz_if_lt (tgt := 12) d_Mo_value_1 (by decide) rfl (fun h1 => ?_) (fun h1 => ?_)
  · refine kz_lconst (v := 0) d_Mo_value_12 (by decide) rfl ?_
    refine kz_goto (tgt := 22) d_Mo_value_13 (by decide) ?_
    exact kz_lret rfl d_Mo_value_22 (⟨by first | (simp [h1, h9]; done) | (simp [h1]; done), rfl⟩)
  · refine kz_iload_n d_Mo_value_4 rfl rfl ?_
    refine kz_aload_n d_Mo_value_5 rfl rfl ?_
    refine kz_getIp fd_Mo_131 rfl rfl (Or.inl rfl) d_Mo_value_6 rfl ?_
    refine kz_icmp_lt (tgt := 16) d_Mo_value_9 (by decide) rfl (fun h9 => ?_) (fun h9 => ?_)
    · refine kz_aload_n d_Mo_value_16 rfl rfl ?_
      refine kz_getR fd_Mo_53 rfl rfl rfl d_Mo_value_17 rfl ?_
      refine kz_iload_n d_Mo_value_20 rfl rfl ?_
      refine kz_laldp rfl (rp_tin hc h1 (by rw [← he]; exact h9)) rfl d_Mo_value_21 rfl ?_
      exact kz_lret rfl d_Mo_value_22 (⟨by first | (simp [h1, h9]; done) | (simp [h1]; done), rfl⟩)
    · refine kz_lconst (v := 0) d_Mo_value_12 (by decide) rfl ?_
      refine kz_goto (tgt := 22) d_Mo_value_13 (by decide) ?_
      exact kz_lret rfl d_Mo_value_22 (⟨by first | (simp [h1, h9]; done) | (simp [h1]; done), rfl⟩)
theorem rp_i14 {i : Int32} (h1 : ¬ i < 0) (h2 : i ≤ 13) : vp_in i 14 := by
  rw [vp_in_iff]
  rw [Int32.lt_iff_toInt_lt] at h1
  rw [Int32.le_iff_toInt_le] at h2
  have e1 : (0 : Int32).toInt = 0 := by decide
  have e2 : (13 : Int32).toInt = 13 := by decide
  omega
set_option maxRecDepth 100000 in
set_option maxHeartbeats 1000000 in
theorem c_Mo_timing (l : Launch) {M : kz_M} {i v : Int32} : kz_Dt l sR m_Mo_timing [.ref 0, .int i, .int v] M (some (.int (kz_ib (rp_tim M i v)))) (if rp_tim M i v = true then (kz_u M.1 1 i.toNatClampNeg v, M.2) else M) := by
  refine kz_intro (by decide +kernel) (Nat.le_of_ble_eq_true rfl) ?_
  show kz_G l sR m_Mo_timing 0 [some (.ref 0), some (.int i), some (.int v), none] [] M _
  refine kz_aload_n d_Mo_timing_0 rfl rfl ?_
  refine kz_getIp fd_Mo_96 rfl rfl (Or.inl rfl) d_Mo_timing_1 rfl ?_
  refine kz_if_gt (tgt := 17) d_Mo_timing_4 (by decide) rfl (fun h4 => ?_) (fun h4 => ?_)
  · refine kz_iconst (v := 0) d_Mo_timing_17 (by decide) rfl ?_
    exact kz_zret rfl d_Mo_timing_18 (by first | assumption | decide | exact kz_ib_or _) (⟨by simp [rp_tim, rp_set, kz_ib, *], by simp [rp_tim, rp_set, *]⟩)
  · refine kz_iload_n d_Mo_timing_7 rfl rfl ?_
    refine kz_if_lt (tgt := 17) d_Mo_timing_8 (by decide) rfl (fun h8 => ?_) (fun h8 => ?_)
    · refine kz_iconst (v := 0) d_Mo_timing_17 (by decide) rfl ?_
      exact kz_zret rfl d_Mo_timing_18 (by first | assumption | decide | exact kz_ib_or _) (⟨by simp [rp_tim, rp_set, kz_ib, *], by simp [rp_tim, rp_set, *]⟩)
    · refine kz_iload_n d_Mo_timing_11 rfl rfl ?_
      refine kz_bipush (v := 13) d_Mo_timing_12 (by decide) rfl ?_
      refine kz_icmp_le (tgt := 19) d_Mo_timing_14 (by decide) rfl (fun h14 => ?_) (fun h14 => ?_)
      · refine kz_iload_n d_Mo_timing_19 rfl rfl ?_
        refine kz_bipush (v := 13) d_Mo_timing_20 (by decide) rfl ?_
        refine kz_icmp_ne (tgt := 46) d_Mo_timing_22 (by decide) rfl (fun h22 => ?_) (fun h22 => ?_)
        · refine kz_iload_n d_Mo_timing_46 rfl rfl ?_
          refine kz_iconst (v := 1) d_Mo_timing_47 (by decide) rfl ?_
          refine kz_icmp_lt (tgt := 61) d_Mo_timing_48 (by decide) rfl (fun h48 => ?_) (fun h48 => ?_)
          · refine kz_iconst (v := 0) d_Mo_timing_61 (by decide) rfl ?_
            refine kz_istore_n (i := 3) d_Mo_timing_62 rfl rfl (Nat.le_of_ble_eq_true rfl) rfl ?_
            refine kz_iload_n d_Mo_timing_63 rfl rfl ?_
            refine kz_if_eq (tgt := 74) d_Mo_timing_64 (by decide) rfl (fun _ => ?_) (fun h => absurd h (by decide))
            refine kz_iload_n d_Mo_timing_74 rfl rfl ?_
            exact kz_zret rfl d_Mo_timing_75 (by first | assumption | decide | exact kz_ib_or _) (⟨by simp [rp_tim, rp_set, kz_ib, *], by simp [rp_tim, rp_set, *]⟩)
          · refine kz_iload_n d_Mo_timing_51 rfl rfl ?_
            refine kz_bipush (v := 30) d_Mo_timing_52 (by decide) rfl ?_
            refine kz_icmp_gt (tgt := 61) d_Mo_timing_54 (by decide) rfl (fun h54 => ?_) (fun h54 => ?_)
            · refine kz_iconst (v := 0) d_Mo_timing_61 (by decide) rfl ?_
              refine kz_istore_n (i := 3) d_Mo_timing_62 rfl rfl (Nat.le_of_ble_eq_true rfl) rfl ?_
              refine kz_iload_n d_Mo_timing_63 rfl rfl ?_
              refine kz_if_eq (tgt := 74) d_Mo_timing_64 (by decide) rfl (fun _ => ?_) (fun h => absurd h (by decide))
              refine kz_iload_n d_Mo_timing_74 rfl rfl ?_
              exact kz_zret rfl d_Mo_timing_75 (by first | assumption | decide | exact kz_ib_or _) (⟨by simp [rp_tim, rp_set, kz_ib, *], by simp [rp_tim, rp_set, *]⟩)
            · refine kz_iconst (v := 1) d_Mo_timing_57 (by decide) rfl ?_
              refine kz_goto (tgt := 62) d_Mo_timing_58 (by decide) ?_
              refine kz_istore_n (i := 3) d_Mo_timing_62 rfl rfl (Nat.le_of_ble_eq_true rfl) rfl ?_
              refine kz_iload_n d_Mo_timing_63 rfl rfl ?_
              refine kz_if_eq (tgt := 74) d_Mo_timing_64 (by decide) rfl (fun h => absurd h (by decide)) (fun _ => ?_)
              refine kz_aload_n d_Mo_timing_67 rfl rfl ?_
              refine kz_getR fd_Mo_7 rfl rfl rfl d_Mo_timing_68 rfl ?_
              refine kz_iload_n d_Mo_timing_71 rfl rfl ?_
              refine kz_iload_n d_Mo_timing_72 rfl rfl ?_
              refine kz_iastp rfl (rp_i14 h8 h14) rfl d_Mo_timing_73 rfl ?_
              refine kz_iload_n d_Mo_timing_74 rfl rfl ?_
              exact kz_zret rfl d_Mo_timing_75 (by first | assumption | decide | exact kz_ib_or _) (⟨by simp [rp_tim, rp_set, kz_ib, *], by simp [rp_tim, rp_set, *]⟩)
        · refine kz_iload_n d_Mo_timing_25 rfl rfl ?_
          refine kz_bipush (v := 60) d_Mo_timing_26 (by decide) rfl ?_
          refine kz_icmp_lt (tgt := 42) d_Mo_timing_28 (by decide) rfl (fun h28 => ?_) (fun h28 => ?_)
          · refine kz_iconst (v := 0) d_Mo_timing_42 (by decide) rfl ?_
            refine kz_goto (tgt := 62) d_Mo_timing_43 (by decide) ?_
            refine kz_istore_n (i := 3) d_Mo_timing_62 rfl rfl (Nat.le_of_ble_eq_true rfl) rfl ?_
            refine kz_iload_n d_Mo_timing_63 rfl rfl ?_
            refine kz_if_eq (tgt := 74) d_Mo_timing_64 (by decide) rfl (fun _ => ?_) (fun h => absurd h (by decide))
            refine kz_iload_n d_Mo_timing_74 rfl rfl ?_
            exact kz_zret rfl d_Mo_timing_75 (by first | assumption | decide | exact kz_ib_or _) (⟨by simp [rp_tim, rp_set, kz_ib, *], by simp [rp_tim, rp_set, *]⟩)
          · refine kz_iload_n d_Mo_timing_31 rfl rfl ?_
            refine kz_sipush (v := 400) d_Mo_timing_32 (by decide) rfl ?_
            refine kz_icmp_gt (tgt := 42) d_Mo_timing_35 (by decide) rfl (fun h35 => ?_) (fun h35 => ?_)
            · refine kz_iconst (v := 0) d_Mo_timing_42 (by decide) rfl ?_
              refine kz_goto (tgt := 62) d_Mo_timing_43 (by decide) ?_
              refine kz_istore_n (i := 3) d_Mo_timing_62 rfl rfl (Nat.le_of_ble_eq_true rfl) rfl ?_
              refine kz_iload_n d_Mo_timing_63 rfl rfl ?_
              refine kz_if_eq (tgt := 74) d_Mo_timing_64 (by decide) rfl (fun _ => ?_) (fun h => absurd h (by decide))
              refine kz_iload_n d_Mo_timing_74 rfl rfl ?_
              exact kz_zret rfl d_Mo_timing_75 (by first | assumption | decide | exact kz_ib_or _) (⟨by simp [rp_tim, rp_set, kz_ib, *], by simp [rp_tim, rp_set, *]⟩)
            · refine kz_iconst (v := 1) d_Mo_timing_38 (by decide) rfl ?_
              refine kz_goto (tgt := 62) d_Mo_timing_39 (by decide) ?_
              refine kz_istore_n (i := 3) d_Mo_timing_62 rfl rfl (Nat.le_of_ble_eq_true rfl) rfl ?_
              refine kz_iload_n d_Mo_timing_63 rfl rfl ?_
              refine kz_if_eq (tgt := 74) d_Mo_timing_64 (by decide) rfl (fun h => absurd h (by decide)) (fun _ => ?_)
              refine kz_aload_n d_Mo_timing_67 rfl rfl ?_
              refine kz_getR fd_Mo_7 rfl rfl rfl d_Mo_timing_68 rfl ?_
              refine kz_iload_n d_Mo_timing_71 rfl rfl ?_
              refine kz_iload_n d_Mo_timing_72 rfl rfl ?_
              refine kz_iastp rfl (rp_i14 h8 h14) rfl d_Mo_timing_73 rfl ?_
              refine kz_iload_n d_Mo_timing_74 rfl rfl ?_
              exact kz_zret rfl d_Mo_timing_75 (by first | assumption | decide | exact kz_ib_or _) (⟨by simp [rp_tim, rp_set, kz_ib, *], by simp [rp_tim, rp_set, *]⟩)
      · refine kz_iconst (v := 0) d_Mo_timing_17 (by decide) rfl ?_
        exact kz_zret rfl d_Mo_timing_18 (by first | assumption | decide | exact kz_ib_or _) (⟨by simp [rp_tim, rp_set, kz_ib, *], by simp [rp_tim, rp_set, *]⟩)
def rr_add (M : kz_M) (n : Nat) (t : Int32) (w : Bool) : kz_M := (if w = true then kz_u (kz_u (kz_u M.1 15 n t) 0 26 (nI (n + 1))) 0 28 (M.1 0 28 + 1) else kz_u (kz_u (kz_u M.1 15 n t) 0 26 (nI (n + 1))) 0 27 (M.1 0 27 + 1), M.2)
set_option maxRecDepth 100000 in
set_option maxHeartbeats 1000000 in
theorem c_Mo_add (l : Launch) {M : kz_M} {n : Nat} {t : Int32} {w : Bool} (hn : n < 16) (hw : M.1 0 26 = nI n) (ht : vp_in t 400) (hf : M.1 8 t.toNatClampNeg = kz_ib w) : kz_Dt l sR m_Mo_add [.ref 0, .int t] M none (rr_add M n t w) := by
  have hni : vp_in (nI n) 16 := vp_in_nI hn (by decide)
  have hnc : (nI n).toNatClampNeg = n := nI_clamp (by omega)
  refine kz_intro (by decide +kernel) (Nat.le_of_ble_eq_true rfl) ?_
  show kz_G l sR m_Mo_add 0 [some (.ref 0), some (.int t)] [] M _
  refine kz_aload_n d_Mo_add_0 rfl rfl ?_
  refine kz_getR fd_Mo_62 rfl rfl rfl d_Mo_add_1 rfl ?_
  refine kz_aload_n d_Mo_add_4 rfl rfl ?_
  refine kz_getIp fd_Mo_134 rfl rfl (Or.inl rfl) d_Mo_add_5 rfl ?_
  refine kz_topi hw ?_
  refine kz_iload_n d_Mo_add_8 rfl rfl ?_
  refine kz_iastp rfl hni hnc d_Mo_add_9 rfl ?_
  refine kz_aload_n d_Mo_add_10 rfl rfl ?_
  refine kz_dup d_Mo_add_11 rfl rfl ?_
  refine kz_getIp fd_Mo_134 rfl rfl (Or.inl rfl) d_Mo_add_12 rfl ?_
  refine kz_iconst (v := 1) d_Mo_add_15 (by decide) rfl ?_
  refine kz_iadd d_Mo_add_16 rfl ?_
  refine kz_topi (y := nI (n + 1)) (by rw [kz_u_ne _ _ _ _ (by omega), hw, nI_1]) ?_
  refine kz_putIp fd_Mo_134 rfl rfl d_Mo_add_17 rfl ?_
  refine kz_aload_n d_Mo_add_20 rfl rfl ?_
  refine kz_getR fd_Mo_40 rfl rfl rfl d_Mo_add_21 rfl ?_
  refine kz_iload_n d_Mo_add_24 rfl rfl ?_
  refine kz_zaldp rfl (by first | assumption | exact kz_vin (by decide)) rfl d_Mo_add_25 rfl ?_
  refine kz_topi (y := kz_ib w) (by simp [kz_u_ne]; exact hf) ?_
  refine kz_if_eqb (tgt := 42) d_Mo_add_26 (by decide) rfl (fun h26 => ?_) (fun h26 => ?_)
  · refine kz_aload_n d_Mo_add_42 rfl rfl ?_
    refine kz_dup d_Mo_add_43 rfl rfl ?_
    refine kz_getIp fd_Mo_140 rfl rfl (Or.inl rfl) d_Mo_add_44 rfl ?_
    refine kz_iconst (v := 1) d_Mo_add_47 (by decide) rfl ?_
    refine kz_iadd d_Mo_add_48 rfl ?_
    refine kz_putIp fd_Mo_140 rfl rfl d_Mo_add_49 rfl ?_
    exact kz_vret rfl d_Mo_add_52 (⟨rfl, by simp [rr_add, kz_u_ne, h26]⟩)
  · refine kz_aload_n d_Mo_add_29 rfl rfl ?_
    refine kz_dup d_Mo_add_30 rfl rfl ?_
    refine kz_getIp fd_Mo_137 rfl rfl (Or.inl rfl) d_Mo_add_31 rfl ?_
    refine kz_iconst (v := 1) d_Mo_add_34 (by decide) rfl ?_
    refine kz_iadd d_Mo_add_35 rfl ?_
    refine kz_putIp fd_Mo_137 rfl rfl d_Mo_add_36 rfl ?_
    refine kz_goto (tgt := 52) d_Mo_add_39 (by decide) ?_
    exact kz_vret rfl d_Mo_add_52 (⟨rfl, by simp [rr_add, kz_u_ne, h26]⟩)
def rr_mr (M : kz_M) (z : Bool) : Nat → Nat → Bool
  | 0, _ => z
  | n + 1, b => rr_mr M (z && (decide (M.1 4 b = -1) && rr_bh M (M.1 5 (5 * b + 1)) (M.1 1 1))) n (b + 1)
set_option maxRecDepth 100000 in
set_option maxHeartbeats 1000000 in
theorem lp_rmr (l : Launch) {M : kz_M} : ∀ (n b : Nat) (z : Bool), b + n = 4 → kz_G l sR m_Mo_mayRefresh 20 [some (.ref 0), some (.int (kz_ib z)), some (.int (nI b))] [] M (fun v N => v = some (.int (kz_ib (rr_mr M z n b))) ∧ N = M) := by
  intro n
  induction n with
  | zero =>
    intro b z hb
    obtain rfl : b = 4 := by omega
    refine kz_iload_n d_Mo_mayRefresh_20 rfl rfl ?_
    refine kz_iconst (v := 4) d_Mo_mayRefresh_21 (by decide) rfl ?_
    refine kz_icmp_ge (tgt := 74) d_Mo_mayRefresh_22 (by decide) rfl (fun h22 => ?_) (fun h22 => ?_)
    · refine kz_iload_n d_Mo_mayRefresh_74 rfl rfl ?_
      exact kz_zret rfl d_Mo_mayRefresh_75 (by first | assumption | decide | exact kz_ib_or _) (⟨rfl, rfl⟩)
    · exact absurd (Int32.le_refl _) h22
  | succ n ih =>
    intro b z hb
    have hb4 : vp_in (nI b) 4 := vp_in_nI (by omega) (by decide)
    have hcl : (nI b).toNatClampNeg = b := nI_clamp (by omega)
    have hi1 := rr_i1 hb4
    rw [hcl] at hi1
    refine kz_iload_n d_Mo_mayRefresh_20 rfl rfl ?_
    refine kz_iconst (v := 4) d_Mo_mayRefresh_21 (by decide) rfl ?_
    refine kz_icmp_ge (tgt := 74) d_Mo_mayRefresh_22 (by decide) rfl (fun h22 => ?_) (fun h22 => ?_)
    · exact absurd h22 (nI_ge (a := b) (b := 4) (by omega) (by decide))
    · refine kz_iload_n d_Mo_mayRefresh_25 rfl rfl ?_
      refine kz_if_eqb (tgt := 66) d_Mo_mayRefresh_26 (by decide) rfl (fun h26 => ?_) (fun h26 => ?_)
      · refine kz_iconst (v := 0) d_Mo_mayRefresh_66 (by decide) rfl ?_
        refine kz_istore_n (i := 1) d_Mo_mayRefresh_67 rfl rfl (Nat.le_of_ble_eq_true rfl) rfl ?_
        refine kz_iinc d_Mo_mayRefresh_68 rfl rfl (Nat.le_of_ble_eq_true rfl) (kz_inc b) rfl ?_
        refine kz_goto (tgt := 20) d_Mo_mayRefresh_71 (by decide) ?_
        have h := ih (b + 1) false (by omega)
        subst h26
        exact h
      · refine kz_aload_n d_Mo_mayRefresh_29 rfl rfl ?_
        refine kz_getR fd_Mo_20 rfl rfl rfl d_Mo_mayRefresh_30 rfl ?_
        refine kz_iload_n d_Mo_mayRefresh_33 rfl rfl ?_
        refine kz_ialdp rfl hb4 hcl d_Mo_mayRefresh_34 rfl ?_
        refine kz_iconst (v := -1) d_Mo_mayRefresh_35 (by decide) rfl ?_
        refine kz_icmp_ne (tgt := 66) d_Mo_mayRefresh_36 (by decide) rfl (fun h36 => ?_) (fun h36 => ?_)
        · refine kz_iconst (v := 0) d_Mo_mayRefresh_66 (by decide) rfl ?_
          refine kz_istore_n (i := 1) d_Mo_mayRefresh_67 rfl rfl (Nat.le_of_ble_eq_true rfl) rfl ?_
          refine kz_iinc d_Mo_mayRefresh_68 rfl rfl (Nat.le_of_ble_eq_true rfl) (kz_inc b) rfl ?_
          refine kz_goto (tgt := 20) d_Mo_mayRefresh_71 (by decide) ?_
          have h := ih (b + 1) false (by omega)
          subst h26
          rw [rr_mr, decide_eq_false h36]
          exact h
        · refine kz_aload_n d_Mo_mayRefresh_39 rfl rfl ?_
          refine kz_aload_n d_Mo_mayRefresh_40 rfl rfl ?_
          refine kz_getR fd_Mo_23 rfl rfl rfl d_Mo_mayRefresh_41 rfl ?_
          refine kz_iconst (v := 5) d_Mo_mayRefresh_44 (by decide) rfl ?_
          refine kz_iload_n d_Mo_mayRefresh_45 rfl rfl ?_
          refine kz_imul d_Mo_mayRefresh_46 rfl ?_
          refine kz_iconst (v := 1) d_Mo_mayRefresh_47 (by decide) rfl ?_
          refine kz_iadd d_Mo_mayRefresh_48 rfl ?_
          refine kz_ialdp rfl hi1.2 hi1.1 d_Mo_mayRefresh_49 rfl ?_
          refine kz_aload_n d_Mo_mayRefresh_50 rfl rfl ?_
          refine kz_getR fd_Mo_7 rfl rfl rfl d_Mo_mayRefresh_51 rfl ?_
          refine kz_iconst (v := 1) d_Mo_mayRefresh_54 (by decide) rfl ?_
          refine kz_ialdp rfl (by first | assumption | exact kz_vin (by decide)) (j := 1) (by decide) d_Mo_mayRefresh_55 rfl ?_
          refine kz_callVi (c_Mo_isBehind l) cv_Mo_153 rfl rfl rfl ⟨by decide, by decide⟩ rfl (Nat.le_of_ble_eq_true rfl) d_Mo_mayRefresh_56 rfl ?_
          refine kz_if_eqb (tgt := 66) d_Mo_mayRefresh_59 (by decide) rfl (fun h59 => ?_) (fun h59 => ?_)
          · refine kz_iconst (v := 0) d_Mo_mayRefresh_66 (by decide) rfl ?_
            refine kz_istore_n (i := 1) d_Mo_mayRefresh_67 rfl rfl (Nat.le_of_ble_eq_true rfl) rfl ?_
            refine kz_iinc d_Mo_mayRefresh_68 rfl rfl (Nat.le_of_ble_eq_true rfl) (kz_inc b) rfl ?_
            refine kz_goto (tgt := 20) d_Mo_mayRefresh_71 (by decide) ?_
            have h := ih (b + 1) false (by omega)
            subst h26
            rw [rr_mr, show rr_bh M (M.1 5 (5 * b + 1)) (M.1 1 1) = false from h59, Bool.and_false, Bool.and_false]
            exact h
          · refine kz_iconst (v := 1) d_Mo_mayRefresh_62 (by decide) rfl ?_
            refine kz_goto (tgt := 67) d_Mo_mayRefresh_63 (by decide) ?_
            refine kz_istore_n (i := 1) d_Mo_mayRefresh_67 rfl rfl (Nat.le_of_ble_eq_true rfl) rfl ?_
            refine kz_iinc d_Mo_mayRefresh_68 rfl rfl (Nat.le_of_ble_eq_true rfl) (kz_inc b) rfl ?_
            refine kz_goto (tgt := 20) d_Mo_mayRefresh_71 (by decide) ?_
            have h := ih (b + 1) true (by omega)
            subst h26
            rw [rr_mr, decide_eq_true h36, show rr_bh M (M.1 5 (5 * b + 1)) (M.1 1 1) = true from h59]
            exact h
set_option maxRecDepth 100000 in
set_option maxHeartbeats 1000000 in
theorem c_Mo_mayRefresh (l : Launch) {M : kz_M}  : kz_Dt l sR m_Mo_mayRefresh [.ref 0] M (some (.int (kz_ib (rr_mr M (rr_bh M (M.1 6 4) (M.1 1 12)) 4 0)))) M := by
  refine kz_intro (by decide +kernel) (Nat.le_of_ble_eq_true rfl) ?_
  show kz_G l sR m_Mo_mayRefresh 0 [some (.ref 0), none, none] [] M _
  refine kz_aload_n d_Mo_mayRefresh_0 rfl rfl ?_
  refine kz_aload_n d_Mo_mayRefresh_1 rfl rfl ?_
  refine kz_getR fd_Mo_26 rfl rfl rfl d_Mo_mayRefresh_2 rfl ?_
  refine kz_iconst (v := 4) d_Mo_mayRefresh_5 (by decide) rfl ?_
  refine kz_ialdp rfl (by first | assumption | exact kz_vin (by decide)) (j := 4) (by decide) d_Mo_mayRefresh_6 rfl ?_
  refine kz_aload_n d_Mo_mayRefresh_7 rfl rfl ?_
  refine kz_getR fd_Mo_7 rfl rfl rfl d_Mo_mayRefresh_8 rfl ?_
  refine kz_bipush (v := 12) d_Mo_mayRefresh_11 (by decide) rfl ?_
  refine kz_ialdp rfl (by first | assumption | exact kz_vin (by decide)) (j := 12) (by decide) d_Mo_mayRefresh_13 rfl ?_
  refine kz_callVi (c_Mo_isBehind l) cv_Mo_153 rfl rfl rfl ⟨by decide, by decide⟩ rfl (Nat.le_of_ble_eq_true rfl) d_Mo_mayRefresh_14 rfl ?_
  refine kz_istore_n (i := 1) d_Mo_mayRefresh_17 rfl rfl (Nat.le_of_ble_eq_true rfl) rfl ?_
  refine kz_iconst (v := 0) d_Mo_mayRefresh_18 (by decide) rfl ?_
  refine kz_istore_n (i := 2) d_Mo_mayRefresh_19 rfl rfl (Nat.le_of_ble_eq_true rfl) rfl ?_
  exact lp_rmr l 4 0 _ (by decide)
theorem rst_cases (x : Int32) : (∃ k, k < 14 ∧ x = nI k) ∨ (x.toInt < 0 ∨ 13 < x.toInt) := st_cases x
def rp_stN (M : kz_M) : Nat → Int32
  | 0 => M.1 0 2
  | 1 => M.1 0 27
  | 2 => M.1 0 28
  | 3 => M.1 0 3
  | 4 => if M.1 0 8 = 0 then 0 else 1
  | 5 => M.1 0 4
  | 6 => M.1 0 5
  | 7 => M.1 0 6
  | 8 => M.1 0 7
  | 10 => M.1 4 0
  | 11 => M.1 4 1
  | 12 => M.1 4 2
  | 13 => M.1 4 3
  | _ => -1
def rp_st (M : kz_M) (x : Int32) : Int32 := if x.toInt < 0 ∨ 13 < x.toInt then -1 else rp_stN M x.toNatClampNeg
theorem rp_st_in (M : kz_M) {k : Nat} (h : k < 14) : rp_st M (nI k) = rp_stN M k := by
  unfold rp_st
  rw [nI_toInt (by omega), nI_clamp (by omega), if_neg (by omega)]
theorem rp_b {x : Int32} (h : 9 < x.toInt ∨ x.toInt < 0) (hx : x.toInt < 0 ∨ 13 < x.toInt) : x.toInt < 0 ∨ 8 < x.toInt := by omega
set_option maxRecDepth 100000 in
set_option maxHeartbeats 1000000 in
theorem c_Mo_state (l : Launch) {M : kz_M} {x : Int32} : kz_Dt l sR m_Mo_state [.ref 0, .int x] M (some (.int (rp_st M x))) M := by
  refine kz_intro (by decide +kernel) (Nat.le_of_ble_eq_true rfl) ?_
  show kz_G l sR m_Mo_state 0 [some (.ref 0), some (.int x)] [] M _
  rcases rst_cases x with ⟨k, hk, rfl⟩ | hx
  · rw [rp_st_in M hk]
    rcases (show k = 0 ∨ k = 1 ∨ k = 2 ∨ k = 3 ∨ k = 4 ∨ k = 5 ∨ k = 6 ∨ k = 7 ∨ k = 8 ∨ k = 9 ∨ k = 10 ∨ k = 11 ∨ k = 12 ∨ k = 13 by omega) with rfl | rfl | rfl | rfl | rfl | rfl | rfl | rfl | rfl | rfl | rfl | rfl | rfl | rfl
    · refine kz_iload_n d_Mo_state_0 rfl rfl ?_
      refine kz_bipush (v := 10) d_Mo_state_1 (by decide) rfl ?_
      refine kz_icmp_lt (tgt := 22) d_Mo_state_3 (by decide) rfl (fun _ => ?_) (fun h => absurd h (by decide))
      refine kz_iload_n d_Mo_state_22 rfl rfl ?_
      refine kz_tableIn (tgt := 72) d_Mo_state_23 (by decide) (by decide) rfl (by decide) ?_
      refine kz_aload_n d_Mo_state_72 rfl rfl ?_
      refine kz_getIp fd_Mo_96 rfl rfl (Or.inl rfl) d_Mo_state_73 rfl ?_
      exact kz_iret rfl d_Mo_state_76 (⟨rfl, rfl⟩)
    · refine kz_iload_n d_Mo_state_0 rfl rfl ?_
      refine kz_bipush (v := 10) d_Mo_state_1 (by decide) rfl ?_
      refine kz_icmp_lt (tgt := 22) d_Mo_state_3 (by decide) rfl (fun _ => ?_) (fun h => absurd h (by decide))
      refine kz_iload_n d_Mo_state_22 rfl rfl ?_
      refine kz_tableIn (tgt := 77) d_Mo_state_23 (by decide) (by decide) rfl (by decide) ?_
      refine kz_aload_n d_Mo_state_77 rfl rfl ?_
      refine kz_getIp fd_Mo_140 rfl rfl (Or.inl rfl) d_Mo_state_78 rfl ?_
      exact kz_iret rfl d_Mo_state_81 (⟨rfl, rfl⟩)
    · refine kz_iload_n d_Mo_state_0 rfl rfl ?_
      refine kz_bipush (v := 10) d_Mo_state_1 (by decide) rfl ?_
      refine kz_icmp_lt (tgt := 22) d_Mo_state_3 (by decide) rfl (fun _ => ?_) (fun h => absurd h (by decide))
      refine kz_iload_n d_Mo_state_22 rfl rfl ?_
      refine kz_tableIn (tgt := 82) d_Mo_state_23 (by decide) (by decide) rfl (by decide) ?_
      refine kz_aload_n d_Mo_state_82 rfl rfl ?_
      refine kz_getIp fd_Mo_137 rfl rfl (Or.inl rfl) d_Mo_state_83 rfl ?_
      exact kz_iret rfl d_Mo_state_86 (⟨rfl, rfl⟩)
    · refine kz_iload_n d_Mo_state_0 rfl rfl ?_
      refine kz_bipush (v := 10) d_Mo_state_1 (by decide) rfl ?_
      refine kz_icmp_lt (tgt := 22) d_Mo_state_3 (by decide) rfl (fun _ => ?_) (fun h => absurd h (by decide))
      refine kz_iload_n d_Mo_state_22 rfl rfl ?_
      refine kz_tableIn (tgt := 87) d_Mo_state_23 (by decide) (by decide) rfl (by decide) ?_
      refine kz_aload_n d_Mo_state_87 rfl rfl ?_
      refine kz_getIp fd_Mo_187 rfl rfl (Or.inl rfl) d_Mo_state_88 rfl ?_
      exact kz_iret rfl d_Mo_state_91 (⟨rfl, rfl⟩)
    · refine kz_iload_n d_Mo_state_0 rfl rfl ?_
      refine kz_bipush (v := 10) d_Mo_state_1 (by decide) rfl ?_
      refine kz_icmp_lt (tgt := 22) d_Mo_state_3 (by decide) rfl (fun _ => ?_) (fun h => absurd h (by decide))
      refine kz_iload_n d_Mo_state_22 rfl rfl ?_
      refine kz_tableIn (tgt := 92) d_Mo_state_23 (by decide) (by decide) rfl (by decide) ?_
      refine kz_aload_n d_Mo_state_92 rfl rfl ?_
      refine kz_getIp fd_Mo_206 rfl rfl (Or.inr rfl) d_Mo_state_93 rfl ?_
      refine kz_if_eq (tgt := 103) d_Mo_state_96 (by decide) rfl (fun h96 => ?_) (fun h96 => ?_)
      · refine kz_iconst (v := 0) d_Mo_state_103 (by decide) rfl ?_
        exact kz_iret rfl d_Mo_state_104 (⟨by show _ = some (Value.int (if M.1 0 8 = 0 then 0 else 1)); first | rw [if_pos h96] | rw [if_neg h96], rfl⟩)
      · refine kz_iconst (v := 1) d_Mo_state_99 (by decide) rfl ?_
        refine kz_goto (tgt := 104) d_Mo_state_100 (by decide) ?_
        exact kz_iret rfl d_Mo_state_104 (⟨by show _ = some (Value.int (if M.1 0 8 = 0 then 0 else 1)); first | rw [if_pos h96] | rw [if_neg h96], rfl⟩)
    · refine kz_iload_n d_Mo_state_0 rfl rfl ?_
      refine kz_bipush (v := 10) d_Mo_state_1 (by decide) rfl ?_
      refine kz_icmp_lt (tgt := 22) d_Mo_state_3 (by decide) rfl (fun _ => ?_) (fun h => absurd h (by decide))
      refine kz_iload_n d_Mo_state_22 rfl rfl ?_
      refine kz_tableIn (tgt := 105) d_Mo_state_23 (by decide) (by decide) rfl (by decide) ?_
      refine kz_aload_n d_Mo_state_105 rfl rfl ?_
      refine kz_getIp fd_Mo_160 rfl rfl (Or.inl rfl) d_Mo_state_106 rfl ?_
      exact kz_iret rfl d_Mo_state_109 (⟨rfl, rfl⟩)
    · refine kz_iload_n d_Mo_state_0 rfl rfl ?_
      refine kz_bipush (v := 10) d_Mo_state_1 (by decide) rfl ?_
      refine kz_icmp_lt (tgt := 22) d_Mo_state_3 (by decide) rfl (fun _ => ?_) (fun h => absurd h (by decide))
      refine kz_iload_n d_Mo_state_22 rfl rfl ?_
      refine kz_tableIn (tgt := 110) d_Mo_state_23 (by decide) (by decide) rfl (by decide) ?_
      refine kz_aload_n d_Mo_state_110 rfl rfl ?_
      refine kz_getIp fd_Mo_128 rfl rfl (Or.inl rfl) d_Mo_state_111 rfl ?_
      exact kz_iret rfl d_Mo_state_114 (⟨rfl, rfl⟩)
    · refine kz_iload_n d_Mo_state_0 rfl rfl ?_
      refine kz_bipush (v := 10) d_Mo_state_1 (by decide) rfl ?_
      refine kz_icmp_lt (tgt := 22) d_Mo_state_3 (by decide) rfl (fun _ => ?_) (fun h => absurd h (by decide))
      refine kz_iload_n d_Mo_state_22 rfl rfl ?_
      refine kz_tableIn (tgt := 115) d_Mo_state_23 (by decide) (by decide) rfl (by decide) ?_
      refine kz_aload_n d_Mo_state_115 rfl rfl ?_
      refine kz_getIp fd_Mo_121 rfl rfl (Or.inl rfl) d_Mo_state_116 rfl ?_
      exact kz_iret rfl d_Mo_state_119 (⟨rfl, rfl⟩)
    · refine kz_iload_n d_Mo_state_0 rfl rfl ?_
      refine kz_bipush (v := 10) d_Mo_state_1 (by decide) rfl ?_
      refine kz_icmp_lt (tgt := 22) d_Mo_state_3 (by decide) rfl (fun _ => ?_) (fun h => absurd h (by decide))
      refine kz_iload_n d_Mo_state_22 rfl rfl ?_
      refine kz_tableIn (tgt := 120) d_Mo_state_23 (by decide) (by decide) rfl (by decide) ?_
      refine kz_aload_n d_Mo_state_120 rfl rfl ?_
      refine kz_getIp fd_Mo_131 rfl rfl (Or.inl rfl) d_Mo_state_121 rfl ?_
      exact kz_iret rfl d_Mo_state_124 (⟨rfl, rfl⟩)
    · refine kz_iload_n d_Mo_state_0 rfl rfl ?_
      refine kz_bipush (v := 10) d_Mo_state_1 (by decide) rfl ?_
      refine kz_icmp_lt (tgt := 22) d_Mo_state_3 (by decide) rfl (fun _ => ?_) (fun h => absurd h (by decide))
      refine kz_iload_n d_Mo_state_22 rfl rfl ?_
      refine kz_tableOut (tgt := 125) d_Mo_state_23 (by decide) (by decide) ?_
      refine kz_iconst (v := -1) d_Mo_state_125 (by decide) rfl ?_
      exact kz_iret rfl d_Mo_state_126 (⟨rfl, rfl⟩)
    · refine kz_iload_n d_Mo_state_0 rfl rfl ?_
      refine kz_bipush (v := 10) d_Mo_state_1 (by decide) rfl ?_
      refine kz_icmp_lt (tgt := 22) d_Mo_state_3 (by decide) rfl (fun h => absurd h (by decide)) (fun _ => ?_)
      refine kz_iload_n d_Mo_state_6 rfl rfl ?_
      refine kz_bipush (v := 13) d_Mo_state_7 (by decide) rfl ?_
      refine kz_icmp_gt (tgt := 22) d_Mo_state_9 (by decide) rfl (fun h => absurd h (by decide)) (fun _ => ?_)
      refine kz_aload_n d_Mo_state_12 rfl rfl ?_
      refine kz_getR fd_Mo_20 rfl rfl rfl d_Mo_state_13 rfl ?_
      refine kz_iload_n d_Mo_state_16 rfl rfl ?_
      refine kz_bipush (v := 10) d_Mo_state_17 (by decide) rfl ?_
      refine kz_isub d_Mo_state_19 rfl ?_
      refine kz_ialdp rfl (by first | assumption | exact kz_vin (by decide)) rfl d_Mo_state_20 rfl ?_
      exact kz_iret rfl d_Mo_state_21 (⟨rfl, rfl⟩)
    · refine kz_iload_n d_Mo_state_0 rfl rfl ?_
      refine kz_bipush (v := 10) d_Mo_state_1 (by decide) rfl ?_
      refine kz_icmp_lt (tgt := 22) d_Mo_state_3 (by decide) rfl (fun h => absurd h (by decide)) (fun _ => ?_)
      refine kz_iload_n d_Mo_state_6 rfl rfl ?_
      refine kz_bipush (v := 13) d_Mo_state_7 (by decide) rfl ?_
      refine kz_icmp_gt (tgt := 22) d_Mo_state_9 (by decide) rfl (fun h => absurd h (by decide)) (fun _ => ?_)
      refine kz_aload_n d_Mo_state_12 rfl rfl ?_
      refine kz_getR fd_Mo_20 rfl rfl rfl d_Mo_state_13 rfl ?_
      refine kz_iload_n d_Mo_state_16 rfl rfl ?_
      refine kz_bipush (v := 10) d_Mo_state_17 (by decide) rfl ?_
      refine kz_isub d_Mo_state_19 rfl ?_
      refine kz_ialdp rfl (by first | assumption | exact kz_vin (by decide)) rfl d_Mo_state_20 rfl ?_
      exact kz_iret rfl d_Mo_state_21 (⟨rfl, rfl⟩)
    · refine kz_iload_n d_Mo_state_0 rfl rfl ?_
      refine kz_bipush (v := 10) d_Mo_state_1 (by decide) rfl ?_
      refine kz_icmp_lt (tgt := 22) d_Mo_state_3 (by decide) rfl (fun h => absurd h (by decide)) (fun _ => ?_)
      refine kz_iload_n d_Mo_state_6 rfl rfl ?_
      refine kz_bipush (v := 13) d_Mo_state_7 (by decide) rfl ?_
      refine kz_icmp_gt (tgt := 22) d_Mo_state_9 (by decide) rfl (fun h => absurd h (by decide)) (fun _ => ?_)
      refine kz_aload_n d_Mo_state_12 rfl rfl ?_
      refine kz_getR fd_Mo_20 rfl rfl rfl d_Mo_state_13 rfl ?_
      refine kz_iload_n d_Mo_state_16 rfl rfl ?_
      refine kz_bipush (v := 10) d_Mo_state_17 (by decide) rfl ?_
      refine kz_isub d_Mo_state_19 rfl ?_
      refine kz_ialdp rfl (by first | assumption | exact kz_vin (by decide)) rfl d_Mo_state_20 rfl ?_
      exact kz_iret rfl d_Mo_state_21 (⟨rfl, rfl⟩)
    · refine kz_iload_n d_Mo_state_0 rfl rfl ?_
      refine kz_bipush (v := 10) d_Mo_state_1 (by decide) rfl ?_
      refine kz_icmp_lt (tgt := 22) d_Mo_state_3 (by decide) rfl (fun h => absurd h (by decide)) (fun _ => ?_)
      refine kz_iload_n d_Mo_state_6 rfl rfl ?_
      refine kz_bipush (v := 13) d_Mo_state_7 (by decide) rfl ?_
      refine kz_icmp_gt (tgt := 22) d_Mo_state_9 (by decide) rfl (fun h => absurd h (by decide)) (fun _ => ?_)
      refine kz_aload_n d_Mo_state_12 rfl rfl ?_
      refine kz_getR fd_Mo_20 rfl rfl rfl d_Mo_state_13 rfl ?_
      refine kz_iload_n d_Mo_state_16 rfl rfl ?_
      refine kz_bipush (v := 10) d_Mo_state_17 (by decide) rfl ?_
      refine kz_isub d_Mo_state_19 rfl ?_
      refine kz_ialdp rfl (by first | assumption | exact kz_vin (by decide)) rfl d_Mo_state_20 rfl ?_
      exact kz_iret rfl d_Mo_state_21 (⟨rfl, rfl⟩)
  · have e : rp_st M x = -1 := by rw [rp_st, if_pos hx]
    rw [e]
    refine kz_iload_n d_Mo_state_0 rfl rfl ?_
    refine kz_bipush (v := 10) d_Mo_state_1 (by decide) rfl ?_
    refine kz_icmp_lt (tgt := 22) d_Mo_state_3 (by decide) rfl (fun h3 => ?_) (fun h3 => ?_)
    · refine kz_iload_n d_Mo_state_22 rfl rfl ?_
      refine kz_tableOut (tgt := 125) d_Mo_state_23 (by omega) (by decide) ?_
      refine kz_iconst (v := -1) d_Mo_state_125 (by decide) rfl ?_
      exact kz_iret rfl d_Mo_state_126 (⟨rfl, rfl⟩)
    · refine kz_iload_n d_Mo_state_6 rfl rfl ?_
      refine kz_bipush (v := 13) d_Mo_state_7 (by decide) rfl ?_
      refine kz_icmp_gt (tgt := 22) d_Mo_state_9 (by decide) rfl (fun h9 => ?_) (fun h9 => ?_)
      · refine kz_iload_n d_Mo_state_22 rfl rfl ?_
        refine kz_tableOut (tgt := 125) d_Mo_state_23 (by omega) (by decide) ?_
        refine kz_iconst (v := -1) d_Mo_state_125 (by decide) rfl ?_
        exact kz_iret rfl d_Mo_state_126 (⟨rfl, rfl⟩)
      · exfalso
        rw [Int32.lt_iff_toInt_lt, show (10 : Int32).toInt = 10 by decide] at h3
        rw [Int32.lt_iff_toInt_lt, show (13 : Int32).toInt = 13 by decide] at h9
        omega
def rp_cm (M : kz_M) (g : Nat) (k i : Int32) : Int32 := if k < 0 ∨ 31 < k ∨ ¬ k < M.1 0 4 ∨ i.toInt < 0 ∨ 4 < i.toInt then -1 else M.1 (18 + i.toNatClampNeg) ((g - 1 - k.toNatClampNeg) % 32)
theorem rp_ci {g : Nat} {k : Int32} (hg : g < 2 ^ 31) (h1 : ¬ k < 0) (h3 : k < nI g) : nI g - 1 - k - (nI g - 1 - k) / 32 * 32 = nI ((g - 1 - k.toNatClampNeg) % 32) := by
  obtain ⟨q, hq, rfl⟩ := nI_of h1
  rw [nI_ltI hq hg] at h3
  rw [nI_clamp hq]
  have e : nI g - 1 - nI q = nI (g - 1 - q) := by
    obtain ⟨g', rfl⟩ : ∃ g', g = g' + 1 := ⟨g - 1, by omega⟩
    rw [nI_pred, pk_sub (by omega)]
    rfl
  rw [e]
  exact pk_rem (a := g - 1 - q) (d := 32) (by omega) (by decide) (by decide)
theorem c5_cases (x : Int32) : (∃ k, k < 5 ∧ x = nI k) ∨ (x.toInt < 0 ∨ 4 < x.toInt) := by
  by_cases h : x.toInt < 0 ∨ 4 < x.toInt
  · exact Or.inr h
  · obtain ⟨j, hj, rfl⟩ := vp_in_of (x := x) (n := 5) (by rw [vp_in_iff]; omega) (by decide)
    exact Or.inl ⟨j, hj, rfl⟩
set_option maxRecDepth 100000 in
set_option maxHeartbeats 1000000 in
theorem c_Mo_command (l : Launch) {M : kz_M} {g : Nat} {k i : Int32} (hg : g < 2 ^ 31) (hge : M.1 0 4 = nI g) : kz_Dt l sR m_Mo_command [.ref 0, .int k, .int i] M (some (.int (rp_cm M g k i))) M := by
  refine kz_intro (by decide +kernel) (Nat.le_of_ble_eq_true rfl) ?_
  show kz_G l sR m_Mo_command 0 [some (.ref 0), some (.int k), some (.int i), none] [] M _
  refine kz_iload_n d_Mo_command_0 rfl rfl ?_
  refine kz_if_lt (tgt := 18) d_Mo_command_1 (by decide) rfl (fun h1 => ?_) (fun h1 => ?_)
  · refine kz_iconst (v := -1) d_Mo_command_18 (by decide) rfl ?_
    exact kz_iret rfl d_Mo_command_19 (⟨congrArg (fun z => some (Value.int z)) (by first | exact (if_pos (Or.inl h1)).symm | exact (if_pos (Or.inr (Or.inl h7))).symm | exact (if_pos (Or.inr (Or.inr (Or.inl h15)))).symm), rfl⟩)
  · refine kz_iload_n d_Mo_command_4 rfl rfl ?_
    refine kz_bipush (v := 31) d_Mo_command_5 (by decide) rfl ?_
    refine kz_icmp_gt (tgt := 18) d_Mo_command_7 (by decide) rfl (fun h7 => ?_) (fun h7 => ?_)
    · refine kz_iconst (v := -1) d_Mo_command_18 (by decide) rfl ?_
      exact kz_iret rfl d_Mo_command_19 (⟨congrArg (fun z => some (Value.int z)) (by first | exact (if_pos (Or.inl h1)).symm | exact (if_pos (Or.inr (Or.inl h7))).symm | exact (if_pos (Or.inr (Or.inr (Or.inl h15)))).symm), rfl⟩)
    · refine kz_iload_n d_Mo_command_10 rfl rfl ?_
      refine kz_aload_n d_Mo_command_11 rfl rfl ?_
      refine kz_getIp fd_Mo_160 rfl rfl (Or.inl rfl) d_Mo_command_12 rfl ?_
      refine kz_icmp_lt (tgt := 20) d_Mo_command_15 (by decide) rfl (fun h15 => ?_) (fun h15 => ?_)
      · refine kz_aload_n d_Mo_command_20 rfl rfl ?_
        refine kz_getIp fd_Mo_160 rfl rfl (Or.inl rfl) d_Mo_command_21 rfl ?_
        refine kz_iconst (v := 1) d_Mo_command_24 (by decide) rfl ?_
        refine kz_isub d_Mo_command_25 rfl ?_
        refine kz_iload_n d_Mo_command_26 rfl rfl ?_
        refine kz_isub d_Mo_command_27 rfl ?_
        refine kz_bipush (v := 32) d_Mo_command_28 (by decide) rfl ?_
        refine kz_irem d_Mo_command_30 (by first | assumption | decide) rfl ?_
        refine kz_topi (y := nI ((g - 1 - k.toNatClampNeg) % 32)) (by rw [hge]; exact rp_ci hg h1 (by rw [← hge]; exact h15)) ?_
        refine kz_istore_n (i := 3) d_Mo_command_31 rfl rfl (Nat.le_of_ble_eq_true rfl) rfl ?_
        refine kz_iload_n d_Mo_command_32 rfl rfl ?_
        have hno : ∀ h : i.toInt < 0 ∨ 4 < i.toInt, rp_cm M g k i = -1 := fun h => by rw [rp_cm, if_pos (Or.inr (Or.inr (Or.inr h)))]
        rcases c5_cases i with ⟨q, hq, rfl⟩ | hx
        · have e : rp_cm M g k (nI q) = M.1 (18 + q) ((g - 1 - k.toNatClampNeg) % 32) := by
            rw [rp_cm, nI_clamp (by omega), nI_toInt (by omega), if_neg]
            intro z
            rcases z with z | z | z | z | z
            · exact h1 z
            · exact h7 z
            · exact z h15
            · omega
            · omega
          rw [e]
          rcases (show q = 0 ∨ q = 1 ∨ q = 2 ∨ q = 3 ∨ q = 4 by omega) with rfl | rfl | rfl | rfl | rfl
          · refine kz_tableIn (tgt := 68) d_Mo_command_33 (by decide) (by decide) rfl (by decide) ?_
            refine kz_aload_n d_Mo_command_68 rfl rfl ?_
            refine kz_getR fd_Mo_71 rfl rfl rfl d_Mo_command_69 rfl ?_
            refine kz_iload_n d_Mo_command_72 rfl rfl ?_
            refine kz_ialdp rfl rr_g32i rr_g32c d_Mo_command_73 rfl ?_
            exact kz_iret rfl d_Mo_command_74 (⟨rfl, rfl⟩)
          · refine kz_tableIn (tgt := 75) d_Mo_command_33 (by decide) (by decide) rfl (by decide) ?_
            refine kz_aload_n d_Mo_command_75 rfl rfl ?_
            refine kz_getR fd_Mo_74 rfl rfl rfl d_Mo_command_76 rfl ?_
            refine kz_iload_n d_Mo_command_79 rfl rfl ?_
            refine kz_ialdp rfl rr_g32i rr_g32c d_Mo_command_80 rfl ?_
            exact kz_iret rfl d_Mo_command_81 (⟨rfl, rfl⟩)
          · refine kz_tableIn (tgt := 82) d_Mo_command_33 (by decide) (by decide) rfl (by decide) ?_
            refine kz_aload_n d_Mo_command_82 rfl rfl ?_
            refine kz_getR fd_Mo_77 rfl rfl rfl d_Mo_command_83 rfl ?_
            refine kz_iload_n d_Mo_command_86 rfl rfl ?_
            refine kz_ialdp rfl rr_g32i rr_g32c d_Mo_command_87 rfl ?_
            exact kz_iret rfl d_Mo_command_88 (⟨rfl, rfl⟩)
          · refine kz_tableIn (tgt := 89) d_Mo_command_33 (by decide) (by decide) rfl (by decide) ?_
            refine kz_aload_n d_Mo_command_89 rfl rfl ?_
            refine kz_getR fd_Mo_80 rfl rfl rfl d_Mo_command_90 rfl ?_
            refine kz_iload_n d_Mo_command_93 rfl rfl ?_
            refine kz_ialdp rfl rr_g32i rr_g32c d_Mo_command_94 rfl ?_
            exact kz_iret rfl d_Mo_command_95 (⟨rfl, rfl⟩)
          · refine kz_tableIn (tgt := 96) d_Mo_command_33 (by decide) (by decide) rfl (by decide) ?_
            refine kz_aload_n d_Mo_command_96 rfl rfl ?_
            refine kz_getR fd_Mo_83 rfl rfl rfl d_Mo_command_97 rfl ?_
            refine kz_iload_n d_Mo_command_100 rfl rfl ?_
            refine kz_ialdp rfl rr_g32i rr_g32c d_Mo_command_101 rfl ?_
            exact kz_iret rfl d_Mo_command_102 (⟨rfl, rfl⟩)
        · rw [hno hx]
          refine kz_tableOut (tgt := 103) d_Mo_command_33 hx (by decide) ?_
          refine kz_iconst (v := -1) d_Mo_command_103 (by decide) rfl ?_
          exact kz_iret rfl d_Mo_command_104 (⟨rfl, rfl⟩)
      · refine kz_iconst (v := -1) d_Mo_command_18 (by decide) rfl ?_
        exact kz_iret rfl d_Mo_command_19 (⟨congrArg (fun z => some (Value.int z)) (by first | exact (if_pos (Or.inl h1)).symm | exact (if_pos (Or.inr (Or.inl h7))).symm | exact (if_pos (Or.inr (Or.inr (Or.inl h15)))).symm), rfl⟩)
