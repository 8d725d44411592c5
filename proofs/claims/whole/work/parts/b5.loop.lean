/-! The law: its loop. -/
theorem and15 (x : Int32) : ∃ j, j < 16 ∧ x &&& 15 = nI j := by
  refine ⟨(x &&& 15).toBitVec.toNat, ?_, ?_⟩
  · rw [Int32.toBitVec_and, BitVec.toNat_and]
    exact Nat.lt_of_le_of_lt Nat.and_le_right (by decide)
  · apply Int32.toBitVec_inj.mp
    show _ = BitVec.ofNat 32 _
    rw [BitVec.ofNat_toNat]
    simp
set_option maxRecDepth 100000 in
set_option maxHeartbeats 1000000 in
theorem lw_loop {p : Program} {l : Launch} {e : Env} {s : State} {m : MethodId} {below : List Frame} {meth : Method} {c : Code} {cells slots : Nat} {D : va_G} {cs : Nat → ClassId} {ad ad2 : Nat → Nat} {b L : Nat} {xs : Nat → Int32} (X : lw_X p room_1 s m #[Value.ref b] c D cs (fun q => s.heap.size ≤ q) b L xs) (hr : meth.sig.returnType = ret) (hlk : meth.locks = false) (hc : cells ≤ 600000 ∧ slots ≤ 7302250) : ∀ (n k : Nat) (M N : kz_M) (H : Heap) (locs : List Loc) (ls : Array Slot), k + n = 513 → zF k M N → lw_Wo D (fun q => s.heap.size ≤ q) s cs ad ad2 M N H locs → lv_has ls 4 [(3, .int (nI (2 + 4 * k))), (2, .ref (ad2 0)), (1, .ref (ad 0)), (0, .ref b)] → W p l e room_1 s m #[Value.ref b] below meth c H locs cells slots (lw_Z below #[Value.ref b] s) (F0 m 38 ls []) := by
  have hL : L ≤ 2050 := X.2.2.2.2.2.2.2.2.2.2.1
  have hX := X.2.2.2.2.2.2.2.1
  have hbl := X.2.2.2.2.2.2.2.2.1
  have hbA := X.2.2.2.2.2.2.2.2.2.1
  intro n
  induction n with
  | zero =>
    intro k M N H locs ls hk hF h hl
    refine lv_iload_n X.1 X.2.1 d_Lw_38 rfl (lv_at hl 0 rfl) ?_
    refine lv_aload_n X.1 X.2.1 d_Lw_39 rfl (lv_at hl 3 rfl) ?_
    refine va_slen X.1 X.2.1 hX hbl hbA h.2.2.2.2.2 d_Lw_40 ?_
    refine lv_iconst (v := 4) X.1 X.2.1 d_Lw_41 (by decide) ?_
    refine lv_isub X.1 X.2.1 d_Lw_42 ?_
    refine lv_icmp_gt (tgt := 425) X.1 X.2.1 d_Lw_43 (by decide) (fun hh => ?_) (fun hh => ?_)
    · refine lv_iconst (v := 1) X.1 X.2.1 d_Lw_425 (by decide) ?_
      refine va_forget (fun q hq => h.2.2.2.2.2.2.2 q hq) ?_
      refine W.widen (k := 600000) (n := 7302250) hc.1 hc.2 ?_
      exact lw_ret X.1 X.2.1 hr hlk d_Lw_426
    · refine absurd ?_ hh
      rw [Int32.lt_iff_toInt_lt, Int32.toInt_sub, nI_toInt (n := 2 + 4 * k) (by omega), show (Int32.ofNat L).toInt = (L : Int) from nI_toInt (n := L) (by omega), show (4 : Int32).toInt = 4 by decide, Int.bmod_eq_of_le (by omega) (by omega)]
      omega
  | succ n ih =>
    intro k M N H locs ls hk hF h hl
    refine lv_iload_n X.1 X.2.1 d_Lw_38 rfl (lv_at hl 0 rfl) ?_
    refine lv_aload_n X.1 X.2.1 d_Lw_39 rfl (lv_at hl 3 rfl) ?_
    refine va_slen X.1 X.2.1 hX hbl hbA h.2.2.2.2.2 d_Lw_40 ?_
    refine lv_iconst (v := 4) X.1 X.2.1 d_Lw_41 (by decide) ?_
    refine lv_isub X.1 X.2.1 d_Lw_42 ?_
    refine lv_icmp_gt (tgt := 425) X.1 X.2.1 d_Lw_43 (by decide) (fun hh => ?_) (fun hh => ?_)
    · refine lv_iconst (v := 1) X.1 X.2.1 d_Lw_425 (by decide) ?_
      refine va_forget (fun q hq => h.2.2.2.2.2.2.2 q hq) ?_
      refine W.widen (k := 600000) (n := 7302250) hc.1 hc.2 ?_
      exact lw_ret X.1 X.2.1 hr hlk d_Lw_426
    · have hi : (2 + 4 * k) + 4 ≤ L := by
        rw [Int32.lt_iff_toInt_lt, Int32.toInt_sub, nI_toInt (n := 2 + 4 * k) (by omega), show (Int32.ofNat L).toInt = (L : Int) from nI_toInt (n := L) (by omega), show (4 : Int32).toInt = 4 by decide, Int.bmod_eq_of_le (by omega) (by omega)] at hh
        omega
      have hc' : cells ≤ room_1.cells ∧ slots ≤ room_1.slots := hc
      have hK0 : ∀ (O S : kz_M) (H1 : Heap) (locs1 : List Loc), zF (k + 1) O S → lw_Wo D (fun q => s.heap.size ≤ q) s cs ad ad2 O S H1 locs1 → W p l e room_1 s m #[Value.ref b] below meth c H1 locs1 cells slots (lw_Z below #[Value.ref b] s) (F0 m 419 ls []) := fun O S H1 locs1 hF1 h1 => by
        refine lv_iinc (k := 0) X.1 X.2.1 d_Lw_419 hl rfl (v := nI (2 + 4 * (k + 1))) ?_ (by decide) rfl (fun ls' hl' => ?_)
        · show nI (2 + 4 * k) + nI 4 = _
          rw [nI_plus]
          congr 1
        · refine lv_goto (tgt := 38) X.1 X.2.1 d_Lw_422 (by decide) ?_
          exact ih (k + 1) O S H1 locs1 ls' (by omega) hF1 h1 hl'
      refine lv_aload_n X.1 X.2.1 d_Lw_46 rfl (lv_at hl 3 rfl) ?_
      refine lv_iload_n X.1 X.2.1 d_Lw_47 rfl (lv_at hl 0 rfl) ?_
      refine va_sld X.1 X.2.1 hX hbl hbA h.2.2.2.2.2 (i := nI (2 + 4 * k)) (vp_in_nI (by omega) (by omega)) d_Lw_48 ?_
      refine lv_bipush (v := 15) X.1 X.2.1 d_Lw_49 (by decide) ?_
      refine lv_iand X.1 X.2.1 d_Lw_51 ?_
      obtain ⟨j, hj, ej⟩ := and15 (xs (nI (2 + 4 * k)).toNatClampNeg)
      rw [ej]
      match j, hj with
      | 0, _ => exact lv_tableIn (off := 56) (tgt := 108) X.1 X.2.1 d_Lw_52 (by decide) (by decide) rfl (by decide) (lw_k0 X h hl hi hF (by omega) hc' hK0)
      | 1, _ => exact lv_tableIn (off := 89) (tgt := 141) X.1 X.2.1 d_Lw_52 (by decide) (by decide) rfl (by decide) (lw_k1 X h hl hi hF (by omega) hc' hK0)
      | 2, _ => exact lv_tableIn (off := 112) (tgt := 164) X.1 X.2.1 d_Lw_52 (by decide) (by decide) rfl (by decide) (lw_k2 X h hl hi hF (by omega) hc' hK0)
      | 3, _ => exact lv_tableIn (off := 175) (tgt := 227) X.1 X.2.1 d_Lw_52 (by decide) (by decide) rfl (by decide) (lw_k3 X h hl hi hF (by omega) hc' hK0)
      | 4, _ => exact lv_tableIn (off := 198) (tgt := 250) X.1 X.2.1 d_Lw_52 (by decide) (by decide) rfl (by decide) (lw_k4 X h hl hi hF (by omega) hc' hK0)
      | 5, _ => exact lv_tableIn (off := 231) (tgt := 283) X.1 X.2.1 d_Lw_52 (by decide) (by decide) rfl (by decide) (lw_k5 X h hl hi hF (by omega) hc' hK0)
      | 6, _ => exact lv_tableIn (off := 254) (tgt := 306) X.1 X.2.1 d_Lw_52 (by decide) (by decide) rfl (by decide) (lw_k6 X h hl hi hF (by omega) hc' hK0)
      | 7, _ => exact lv_tableIn (off := 278) (tgt := 330) X.1 X.2.1 d_Lw_52 (by decide) (by decide) rfl (by decide) (lw_k7 X h hl hi hF (by omega) hc' hK0)
      | 8, _ => exact lv_tableIn (off := 301) (tgt := 353) X.1 X.2.1 d_Lw_52 (by decide) (by decide) rfl (by decide) (lw_k8 X h hl hi hF (by omega) hc' hK0)
      | 9, _ => exact lv_tableIn (off := 334) (tgt := 386) X.1 X.2.1 d_Lw_52 (by decide) (by decide) rfl (by decide) (lw_k9 X h hl hi hF (by omega) hc' hK0)
      | 10, _ => exact lv_tableOut (tgt := 419) X.1 X.2.1 d_Lw_52 (by decide) (by decide) (hK0 M N H locs (zF_up hF) h)
      | 11, _ => exact lv_tableOut (tgt := 419) X.1 X.2.1 d_Lw_52 (by decide) (by decide) (hK0 M N H locs (zF_up hF) h)
      | 12, _ => exact lv_tableOut (tgt := 419) X.1 X.2.1 d_Lw_52 (by decide) (by decide) (hK0 M N H locs (zF_up hF) h)
      | 13, _ => exact lv_tableOut (tgt := 419) X.1 X.2.1 d_Lw_52 (by decide) (by decide) (hK0 M N H locs (zF_up hF) h)
      | 14, _ => exact lv_tableOut (tgt := 419) X.1 X.2.1 d_Lw_52 (by decide) (by decide) (hK0 M N H locs (zF_up hF) h)
      | 15, _ => exact lv_tableOut (tgt := 419) X.1 X.2.1 d_Lw_52 (by decide) (by decide) (hK0 M N H locs (zF_up hF) h)
      | j + 16, hj => exact absurd hj (by omega)
