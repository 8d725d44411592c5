/-! Building: the reference's constructor, behind its arrays; by program (wip/whole/gen_k2.py). -/
def kz_fl (M : kz_M) (k i : Nat) (f : Nat → Int32) : kz_M := (fun a b => if a = k ∧ b < i then f b else M.1 a b, M.2)
theorem kz_fl0 {M : kz_M} {k : Nat} {f : Nat → Int32} : kz_fl M k 0 f = M := by
  unfold kz_fl
  simp
theorem kz_fls {M : kz_M} {k i : Nat} {f : Nat → Int32} {x : Int32} (h : x = f i) : (kz_u (kz_fl M k i f).1 k i x, (kz_fl M k i f).2) = kz_fl M k (i + 1) f := by
  subst h
  unfold kz_fl
  refine congrArg (fun z => (z, M.2)) ?_
  funext a b
  simp only [kz_u]
  by_cases q : a = k
  · rw [if_pos q]
    by_cases r : b = i
    · rw [if_pos r, if_pos ⟨q, by omega⟩, r]
    · rw [if_neg r]
      by_cases t : b < i
      · rw [if_pos ⟨q, t⟩, if_pos ⟨q, by omega⟩]
      · rw [if_neg (fun z => t z.2), if_neg (fun z => by omega)]
  · rw [if_neg q, if_neg (fun z => q z.1), if_neg (fun z => q z.1)]
theorem kz_flu {M : kz_M} {k k' i j : Nat} {f : Nat → Int32} {x : Int32} (h : k' ≠ k) : (kz_u (kz_fl M k i f).1 k' j x, (kz_fl M k i f).2) = kz_fl (kz_u M.1 k' j x, M.2) k i f := by
  unfold kz_fl
  refine congrArg (fun z => (z, M.2)) ?_
  funext a b
  simp only [kz_u]
  by_cases q : a = k'
  · have hk : ¬ (a = k ∧ b < i) := fun z => h (q.symm.trans z.1)
    rw [if_pos q, if_neg hk, if_neg hk, if_pos q]
  · rw [if_neg q, if_neg q]
theorem kz_memq2 {l : Launch} {Sy : kz_Sy} {mi : kz_Me} {pc : Nat} {L : List (Option Value)} {S : List Value} {M N : kz_M} {Q : Option Value → kz_M → Prop} (h : M = N) (k : kz_G l Sy mi pc L S N Q) : kz_G l Sy mi pc L S M Q := h ▸ k
def mo_f (k : Nat) : Nat := [3, 3, 7, 10, 2, 9, 4, 4, 3, 3, 4, 3, 12, 120].getD k 0
set_option maxRecDepth 100000 in
set_option maxHeartbeats 1000000 in
theorem c_Mo_first (l : Launch) {M : kz_M} (k : Nat) (hk : k < 14) : kz_Dt l sR m_Mo_first [.int (nI k)] M (some (.int (nI (mo_f k)))) M := by
  refine kz_intro (by decide +kernel) (Nat.le_of_ble_eq_true rfl) ?_
  show kz_G l sR m_Mo_first 0 [some (.int (nI k))] [] M _
  refine kz_iload_n d_Mo_first_0 rfl rfl ?_
  match k, hk with
  | 0, _ =>
    refine kz_tableOut (tgt := 87) d_Mo_first_1 (by decide) (by decide) ?_
    refine kz_iconst (v := 3) d_Mo_first_87 (by decide) rfl ?_
    exact kz_iret rfl d_Mo_first_88 ⟨rfl, rfl⟩
  | 1, _ =>
    refine kz_tableOut (tgt := 87) d_Mo_first_1 (by decide) (by decide) ?_
    refine kz_iconst (v := 3) d_Mo_first_87 (by decide) rfl ?_
    exact kz_iret rfl d_Mo_first_88 ⟨rfl, rfl⟩
  | 2, _ =>
    refine kz_tableIn (off := 63) (tgt := 64) d_Mo_first_1 (by decide) (by decide) rfl (by decide) ?_
    refine kz_bipush (v := 7) d_Mo_first_64 (by decide) rfl ?_
    exact kz_iret rfl d_Mo_first_66 ⟨rfl, rfl⟩
  | 3, _ =>
    refine kz_tableIn (off := 66) (tgt := 67) d_Mo_first_1 (by decide) (by decide) rfl (by decide) ?_
    refine kz_bipush (v := 10) d_Mo_first_67 (by decide) rfl ?_
    exact kz_iret rfl d_Mo_first_69 ⟨rfl, rfl⟩
  | 4, _ =>
    refine kz_tableIn (off := 69) (tgt := 70) d_Mo_first_1 (by decide) (by decide) rfl (by decide) ?_
    refine kz_iconst (v := 2) d_Mo_first_70 (by decide) rfl ?_
    exact kz_iret rfl d_Mo_first_71 ⟨rfl, rfl⟩
  | 5, _ =>
    refine kz_tableIn (off := 71) (tgt := 72) d_Mo_first_1 (by decide) (by decide) rfl (by decide) ?_
    refine kz_bipush (v := 9) d_Mo_first_72 (by decide) rfl ?_
    exact kz_iret rfl d_Mo_first_74 ⟨rfl, rfl⟩
  | 6, _ =>
    refine kz_tableIn (off := 74) (tgt := 75) d_Mo_first_1 (by decide) (by decide) rfl (by decide) ?_
    refine kz_iconst (v := 4) d_Mo_first_75 (by decide) rfl ?_
    exact kz_iret rfl d_Mo_first_76 ⟨rfl, rfl⟩
  | 7, _ =>
    refine kz_tableIn (off := 76) (tgt := 77) d_Mo_first_1 (by decide) (by decide) rfl (by decide) ?_
    refine kz_iconst (v := 4) d_Mo_first_77 (by decide) rfl ?_
    exact kz_iret rfl d_Mo_first_78 ⟨rfl, rfl⟩
  | 8, _ =>
    refine kz_tableIn (off := 86) (tgt := 87) d_Mo_first_1 (by decide) (by decide) rfl (by decide) ?_
    refine kz_iconst (v := 3) d_Mo_first_87 (by decide) rfl ?_
    exact kz_iret rfl d_Mo_first_88 ⟨rfl, rfl⟩
  | 9, _ =>
    refine kz_tableIn (off := 86) (tgt := 87) d_Mo_first_1 (by decide) (by decide) rfl (by decide) ?_
    refine kz_iconst (v := 3) d_Mo_first_87 (by decide) rfl ?_
    exact kz_iret rfl d_Mo_first_88 ⟨rfl, rfl⟩
  | 10, _ =>
    refine kz_tableIn (off := 78) (tgt := 79) d_Mo_first_1 (by decide) (by decide) rfl (by decide) ?_
    refine kz_iconst (v := 4) d_Mo_first_79 (by decide) rfl ?_
    exact kz_iret rfl d_Mo_first_80 ⟨rfl, rfl⟩
  | 11, _ =>
    refine kz_tableIn (off := 86) (tgt := 87) d_Mo_first_1 (by decide) (by decide) rfl (by decide) ?_
    refine kz_iconst (v := 3) d_Mo_first_87 (by decide) rfl ?_
    exact kz_iret rfl d_Mo_first_88 ⟨rfl, rfl⟩
  | 12, _ =>
    refine kz_tableIn (off := 80) (tgt := 81) d_Mo_first_1 (by decide) (by decide) rfl (by decide) ?_
    refine kz_bipush (v := 12) d_Mo_first_81 (by decide) rfl ?_
    exact kz_iret rfl d_Mo_first_83 ⟨rfl, rfl⟩
  | 13, _ =>
    refine kz_tableIn (off := 83) (tgt := 84) d_Mo_first_1 (by decide) (by decide) rfl (by decide) ?_
    refine kz_bipush (v := 120) d_Mo_first_84 (by decide) rfl ?_
    exact kz_iret rfl d_Mo_first_86 ⟨rfl, rfl⟩
set_option maxRecDepth 100000 in
set_option maxHeartbeats 1000000 in
theorem lt_Mo4 (l : Launch) {M : kz_M} {q c : Int32} {Q : Option Value → kz_M → Prop} (hQ : kz_G l sR m_Mo_init 344 [some (.ref 0), some (.int q), some (.int c), some (.int (nI 5))] [] (kz_fl M 6 5 (fun _ => -100000)) Q) : ∀ (n i : Nat), i + n = 5 → kz_G l sR m_Mo_init 325 [some (.ref 0), some (.int q), some (.int c), some (.int (nI i))] [] (kz_fl M 6 i (fun _ => -100000)) Q := by
  intro n
  induction n with
  | zero =>
    intro i hi
    obtain rfl : i = 5 := by omega
    refine kz_iload_n d_Mo_init_325 rfl rfl ?_
    refine kz_iconst (v := 5) d_Mo_init_326 (by decide) rfl ?_
    refine kz_icmp_ge (tgt := 344) d_Mo_init_327 (by decide) rfl (fun h => ?_) (fun h => ?_)
    · exact hQ
    · exact absurd (Int32.le_refl _) h
  | succ n ih =>
    intro i hi
    refine kz_iload_n d_Mo_init_325 rfl rfl ?_
    refine kz_iconst (v := 5) d_Mo_init_326 (by decide) rfl ?_
    refine kz_icmp_ge (tgt := 344) d_Mo_init_327 (by decide) rfl (fun h => ?_) (fun h => ?_)
    · exact absurd (show nI 5 ≤ nI i from h) (nI_ge (by omega) (by decide))
    · refine kz_aload_n d_Mo_init_330 rfl rfl ?_
      refine kz_getR fd_Mo_26 rfl rfl rfl d_Mo_init_331 rfl ?_
      refine kz_iload_n d_Mo_init_334 rfl rfl ?_
      refine kz_ldc (v := -100000) d_Mo_init_335 (bw_mem3 50 rfl rfl) rfl ?_
      refine kz_iast (j := i) rfl (vp_in_nI (by omega) (by decide)) (nI_clamp (by omega)) d_Mo_init_337 rfl ?_
      refine kz_iinc d_Mo_init_338 rfl rfl (Nat.le_of_ble_eq_true rfl) (kz_inc i) rfl ?_
      refine kz_goto (tgt := 325) d_Mo_init_341 (by decide) ?_
      refine kz_memq2 ?_ (ih (i + 1) (by omega))
      rw [kz_fls rfl]
set_option maxRecDepth 100000 in
set_option maxHeartbeats 1000000 in
theorem lt_Mo3 (l : Launch) {M : kz_M} {q c : Int32} {Q : Option Value → kz_M → Prop} (hQ : kz_G l sR m_Mo_init 323 [some (.ref 0), some (.int q), some (.int c), some (.int (nI 20))] [] (kz_fl M 5 20 (fun _ => -100000)) Q) : ∀ (n i : Nat), i + n = 20 → kz_G l sR m_Mo_init 303 [some (.ref 0), some (.int q), some (.int c), some (.int (nI i))] [] (kz_fl M 5 i (fun _ => -100000)) Q := by
  intro n
  induction n with
  | zero =>
    intro i hi
    obtain rfl : i = 20 := by omega
    refine kz_iload_n d_Mo_init_303 rfl rfl ?_
    refine kz_bipush (v := 20) d_Mo_init_304 (by decide) rfl ?_
    refine kz_icmp_ge (tgt := 323) d_Mo_init_306 (by decide) rfl (fun h => ?_) (fun h => ?_)
    · exact hQ
    · exact absurd (Int32.le_refl _) h
  | succ n ih =>
    intro i hi
    refine kz_iload_n d_Mo_init_303 rfl rfl ?_
    refine kz_bipush (v := 20) d_Mo_init_304 (by decide) rfl ?_
    refine kz_icmp_ge (tgt := 323) d_Mo_init_306 (by decide) rfl (fun h => ?_) (fun h => ?_)
    · exact absurd (show nI 20 ≤ nI i from h) (nI_ge (by omega) (by decide))
    · refine kz_aload_n d_Mo_init_309 rfl rfl ?_
      refine kz_getR fd_Mo_23 rfl rfl rfl d_Mo_init_310 rfl ?_
      refine kz_iload_n d_Mo_init_313 rfl rfl ?_
      refine kz_ldc (v := -100000) d_Mo_init_314 (bw_mem3 50 rfl rfl) rfl ?_
      refine kz_iast (j := i) rfl (vp_in_nI (by omega) (by decide)) (nI_clamp (by omega)) d_Mo_init_316 rfl ?_
      refine kz_iinc d_Mo_init_317 rfl rfl (Nat.le_of_ble_eq_true rfl) (kz_inc i) rfl ?_
      refine kz_goto (tgt := 303) d_Mo_init_320 (by decide) ?_
      refine kz_memq2 ?_ (ih (i + 1) (by omega))
      rw [kz_fls rfl]
set_option maxRecDepth 100000 in
set_option maxHeartbeats 1000000 in
theorem lt_Mo2 (l : Launch) {M : kz_M} {q c : Int32} {Q : Option Value → kz_M → Prop} (hQ : kz_G l sR m_Mo_init 301 [some (.ref 0), some (.int q), some (.int c), some (.int (nI 4))] [] (kz_fl (kz_fl M 4 4 (fun _ => -1)) 7 4 (fun _ => -100000)) Q) : ∀ (n i : Nat), i + n = 4 → kz_G l sR m_Mo_init 275 [some (.ref 0), some (.int q), some (.int c), some (.int (nI i))] [] (kz_fl (kz_fl M 4 i (fun _ => -1)) 7 i (fun _ => -100000)) Q := by
  intro n
  induction n with
  | zero =>
    intro i hi
    obtain rfl : i = 4 := by omega
    refine kz_iload_n d_Mo_init_275 rfl rfl ?_
    refine kz_iconst (v := 4) d_Mo_init_276 (by decide) rfl ?_
    refine kz_icmp_ge (tgt := 301) d_Mo_init_277 (by decide) rfl (fun h => ?_) (fun h => ?_)
    · exact hQ
    · exact absurd (Int32.le_refl _) h
  | succ n ih =>
    intro i hi
    refine kz_iload_n d_Mo_init_275 rfl rfl ?_
    refine kz_iconst (v := 4) d_Mo_init_276 (by decide) rfl ?_
    refine kz_icmp_ge (tgt := 301) d_Mo_init_277 (by decide) rfl (fun h => ?_) (fun h => ?_)
    · exact absurd (show nI 4 ≤ nI i from h) (nI_ge (by omega) (by decide))
    · refine kz_aload_n d_Mo_init_280 rfl rfl ?_
      refine kz_getR fd_Mo_20 rfl rfl rfl d_Mo_init_281 rfl ?_
      refine kz_iload_n d_Mo_init_284 rfl rfl ?_
      refine kz_iconst (v := -1) d_Mo_init_285 (by decide) rfl ?_
      refine kz_iast (j := i) rfl (vp_in_nI (by omega) (by decide)) (nI_clamp (by omega)) d_Mo_init_286 rfl ?_
      refine kz_aload_n d_Mo_init_287 rfl rfl ?_
      refine kz_getR fd_Mo_29 rfl rfl rfl d_Mo_init_288 rfl ?_
      refine kz_iload_n d_Mo_init_291 rfl rfl ?_
      refine kz_ldc (v := -100000) d_Mo_init_292 (bw_mem3 50 rfl rfl) rfl ?_
      refine kz_iast (j := i) rfl (vp_in_nI (by omega) (by decide)) (nI_clamp (by omega)) d_Mo_init_294 rfl ?_
      refine kz_iinc d_Mo_init_295 rfl rfl (Nat.le_of_ble_eq_true rfl) (kz_inc i) rfl ?_
      refine kz_goto (tgt := 275) d_Mo_init_298 (by decide) ?_
      refine kz_memq2 ?_ (ih (i + 1) (by omega))
      rw [kz_flu (by decide), kz_fls rfl, kz_fls rfl]
set_option maxRecDepth 100000 in
set_option maxHeartbeats 1000000 in
theorem lt_Mo1 (l : Launch) {M : kz_M} {q c : Int32} {Q : Option Value → kz_M → Prop} (hQ : kz_G l sR m_Mo_init 273 [some (.ref 0), some (.int q), some (.int c), some (.int (nI 14))] [] (kz_fl M 1 14 (fun j => nI (mo_f j))) Q) : ∀ (n i : Nat), i + n = 14 → kz_G l sR m_Mo_init 251 [some (.ref 0), some (.int q), some (.int c), some (.int (nI i))] [] (kz_fl M 1 i (fun j => nI (mo_f j))) Q := by
  intro n
  induction n with
  | zero =>
    intro i hi
    obtain rfl : i = 14 := by omega
    refine kz_iload_n d_Mo_init_251 rfl rfl ?_
    refine kz_bipush (v := 14) d_Mo_init_252 (by decide) rfl ?_
    refine kz_icmp_ge (tgt := 273) d_Mo_init_254 (by decide) rfl (fun h => ?_) (fun h => ?_)
    · exact hQ
    · exact absurd (Int32.le_refl _) h
  | succ n ih =>
    intro i hi
    refine kz_iload_n d_Mo_init_251 rfl rfl ?_
    refine kz_bipush (v := 14) d_Mo_init_252 (by decide) rfl ?_
    refine kz_icmp_ge (tgt := 273) d_Mo_init_254 (by decide) rfl (fun h => ?_) (fun h => ?_)
    · exact absurd (show nI 14 ≤ nI i from h) (nI_ge (by omega) (by decide))
    · refine kz_aload_n d_Mo_init_257 rfl rfl ?_
      refine kz_getR fd_Mo_7 rfl rfl rfl d_Mo_init_258 rfl ?_
      refine kz_iload_n d_Mo_init_261 rfl rfl ?_
      refine kz_iload_n d_Mo_init_262 rfl rfl ?_
      refine kz_callSi (c_Mo_first l i (by omega)) cs_Mo_92 rfl ⟨by decide, by decide⟩ rfl (Nat.le_of_ble_eq_true rfl) d_Mo_init_263 rfl ?_
      refine kz_iast (j := i) rfl (vp_in_nI (by omega) (by decide)) (nI_clamp (by omega)) d_Mo_init_266 rfl ?_
      refine kz_iinc d_Mo_init_267 rfl rfl (Nat.le_of_ble_eq_true rfl) (kz_inc i) rfl ?_
      refine kz_goto (tgt := 251) d_Mo_init_270 (by decide) ?_
      refine kz_memq2 ?_ (ih (i + 1) (by omega))
      rw [kz_fls rfl]
def mo_q (q : Int32) : Int32 := if 2 ≤ q then (if q ≤ 8 then q else 8) else 2
def mo_c (c : Int32) : Int32 := if 0 ≤ c then (if c ≤ 300 then c else 300) else 0
/-- what the reference's constructor leaves -/
def mo_M (q c : Int32) : kz_M := kz_fl (kz_fl (kz_fl (kz_fl (kz_fl (kz_u (kz_u (kz_u (kz_u (fun _ _ => 0) 0 16 (-100000)) 0 17 (-1)) 0 0 (mo_q q)) 0 1 (mo_c c), fun _ _ => 0) 1 14 (fun j => nI (mo_f j))) 4 4 (fun _ => -1)) 7 4 (fun _ => -100000)) 5 20 (fun _ => -100000)) 6 5 (fun _ => -100000)
def mo_0 : kz_M := (kz_u (kz_u (fun _ _ => 0) 0 16 (-100000)) 0 17 (-1), fun _ _ => 0)
set_option maxRecDepth 100000 in
set_option maxHeartbeats 1000000 in
theorem t_Mo_init3 (l : Launch) {M : kz_M} {q c : Int32} {z : Option Value} {Q : Option Value → kz_M → Prop} (hz : ∀ v, z = some v → v.category = 1) (hQ : Q none (kz_fl (kz_fl (kz_fl (kz_fl (kz_fl M 1 14 (fun j => nI (mo_f j))) 4 4 (fun _ => -1)) 7 4 (fun _ => -100000)) 5 20 (fun _ => -100000)) 6 5 (fun _ => -100000))) : kz_G l sR m_Mo_init 249 [some (.ref 0), some (.int q), some (.int c), none] [] M Q := by
  refine kz_iconst (v := 0) d_Mo_init_249 (by decide) rfl ?_
  refine kz_istore_n (i := 3) d_Mo_init_250 rfl rfl (Nat.le_of_ble_eq_true rfl) rfl ?_
  refine kz_memq2 (kz_fl0 (k := 1) (f := fun j => nI (mo_f j))).symm (lt_Mo1 l ?_ 14 0 rfl)
  refine kz_iconst (v := 0) d_Mo_init_273 (by decide) rfl ?_
  refine kz_istore_n (i := 3) d_Mo_init_274 rfl rfl (Nat.le_of_ble_eq_true rfl) rfl ?_
  refine kz_memq2 ((kz_fl0 (k := 7) (f := fun _ => -100000)).trans (kz_fl0 (k := 4) (f := fun _ => -1))).symm (lt_Mo2 l ?_ 4 0 rfl)
  refine kz_iconst (v := 0) d_Mo_init_301 (by decide) rfl ?_
  refine kz_istore_n (i := 3) d_Mo_init_302 rfl rfl (Nat.le_of_ble_eq_true rfl) rfl ?_
  refine kz_memq2 (kz_fl0 (k := 5) (f := fun _ => -100000)).symm (lt_Mo3 l ?_ 20 0 rfl)
  refine kz_iconst (v := 0) d_Mo_init_323 (by decide) rfl ?_
  refine kz_istore_n (i := 3) d_Mo_init_324 rfl rfl (Nat.le_of_ble_eq_true rfl) rfl ?_
  refine kz_memq2 (kz_fl0 (k := 6) (f := fun _ => -100000)).symm (lt_Mo4 l ?_ 5 0 rfl)
  exact kz_vret rfl d_Mo_init_344 hQ
set_option maxRecDepth 100000 in
set_option maxHeartbeats 1000000 in
theorem t_Mo_init2 (l : Launch) {I : Nat → Nat → Int32} {J : Nat → Nat → Int64} {q c : Int32} {Q : Option Value → kz_M → Prop} (hQ : kz_G l sR m_Mo_init 249 [some (.ref 0), some (.int q), some (.int c), none] [] (kz_u I 0 1 (mo_c c), J) Q) : kz_G l sR m_Mo_init 223 [some (.ref 0), some (.int q), some (.int c), none] [] (I, J) Q := by
  have K : ∀ v, v = mo_c c → kz_G l sR m_Mo_init 246 [some (.ref 0), some (.int q), some (.int c), none] [.int v, .ref 0] (I, J) Q := fun v hv => by
    refine kz_putIp fd_Mo_89 rfl rfl d_Mo_init_246 rfl ?_
    rw [hv]
    exact hQ
  refine kz_aload_n d_Mo_init_223 rfl rfl ?_
  refine kz_iload_n d_Mo_init_224 rfl rfl ?_
  refine kz_if_ge (tgt := 232) d_Mo_init_225 (by decide) rfl (fun h1 => ?_) (fun h1 => ?_)
  · refine kz_iload_n d_Mo_init_232 rfl rfl ?_
    refine kz_sipush (v := 300) d_Mo_init_233 (by decide) rfl ?_
    refine kz_icmp_le (tgt := 245) d_Mo_init_236 (by decide) rfl (fun h2 => ?_) (fun h2 => ?_)
    · refine kz_iload_n d_Mo_init_245 rfl rfl ?_
      exact K _ (by unfold mo_c; rw [if_pos h1, if_pos h2])
    · refine kz_sipush (v := 300) d_Mo_init_239 (by decide) rfl ?_
      refine kz_goto (tgt := 246) d_Mo_init_242 (by decide) ?_
      exact K _ (by unfold mo_c; rw [if_pos h1, if_neg h2])
  · refine kz_iconst (v := 0) d_Mo_init_228 (by decide) rfl ?_
    refine kz_goto (tgt := 246) d_Mo_init_229 (by decide) ?_
    exact K _ (by unfold mo_c; rw [if_neg h1])
set_option maxRecDepth 100000 in
set_option maxHeartbeats 1000000 in
theorem t_Mo_init1 (l : Launch) {I : Nat → Nat → Int32} {J : Nat → Nat → Int64} {q c : Int32} {Q : Option Value → kz_M → Prop} (hQ : kz_G l sR m_Mo_init 223 [some (.ref 0), some (.int q), some (.int c), none] [] (kz_u I 0 0 (mo_q q), J) Q) : kz_G l sR m_Mo_init 198 [some (.ref 0), some (.int q), some (.int c), none] [] (I, J) Q := by
  have K : ∀ v, v = mo_q q → kz_G l sR m_Mo_init 220 [some (.ref 0), some (.int q), some (.int c), none] [.int v, .ref 0] (I, J) Q := fun v hv => by
    refine kz_putIp fd_Mo_86 rfl rfl d_Mo_init_220 rfl ?_
    rw [hv]
    exact hQ
  refine kz_aload_n d_Mo_init_198 rfl rfl ?_
  refine kz_iload_n d_Mo_init_199 rfl rfl ?_
  refine kz_iconst (v := 2) d_Mo_init_200 (by decide) rfl ?_
  refine kz_icmp_ge (tgt := 208) d_Mo_init_201 (by decide) rfl (fun h1 => ?_) (fun h1 => ?_)
  · refine kz_iload_n d_Mo_init_208 rfl rfl ?_
    refine kz_bipush (v := 8) d_Mo_init_209 (by decide) rfl ?_
    refine kz_icmp_le (tgt := 219) d_Mo_init_211 (by decide) rfl (fun h2 => ?_) (fun h2 => ?_)
    · refine kz_iload_n d_Mo_init_219 rfl rfl ?_
      exact K _ (by unfold mo_q; rw [if_pos h1, if_pos h2])
    · refine kz_bipush (v := 8) d_Mo_init_214 (by decide) rfl ?_
      refine kz_goto (tgt := 220) d_Mo_init_216 (by decide) ?_
      exact K _ (by unfold mo_q; rw [if_pos h1, if_neg h2])
  · refine kz_iconst (v := 2) d_Mo_init_204 (by decide) rfl ?_
    refine kz_goto (tgt := 220) d_Mo_init_205 (by decide) ?_
    exact K _ (by unfold mo_q; rw [if_neg h1])
theorem t_Mo_init (l : Launch) {q c : Int32} {Q : Option Value → kz_M → Prop} (hQ : Q none (mo_M q c)) : kz_G l sR m_Mo_init 198 [some (.ref 0), some (.int q), some (.int c), none] [] mo_0 Q :=
  t_Mo_init1 l (t_Mo_init2 l (t_Mo_init3 l (z := none) (fun v h => by cases h) hQ))
