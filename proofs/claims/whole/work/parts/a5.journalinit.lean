/-! Building: an array of arrays; the journal's constructor. -/
theorem aov_mv {s U : State} (hal : s.vm.Alike U.vm) (h : va_Nw (.arrayOver (.array .int)) s) : va_Nw (.arrayOver (.array .int)) U := by
  show (Cond.arrayOver (.array .int)).before #[] (s.setVm U.vm) = true
  rw [Cond.arrayOver_setVmC hal]
  exact h
theorem mna_out (c : ClassId) (N h0 : Nat) : ∀ i : Nat, Jvm.Free.Multi.outerC c N h0 i = arrV c N (fun j => va_rf (if j < i then some (h0 + 1 + j) else none))
  | 0 => by
    show ({ cls := c, slots := Array.replicate N .null, vm := .none } : Cell) = _
    rw [arrV_new]
    refine congrArg (arrV c N) (funext fun j => ?_)
    simp [va_rf]
  | i + 1 => by
    show (Jvm.Free.Multi.outerC c N h0 i).setSlot i (.ref (h0 + 1 + i)) = _
    rw [mna_out c N h0 i, arrV_store]
    refine congrArg (arrV c N) (funext fun j => ?_)
    by_cases e : j = i
    · subst e
      simp [updV, va_rf]
    · by_cases h : j < i
      · simp [updV, e, h, Nat.lt_succ_of_lt h]
      · simp [updV, e, h, show ¬ j < i + 1 by omega]
section CZ4
variable {p : Program} {l : Launch} {e : Env} {R : Room} {s : State} {m : MethodId} {args : Array Value} {below : List Frame} {meth : Method} {c : Code} {H : Heap} {locs : List Loc} {cells slots : Nat} {Q : State → Prop}
variable {mi : kz_Me} {pc : Nat} {ls : Array Slot} {rest : List Value} {D : va_G} {cs : Nat → ClassId} {A : Nat → Prop} {n : Nat} {ad : Nat → Nat} {E : Nat → va_E}
def mna_E (cs : Nat → ClassId) (N' K' q : Nat) (k : Nat) : va_E := if k = 0 then .inl (cs 3, N', .inr (.inr (.inr (.inr (fun i => if i < N' then some (q + 1 + i) else none))))) else .inl (cs 0, K', .inl fun _ => 0)
theorem cz_mna (X : cz_X mi p s m args meth c D cs A) (h : cz_H D A s n ad E H locs) (hov : va_Nw (.arrayOver (.array .int)) s) {idx : Nat} (hcl : Cond.classLink mi.1.cls idx "[[I" ∈ bw_tbl) {N' K' : Nat} (hN : N' < 1000000) (hK' : K' < 1000000) (hcells : cells + (1 + N') ≤ R.cells) (hslots : slots + (N' + N' * K') ≤ R.slots) {x y : Int32} (hx : x = nI N') (hy : y = nI K') (hdg : decode mi.2.1 pc = .ok (.multianewarray idx 2, 4))
    (kk : ∀ (q : Nat) (H1 : Heap), cz_H D A s (n + (1 + N')) (fun k => if k < n then ad k else q + (k - n)) (fun k => if k < n then E k else mna_E cs N' K' q (k - n)) H1 locs → W p l e R s m args below meth c H1 locs (cells + 1 + N') (slots + N' + N' * K') Q (F0 m (pc + 4) ls (.ref q :: rest))) : W p l e R s m args below meth c H locs cells slots Q (F0 m pc ls (.int y :: .int x :: rest)) := by
  subst hx hy
  obtain ⟨hP, hD, hS⟩ := h
  have cn : (nI N').toNatClampNeg = N' := nI_clamp (by omega)
  have ck : (nI K').toNatClampNeg = K' := nI_clamp (by omega)
  have es : "[" ++ (FieldType.array .int).toString = "[[I" := by decide +kernel
  intro T hT Xs
  obtain ⟨vm₁, cA, comp, -, fA, fC, hO, -, X', step⟩ := Xs.multianewarray2F X.1 X.2.2.2.1 (ty := .int) (by rw [es]; exact X.2.2.2.2.1 _ hcl) (show (Cond.arrayOver (.array .int)).before args s = true from hov) (X.2.2.2.2.1 _ m_ai) (g := F0 m pc ls (.int (nI K') :: .int (nI N') :: rest)) rfl (by rw [X.2.1]; exact hdg) rfl (nI_pos (by omega)) (nI_pos (by omega)) (by rw [cn]; omega) (by rw [ck]; show K' * 4 ≤ _; omega) (by rw [ck]; omega) rfl rfl (by rw [cn]; exact hcells) (by rw [cn, ck]; exact hslots)
  have e3 : cA = cs 3 := Option.some.inj (fA.symm.trans (X.2.2.2.2.2.2.2.1.2 3 (cs 3, .array .int) rfl).2)
  have e0 : comp = cs 0 := by
    have h1 : s.vm.findClass ("[" ++ FieldType.int.toString) = some (cs 0) := (X.2.2.2.2.2.2.2.1.2 0 (cs 0, .int) rfl).2
    rw [show (FieldType.array FieldType.int).toString = "[" ++ FieldType.int.toString by decide +kernel] at fC
    exact Option.some.inj (fC.symm.trans h1)
  subst e3 e0
  rw [cn, ck] at X' step
  generalize hF : Jvm.Free.Multi.fill (T.setVm vm₁) (cs 3) (cs 0) N' K' (defaultValue .int) N' = G at X' step
  have hTh : (T.setVm vm₁).heap = H := hT
  obtain ⟨f1, f2, -, -⟩ := Jvm.Free.Multi.fill_facts (T.setVm vm₁) (cs 3) (cs 0) N' K' (defaultValue .int) N'
  rw [hF, hTh] at f1 f2
  have hold : ∀ x : Nat, x < H.size → G.heap[x]? = H[x]? := fun x hx => by
    have := Jvm.Free.Multi.fill_old (T.setVm vm₁) (cs 3) (cs 0) N' K' (defaultValue .int) (a := x) (by rw [hTh]; exact hx) N'
    rw [hF, hTh] at this
    exact this
  have hrow : ∀ j : Nat, j < N' → G.heap[H.size + 1 + j]? = some (vp_cell (cs 0) (K', .inl fun _ => 0)) := fun j hj => by
    have := Jvm.Free.Multi.fill_inner (T.setVm vm₁) (cs 3) (cs 0) N' K' (defaultValue .int) N' j hj
    rw [hF, hTh] at this
    rw [this]
    show some ({ cls := cs 0, slots := Array.replicate K' (.int 0), vm := .none } : Cell) = _
    rw [arrV_new]
    rfl
  rw [mna_out] at f2
  have hlt : ∀ k, k < n → ad k < H.size := fun k hk => (hP k _ (gw_at k hk)).lt
  suffices hH : cz_H D A s (n + (1 + N')) (fun k => if k < n then ad k else H.size + (k - n)) (fun k => if k < n then E k else mna_E cs N' K' H.size (k - n)) G.heap locs by
    obtain ⟨t, a1, b1⟩ := kk H.size G.heap hH G rfl X'
    refine ⟨t, step t ?_, b1⟩
    rw [show T.heap.size = H.size by rw [hT]]
    exact a1
  refine ⟨fun k q hk => ?_, ⟨fun i j x y hi hj hxy => ?_, fun k q hk => ?_⟩, by rw [f1]; have := hS.1; omega, fun x h1 h2 => (hold x (Nat.lt_of_lt_of_le h1 hS.1)).trans (hS.2.1 x h1 h2), hS.2.2⟩
  · have hk' : k < n + (1 + N') := by
      have := (List.getElem?_eq_some_iff.mp hk).1
      rw [gw_len] at this
      exact this
    rw [gw_at k hk'] at hk
    cases hk
    by_cases q : k < n
    · rw [if_pos q, if_pos q]
      exact (hP k _ (gw_at k q)).kept (hold _ (hlt k q))
    · rw [if_neg q, if_neg q]
      unfold mna_E
      by_cases z : k - n = 0
      · rw [if_pos z, z]
        exact f2
      · rw [if_neg z]
        have := hrow (k - n - 1) (by omega)
        rw [show H.size + 1 + (k - n - 1) = H.size + (k - n) by omega] at this
        exact this
  · have hi' : i < n + (1 + N') := by
      have := (List.getElem?_eq_some_iff.mp hi).1
      rw [gw_len] at this
      exact this
    have hj' : j < n + (1 + N') := by
      have := (List.getElem?_eq_some_iff.mp hj).1
      rw [gw_len] at this
      exact this
    rw [gw_at i hi'] at hi
    rw [gw_at j hj'] at hj
    cases hi
    cases hj
    simp only [] at hxy
    by_cases q : i < n <;> by_cases r : j < n
    · rw [if_pos q, if_pos r] at hxy
      exact hD.1 i j _ _ (gw_at i q) (gw_at j r) hxy
    · rw [if_pos q, if_neg r] at hxy
      have := hlt i q
      omega
    · rw [if_neg q, if_pos r] at hxy
      have := hlt j r
      omega
    · rw [if_neg q, if_neg r] at hxy
      omega
  · have hk' : k < n + (1 + N') := by
      have := (List.getElem?_eq_some_iff.mp hk).1
      rw [gw_len] at this
      exact this
    rw [gw_at k hk'] at hk
    cases hk
    simp only []
    by_cases q : k < n
    · rw [if_pos q]
      exact hD.2 k _ (gw_at k q)
    · rw [if_neg q]
      exact X.2.2.2.2.2.2.2.2.1 _ (by have := hS.1; omega)
end CZ4
def s_Jo : kz_Sy := (nm_cl, .inr (1, [3, 0, 0, 0]) :: .inl (3, 32) :: List.replicate 32 (.inl (0, 5)), fun k j => match k with | 0 => (if j = 0 then some 1 else none) | 1 => (if j < 32 then some (j + 2) else none) | _ => none, bw_tbl)
def jx : (Nat → ClassId) → (Nat → Prop) → State → Prop := fun _ _ U => va_Nw (.arrayOver (.array .int)) U
set_option maxRecDepth 100000 in
set_option maxHeartbeats 1000000 in
theorem c_Jo_init (l : Launch) : cz_T l m_Jo_init 1 [.null, .int 0, .int 0, .int 0] jx [] s_Jo kz_0 33 192 := by
  refine cz_intro (by decide +kernel) rfl rfl ?_
  intro p e s m args below meth c D cs h0 A X h hov
  have hl := lv_entry ([.ref h0]) (n := 1) (Nat.le_of_ble_eq_true rfl)
  show W p l e _ s m args below meth c s.heap [] 0 0 _ (F0 m 0 ((lg_sl ([.ref h0]) ++ List.replicate (1 - (lg_sl ([.ref h0])).length) Slot.unset).toArray) [])
  generalize (lg_sl ([.ref h0]) ++ List.replicate (1 - (lg_sl ([.ref h0])).length) Slot.unset).toArray = ls at hl ⊢
  have hl : lv_has ls 1 [(0, .ref h0)] := hl
  refine lv_aload_n X.1 X.2.1 d_Jo_init_0 rfl (lv_at hl 0 rfl) ?_
  refine cz_obj X (bw_mem1 141 rfl rfl) hl.1 d_Jo_init_1 (Nat.le_refl _) (by decide) ?_
  refine lv_aload_n X.1 X.2.1 d_Jo_init_4 rfl (lv_at hl 0 rfl) ?_
  refine lv_bipush (v := 32) X.1 X.2.1 d_Jo_init_5 (by decide) ?_
  refine lv_iconst (v := 5) X.1 X.2.1 d_Jo_init_7 (by decide) ?_
  refine cz_mna X h hov (bw_mem1 142 rfl rfl) (N' := 32) (K' := 5) (by decide) (by decide) (Nat.le_of_ble_eq_true rfl) (Nat.le_of_ble_eq_true rfl) rfl rfl d_Jo_init_8 (fun q H h => ?_)
  refine cz_put X h 0 (by decide) rfl rfl fd_Jo_11 rfl rfl rfl (Nat.le_of_ble_eq_true rfl) d_Jo_init_12 (fun H locs h => ?_)
  refine cz_ret X h (ad' := fun k => if k < 1 then h0 else q + (k - 1)) (gw_kz rfl (fun k hk => ⟨rfl, ?_⟩)) rfl d_Jo_init_15
  match k, hk with
  | 0, _ => rfl
  | 1, _ =>
    show Sum.inl (cs 3, 32, _) = Sum.inl (cs 3, 32, _)
    refine congrArg (fun z => Sum.inl (cs 3, 32, Sum.inr (Sum.inr (Sum.inr (Sum.inr z))))) (funext fun i => ?_)
    show (if i < 32 then some (q + 1 + i) else none) = (if i < 32 then some (i + 2) else none).map _
    by_cases z : i < 32
    · rw [if_pos z, if_pos z]
      show some (q + 1 + i) = some (if i + 2 < 1 then h0 else q + (i + 2 - 1))
      rw [if_neg (by omega)]
      congr 1
      omega
    · rw [if_neg z, if_neg z]; rfl
  | k + 2, hk =>
    show va_up _ 0 _ (k + 2) = _
    unfold va_up
    rw [if_neg (by omega)]
    simp only []
    rw [if_neg (by omega)]
    unfold mna_E
    rw [if_neg (by omega)]
    have : s_Jo.2.1.getD (k + 2) (.inl (0, 0)) = .inl (0, 5) := by
      show (List.replicate 32 (Sum.inl (0, 5) : kz_Sh)).getD k _ = _
      rw [List.getD_eq_getElem?_getD, List.getElem?_replicate, if_pos (by omega)]
      rfl
    rw [this]
    rfl
