/-! The law: the method cell; calls of class and reference. -/
def lw_cv (L : Nat) (xs : Nat → Int32) (k : Int32) : Int32 := if Int32.ofNat L ≤ k then 0 else xs k.toNatClampNeg
abbrev y_Ce : MethodName := ⟨"BankKeeperLaw", "cell", "([II)I"⟩
set_option maxRecDepth 100000 in
theorem c_cell (l : Launch) (b L : Nat) (xs : Nat → Int32) (k : Int32) (hL : L ≤ 2050) (hk : ¬ k < 0) : Met l y_Ce [.code y_Ce method_2_code 2 (some .int)] { frames := 0, cells := 0, slots := 0, locals := 0 } (va_Pc [.ref b, .int k] (fun U => va_X b L xs U U.heap)) (va_Qi (fun (r : Int32) (_ : Unit) => r = lw_cv L xs k) (fun _ _ => True) (fun _ => False)) 0 0 (fun _ => False) := by
  refine va_MetF (cc := method_2_code) (maxL := 2) (ret := some .int) (by decide +kernel) rfl ?_
  intro p e s m args below meth c s₁ B hml hv
  obtain ⟨rfl, hX⟩ := hv
  have hx := B.exec
  have hb := B.bytes
  have hr := B.returns
  have hlk := B.notSynchronized
  have hbl : b < s.heap.size := by
    obtain ⟨scr, h1, -⟩ := hX
    exact (Array.getElem?_eq_some_iff.mp h1).1
  have hl := lv_entry ([.ref b, .int k]) (n := 2) (Nat.le_of_ble_eq_true rfl)
  rw [lg_entry_eq]
  generalize (lg_sl ([.ref b, .int k]) ++ List.replicate (2 - (lg_sl ([.ref b, .int k])).length) Slot.unset).toArray = ls at hl ⊢
  have hl : lv_has ls 2 [(0, .ref b), (1, .int k)] := hl
  have hS : va_S (fun _ => False) s.heap s.heap [] := va_S.rf
  refine lv_iload_n hx hb d_Ce_0 rfl (lv_at hl 1 rfl) ?_
  refine lv_aload_n hx hb d_Ce_1 rfl (lv_at hl 0 rfl) ?_
  refine va_slen hx hb hX hbl (fun z => z) hS d_Ce_2 ?_
  refine lv_icmp_ge (tgt := 12) hx hb d_Ce_3 (by decide) (fun h => ?_) (fun h => ?_)
  · refine lv_iconst (v := 0) hx hb d_Ce_12 (by decide) ?_
    exact W.iret (v := 0) hx hb hr (fun t ht hW => ⟨⟨0, (), rfl, by unfold lw_cv; rw [if_pos h], trivial⟩, hS.F ht⟩) hS.2.2 d_Ce_13
  · refine lv_aload_n hx hb d_Ce_6 rfl (lv_at hl 0 rfl) ?_
    refine lv_iload_n hx hb d_Ce_7 rfl (lv_at hl 1 rfl) ?_
    refine va_sld hx hb hX hbl (fun z => z) hS (i := k) ?_ d_Ce_8 ?_
    · obtain ⟨j, hj, rfl⟩ := nI_of hk
      have h2 : ¬ nI L ≤ nI j := h
      rw [nI_leI (by omega) hj] at h2
      exact vp_in_nI (by omega) (by omega)
    · refine lv_goto (tgt := 13) hx hb d_Ce_9 (by decide) ?_
      exact W.iret (v := xs k.toNatClampNeg) hx hb hr (fun t ht hW => ⟨⟨_, (), rfl, by unfold lw_cv; rw [if_neg h], trivial⟩, hS.F ht⟩) hS.2.2 d_Ce_13
section LW
variable {p : Program} {l : Launch} {e : Env} {R : Room} {s : State} {m : MethodId} {args : Array Value} {below : List Frame} {meth : Method} {c : Code} {H : Heap} {locs : List Loc} {cells slots : Nat} {Q : State → Prop}
variable {pc : Nat} {ls : Array Slot} {rest : List Value} {D : va_G} {cs : Nat → ClassId} {A : Nat → Prop}
/-- what stays over the law -/
def lw_X (p : Program) (R : Room) (s : State) (m : MethodId) (args : Array Value) (c : Code) (D : va_G) (cs : Nat → ClassId) (A : Nat → Prop) (b L : Nat) (xs : Nat → Int32) : Prop := p.tables.exec = Jvm.exec ∧ c.code = code ∧ c.maxLocals = 4 ∧ s.vm.findClass "BankKeeperLaw" = some m.cls ∧ (∀ w ∈ bw_tbl, w.before args s = true) ∧ va_K D nm_cl (kz_ty cs) s ∧ (∀ q, s.heap.size ≤ q → A q) ∧ va_X b L xs s s.heap ∧ b < s.heap.size ∧ ¬ A b ∧ L ≤ 2050 ∧ 10 ≤ R.frames ∧ 350 ≤ R.locals
theorem lw_cellcall {b L : Nat} {xs : Nat → Int32} (X : lw_X p R s m args c D cs A b L xs) (hS : va_S A s.heap H locs) {k : Int32} (hk : ¬ k < 0) (hc : cells ≤ R.cells ∧ slots ≤ R.slots) (hsz : ls.size = 4) (hrest : (rest.map fun v => v.category).sum ≤ 8) (hd : decode code pc = .ok (.invokestatic 9, 3))
    (kk : ∀ (H1 : Heap) (locs1 : List Loc), (∀ ws, va_P D nm_cl ws H → va_P D nm_cl ws H1) → H.size ≤ H1.size → va_S A s.heap H1 locs1 → W p l e R s m args below meth c H1 locs1 cells slots Q (F0 m (pc + 3) ls (.int (lw_cv L xs k) :: rest))) : W p l e R s m args below meth c H locs cells slots Q (F0 m pc ls (.int k :: .ref b :: rest)) := by
  obtain ⟨hx, hb, hml, hown, hts, hK, hA, hX, hbl, hbA, hL, hfr, hlo⟩ := X
  have hG : GoodIn bw_tbl (va_wsS "BankKeeperLaw" 9 y_Ce [.code y_Ce method_2_code 2 (some .int)]) := by
    have q1 : Cond.methodLink "BankKeeperLaw" 9 y_Ce ∈ bw_tbl := bw_mem3 41 rfl rfl
    have q2 : Cond.static y_Ce ∈ bw_tbl := bw_mem3 42 rfl rfl
    have q3 : Cond.initialized y_Ce.cls ∈ bw_tbl := bw_mem1 0 rfl rfl
    have q4 : Cond.code y_Ce method_2_code 2 (some .int) ∈ bw_tbl := bw_mem3 43 rfl rfl
    intro w hw
    simp only [va_wsS, List.cons_append, List.nil_append, List.mem_cons, List.not_mem_nil, or_false] at hw
    rcases hw with rfl | rfl | rfl | rfl
    · exact ⟨q1, bw_kp _ q1⟩
    · exact ⟨q2, bw_kp _ q2⟩
    · exact ⟨q3, bw_kp _ q3⟩
    · exact ⟨q4, bw_kp _ q4⟩
  refine va_calli (va_runS (As := [.ref b, .int k]) (rest := rest) (nL := 4) ⟨hx, hb, hml, hown, hts⟩ (c_cell l b L xs k hL hk) (va_cwS 2 hts hG rfl rfl rfl ⟨by decide, by decide, by decide +kernel⟩ ⟨by show 0 + 1 ≤ _; omega, by show 8 + (2 + 11) + 0 ≤ _; omega⟩) ⟨fun a U g mk q => ⟨q.1, va_X.moved (Vm.Alike.refl U.vm) q.2⟩, fun U hU hW => ⟨rfl, by
    show va_X b L xs U U.heap
    rw [hU]
    exact (va_X.moved hW.alike hX).kept (hS.2.1 b hbl hbA)⟩⟩ rfl rfl hsz rfl (lv_room hrest) hd hc) hS (fun q _ h => h.elim) (fun q h => h.elim) (fun r u t H1 locs1 ht hvm hpost _ hz hk1 hS1 => ?_)
  rw [hpost]
  exact kk H1 locs1 (fun ws h => h.kept (fun k y hy => hk1 y.1 ((h k y hy).lt) (fun z => z))) hz hS1
/-- a call of one of two systems, the other standing beside it -/
theorem lw_call {b L : Nat} {xs : Nat → Int32} (X : lw_X p R s m args c D cs A b L xs) {Sy : kz_Sy} (hS1 : Sy.1 = nm_cl) (hS4 : Sy.2.2.2 = bw_tbl) {ad : Nat → Nat} {M : kz_M} {ws2 : va_W} (hP : va_P D nm_cl (kz_W Sy ad cs M) H) (hD : va_D A (kz_W Sy ad cs M)) (hP2 : va_P D nm_cl ws2 H) (hdis : ∀ (k : Nat) (y : Nat × va_E), ws2[k]? = some y → ∀ i, i < Sy.2.1.length → y.1 ≠ ad i) (hS : va_S A s.heap H locs)
    {mz : kz_Me} {n idx ci o : Nat} {ks : List Nat} {T : u_T} {N : Nat} {As : List Value} {Qz : Option Value → kz_M → Prop} (hT : kz_T l Sy mz (.ref o :: As) M Qz) (hw : kz_Cv Sy "BankKeeperLaw" idx mz n) (hsh : Sy.2.1[o]? = some (.inr (ci, ks))) (hcl : Sy.1[ci]? = some (mz.1.cls, T, N)) (hn : As.length = n) (hAs : As.map (kz_rl ad) = As) (hR : mz.2.2.2.2.1 + 1 ≤ 10 ∧ 8 + (mz.2.2.1 + 11) + mz.2.2.2.2.2 ≤ 350) (hc : cells ≤ R.cells ∧ slots ≤ R.slots) (hsz : ls.size = 4) (hrest : (rest.map fun v => v.category).sum ≤ 8) {a : Nat} (ha : ad o = a) {st0 : List Value} (hst : st0 = As.reverse ++ .ref a :: rest) (hd : decode code pc = .ok (.invokevirtual idx, 3))
    (kk : ∀ (v : Option Value) (N : kz_M) (H1 : Heap) (locs1 : List Loc), Qz v N → va_P D nm_cl (kz_W Sy ad cs N) H1 → va_D A (kz_W Sy ad cs N) → va_P D nm_cl ws2 H1 → va_S A s.heap H1 locs1 → W p l e R s m args below meth c H1 locs1 cells slots Q (F0 m (pc + 3) ls ((v.map (kz_rl ad)).toList ++ rest))) : W p l e R s m args below meth c H locs cells slots Q (F0 m pc ls st0) := by
  subst ha
  obtain ⟨hx, hb, hml, hown, hts, hK, hA, hX, hbl, hbA, hL, hfr, hlo⟩ := X
  have hts' : ∀ w ∈ Sy.2.2.2, w.before args s = true := by rw [hS4]; exact hts
  rw [← hS1] at hP hK
  have hA1 : ∀ q, va_A (kz_W Sy ad cs M) H.size q → A q := by
    intro q h
    rcases h with ⟨k, e, h⟩ | h
    · exact hD.2 k (q, e) h
    · exact hA q (Nat.le_trans hS.1 h)
  have hG := kz_good hw.1
  have hrun : va_Run p l e R s m args below meth c H locs cells slots 0 0 (F0 m pc ls st0) rest (kz_Qc Sy ad cs D (va_A (kz_W Sy ad cs M) H.size) Qz (Value.ref (ad o) :: As).toArray) (va_A (kz_W Sy ad cs M) H.size) := by
    refine va_runV (As := As) (b := ad o) (C := mz.1.cls) (nL := 4) ⟨hx, hb, hml, hown, hts'⟩ (hT ad cs D H.size)
      (cwV n hts' ?_ rfl rfl rfl ⟨rfl, hw.1.2.2.2.2.1, hw.1.2.2.2.2.2.1, hw.1.2.2.2.2.2.2⟩ ⟨Nat.le_trans hR.1 hfr, Nat.le_trans hR.2 hlo⟩)
      ⟨kz_blind, va_recv hK hP hcl (kz_W_at hsh), fun U hU hW => ⟨by show _ = (kz_rl ad (.ref o) :: As.map (kz_rl ad)).toArray; rw [hAs]; rfl, by rw [hU], by rw [hU]; exact hP, va_K.moved hW.alike hK, hD.weaken (fun _ _ _ _ => trivial)⟩⟩ rfl hn hsz hst (lv_room hrest) hd hc
    intro w h
    unfold wsV at h
    rcases List.mem_append.mp h with h | h
    · simp only [List.mem_cons, List.not_mem_nil, or_false] at h
      rcases h with rfl | rfl | rfl | rfl
      · exact ⟨hw.1.2.1, hw.1.1 _ hw.1.2.1⟩
      · exact ⟨hw.2.1, hw.1.1 _ hw.2.1⟩
      · exact ⟨hw.2.2, hw.1.1 _ hw.2.2⟩
      · exact ⟨hw.1.2.2.1, hw.1.1 _ hw.1.2.2.1⟩
    · exact hG w h
  intro T hT0 X
  obtain ⟨v, st₀, t, T', L', h0, X', hL', e1, e2, ⟨w, N, hq, hv, hP1, hK1, hD1, hz, hk⟩, st⟩ := hrun T hT0 X
  rw [h0] at hz hk
  have hS' : va_S A s.heap T'.heap (locs ++ L') := by
    refine ⟨Nat.le_trans hS.1 (by rw [e1]; exact hz), fun q h1 h2 => ?_, fun q hq => ?_⟩
    · rw [e1, hk q (Nat.lt_of_lt_of_le h1 hS.1) (fun z => h2 (hA1 q z))]
      exact hS.2.1 q h1 h2
    · rcases List.mem_append.mp hq with h | h
      · exact hS.2.2 q h
      · exact hA1 _ (hL' q h)
  have hP2' : va_P D nm_cl ws2 T'.heap := hP2.kept (fun k y hy => by
    rw [e1]
    refine hk y.1 ((hP2 k y hy).lt) (fun z => ?_)
    rcases z with ⟨i, e', hi⟩ | z
    · have hlen : i < Sy.2.1.length := by
        have := (List.getElem?_eq_some_iff.mp hi).1
        rw [kz_W_len] at this
        exact this
      have := gw_at (n := Sy.2.1.length) (ad := ad) (E := fun k => kz_en Sy.2.2.1 ad cs M k (Sy.2.1.getD k (.inl (0, 0)))) i hlen
      rw [show gw_W Sy.2.1.length ad (fun k => kz_en Sy.2.2.1 ad cs M k (Sy.2.1.getD k (.inl (0, 0)))) = kz_W Sy ad cs M from rfl, hi] at this
      have h3 : y.1 = ad i := congrArg Prod.fst (Option.some.inj this)
      exact hdis k y hy i hlen h3
    · have := (hP2 k y hy).lt
      omega)
  rw [hS1] at hP1
  have hv' : v = w.map (kz_rl ad) := by cases hv; rfl
  obtain ⟨t2, a1, b1⟩ := kk w N T'.heap (locs ++ L') hq (by rw [e1]; exact hP1) (hD1.weaken (fun k y hy h => hA1 _ h)) hP2' hS' T' rfl X'
  refine ⟨t2, st t2 ?_, b1⟩
  rw [hv']
  exact a1
end LW
