/-! Building: contracts of constructors. -/
def cz_Pc (ci : Nat) (fs : List Value) (ex : (Nat → ClassId) → (Nat → Prop) → State → Prop) (as : List Value) (D : va_G) (cs : Nat → ClassId) (h0 sz : Nat) : Array Value → State → Prop := va_Pc (.ref h0 :: as) (fun U => U.heap.size = sz ∧ va_P D nm_cl [(h0, .inr (ci, fs))] U.heap ∧ va_K D nm_cl (kz_ty cs) U ∧ va_D (fun _ => True) [(h0, .inr (ci, fs))] ∧ ex cs (va_A [(h0, .inr (ci, fs))] sz) U)
def cz_Qc (sy : kz_Sy) (M : kz_M) (D : va_G) (cs : Nat → ClassId) (h0 : Nat) (A : Nat → Prop) : Array Value → State → Outcome → State → Prop := va_Qv (fun ad : Nat → Nat => ad 0 = h0) (fun ad t => va_P D nm_cl (kz_W sy ad cs M) t.heap ∧ va_K D nm_cl (kz_ty cs) t ∧ va_D A (kz_W sy ad cs M)) A
def cz_rm (mi : kz_Me) (mc ms : Nat) : Room := { frames := mi.2.2.2.2.1, cells := mc, slots := ms, locals := mi.2.2.2.2.2 }
def cz_T (l : Launch) (mi : kz_Me) (ci : Nat) (fs : List Value) (ex : (Nat → ClassId) → (Nat → Prop) → State → Prop) (as : List Value) (sy : kz_Sy) (M : kz_M) (mc ms : Nat) : Prop := ∀ (D : va_G) (cs : Nat → ClassId) (h0 sz : Nat), Met l mi.1 (.code mi.1 mi.2.1 mi.2.2.1 mi.2.2.2.1 :: bw_tbl) (cz_rm mi mc ms) (cz_Pc ci fs ex as D cs h0 sz) (cz_Qc sy M D cs h0 (va_A [(h0, .inr (ci, fs))] sz)) mc ms (va_A [(h0, .inr (ci, fs))] sz)
theorem cz_intro {l : Launch} {mi : kz_Me} {ci : Nat} {fs : List Value} {ex : (Nat → ClassId) → (Nat → Prop) → State → Prop} {as : List Value} {sy : kz_Sy} {M : kz_M} {mc ms : Nat} (hpl : plainFor mi.1 = true) (hret : mi.2.2.2.1 = none) (hnm : mi.1.name = "<init>")
    (h : ∀ (p : Program) (e : Env) (s : State) (m : MethodId) (args : Array Value) (below : List Frame) (meth : Method) (c : Code) (D : va_G) (cs : Nat → ClassId) (h0 : Nat) (A : Nat → Prop), cz_X mi p s m args meth c D cs A → cz_H D A s 1 (fun _ => h0) (fun _ => .inr (ci, fs)) s.heap [] → ex cs A s →
      W p l e (cz_rm mi mc ms) s m args below meth c s.heap [] 0 0 (MQ below (cz_Qc sy M D cs h0 A) args s mc ms A) (F0 m 0 ((lg_sl (.ref h0 :: as) ++ List.replicate (mi.2.2.1 - (lg_sl (.ref h0 :: as)).length) Slot.unset).toArray) [])) : cz_T l mi ci fs ex as sy M mc ms := by
  intro D cs h0 sz
  refine va_MetF (cc := mi.2.1) (maxL := mi.2.2.1) (ret := mi.2.2.2.1) hpl rfl ?_
  intro p e s m args below meth c s₁ B hml hv
  obtain ⟨rfl, hsz, hP, hK, hD0, hex⟩ := hv
  have hts := atoms_spec (ws := .code mi.1 mi.2.1 mi.2.2.1 mi.2.2.2.1 :: bw_tbl) B.pre
  have hown : s.vm.findClass mi.1.cls = some m.cls := findClass_of_methodNamed B.named
  have hin : meth.name = "<init>" := (name_of_methodNamed B.named B.method).1.trans hnm
  have hr := B.returns
  rw [hret] at hr
  subst hsz
  rw [lg_entry_eq]
  exact h p e s m _ below meth c D cs h0 (va_A [(h0, .inr (ci, fs))] s.heap.size) ⟨B.exec, B.bytes, hml, hown, fun w hw => hts w (List.mem_cons_of_mem _ hw), hr, B.notSynchronized, hK, fun q hq => Or.inr hq, hin⟩ ⟨hP, hD0.self (sz := s.heap.size), va_S.rf⟩ hex
section CZ2
variable {p : Program} {l : Launch} {e : Env} {R : Room} {s : State} {m : MethodId} {args : Array Value} {below : List Frame} {meth : Method} {c : Code} {H : Heap} {locs : List Loc} {cells slots : Nat} {Q : State → Prop}
variable {mi : kz_Me} {pc : Nat} {ls : Array Slot} {rest : List Value} {D : va_G} {cs : Nat → ClassId} {A : Nat → Prop} {n : Nat} {ad : Nat → Nat} {E : Nat → va_E}
theorem cz_ret (X : cz_X mi p s m args meth c D cs A) (h : cz_H D A s n ad E H locs) {sy : kz_Sy} {M : kz_M} {ad' : Nat → Nat} {a : Nat} (hW : gw_W n ad E = kz_W sy ad' cs M) (h0 : ad' 0 = a) (hdg : decode mi.2.1 pc = .ok (.return_, 1)) : W p l e R s m args below meth c H locs cells slots (MQ below (cz_Qc sy M D cs a A) args s cells slots A) (F0 m pc ls []) := by
  obtain ⟨hP, hD, hS⟩ := h
  rw [hW] at hP hD
  exact W.vret X.1 X.2.1 X.2.2.2.2.2.1 (fun t ht hV => ⟨⟨ad', rfl, h0, by rw [ht]; exact hP, va_K.moved hV.alike X.2.2.2.2.2.2.2.1, hD⟩, hS.F ht⟩) hS.2.2 hdg X.2.2.2.2.2.2.1
theorem cz_obj (X : cz_X mi p s m args meth c D cs A) {idx : Nat} (hlink : Cond.methodLink mi.1.cls idx Lib.objectInit ∈ bw_tbl) (hsize : ls.size = mi.2.2.1) {a : Addr} (hd : decode mi.2.1 pc = .ok (.invokespecial idx, 3)) (hframes : 1 ≤ R.frames) (hlocals : (rest.map fun v => v.category).sum + 12 ≤ R.locals) (kk : W p l e R s m args below meth c H locs cells slots Q (F0 m (pc + 3) ls rest)) : W p l e R s m args below meth c H locs cells slots Q (F0 m pc ls (.ref a :: rest)) := by
  refine W.objInit X.1 X.2.1 X.2.2.2.1 (X.2.2.2.2.1 _ hlink) (X.2.2.2.2.1 _ (bw_mem1 18 rfl rfl)) (X.2.2.2.2.1 _ (bw_mem1 19 rfl rfl)) rfl (by rw [X.2.2.1]; exact hsize) rfl hd hframes (by show 2 * 0 + _ + 12 ≤ _; omega) ?_
  exact kk
end CZ2
/-- a world of arrays and objects, place by place -/
theorem gw_kz {n : Nat} {ad : Nat → Nat} {E : Nat → va_E} {sy : kz_Sy} {ad' : Nat → Nat} {cs : Nat → ClassId} {M : kz_M} (hn : sy.2.1.length = n) (h : ∀ k, k < n → ad k = ad' k ∧ E k = kz_en sy.2.2.1 ad' cs M k (sy.2.1.getD k (.inl (0, 0)))) : gw_W n ad E = kz_W sy ad' cs M := by
  subst hn
  exact gw_ext h
def nx : (Nat → ClassId) → (Nat → Prop) → State → Prop := fun _ _ _ => True
def kz_0 : kz_M := (fun _ _ => 0, fun _ _ => 0)
theorem m_ai : Cond.arrayClass .int ∈ bw_tbl := bw_mem1 79 rfl rfl
theorem m_aj : Cond.arrayClass .long ∈ bw_tbl := bw_mem1 93 rfl rfl
theorem m_az : Cond.arrayClass .boolean ∈ bw_tbl := bw_mem1 122 rfl rfl
