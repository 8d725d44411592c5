/-! Building: a world of n places, in the order in which they were made. -/
def gw_W (n : Nat) (ad : Nat → Nat) (E : Nat → va_E) : va_W := (List.range n).map fun k => (ad k, E k)
theorem gw_at {n : Nat} {ad : Nat → Nat} {E : Nat → va_E} (k : Nat) (h : k < n) : (gw_W n ad E)[k]? = some (ad k, E k) := by
  unfold gw_W
  rw [List.getElem?_map, List.getElem?_range h]
  rfl
theorem gw_len {n : Nat} {ad : Nat → Nat} {E : Nat → va_E} : (gw_W n ad E).length = n := by simp [gw_W]
theorem gw_ext {n : Nat} {ad ad' : Nat → Nat} {E E' : Nat → va_E} (h : ∀ k, k < n → ad k = ad' k ∧ E k = E' k) : gw_W n ad E = gw_W n ad' E' := List.map_congr_left (fun k hk => by
  obtain ⟨a, b⟩ := h k (List.mem_range.mp hk)
  rw [a, b])
theorem gw_set {n : Nat} {ad : Nat → Nat} {E : Nat → va_E} (k : Nat) (h : k < n) (x : va_E) : (gw_W n ad E).set k (ad k, x) = gw_W n ad (va_up E k x) := by
  apply List.ext_getElem?
  intro i
  by_cases hi : i < n
  · by_cases q : i = k
    · subst q
      rw [List.getElem?_set_self (by rw [gw_len]; exact hi), gw_at i hi]
      simp [va_up]
    · rw [List.getElem?_set_ne (Ne.symm q), gw_at i hi, gw_at i hi]
      simp [va_up, q]
  · rw [List.getElem?_eq_none (by rw [List.length_set, gw_len]; omega), List.getElem?_eq_none (by rw [gw_len]; omega)]
theorem gw_push {n : Nat} {ad : Nat → Nat} {E : Nat → va_E} (q : Nat) (x : va_E) : gw_W n ad E ++ [(q, x)] = gw_W (n + 1) (va_up ad n q) (va_up E n x) := by
  unfold gw_W
  rw [List.range_succ, List.map_append]
  congr 1
  · exact List.map_congr_left (fun k hk => by
      have := Nat.ne_of_lt (List.mem_range.mp hk)
      simp [va_up, this])
  · simp [va_up]
theorem gw_app {n m : Nat} {ad ad2 : Nat → Nat} {E E2 : Nat → va_E} : gw_W n ad E ++ gw_W m ad2 E2 = gw_W (n + m) (fun k => if k < n then ad k else ad2 (k - n)) (fun k => if k < n then E k else E2 (k - n)) := by
  apply List.ext_getElem?
  intro i
  by_cases hi : i < n
  · rw [List.getElem?_append_left (by rw [gw_len]; exact hi), gw_at i hi, gw_at i (by omega), if_pos hi, if_pos hi]
  · rw [List.getElem?_append_right (by rw [gw_len]; omega), gw_len]
    by_cases h2 : i < n + m
    · rw [gw_at (i - n) (by omega), gw_at i h2, if_neg hi, if_neg hi]
    · rw [List.getElem?_eq_none (by rw [gw_len]; omega), List.getElem?_eq_none (by rw [gw_len]; omega)]
/-- what stays over a constructor -/
def cz_X (mi : kz_Me) (p : Program) (s : State) (m : MethodId) (args : Array Value) (meth : Method) (c : Code) (D : va_G) (cs : Nat → ClassId) (A : Nat → Prop) : Prop :=
  p.tables.exec = Jvm.exec ∧ c.code = mi.2.1 ∧ c.maxLocals = mi.2.2.1 ∧ s.vm.findClass mi.1.cls = some m.cls ∧ (∀ w ∈ bw_tbl, w.before args s = true) ∧ meth.sig.returnType = none ∧ meth.locks = false ∧ va_K D nm_cl (kz_ty cs) s ∧ (∀ q, s.heap.size ≤ q → A q) ∧ meth.name = "<init>"
/-- what the heap holds -/
def cz_H (D : va_G) (A : Nat → Prop) (s : State) (n : Nat) (ad : Nat → Nat) (E : Nat → va_E) (H : Heap) (locs : List Loc) : Prop := va_P D nm_cl (gw_W n ad E) H ∧ va_D A (gw_W n ad E) ∧ va_S A s.heap H locs
section CZ
variable {p : Program} {l : Launch} {e : Env} {R : Room} {s : State} {m : MethodId} {args : Array Value} {below : List Frame} {meth : Method} {c : Code} {H : Heap} {locs : List Loc} {cells slots : Nat} {Q : State → Prop}
variable {mi : kz_Me} {pc : Nat} {ls : Array Slot} {rest : List Value} {D : va_G} {cs : Nat → ClassId} {A : Nat → Prop} {n : Nat} {ad : Nat → Nat} {E : Nat → va_E}
theorem cz_put (X : cz_X mi p s m args meth c D cs A) (h : cz_H D A s n ad E H locs) (i : Nat) (hi : i < n) {ci : Nat} {fs : List Value} (hE : E i = .inr (ci, fs)) {a : Nat} (ha : ad i = a) {idx j : Nat} {ty : FieldType} {fin : Bool} (hfd : kz_Fd sC mi.1.cls idx ci j ty fin) (hC : (nm_cl[ci]?).map (fun q => q.1) = some mi.1.cls) {v : Value} (hn : narrow ty v = v) (hfit : fits ty v = true) (hl : j < fs.length) (hdg : decode mi.2.1 pc = .ok (.putfield idx, 3))
    (kk : ∀ (H1 : Heap) (locs1 : List Loc), cz_H D A s n ad (va_up E i (.inr (ci, fs.set j v))) H1 locs1 → W p l e R s m args below meth c H1 locs1 cells slots Q (F0 m (pc + 3) ls rest)) : W p l e R s m args below meth c H locs cells slots Q (F0 m pc ls (v :: .ref a :: rest)) := by
  subst ha
  obtain ⟨hP, hD, hS⟩ := h
  obtain ⟨C, T, N, ty0, g1, g2, g3, g4, g5, g6, g7, g8, g9⟩ := hfd
  have g1 : nm_cl[ci]? = some (C, T, N) := g1
  rw [g1] at hC
  have hC : C = mi.1.cls := Option.some.inj hC
  have he : (gw_W n ad E)[i]? = some (ad i, .inr (ci, fs)) := by rw [gw_at i hi, hE]
  cases fin with
  | true =>
    refine va_putF X.1 X.2.1 X.2.2.2.2.1 g3 ty0 g6 g7 X.2.2.2.1 X.2.2.2.2.2.2.2.1 hP hD hS i he g1 j g2 (ref := C) (X.2.2.2.2.1 _ g4) (by rw [g5]; exact fun _ z => z) g9 X.2.2.2.2.2.2.2.2.2 (by rw [g5]; exact hC) (ty := ty) (v := v) (by rw [g6 j g2, g8]) hn hfit hl hdg (fun H1 locs1 h1 h2 h3 => ?_)
    rw [gw_set i hi] at h1 h2
    exact kk H1 locs1 ⟨h1, h2, h3⟩
  | false =>
    refine va_put X.1 X.2.1 X.2.2.2.2.1 g3 ty0 g6 g7 X.2.2.2.1 X.2.2.2.2.2.2.2.1 hP hD hS i he g1 j g2 (ref := C) (X.2.2.2.2.1 _ g4) (by rw [g5]; exact fun _ z => z) g9 (ty := ty) (v := v) (by rw [g6 j g2, g8]) hn hfit hl hdg (fun H1 locs1 h1 h2 h3 => ?_)
    rw [gw_set i hi] at h1 h2
    exact kk H1 locs1 ⟨h1, h2, h3⟩
theorem cz_cs {cA : ClassId} {ty : FieldType} {t : Nat} (ht : (t = 0 ∧ ty = .int) ∨ (t = 1 ∧ ty = .boolean) ∨ (t = 2 ∧ ty = .long)) (hK : va_K D nm_cl (kz_ty cs) s) (hK2 : va_K D nm_cl (kz_ty cs ++ [(cA, ty)]) s) : cA = cs t := by
  have h2 := (hK2.2 4 (cA, ty) rfl).2
  rcases ht with ⟨rfl, rfl⟩ | ⟨rfl, rfl⟩ | ⟨rfl, rfl⟩
  · have h1 := (hK.2 0 (cs 0, .int) rfl).2
    exact Option.some.inj ((show s.vm.findClass _ = some cA from h2).symm.trans h1)
  · have h1 := (hK.2 1 (cs 1, .boolean) rfl).2
    exact Option.some.inj ((show s.vm.findClass _ = some cA from h2).symm.trans h1)
  · have h1 := (hK.2 2 (cs 2, .long) rfl).2
    exact Option.some.inj ((show s.vm.findClass _ = some cA from h2).symm.trans h1)
theorem cz_newa (X : cz_X mi p s m args meth c D cs A) (h : cz_H D A s n ad E H locs) {atype : ArrayType} {ty : FieldType} {t len : Nat} {a0 : vp_A} (hty : newarray.typeOf atype = ty) (ht : (t = 0 ∧ ty = .int) ∨ (t = 1 ∧ ty = .boolean) ∨ (t = 2 ∧ ty = .long)) (ha : ∀ cA, vp_cell cA a0 = arrV cA len (fun _ => defaultValue ty)) (harr : Cond.arrayClass ty ∈ bw_tbl) (hlen : len < 2 ^ 31) (hbytes : len * componentBytes ty ≤ 536870912) (hcells : cells + 1 ≤ R.cells) (hslots : slots + len ≤ R.slots) {x : Int32} (hxl : x = nI len) (hdg : decode mi.2.1 pc = .ok (.newarray atype, 2))
    (kk : ∀ (q : Nat) (H1 : Heap), cz_H D A s (n + 1) (va_up ad n q) (va_up E n (.inl (cs t, a0))) H1 locs → W p l e R s m args below meth c H1 locs (cells + 1) (slots + len) Q (F0 m (pc + 2) ls (.ref q :: rest))) : W p l e R s m args below meth c H locs cells slots Q (F0 m pc ls (.int x :: rest)) := by
  subst hxl
  obtain ⟨hP, hD, hS⟩ := h
  subst hty
  refine va_newa X.1 X.2.1 (X.2.2.2.2.1 _ harr) rfl X.2.2.2.2.2.2.2.1 hP hD hS X.2.2.2.2.2.2.2.2.1 ha (nI_pos hlen) (nI_clamp hlen) hbytes hcells hslots hdg (fun q cA H1 hK h1 h2 h3 => ?_)
  have e := cz_cs ht X.2.2.2.2.2.2.2.1 hK
  subst e
  rw [gw_push] at h1 h2
  exact kk q H1 ⟨h1, h2, h3⟩
end CZ
