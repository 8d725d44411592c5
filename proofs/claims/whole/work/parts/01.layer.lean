/-! A layer over the kit: a world of fixed shape; a reference is a place in it; contents by type. -/
abbrev kz_M : Type := (Nat → Nat → Int32) × (Nat → Nat → Int64)
/-- an array: its type's number and length; an object: its class's number and its fields' kinds (0 int, 1 boolean, 2 long, 3 reference) -/
abbrev kz_Sh : Type := (Nat × Nat) ⊕ (Nat × List Nat)
/-- a system: classes, shapes by place, references by place and slot, words -/
abbrev kz_Sy : Type := List vw_C × List kz_Sh × (Nat → Nat → Option Nat) × List Cond
/-- a method: name, code, locals, what it returns, frames and words of locals that its calls need -/
abbrev kz_Me : Type := MethodName × ByteArray × Nat × Option FieldType × Nat × Nat
def kz_rl (ad : Nat → Nat) : Value → Value
  | .ref k => .ref (ad k)
  | v => v
theorem kz_rl_cat (ad : Nat → Nat) (v : Value) : (kz_rl ad v).category = v.category := by cases v <;> rfl
theorem kz_rl_sum (ad : Nat → Nat) (S : List Value) : ((S.map (kz_rl ad)).map fun v => v.category).sum = (S.map fun v => v.category).sum := by
  induction S with
  | nil => rfl
  | cons v S ih => simp only [List.map_cons, List.sum_cons, kz_rl_cat, ih]
def kz_fv (Rf : Nat → Nat → Option Nat) (ad : Nat → Nat) (M : kz_M) (k j kd : Nat) : Value := match kd with
  | 0 => .int (M.1 k j)
  | 1 => .int (M.1 k j)
  | 2 => .long (M.2 k j)
  | _ => va_rf ((Rf k j).map ad)
def kz_cn (Rf : Nat → Nat → Option Nat) (ad : Nat → Nat) (M : kz_M) (k t : Nat) : (Nat → Int32) ⊕ (Nat → Int64) ⊕ (Nat → UInt32) ⊕ (Nat → UInt64) ⊕ (Nat → Option Nat) := match t with
  | 0 => .inl (M.1 k)
  | 1 => .inl (M.1 k)
  | 2 => .inr (.inl (M.2 k))
  | _ => .inr (.inr (.inr (.inr (fun j => (Rf k j).map ad))))
def kz_en (Rf : Nat → Nat → Option Nat) (ad : Nat → Nat) (cs : Nat → ClassId) (M : kz_M) (k : Nat) : kz_Sh → va_E
  | .inl (t, n) => .inl (cs t, n, kz_cn Rf ad M k t)
  | .inr (ci, ks) => .inr (ci, (List.range ks.length).map fun j => kz_fv Rf ad M k j (ks.getD j 0))
def kz_W (Sy : kz_Sy) (ad : Nat → Nat) (cs : Nat → ClassId) (M : kz_M) : va_W := (List.range Sy.2.1.length).map fun k => (ad k, kz_en Sy.2.2.1 ad cs M k (Sy.2.1.getD k (.inl (0, 0))))
theorem kz_W_at {Sy : kz_Sy} {ad : Nat → Nat} {cs : Nat → ClassId} {M : kz_M} {k : Nat} {sh : kz_Sh} (h : Sy.2.1[k]? = some sh) : (kz_W Sy ad cs M)[k]? = some (ad k, kz_en Sy.2.2.1 ad cs M k sh) := by
  have hk : k < Sy.2.1.length := (List.getElem?_eq_some_iff.mp h).1
  unfold kz_W
  rw [List.getElem?_map, List.getElem?_range hk]
  simp only [Option.map_some, List.getD_eq_getElem?_getD, h, Option.getD_some]
theorem kz_W_len {Sy : kz_Sy} {ad : Nat → Nat} {cs : Nat → ClassId} {M : kz_M} : (kz_W Sy ad cs M).length = Sy.2.1.length := by simp [kz_W]
theorem kz_en_eq {Rf : Nat → Nat → Option Nat} {ad : Nat → Nat} {cs : Nat → ClassId} {M N : kz_M} {k : Nat} (h1 : N.1 k = M.1 k) (h2 : N.2 k = M.2 k) (sh : kz_Sh) : kz_en Rf ad cs N k sh = kz_en Rf ad cs M k sh := by
  have hf : ∀ j kd, kz_fv Rf ad N k j kd = kz_fv Rf ad M k j kd := fun j kd => by unfold kz_fv; rw [h1, h2]
  have hc : ∀ t, kz_cn Rf ad N k t = kz_cn Rf ad M k t := fun t => by unfold kz_cn; rw [h1, h2]
  rcases sh with ⟨t, n⟩ | ⟨ci, ks⟩
  · simp only [kz_en, hc]
  · simp only [kz_en, hf]
theorem kz_W_set {Sy : kz_Sy} {ad : Nat → Nat} {cs : Nat → ClassId} {M N : kz_M} {k : Nat} {sh : kz_Sh} (h : Sy.2.1[k]? = some sh) (ho : ∀ a, a ≠ k → N.1 a = M.1 a ∧ N.2 a = M.2 a) : kz_W Sy ad cs N = (kz_W Sy ad cs M).set k (ad k, kz_en Sy.2.2.1 ad cs N k sh) := by
  apply List.ext_getElem?
  intro i
  by_cases hi : i = k
  · subst hi
    rw [kz_W_at h, List.getElem?_set_self (by rw [kz_W_len]; exact (List.getElem?_eq_some_iff.mp h).1)]
  · rw [List.getElem?_set_ne (Ne.symm hi)]
    cases hs : Sy.2.1[i]? with
    | none =>
      have hl : Sy.2.1.length ≤ i := List.getElem?_eq_none_iff.mp hs
      rw [List.getElem?_eq_none (by rw [kz_W_len]; exact hl), List.getElem?_eq_none (by rw [kz_W_len]; exact hl)]
    | some sh' =>
      rw [kz_W_at hs, kz_W_at hs, kz_en_eq (ho i hi).1 (ho i hi).2]
/-- one place's one slot is written -/
def kz_u {α : Type} (f : Nat → Nat → α) (k j : Nat) (x : α) : Nat → Nat → α := fun a b => if a = k then (if b = j then x else f a b) else f a b
theorem kz_u_row {α : Type} (f : Nat → Nat → α) (k j : Nat) (x : α) : kz_u f k j x k = fun b => if b = j then x else f k b := by
  funext b; simp [kz_u]
theorem kz_u_off {α : Type} (f : Nat → Nat → α) (k j : Nat) (x : α) {a : Nat} (h : a ≠ k) : kz_u f k j x a = f a := by
  funext b; simp [kz_u, h]
theorem kz_u_same {α : Type} (f : Nat → Nat → α) (k j : Nat) (x : α) : kz_u f k j x k j = x := by simp [kz_u]
theorem kz_u_ne {α : Type} (f : Nat → Nat → α) (k j : Nat) (x : α) {a b : Nat} (h : ¬ (a = k ∧ b = j)) : kz_u f k j x a b = f a b := by
  unfold kz_u
  by_cases h1 : a = k
  · by_cases h2 : b = j
    · exact absurd ⟨h1, h2⟩ h
    · simp [h1, h2]
  · simp [h1]
def kz_ty (cs : Nat → ClassId) : List (ClassId × FieldType) := [(cs 0, .int), (cs 1, .boolean), (cs 2, .long), (cs 3, .array .int)]
/-- the locals -/
def kz_at : List (Option Value) → Nat → Option Value
  | [], _ => none
  | x :: _, 0 => x
  | _ :: r, n + 1 => kz_at r n
def kz_set : List (Option Value) → Nat → Option Value → List (Option Value)
  | [], _, _ => []
  | _ :: r, 0, v => v :: r
  | x :: r, n + 1, v => x :: kz_set r n v
theorem kz_set_len : ∀ (L : List (Option Value)) (i : Nat) (v : Option Value), (kz_set L i v).length = L.length
  | [], _, _ => rfl
  | _ :: _, 0, _ => rfl
  | _ :: r, n + 1, v => by simp [kz_set, kz_set_len r n v]
theorem kz_at_set : ∀ (L : List (Option Value)) (i : Nat) (v : Option Value) (j : Nat), kz_at (kz_set L i v) j = if j = i ∧ i < L.length then v else kz_at L j
  | [], i, v, j => by simp [kz_set, kz_at]
  | x :: r, 0, v, 0 => by simp [kz_set, kz_at]
  | x :: r, 0, v, j + 1 => by simp [kz_set, kz_at]
  | x :: r, n + 1, v, 0 => by simp [kz_set, kz_at]
  | x :: r, n + 1, v, j + 1 => by simp [kz_set, kz_at, kz_at_set r n v j]
theorem kz_at_lt : ∀ (L : List (Option Value)) (i : Nat) (v : Value), kz_at L i = some v → i < L.length
  | [], i, v, h => by cases h
  | x :: r, 0, v, h => by simp
  | x :: r, n + 1, v, h => by simpa using kz_at_lt r n v h
def kz_L (ad : Nat → Nat) (ls : Array Slot) (n : Nat) (L : List (Option Value)) : Prop := ls.size = n ∧ lv_wf ls ∧ L.length = n ∧ ∀ (i : Nat) (v : Value), kz_at L i = some v → ls[i]? = some (.val (kz_rl ad v))
def kz_pl (ad : Nat → Nat) (L : List (Option Value)) : List (Nat × Value) := (List.range L.length).filterMap fun i => (kz_at L i).map fun v => (i, kz_rl ad v)
theorem kz_pl_mem {ad : Nat → Nat} {L : List (Option Value)} {i : Nat} {v : Value} (h : kz_at L i = some v) : (i, kz_rl ad v) ∈ kz_pl ad L :=
  List.mem_filterMap.mpr ⟨i, List.mem_range.mpr (kz_at_lt L i v h), by rw [h]; rfl⟩
theorem kz_pl_of {ad : Nat → Nat} {L : List (Option Value)} {q : Nat × Value} (h : q ∈ kz_pl ad L) : ∃ v, kz_at L q.1 = some v ∧ q.2 = kz_rl ad v := by
  obtain ⟨i, -, hi⟩ := List.mem_filterMap.mp h
  cases hv : kz_at L i with
  | none => rw [hv] at hi; cases hi
  | some v =>
    rw [hv] at hi
    cases hi
    exact ⟨v, hv, rfl⟩
theorem kz_L.has {ad : Nat → Nat} {ls : Array Slot} {n : Nat} {L : List (Option Value)} (h : kz_L ad ls n L) : lv_has ls n (kz_pl ad L) :=
  ⟨h.1, h.2.1, fun q hq => by
    obtain ⟨v, h1, h2⟩ := kz_pl_of hq
    rw [h2]
    exact h.2.2.2 q.1 v h1⟩
/-- a long doesn't stand just below -/
def kz_ok (L : List (Option Value)) : Nat → Bool
  | 0 => true
  | i + 1 => match kz_at L i with
    | some v => v.category == 1
    | none => true
theorem kz_L.set1 {ad : Nat → Nat} {ls ls' : Array Slot} {n : Nat} {L : List (Option Value)} (h : kz_L ad ls n L) {i : Nat} {v : Value} (hok : kz_ok L i = true)
    (h' : lv_has ls' n ((i, kz_rl ad v) :: (kz_pl ad L).filter (fun q => !(q.1 == i) && !(q.1 + 1 == i && q.2.category == 2)))) : kz_L ad ls' n (kz_set L i (some v)) := by
  refine ⟨h'.1, h'.2.1, (kz_set_len _ _ _).trans h.2.2.1, fun j w hj => ?_⟩
  rw [kz_at_set] at hj
  by_cases hji : j = i ∧ i < L.length
  · rw [if_pos hji] at hj
    cases hj
    rw [hji.1]
    exact h'.2.2 (i, kz_rl ad v) List.mem_cons_self
  · rw [if_neg hji] at hj
    have hne : j ≠ i := fun e => hji ⟨e, e ▸ kz_at_lt L j w hj⟩
    refine h'.2.2 (j, kz_rl ad w) (List.mem_cons_of_mem _ (List.mem_filter.mpr ⟨kz_pl_mem hj, ?_⟩))
    have h1 : (j == i) = false := by simpa using hne
    have h2 : (j + 1 == i && (kz_rl ad w).category == 2) = false := by
      cases i with
      | zero => simp
      | succ i =>
        by_cases e : j = i
        · subst e
          simp only [kz_ok, hj, beq_iff_eq] at hok
          rw [kz_rl_cat, hok]
          simp
        · have : (j + 1 == i + 1) = false := by simpa using e
          rw [this]; rfl
    simp only [h1, h2]
    rfl
theorem kz_L.set2 {ad : Nat → Nat} {ls ls' : Array Slot} {n : Nat} {L : List (Option Value)} (h : kz_L ad ls n L) {i : Nat} {v : Value} (hok : kz_ok L i = true)
    (h' : lv_has ls' n ((i, kz_rl ad v) :: (kz_pl ad L).filter (fun q => !(q.1 == i) && (!(q.1 == i + 1) && !(q.1 + 1 == i && q.2.category == 2))))) : kz_L ad ls' n (kz_set (kz_set L i (some v)) (i + 1) none) := by
  refine ⟨h'.1, h'.2.1, ((kz_set_len _ _ _).trans (kz_set_len _ _ _)).trans h.2.2.1, fun j w hj => ?_⟩
  rw [kz_at_set] at hj
  by_cases hj1 : j = i + 1 ∧ i + 1 < (kz_set L i (some v)).length
  · rw [if_pos hj1] at hj
    cases hj
  · rw [if_neg hj1, kz_at_set] at hj
    by_cases hji : j = i ∧ i < L.length
    · rw [if_pos hji] at hj
      cases hj
      rw [hji.1]
      exact h'.2.2 (i, kz_rl ad v) List.mem_cons_self
    · rw [if_neg hji] at hj
      have hne : j ≠ i := fun e => hji ⟨e, e ▸ kz_at_lt L j w hj⟩
      have hne1 : j ≠ i + 1 := fun e => hj1 ⟨e, by rw [kz_set_len, ← e]; exact kz_at_lt L j w hj⟩
      refine h'.2.2 (j, kz_rl ad w) (List.mem_cons_of_mem _ (List.mem_filter.mpr ⟨kz_pl_mem hj, ?_⟩))
      have h1 : (j == i) = false := by simpa using hne
      have h3 : (j == i + 1) = false := by simpa using hne1
      have h2 : (j + 1 == i && (kz_rl ad w).category == 2) = false := by
        cases i with
        | zero => simp
        | succ i =>
          by_cases e : j = i
          · subst e
            simp only [kz_ok, hj, beq_iff_eq] at hok
            rw [kz_rl_cat, hok]
            simp
          · have : (j + 1 == i + 1) = false := by simpa using e
            rw [this]; rfl
      simp only [h1, h2, h3]
      rfl
/-- the locals with which a method begins -/
def kz_sl : List Value → List (Option Value)
  | [] => []
  | v :: vs => if v.category = 2 then some v :: none :: kz_sl vs else some v :: kz_sl vs
theorem kz_sl_args (ad : Nat → Nat) : ∀ (as : List Value) (o i : Nat) (v : Value), kz_at (kz_sl as) i = some v → (o + i, kz_rl ad v) ∈ lv_args o (as.map (kz_rl ad))
  | [], o, i, v, h => by cases h
  | a :: as, o, i, v, h => by
    unfold kz_sl at h
    rw [List.map_cons]
    unfold lv_args
    rw [kz_rl_cat]
    by_cases hc : a.category = 2
    · rw [if_pos hc] at h
      rw [if_pos hc]
      match i, h with
      | 0, h => cases h; exact List.mem_cons_self
      | 1, h => cases h
      | i + 2, h =>
        have := kz_sl_args ad as (o + 2) i v h
        rw [show o + (i + 2) = o + 2 + i by omega]
        exact List.mem_cons_of_mem _ this
    · rw [if_neg hc] at h
      rw [if_neg hc]
      match i, h with
      | 0, h => cases h; exact List.mem_cons_self
      | i + 1, h =>
        have := kz_sl_args ad as (o + 1) i v h
        rw [show o + (i + 1) = o + 1 + i by omega]
        exact List.mem_cons_of_mem _ this
theorem kz_sl_len (ad : Nat → Nat) : ∀ (as : List Value), (lg_sl (as.map (kz_rl ad))).length = (kz_sl as).length
  | [] => rfl
  | a :: as => by
    have ih := kz_sl_len ad as
    unfold lg_sl at ih ⊢
    unfold kz_sl
    rw [List.map_cons, List.flatMap_cons, List.length_append, ih, kz_rl_cat]
    by_cases hc : a.category = 2
    · rw [if_pos hc, if_pos hc]; simp; omega
    · rw [if_neg hc, if_neg hc]; simp; omega
def kz_e0 (n : Nat) (as : List Value) : List (Option Value) := kz_sl as ++ List.replicate (n - (kz_sl as).length) none
theorem kz_at_app : ∀ (A : List (Option Value)) (n i : Nat) (v : Value), kz_at (A ++ List.replicate n none) i = some v → kz_at A i = some v
  | [], n, i, v, h => by
    exfalso
    induction n generalizing i with
    | zero => cases h
    | succ n ih =>
      cases i with
      | zero => cases h
      | succ i => exact ih i h
  | x :: r, n, 0, v, h => h
  | x :: r, n, i + 1, v, h => kz_at_app r n i v h
theorem kz_L_entry (ad : Nat → Nat) (as : List Value) {n : Nat} (h : (kz_sl as).length ≤ n) : kz_L ad ((lg_sl (as.map (kz_rl ad)) ++ List.replicate (n - (lg_sl (as.map (kz_rl ad))).length) Slot.unset).toArray) n (kz_e0 n as) := by
  have hl := lv_entry (as.map (kz_rl ad)) (n := n) (by rw [kz_sl_len]; exact h)
  refine ⟨hl.1, hl.2.1, ?_, fun i v hv => ?_⟩
  · unfold kz_e0
    rw [List.length_append, List.length_replicate]
    omega
  · have := kz_sl_args ad as 0 i v (kz_at_app _ _ i v hv)
    rw [Nat.zero_add] at this
    exact hl.2.2 (i, kz_rl ad v) this
/-- what stays over a method -/
def kz_X (Sy : kz_Sy) (mi : kz_Me) (p : Program) (R : Room) (s : State) (m : MethodId) (args : Array Value) (meth : Method) (c : Code) (cs : Nat → ClassId) (D : va_G) (A : Nat → Prop) : Prop :=
  p.tables.exec = Jvm.exec ∧ c.code = mi.2.1 ∧ c.maxLocals = mi.2.2.1 ∧ s.vm.findClass mi.1.cls = some m.cls ∧ (∀ w ∈ Sy.2.2.2, w.before args s = true) ∧ meth.sig.returnType = mi.2.2.2.1 ∧ meth.locks = false ∧ va_K D Sy.1 (kz_ty cs) s ∧ (∀ q, s.heap.size ≤ q → A q) ∧ mi.2.2.2.2.1 ≤ R.frames ∧ mi.2.2.2.2.2 ≤ R.locals
/-- from here the method ends with Q -/
def kz_G (l : Launch) (Sy : kz_Sy) (mi : kz_Me) (pc : Nat) (L : List (Option Value)) (S : List Value) (M : kz_M) (Q : Option Value → kz_M → Prop) : Prop :=
  ∀ (p : Program) (e : Env) (R : Room) (s : State) (m : MethodId) (args : Array Value) (below : List Frame) (meth : Method) (c : Code) (H : Heap) (locs : List Loc) (cells slots : Nat) (ls : Array Slot) (ad : Nat → Nat) (cs : Nat → ClassId) (D : va_G) (A : Nat → Prop) (Qc : Array Value → State → Outcome → State → Prop),
    kz_X Sy mi p R s m args meth c cs D A → cells ≤ R.cells ∧ slots ≤ R.slots → va_P D Sy.1 (kz_W Sy ad cs M) H → va_D A (kz_W Sy ad cs M) → va_S A s.heap H locs → kz_L ad ls mi.2.2.1 L →
    (∀ (v : Option Value) (N : kz_M) (t : State), Q v N → va_P D Sy.1 (kz_W Sy ad cs N) t.heap → va_D A (kz_W Sy ad cs N) → va_F A s t → s.WarmedH t.vm → Qc args s (.returned (v.map (kz_rl ad))) t) →
    W p l e R s m args below meth c H locs cells slots (MQ below Qc args s cells slots A) (F0 m pc ls (S.map (kz_rl ad)))
def kz_Qc (Sy : kz_Sy) (ad : Nat → Nat) (cs : Nat → ClassId) (D : va_G) (A : Nat → Prop) (Q : Option Value → kz_M → Prop) : Array Value → State → Outcome → State → Prop := fun _ st oc t =>
  ∃ (v : Option Value) (N : kz_M), Q v N ∧ oc = .returned (v.map (kz_rl ad)) ∧ va_P D Sy.1 (kz_W Sy ad cs N) t.heap ∧ va_K D Sy.1 (kz_ty cs) t ∧ va_D A (kz_W Sy ad cs N) ∧ va_F A st t
def kz_ws (Sy : kz_Sy) (mi : kz_Me) : List Cond := .code mi.1 mi.2.1 mi.2.2.1 mi.2.2.2.1 :: Sy.2.2.2
def kz_rm (mi : kz_Me) : Room := { frames := mi.2.2.2.2.1, cells := 0, slots := 0, locals := mi.2.2.2.2.2 }
def kz_Pc (Sy : kz_Sy) (ad : Nat → Nat) (cs : Nat → ClassId) (D : va_G) (sz : Nat) (as : List Value) (M : kz_M) : Array Value → State → Prop :=
  va_Pc (as.map (kz_rl ad)) (fun U => U.heap.size = sz ∧ va_P D Sy.1 (kz_W Sy ad cs M) U.heap ∧ va_K D Sy.1 (kz_ty cs) U ∧ va_D (fun _ => True) (kz_W Sy ad cs M))
/-- a method's contract: at these arguments and this memory it returns, with Q -/
def kz_T (l : Launch) (Sy : kz_Sy) (mi : kz_Me) (as : List Value) (M : kz_M) (Q : Option Value → kz_M → Prop) : Prop :=
  ∀ (ad : Nat → Nat) (cs : Nat → ClassId) (D : va_G) (sz : Nat), Met l mi.1 (kz_ws Sy mi) (kz_rm mi) (kz_Pc Sy ad cs D sz as M) (kz_Qc Sy ad cs D (va_A (kz_W Sy ad cs M) sz) Q) 0 0 (va_A (kz_W Sy ad cs M) sz)
theorem kz_intro {l : Launch} {Sy : kz_Sy} {mi : kz_Me} {as : List Value} {M : kz_M} {Q : Option Value → kz_M → Prop} (hpl : plainFor mi.1 = true) (hlen : (kz_sl as).length ≤ mi.2.2.1) (h : kz_G l Sy mi 0 (kz_e0 mi.2.2.1 as) [] M Q) : kz_T l Sy mi as M Q := by
  intro ad cs D sz
  refine va_MetF (cc := mi.2.1) (maxL := mi.2.2.1) (ret := mi.2.2.2.1) hpl rfl ?_
  intro p e s m args below meth c s₁ B hml hv
  obtain ⟨rfl, hsz, hP, hK, hD0⟩ := hv
  have hts := atoms_spec (ws := kz_ws Sy mi) B.pre
  have hown : s.vm.findClass mi.1.cls = some m.cls := findClass_of_methodNamed B.named
  subst hsz
  have hD := hD0.self (sz := s.heap.size)
  rw [lg_entry_eq]
  exact h p e (kz_rm mi) s m _ below meth c s.heap [] 0 0 _ ad cs D (va_A (kz_W Sy ad cs M) s.heap.size) _
    ⟨B.exec, B.bytes, hml, hown, fun w hw => hts w (List.mem_cons_of_mem _ hw), B.returns, B.notSynchronized, hK, fun q hq => Or.inr hq, Nat.le_refl _, Nat.le_refl _⟩
    ⟨Nat.le_refl _, Nat.le_refl _⟩ hP hD va_S.rf (kz_L_entry ad as hlen)
    (fun v N t hq hp hd hf hw => ⟨v, N, hq, rfl, hp, va_K.moved hw.alike hK, hd, hf⟩)
theorem kz_mono {l : Launch} {Sy : kz_Sy} {mi : kz_Me} {pc : Nat} {L : List (Option Value)} {S : List Value} {M : kz_M} {Q Q' : Option Value → kz_M → Prop} (hq : ∀ v N, Q v N → Q' v N) (h : kz_G l Sy mi pc L S M Q) : kz_G l Sy mi pc L S M Q' :=
  fun p e R s m args below meth c H locs cells slots ls ad cs D A Qc h1 h2 h3 h4 h5 h6 h7 => h p e R s m args below meth c H locs cells slots ls ad cs D A Qc h1 h2 h3 h4 h5 h6 (fun v N t a => h7 v N t (hq v N a))
