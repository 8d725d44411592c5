/-! Building: an object made by a constructor, and laid into a field. -/
def ex_ok (ex : (Nat → ClassId) → (Nat → Prop) → State → Prop) : Prop := ∀ (cs : Nat → ClassId) (A A1 : Nat → Prop) (s U : State), ex cs A s → s.WarmedH U.vm → s.heap.size ≤ U.heap.size → (∀ q, q < s.heap.size → ¬ A q → U.heap[q]? = s.heap[q]?) → (∀ q, A1 q → A q) → ex cs A1 U
theorem nx_ok : ex_ok nx := fun _ _ _ _ _ _ _ _ _ _ => trivial
theorem jx_ok : ex_ok jx := fun _ _ _ _ _ h hW _ _ _ => aov_mv hW.alike h
theorem bx_ok : ex_ok bx := fun cs A A1 s U h hW hz hk hA => by
  obtain ⟨h1, h2, tf, cell, hZ, hc, e1, e2, e3, e4, e5, e6⟩ := h
  have hlt : tf < s.heap.size := (Array.getElem?_eq_some_iff.mp hc).1
  refine ⟨h1.warmF hW, h2.warmC hW, tf, cell, ((va_Z.moved hW.alike hZ).kept hk).narrow hA, ?_, e1, e2, e3, e4, e5, fun z => e6 (hA tf z)⟩
  rw [hk tf hlt e6]
  exact hc
theorem cz_good {mz : kz_Me} (h : Cond.code mz.1 mz.2.1 mz.2.2.1 mz.2.2.2.1 ∈ bw_tbl) : GoodIn bw_tbl (.code mz.1 mz.2.1 mz.2.2.1 mz.2.2.2.1 :: bw_tbl) := by
  intro w hw
  rcases List.mem_cons.mp hw with rfl | hw
  · exact ⟨h, bw_kp _ h⟩
  · exact ⟨hw, bw_kp _ hw⟩
theorem cz_blind {ci : Nat} {fs : List Value} {ex : (Nat → ClassId) → (Nat → Prop) → State → Prop} {as : List Value} {D : va_G} {cs : Nat → ClassId} {h0 sz : Nat} (hok : ex_ok ex) : FrameBlind (cz_Pc ci fs ex as D cs h0 sz) := by
  intro a U g mk q
  obtain ⟨q0, q1, qP, qK, qD, qE⟩ := q
  exact ⟨q0, q1, qP, va_K.moved (u := U) (U := U.calling g mk a) (Vm.Alike.refl U.vm) qK, qD, hok _ _ _ U (U.calling g mk a) qE (State.WarmedH.refl U) (Nat.le_refl _) (fun _ _ _ => rfl) (fun _ h => h)⟩
section CZ6
variable {p : Program} {l : Launch} {e : Env} {R : Room} {s : State} {m : MethodId} {args : Array Value} {below : List Frame} {meth : Method} {c : Code} {H : Heap} {locs : List Loc} {cells slots : Nat} {Q : State → Prop}
variable {mi : kz_Me} {pc : Nat} {ls : Array Slot} {rest : List Value} {D : va_G} {cs : Nat → ClassId} {A : Nat → Prop} {n : Nat} {ad : Nat → Nat} {E : Nat → va_E} {F : Nat → Value}
/-- a constructor's call, of an object that was made last -/
theorem cz_call {hx : p.tables.exec = Jvm.exec} {mi : kz_Me} (hb : c.code = mi.2.1) (hml : c.maxLocals = mi.2.2.1) (hown : s.vm.findClass mi.1.cls = some m.cls) (hts : ∀ w ∈ bw_tbl, w.before args s = true) (hK : va_K D nm_cl (kz_ty cs) s) (hA : ∀ q, s.heap.size ≤ q → A q) {q : Nat} {mz : kz_Me} {ci2 : Nat} {fs2 : List Value} {ex : (Nat → ClassId) → (Nat → Prop) → State → Prop} {as : List Value} {sy : kz_Sy} {M2 : kz_M} {mc ms : Nat} (hT : cz_T l mz ci2 fs2 ex as sy M2 mc ms) (hok : ex_ok ex) (hexs : ex cs A s) (hret : mz.2.2.2.1 = none) (hnm : mz.1.name = "<init>")
    (h : cz_H D A s n ad E H locs) (hP : va_P D nm_cl (gw_W n ad E ++ [(q, .inr (ci2, fs2))]) H) (hD : va_D A (gw_W n ad E ++ [(q, .inr (ci2, fs2))]))
    {idx : Nat} (hlink : Cond.methodLink mi.1.cls idx mz.1 ∈ bw_tbl ∨ ∃ host, va_Nw (.methodLinkNest mi.1.cls idx mz.1 host) s) (hini : Cond.initialized mz.1.cls ∈ bw_tbl) (hcode : Cond.code mz.1 mz.2.1 mz.2.2.1 mz.2.2.2.1 ∈ bw_tbl) (hins : Cond.instanceMethod mz.1 ∈ bw_tbl) (hmh : mz.1.cls ≠ "java/lang/invoke/MethodHandle" ∧ mz.1.cls ≠ "java/lang/invoke/VarHandle" ∧ (parseMethodDescriptor mz.1.desc).map (fun d => d.parameters.length) = some as.length)
    (hR : mz.2.2.2.2.1 + 1 ≤ R.frames ∧ 8 + (mz.2.2.1 + 11) + mz.2.2.2.2.2 ≤ R.locals) (hcs : cells + mc ≤ R.cells ∧ slots + ms ≤ R.slots) (hsize : ls.size = mi.2.2.1) {st0 : List Value} (hst : st0 = as.reverse ++ .ref q :: rest) (hrest : (rest.map fun v => v.category).sum ≤ 8) (hdg : decode mi.2.1 pc = .ok (.invokespecial idx, 3))
    (kk : ∀ (ad2 : Nat → Nat) (H1 : Heap) (locs1 : List Loc), ad2 0 = q → va_P D nm_cl (gw_W n ad E ++ kz_W sy ad2 cs M2) H1 → va_D A (gw_W n ad E ++ kz_W sy ad2 cs M2) → va_S A s.heap H1 locs1 → W p l e R s m args below meth c H1 locs1 (cells + mc) (slots + ms) Q (F0 m (pc + 3) ls rest)) : W p l e R s m args below meth c H locs cells slots Q (F0 m pc ls st0) := by
  obtain ⟨hP0, hD0, hS⟩ := h
  have hq : (gw_W n ad E ++ [(q, .inr (ci2, fs2))])[n]? = some (q, (.inr (ci2, fs2) : va_E)) := by
    rw [List.getElem?_append_right (by rw [gw_len]; exact Nat.le_refl _), gw_len, Nat.sub_self]
    rfl
  have hAq : A q := hD.2 n _ hq
  have hA1 : ∀ x, va_A [(q, .inr (ci2, fs2))] H.size x → A x := fun x hx => by
    rcases hx with ⟨k, e', hk⟩ | hx
    · have h0 : k < 1 := (List.getElem?_eq_some_iff.mp hk).1
      rw [show k = 0 by omega] at hk
      cases hk
      exact hAq
    · exact hA x (Nat.le_trans hS.1 hx)
  have hP1 : va_P D nm_cl [(q, .inr (ci2, fs2))] H := fun k y hy => by
    have h0 : k < 1 := (List.getElem?_eq_some_iff.mp hy).1
    rw [show k = 0 by omega] at hy
    cases hy
    exact hP n _ hq
  have hD1 : va_D (fun _ => True) [(q, (.inr (ci2, fs2) : va_E))] := ⟨fun i j x y hi hj _ => by
    have h1 : i < 1 := (List.getElem?_eq_some_iff.mp hi).1
    have h2 : j < 1 := (List.getElem?_eq_some_iff.mp hj).1
    omega, fun _ _ _ => trivial⟩
  have hpre : PreS s H (cz_Pc ci2 fs2 ex as D cs q H.size) (.ref q :: as) := ⟨cz_blind hok, fun U hU hW => ⟨rfl, by rw [hU], by rw [hU]; exact hP1, va_K.moved hW.alike hK, hD1, hok _ _ _ s U hexs hW (by rw [hU]; exact hS.1) (fun x h1 h2 => by rw [hU]; exact hS.2.1 x h1 h2) hA1⟩⟩
  have hrun : va_Run p l e R s m args below meth c H locs cells slots mc ms (F0 m pc ls st0) rest (cz_Qc sy M2 D cs q (va_A [(q, .inr (ci2, fs2))] H.size) (Value.ref q :: as).toArray) (va_A [(q, .inr (ci2, fs2))] H.size) := by
    rcases hlink with hl | ⟨host, hl⟩
    · exact va_runI (As := as) (b := q) (nL := mi.2.2.1) ⟨hx, hb, hml, hown, hts⟩ (hT D cs q H.size) (cwI as.length hts (cz_good hcode) (by rw [← hret]) rfl rfl (hts _ hini) (hts _ hl) (hts _ hins) hnm hmh hR) hpre rfl rfl hsize hst (lv_room hrest) hdg hcs
    · exact va_runIN (As := as) (b := q) (nL := mi.2.2.1) ⟨hx, hb, hml, hown, hts⟩ (hT D cs q H.size) ⟨va_cnB as.length hts (cz_good hcode) (by rw [← hret]) rfl rfl hl (hts _ hini) hmh hR, hnm, hts _ hins⟩ hpre rfl rfl hsize hst (lv_room hrest) hdg hcs
  refine va_callv hrun hS (fun x _ hx => hA1 x hx) hA1 (fun ad2 t H1 locs1 ht hvm had hB hz hk hS1 => ?_)
  obtain ⟨hP2, hK2, hD2⟩ := hB
  rw [ht] at hP2
  have hnA : ∀ (k : Nat) (y : Nat × va_E), (gw_W n ad E)[k]? = some y → y.1 < H.size ∧ ¬ va_A [(q, .inr (ci2, fs2))] H.size y.1 := fun k y hy => by
    have hkn : k < n := by
      have := (List.getElem?_eq_some_iff.mp hy).1
      rw [gw_len] at this
      exact this
    have hlt := (hP0 k y hy).lt
    refine ⟨hlt, fun z => ?_⟩
    rcases z with ⟨i, e', hi⟩ | z
    · have h0 : i < 1 := (List.getElem?_eq_some_iff.mp hi).1
      rw [show i = 0 by omega] at hi
      have he : y.1 = q := by cases hi; rfl
      have := hD.1 k n y _ (by rw [List.getElem?_append_left (by rw [gw_len]; exact hkn)]; exact hy) hq he
      omega
    · omega
  have hP3 : va_P D nm_cl (gw_W n ad E) H1 := hP0.kept (fun k y hy => hk y.1 (hnA k y hy).1 (hnA k y hy).2)
  refine kk ad2 H1 locs1 had (hP3.app hP2) (hD0.app (hD2.weaken (fun k y hy h => hA1 _ h)) (fun i j x y hi hj hxy => ?_)) hS1
  exact (hnA i x hi).2 (by rw [hxy]; exact hD2.2 j y hj)
/-- new, dup, invokespecial, putfield -/
theorem cz_sub (X : cz_X mi p s m args meth c D cs A) (h : cz_H D A s n ad E H locs) (hi : 0 < n) {ci N : Nat} (hE : E 0 = .inr (ci, (List.range N).map F)) {a : Nat} (ha : ad 0 = a) {mz : kz_Me} {ci2 : Nat} {fs2 : List Value} {ex : (Nat → ClassId) → (Nat → Prop) → State → Prop} {sy : kz_Sy} {M2 : kz_M} {mc ms : Nat} (hT : cz_T l mz ci2 fs2 ex [] sy M2 mc ms) (hok : ex_ok ex) (hexs : ex cs A s) (hret : mz.2.2.2.1 = none) (hnm : mz.1.name = "<init>")
    {T2 : u_T} {N2 : Nat} {ty2 : Nat → FieldType} (hc2 : nm_cl[ci2]? = some (mz.1.cls, T2, N2)) (hin : ∀ w ∈ u_ws mz.1.cls T2 N2, w ∈ bw_tbl) (hty : ∀ k, k < N2 → parseFieldDescriptor (T2 k).2.2.1 = some (ty2 k)) (hfs : ∀ j, j < N2 → defaultValue (ty2 j) = vp_V fs2 j) {ix : Nat} (hcl : Cond.classLink mi.1.cls ix mz.1.cls ∈ bw_tbl) (hinst : Cond.instantiable mz.1.cls N2 ∈ bw_tbl)
    {idx : Nat} (hlink : Cond.methodLink mi.1.cls idx mz.1 ∈ bw_tbl ∨ ∃ host, va_Nw (.methodLinkNest mi.1.cls idx mz.1 host) s) (hini : Cond.initialized mz.1.cls ∈ bw_tbl) (hcode : Cond.code mz.1 mz.2.1 mz.2.2.1 mz.2.2.2.1 ∈ bw_tbl) (hins : Cond.instanceMethod mz.1 ∈ bw_tbl) (hmh : mz.1.cls ≠ "java/lang/invoke/MethodHandle" ∧ mz.1.cls ≠ "java/lang/invoke/VarHandle" ∧ (parseMethodDescriptor mz.1.desc).map (fun d => d.parameters.length) = some 0)
    (hR : mz.2.2.2.2.1 + 1 ≤ R.frames ∧ 8 + (mz.2.2.1 + 11) + mz.2.2.2.2.2 ≤ R.locals) (hcells : cells + 1 + mc ≤ R.cells) (hslots : slots + N2 + ms ≤ R.slots) (hsize : ls.size = mi.2.2.1) (hrest : (rest.map fun v => v.category).sum ≤ 6)
    {ifd j : Nat} {tyf : FieldType} {fin : Bool} (hfd : kz_Fd sC mi.1.cls ifd ci j tyf fin) (hC : (nm_cl[ci]?).map (fun q => q.1) = some mi.1.cls) (hn : ∀ q, narrow tyf (.ref q) = .ref q) (hfit : ∀ q, fits tyf (.ref q) = true) (hl : j < N)
    {n' : Nat} (hn' : n + sy.2.1.length = n') (d1 : decode mi.2.1 pc = .ok (.new ix, 3)) (d2 : decode mi.2.1 (pc + 3) = .ok (.dup, 1)) (d3 : decode mi.2.1 (pc + 3 + 1) = .ok (.invokespecial idx, 3)) (d4 : decode mi.2.1 (pc + 3 + 1 + 3) = .ok (.putfield ifd, 3))
    (kk : ∀ (ad2 : Nat → Nat) (H1 : Heap) (locs1 : List Loc) (ad' : Nat → Nat) (F' : Nat → Value) (E' : Nat → va_E), ad' = (fun k => if k < n then ad k else ad2 (k - n)) → ad' 0 = a → F' = va_up F j (.ref (ad2 0)) → E' = va_up (fun k => if k < n then E k else kz_en sy.2.2.1 ad2 cs M2 (k - n) (sy.2.1.getD (k - n) (.inl (0, 0)))) 0 (.inr (ci, (List.range N).map F')) → E' 0 = .inr (ci, (List.range N).map F') → cz_H D A s n' ad' E' H1 locs1 → W p l e R s m args below meth c H1 locs1 (cells + 1 + mc) (slots + N2 + ms) Q (F0 m (pc + 3 + 1 + 3 + 3) ls rest)) : W p l e R s m args below meth c H locs cells slots Q (F0 m pc ls (.ref a :: rest)) := by
  have h' := h
  obtain ⟨hP, hD, hS⟩ := h'
  refine va_new X.1 X.2.1 X.2.2.2.2.1 hin ty2 hty X.2.2.2.1 (X.2.2.2.2.1 _ hcl) (X.2.2.2.2.1 _ hinst) (X.2.2.2.2.1 _ hini) X.2.2.2.2.2.2.2.1 hP hD hS X.2.2.2.2.2.2.2.2.1 hc2 hfs (by omega) (by omega) d1 (fun q H1 hP1 hD1 hS1 => ?_)
  refine lv_dup X.1 X.2.1 d2 rfl ?_
  have hP10 : va_P D nm_cl (gw_W n ad E) H1 := fun k y hy => hP1 k y (by
    rw [List.getElem?_append_left ((List.getElem?_eq_some_iff.mp hy).1)]
    exact hy)
  refine cz_call (hx := X.1) (mi := mi) X.2.1 X.2.2.1 X.2.2.2.1 X.2.2.2.2.1 X.2.2.2.2.2.2.2.1 X.2.2.2.2.2.2.2.2.1 hT hok hexs hret hnm ⟨hP10, hD, hS1⟩ hP1 hD1 hlink hini hcode hins hmh hR ⟨hcells, hslots⟩ hsize (rest := .ref q :: .ref a :: rest) rfl (by
    simp only [List.map_cons, List.sum_cons]
    show 1 + (1 + _) ≤ 8
    omega) d3 (fun ad2 H2 locs2 had hP2 hD2 hS2 => ?_)
  have ew : gw_W n ad E ++ kz_W sy ad2 cs M2 = gw_W (n + sy.2.1.length) (fun k => if k < n then ad k else ad2 (k - n)) (fun k => if k < n then E k else kz_en sy.2.2.1 ad2 cs M2 (k - n) (sy.2.1.getD (k - n) (.inl (0, 0)))) := gw_app (E2 := fun k => kz_en sy.2.2.1 ad2 cs M2 k (sy.2.1.getD k (.inl (0, 0))))
  rw [ew, hn'] at hP2 hD2
  have ha' : (fun k => if k < n then ad k else ad2 (k - n)) 0 = a := by
    show (if 0 < n then ad 0 else ad2 (0 - n)) = a
    rw [if_pos hi]
    exact ha
  refine cz_putF X ⟨hP2, hD2, hS2⟩ (by omega) (F := F) (by
    show (if 0 < n then E 0 else _) = _
    rw [if_pos hi]
    exact hE) ha' hfd hC (hn q) (hfit q) hl d4 (fun H3 locs3 F' E' e1 e2 e3 h3 => ?_)
  exact kk ad2 H3 locs3 _ F' E' rfl ha' (by rw [had]; exact e1) e2 e3 h3
end CZ6
