/-! The law: its start. OPEN: over the class of the static array that is cloned. -/
theorem lw_K {s : State} {args : Array Value} (hts : ∀ w ∈ bw_tbl, w.before args s = true) (hov : (Cond.arrayOver (.array .int)).before args s = true) : ∃ (D : va_G) (cs : Nat → ClassId), va_K D nm_cl (kz_ty cs) s := by
  obtain ⟨c0, i0, k0⟩ := u_known hts nm_w0 (hts _ (bw_mem1 27 rfl rfl))
  obtain ⟨c1, i1, k1⟩ := u_known hts nm_w1 (hts _ (bw_mem1 137 rfl rfl))
  obtain ⟨c2, i2, k2⟩ := u_known hts nm_w2 (hts _ (bw_mem1 124 rfl rfl))
  obtain ⟨c3, i3, k3⟩ := u_known hts nm_w3 (hts _ (bw_mem1 95 rfl rfl))
  obtain ⟨c4, i4, k4⟩ := u_known hts nm_w4 (hts _ (bw_mem1 81 rfl rfl))
  obtain ⟨c5, i5, k5⟩ := u_known hts nm_w5 (hts _ (bw_mem1 13 rfl rfl))
  obtain ⟨c6, i6, k6⟩ := u_known hts nm_w6 (hts _ (bw_mem3 45 rfl rfl))
  obtain ⟨a0, q0, m0, f0, g0, h0⟩ := Cond.arrayClass_spec (hts _ m_ai)
  obtain ⟨a1, q1, m1, f1, g1, h1⟩ := Cond.arrayClass_spec (hts _ m_az)
  obtain ⟨a2, q2, m2, f2, g2, h2⟩ := Cond.arrayClass_spec (hts _ m_aj)
  obtain ⟨m3, a3, q3, -, g3, h3, f3⟩ := Cond.arrayOver_specA hov
  refine ⟨(fun k => [c0, c1, c2, c3, c4, c5, c6].getD k c0, fun k => [i0, i1, i2, i3, i4, i5, i6].getD k i0), fun k => [a0, a1, a2, a3].getD k a0, fun k q hk => ?_, fun k q hk => ?_⟩
  · match k, hk with
    | 0, hk => cases hk; exact k0
    | 1, hk => cases hk; exact k1
    | 2, hk => cases hk; exact k2
    | 3, hk => cases hk; exact k3
    | 4, hk => cases hk; exact k4
    | 5, hk => cases hk; exact k5
    | 6, hk => cases hk; exact k6
    | k + 7, hk => cases hk
  · match k, hk with
    | 0, hk => cases hk; exact ⟨fun n z => ⟨fun k h => (by cases h), q0, g0, m0, h0⟩, f0⟩
    | 1, hk => cases hk; exact ⟨fun n z => ⟨fun k h => (by cases h), q1, g1, m1, h1⟩, f1⟩
    | 2, hk => cases hk; exact ⟨fun n z => ⟨fun k h => (by cases h), q2, g2, m2, h2⟩, f2⟩
    | 3, hk => cases hk; exact ⟨fun n z => ⟨fun k h => (by cases h), q3, g3, m3, h3⟩, f3⟩
    | k + 4, hk => cases hk
def lw_ft : Term := .static "BankKeeper" "FIRST_TIMINGS" "[I"
/-- what the Statement's premises say of the static array, and what they don't (hopen) -/
theorem lw_bx {s : State} {args : Array Value} {cs : Nat → ClassId} {D : va_G} (hK : va_K D nm_cl (kz_ty cs) s) (hts : ∀ w ∈ lw_tbl, w.before args s = true) (hgv : (Jvm.Cond.and given_1 narrow_1).before args s = true) (hopen : (Cond.exactly lw_ft "[I").before args s = true) : bx cs (fun q => s.heap.size ≤ q) s := by
  have hs := flat_of_before _ hgv
  have harr : (Cond.arrayOf lw_ft .int).before args s = true := hs _ (by decide +kernel)
  have hlen : (Term.length lw_ft).eval args s none [] s = some (.int 14) := va_eqt (hs _ (by decide +kernel))
  have hel : ∀ j : Nat, j < 14 → (Term.elem lw_ft (.int (Int32.ofNat j))).eval args s none [] s = some (.int (nI (mo_f j))) := fun j hj => by
    match j, hj with
    | 0, _ => exact va_eqt (z := 3) (hs _ (by decide +kernel))
    | 1, _ => exact va_eqt (z := 3) (hs _ (by decide +kernel))
    | 2, _ => exact va_eqt (z := 7) (hs _ (by decide +kernel))
    | 3, _ => exact va_eqt (z := 10) (hs _ (by decide +kernel))
    | 4, _ => exact va_eqt (z := 2) (hs _ (by decide +kernel))
    | 5, _ => exact va_eqt (z := 9) (hs _ (by decide +kernel))
    | 6, _ => exact va_eqt (z := 4) (hs _ (by decide +kernel))
    | 7, _ => exact va_eqt (z := 4) (hs _ (by decide +kernel))
    | 8, _ => exact va_eqt (z := 3) (hs _ (by decide +kernel))
    | 9, _ => exact va_eqt (z := 3) (hs _ (by decide +kernel))
    | 10, _ => exact va_eqt (z := 4) (hs _ (by decide +kernel))
    | 11, _ => exact va_eqt (z := 3) (hs _ (by decide +kernel))
    | 12, _ => exact va_eqt (z := 12) (hs _ (by decide +kernel))
    | 13, _ => exact va_eqt (z := 120) (hs _ (by decide +kernel))
    | j + 14, hj => exact absurd hj (by omega)
  obtain ⟨tf, ht, cell, hc, hof, hkn, h14, h14b, hee, hnA⟩ := va_Tof (A := fun q => s.heap.size ≤ q) (N := 14) (f := fun j => .int (nI (mo_f j))) (by decide) harr hlen hel (fun a h => by omega)
  have hsz : cell.slots.size = 14 := by
    obtain ⟨a, cell2, e1, e2, e3⟩ := Term.length_spec hlen
    cases ht.symm.trans e1
    obtain ⟨hc2, -, -, -⟩ := State.arrayAt?_spec e2
    cases hc.symm.trans hc2
    have hlt : cell.slots.size < 2 ^ 31 := by
      have := hlen
      simp only [Term.eval, e1, e2, Option.bind_eq_bind, Option.bind_some] at this
      by_cases q : cell.slots.size < 2147483648
      · exact q
      · simp [q] at this
    exact (nI_eq (a := cell.slots.size) (b := 14) hlt (by decide)).mp h14b
  obtain ⟨a, c, cell2, k, e1, e2, e3, e4, e5, e6, -⟩ := Cond.exactly_spec hopen
  cases ht.symm.trans e1
  cases hc.symm.trans e3
  have hcs : s.vm.findClass "[I" = some (cs 0) := va_nm_int (hK.2 0 (cs 0, .int) rfl).2
  have hl : ∀ (i : Nat) (w : Cond), tables_1_1[i]? = some w → w.before args s = true := fun i w hi => hts w (List.mem_append_right _ (List.mem_append_left _ (List.mem_of_getElem? hi)))
  refine ⟨va_Nw.of rfl (hl 32 _ rfl), va_Nw.of rfl (hl 39 _ rfl), tf, cell, va_Zof (hl 33 _ rfl) (hl 1 _ rfl) ht (fun a h => by omega), hc, hof.1, hkn, e6.trans (Option.some.inj (e2.symm.trans hcs)), hsz, hee, hnA⟩
