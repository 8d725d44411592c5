/-! The relation of class and reference: cycles. -/
theorem z_chain {M : kz_M} {rs ws : List Int32} : ∀ (m : Nat) (N : kz_M) (rs' ws' : List Int32), cy_C M rs ws m N rs' ws' → ∃ (F : Nat → kz_M) (A B : Nat → List Int32), F 0 = M ∧ A 0 = rs ∧ B 0 = ws ∧ F m = N ∧ A m = rs' ∧ B m = ws' ∧ ∀ i, i < m → cy_wf (F i) (A i) (B i) ∧ ∃ n, n < 32 ∧ (F i).1 25 1 = nI n ∧ cy_R (F i) n (A i) (B i) (F (i + 1)) (A (i + 1)) (B (i + 1)) := by
  intro m
  induction m with
  | zero =>
    intro N rs' ws' h
    obtain ⟨rfl, rfl, rfl⟩ := h
    exact ⟨fun _ => N, fun _ => rs', fun _ => ws', rfl, rfl, rfl, rfl, rfl, rfl, fun i hi => by omega⟩
  | succ m ih =>
    intro N rs' ws' h
    obtain ⟨M1, rs1, ws1, n, h1, h2, h3, h4, h5⟩ := h
    obtain ⟨F, A, B, f0, a0, b0, fm, am, bm, hs⟩ := ih M1 rs1 ws1 h1
    refine ⟨fun i => if i = m + 1 then N else F i, fun i => if i = m + 1 then rs' else A i, fun i => if i = m + 1 then ws' else B i, ?_, ?_, ?_, ?_, ?_, ?_, fun i hi => ?_⟩
    · simp only []; rw [if_neg (by omega)]; exact f0
    · simp only []; rw [if_neg (by omega)]; exact a0
    · simp only []; rw [if_neg (by omega)]; exact b0
    · simp
    · simp
    · simp
    · simp only []
      rw [if_neg (show ¬ i = m + 1 by omega), if_neg (show ¬ i = m + 1 by omega), if_neg (show ¬ i = m + 1 by omega)]
      by_cases q : i = m
      · subst q
        rw [if_pos rfl, if_pos rfl, if_pos rfl, fm, am, bm]
        exact ⟨h2, n, h3, h4, h5⟩
      · rw [if_neg (by omega), if_neg (by omega), if_neg (by omega)]
        exact hs i (by omega)
/-- class and reference, between two calls of the law; k calls were made -/
def zF (k : Nat) (M R : kz_M) : Prop := ∃ (t : Nat) (rs ws : List Int32), zR t M R rs ws ∧ cy_wf M rs ws ∧ t ≤ 300 * k
/-- a call of the class and the same call of the reference -/
def zTy (b : Bool) (r : Value) : Prop := if b = true then ∃ z, r = .int z else ∃ z, r = .long z
def zCl (l : Launch) (b : Bool) (mc mr : kz_Me) (As : List Value) : Prop := ∀ (k : Nat) (M R : kz_M), zF k M R → k < 512 → ∃ Q : Value → kz_M → Prop, kz_T l sC mc As M (fun v O => ∃ r, v = some r ∧ Q r O) ∧ (∀ r O, Q r O → zTy b r) ∧ ∀ r O, Q r O → kz_T l sR mr As R (fun v S => v = some r ∧ zF (k + 1) O S)
theorem kz_Tm {l : Launch} {Sy : kz_Sy} {mi : kz_Me} {as : List Value} {M : kz_M} {Q Q' : Option Value → kz_M → Prop} (hq : ∀ v N, Q v N → Q' v N) (h : kz_T l Sy mi as M Q) : kz_T l Sy mi as M Q' := by
  intro ad cs D sz p e ha hc hk s m args below hf hap hP hT
  obtain ⟨k, o, h1, h2, h3, ⟨v, N, h4, h5⟩, h6⟩ := h ad cs D sz p e ha hc hk s m args below hf hap hP hT
  exact ⟨k, o, h1, h2, h3, ⟨v, N, hq v N h4, h5⟩, h6⟩
theorem zCl_dt {l : Launch} {b : Bool} {mc mr : kz_Me} {As : List Value} (h : ∀ (k : Nat) (M R : kz_M), zF k M R → k < 512 → ∃ (r : Value) (O S : kz_M), kz_Dt l sC mc As M (some r) O ∧ kz_Dt l sR mr As R (some r) S ∧ zF (k + 1) O S ∧ zTy b r) : zCl l b mc mr As := fun k M R hF hk => by
  obtain ⟨r, O, S, h1, h2, h3, h4⟩ := h k M R hF hk
  refine ⟨fun r' O' => r' = r ∧ O' = O, kz_Tm (fun v N q => ⟨r, q.1, rfl, q.2⟩) h1, fun r' O' q => by rw [q.1]; exact h4, fun r' O' q => ?_⟩
  obtain ⟨rfl, rfl⟩ := q
  exact kz_Tm (fun v N q => ⟨q.1, by rw [q.2]; exact h3⟩) h2
theorem zF_up {k : Nat} {M R : kz_M} (h : zF k M R) : zF (k + 1) M R := by
  obtain ⟨t, rs, ws, h1, h2, h3⟩ := h
  exact ⟨t, rs, ws, h1, h2, by omega⟩
theorem zCl_cycles (l : Launch) (n : Int32) : zCl l true m_Bk_cycles m_Mo_cycles [.ref 0, .int n] := by
  by_cases hx : n < 0 ∨ ¬ n ≤ 300
  · exact zCl_dt (fun k M R hF hk => ⟨.int (-1), M, R, c_Bk_cyclesx l hx, c_Mo_cyclesx l hx, zF_up hF, ⟨_, rfl⟩⟩)
  · obtain ⟨m, hm, rfl⟩ := nI_of2 (M := 300) (n := 300) (by decide) (fun z => hx (Or.inl z)) (Classical.not_not.mp (fun z => hx (Or.inr z)))
    intro k M R hF hk
    obtain ⟨t, rs, ws, hR, hwf, ht⟩ := hF
    refine ⟨fun r O => ∃ rs' ws', r = .int (O.1 25 3 - M.1 25 3) ∧ cy_C M rs ws m O rs' ws' ∧ cy_wf O rs' ws', kz_Tm (fun v N q => ?_) (c_Bk_cycles l hm hwf), fun r O q => (by obtain ⟨_, _, q1, -⟩ := q; exact ⟨_, q1⟩), fun r O q => ?_⟩
    · obtain ⟨rs', ws', q1, q2, q3⟩ := q
      exact ⟨_, q1, rs', ws', rfl, q2, q3⟩
    · obtain ⟨rs', ws', rfl, q2, q3⟩ := q
      obtain ⟨F, A, B, rfl, rfl, rfl, rfl, rfl, rfl, hs⟩ := z_chain m O rs' ws' q2
      refine kz_Tm (fun v N q => ?_) (c_Mo_cycles l (P := fun i S => zR (t + i) (F i) S (A i) (B i)) hm (fun i hi => ?_) hR)
      · obtain ⟨q4, q5⟩ := q
        refine ⟨?_, t + m, A m, B m, q5, q3, by omega⟩
        obtain ⟨wq, g, c, b, e, ⟨-, -, hJ⟩, -⟩ := hR
        obtain ⟨wq', g', c', b', e', ⟨-, -, hJ'⟩, -⟩ := q5
        rw [q4, hJ.1, hJ.2.1, hJ'.1, hJ'.2.1]
      · intro S hS
        obtain ⟨w1, n, w2, w3, w4⟩ := hs i hi
        exact z_step (t := t + i) hS w1 w2 w3 w4 (by omega)
