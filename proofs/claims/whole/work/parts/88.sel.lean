/-! The relation of class and reference: what is looked at, as a list and as flags. -/
def selI (f : Nat → Bool) : Nat → List Int32 → List Int32
  | _, [] => []
  | i, x :: xs => if f i = true then x :: selI f (i + 1) xs else selI f (i + 1) xs
theorem dr_hd {wq xs : List Int32} {i : Nat} {x : Int32} (h : wq.drop i = x :: xs) : wq[i]? = some x ∧ wq.getD i 0 = x ∧ wq.drop (i + 1) = xs := by
  have h1 : wq[i]? = some x := by
    have := congrArg (fun l : List Int32 => l[0]?) h
    simpa using this
  refine ⟨h1, ?_, ?_⟩
  · rw [List.getD_eq_getElem?_getD, h1]; rfl
  · have := congrArg (fun l : List Int32 => l.drop 1) h
    simpa using this
theorem rq_fst_cg {f g : Nat → Bool} : ∀ (n i : Nat), (∀ k, i ≤ k → k < i + n → f k = g k) → rq_fst f n i = rq_fst g n i
  | 0, _, _ => rfl
  | n + 1, i, h => by
    rw [rq_fst, rq_fst, h i (by omega) (by omega), rq_fst_cg n (i + 1) (fun k a b => h k (by omega) (by omega))]
theorem rq_an_cg {f g : Nat → Bool} : ∀ (n i : Nat), (∀ k, i ≤ k → k < i + n → f k = g k) → rq_an f n i = rq_an g n i
  | 0, _, _ => rfl
  | n + 1, i, h => by
    rw [rq_an, rq_an, h i (by omega) (by omega), rq_an_cg n (i + 1) (fun k a b => h k (by omega) (by omega))]
theorem rq_an_of {f : Nat → Bool} : ∀ (n i k : Nat), i ≤ k → k < i + n → f k = true → rq_an f n i = true
  | 0, i, k, a, b, _ => by omega
  | n + 1, i, k, a, b, h => by
    rw [rq_an]
    by_cases q : k = i
    · rw [← q, h]; rfl
    · rw [rq_an_of n (i + 1) k (by omega) (by omega) h, Bool.or_true]
theorem rq_fst_t {f : Nat → Bool} : ∀ (n i k : Nat), rq_fst f n i = some k → f k = true
  | 0, i, k, h => by cases h
  | n + 1, i, k, h => by
    rw [rq_fst] at h
    by_cases q : f i = true
    · rw [if_pos q] at h; cases h; exact q
    · rw [if_neg q] at h; exact rq_fst_t n (i + 1) k h
theorem sel_fst {wq : List Int32} (f : Nat → Bool) (p : Int32 → Bool) : ∀ (xs : List Int32) (i : Nat), wq.drop i = xs → (selI f i xs).find? p = (rq_fst (fun k => f k && p (wq.getD k 0)) xs.length i).map (fun k => wq.getD k 0)
  | [], _, _ => rfl
  | x :: xs, i, h => by
    obtain ⟨-, h2, h3⟩ := dr_hd h
    have ih := sel_fst f p xs (i + 1) h3
    rw [selI, List.length_cons, rq_fst, h2]
    cases f i
    · simp only [Bool.false_eq_true, if_false, Bool.false_and]; exact ih
    · simp only [if_true, Bool.true_and, List.find?_cons]
      cases p x
      · simp only [Bool.false_eq_true, if_false]; exact ih
      · simp only [if_true, Option.map_some, h2]
theorem sel_any {wq : List Int32} (f : Nat → Bool) (p : Int32 → Bool) : ∀ (xs : List Int32) (i : Nat), wq.drop i = xs → (selI f i xs).any p = rq_an (fun k => f k && p (wq.getD k 0)) xs.length i
  | [], _, _ => rfl
  | x :: xs, i, h => by
    obtain ⟨-, h2, h3⟩ := dr_hd h
    have ih := sel_any f p xs (i + 1) h3
    rw [selI, List.length_cons, rq_an, h2]
    cases f i
    · simp only [Bool.false_eq_true, if_false, Bool.false_and, Bool.false_or]; exact ih
    · simp only [if_true, Bool.true_and, List.any_cons]
      rw [ih]
theorem sel_n (f : Nat → Bool) : ∀ (xs : List Int32) (i m : Nat), rq_n f xs.length i (nI m) = nI (m + (selI f i xs).length)
  | [], _, _ => rfl
  | x :: xs, i, m => by
    rw [selI, List.length_cons, rq_n]
    cases f i
    · simp only [Bool.false_eq_true, if_false]
      rw [show nI m + kz_ib false = nI m from nI_add m 0]
      exact sel_n f xs (i + 1) m
    · simp only [if_true, List.length_cons]
      rw [show nI m + kz_ib true = nI (m + 1) from nI_add m 1, sel_n f xs (i + 1) (m + 1)]
      congr 1
      omega
theorem sel_len (f : Nat → Bool) : ∀ (xs : List Int32) (i : Nat), (selI f i xs).length ≤ xs.length
  | [], _ => Nat.le_refl _
  | x :: xs, i => by
    have := sel_len f xs (i + 1)
    rw [selI]
    split <;> simp only [List.length_cons] <;> omega
theorem sel_no {f : Nat → Bool} : ∀ (xs : List Int32) (i : Nat), (∀ j, i ≤ j → f j = false) → selI f i xs = []
  | [], _, _ => rfl
  | x :: xs, i, h => by
    rw [selI, h i (Nat.le_refl _)]
    exact sel_no xs (i + 1) (fun j a => h j (by omega))
theorem sel_cut {wq : List Int32} (f : Nat → Bool) : ∀ (xs : List Int32) (i : Nat), wq.drop i = xs → match rq_fst f xs.length i with
    | none => selI f i xs = []
    | some k => ∃ r, selI f i xs = wq.getD k 0 :: r ∧ selI (rq_cut f k) i xs = [wq.getD k 0]
  | [], _, _ => rfl
  | x :: xs, i, h => by
    obtain ⟨-, h2, h3⟩ := dr_hd h
    have ih := sel_cut f xs (i + 1) h3
    rw [List.length_cons, rq_fst]
    by_cases q : f i = true
    · rw [if_pos q]
      simp only [selI, if_pos q, h2]
      refine ⟨_, rfl, ?_⟩
      rw [if_pos (by rw [rq_cut, if_pos (Nat.le_refl _)]; exact q), sel_no xs (i + 1) (fun j a => by rw [rq_cut, if_neg (by omega)])]
    · rw [if_neg q]
      cases hk : rq_fst f xs.length (i + 1) with
      | none =>
        rw [hk] at ih
        simp only [selI, if_neg q]
        exact ih
      | some k =>
        rw [hk] at ih
        obtain ⟨r, r1, r2⟩ := ih
        have := rq_fst_lt _ _ _ hk
        refine ⟨r, ?_, ?_⟩
        · rw [selI, if_neg q]; exact r1
        · rw [selI, if_neg (by rw [rq_cut, if_pos (by omega)]; exact q)]; exact r2
