/-! Further rules; a stored word as a pair of its low and its high places. -/
section KZ2
variable {l : Launch} {Sy : kz_Sy} {mi : kz_Me} {pc pc' : Nat} {L : List (Option Value)} {S : List Value} {M : kz_M} {Q : Option Value → kz_M → Prop}
theorem kz_ldc_w {index : Nat} {v : Int32} (hd : decode mi.2.1 pc = .ok (.ldc_w index, 3)) (hw : Cond.constant mi.1.cls index v ∈ Sy.2.2.2) (hp : pc + 3 = pc') (k : kz_G l Sy mi pc' L (.int v :: S) M Q) : kz_G l Sy mi pc L S M Q := by
  subst hp
  intro p e R s m args below meth c H locs cells slots ls ad cs D A Qc hX hc hP hD hS hL hQ
  exact lv_ldcw hX.1 hX.2.1 hX.2.2.2.1 (hX.2.2.2.2.1 _ hw) hd (k p e R s m args below meth c H locs cells slots ls ad cs D A Qc hX hc hP hD hS hL hQ)
theorem kz_nami {x : Int32} (k : ∀ y, y = x → kz_G l Sy mi pc L (.int y :: S) M Q) : kz_G l Sy mi pc L (.int x :: S) M Q := k x rfl
theorem kz_naml {x : Int64} (k : ∀ y, y = x → kz_G l Sy mi pc L (.long y :: S) M Q) : kz_G l Sy mi pc L (.long x :: S) M Q := k x rfl
theorem kz_memq {N : kz_M} (h : M = N) (k : kz_G l Sy mi pc L S N Q) : kz_G l Sy mi pc L S M Q := h ▸ k
end KZ2
theorem kz_u_id {α : Type} (f : Nat → Nat → α) (k j : Nat) : kz_u f k j (f k j) = f := by
  funext a b
  unfold kz_u
  by_cases h1 : a = k
  · by_cases h2 : b = j
    · simp [h1, h2]
    · simp [h1, h2]
  · simp [h1]
theorem kz_u_u {α : Type} (f : Nat → Nat → α) (k j : Nat) (x y : α) : kz_u (kz_u f k j x) k j y = kz_u f k j y := by
  funext a b
  unfold kz_u
  by_cases h1 : a = k
  · by_cases h2 : b = j
    · simp [h1, h2]
    · simp [h1, h2]
  · simp [h1]
/-- a word as it is stored: the low 64 places, the high 8 -/
abbrev bt_T : Type := Int64 × Int32
def bt_turn (x : bt_T) (p : Int32) : bt_T := if 64 ≤ p then (x.1, x.2 ^^^ (1 <<< ((p - 64) &&& 31))) else (x.1 ^^^ (1 <<< (p.toInt64 &&& 63)), x.2)
def bt_bit (x : bt_T) (p : Int32) : Int32 := if 64 ≤ p then (x.2.toUInt32 >>> ((p - 64).toUInt32 &&& Int32.toUInt32 31)).toInt32 &&& 1 else ((x.1.toUInt64 >>> (p.toInt64.toUInt64 &&& Int64.toUInt64 63)).toInt64 &&& 1).toInt32
def bt_chk (p : Int32) : Bool := decide (p &&& (p - 1) = 0)
/-- how many ones, its parity -/
def bt_odd (x : bt_T) : Bool := decide ((pp_ds 2 64 x.1.toUInt64.toNat + pp_ds 2 32 x.2.toUInt32.toNat) % 2 = 1)
/-- storing: place after place -/
def bt_kp (p : Int32) (st : bt_T × Int32 × Int64) : bt_T × Int32 × Int64 := if bt_chk p = true then st else if lg_cmp (st.2.2 &&& 1) 0 = 0 then (st.1, st.2.1, (st.2.2.toUInt64 >>> ((1 : Int32).toInt64.toUInt64 &&& Int64.toUInt64 63)).toInt64) else (bt_turn st.1 p, st.2.1 ^^^ p, (st.2.2.toUInt64 >>> ((1 : Int32).toInt64.toUInt64 &&& Int64.toUInt64 63)).toInt64)
def bt_kps : Nat → Nat → bt_T × Int32 × Int64 → bt_T × Int32 × Int64
  | 0, _, st => st
  | n + 1, p, st => bt_kps n (p + 1) (bt_kp (nI p) st)
def bt_kc (syn c : Int32) (x : bt_T) : bt_T := if syn &&& c = 0 then x else bt_turn x c
def bt_kcs (syn : Int32) (x : bt_T) : bt_T := bt_kc syn 64 (bt_kc syn 32 (bt_kc syn 16 (bt_kc syn 8 (bt_kc syn 4 (bt_kc syn 2 (bt_kc syn 1 x))))))
def bt_end (x : bt_T) : bt_T := if bt_odd x = true then bt_turn x 0 else x
def bt_keep (w : Int64) : bt_T := bt_end (bt_kcs (bt_kps 69 3 ((0, 0), 0, w)).2.1 (bt_kps 69 3 ((0, 0), 0, w)).1)
/-- reading -/
def bt_syn (x : bt_T) : Nat → Nat → Int32 → Int32
  | 0, _, s => s
  | n + 1, p, s => bt_syn x n (p + 1) (if bt_bit x (nI p) = 1 then s ^^^ nI p else s)
def bt_fault (x : bt_T) : Int32 := if bt_odd x = true then (if 72 ≤ bt_syn x 71 1 0 then -2 else bt_syn x 71 1 0) else (if bt_syn x 71 1 0 = 0 then -1 else -2)
/-- the word, from place p + n - 1 down to p -/
def bt_wd (x : bt_T) (f : Int32) : Nat → Int64 → Int64
  | 0, w => w
  | n + 1, w => bt_wd x f n (if bt_chk (nI (n + 3)) = true then w else (w <<< ((1 : Int32).toInt64 &&& 63)) ||| (if nI (n + 3) = f then 1 - bt_bit x (nI (n + 3)) else bt_bit x (nI (n + 3))).toInt64)
/-- the class's words -/
def cw_get (M : kz_M) (a : Nat) : bt_T := (M.2 10 a, M.1 11 a)
def cw_put (M : kz_M) (a : Nat) (x : bt_T) : kz_M := (kz_u M.1 11 a x.2, kz_u M.2 10 a x.1)
theorem cw_gp (M : kz_M) (a : Nat) (x : bt_T) : cw_get (cw_put M a x) a = x := by simp [cw_get, cw_put, kz_u_same]
theorem cw_pp (M : kz_M) (a : Nat) (x y : bt_T) : cw_put (cw_put M a x) a y = cw_put M a y := by simp [cw_put, kz_u_u]
theorem cw_pg (M : kz_M) (a : Nat) : cw_put M a (cw_get M a) = M := by simp [cw_get, cw_put, kz_u_id]
/-! the rules that touch the memory, over a pair -/
section KZ3
variable {l : Launch} {Sy : kz_Sy} {mi : kz_Me} {pc pc' : Nat} {L : List (Option Value)} {S : List Value} {I : Nat → Nat → Int32} {J : Nat → Nat → Int64} {Q : Option Value → kz_M → Prop}
theorem kz_getIp {idx ci j k kd : Nat} {ks : List Nat} {ty : FieldType} {fin : Bool} (hF : kz_Fd Sy mi.1.cls idx ci j ty fin) (hsh : Sy.2.1[k]? = some (.inr (ci, ks))) (hk : ks[j]? = some kd) (hkd : kd = 0 ∨ kd = 1) (hd : decode mi.2.1 pc = .ok (.getfield idx, 3)) (hp : pc + 3 = pc') (kk : kz_G l Sy mi pc' L (.int (I k j) :: S) (I, J) Q) : kz_G l Sy mi pc L (.ref k :: S) (I, J) Q := kz_getI hF hsh hk hkd hd hp kk
theorem kz_getJp {idx ci j k : Nat} {ks : List Nat} {ty : FieldType} {fin : Bool} (hF : kz_Fd Sy mi.1.cls idx ci j ty fin) (hsh : Sy.2.1[k]? = some (.inr (ci, ks))) (hk : ks[j]? = some 2) (hd : decode mi.2.1 pc = .ok (.getfield idx, 3)) (hp : pc + 3 = pc') (kk : kz_G l Sy mi pc' L (.long (J k j) :: S) (I, J) Q) : kz_G l Sy mi pc L (.ref k :: S) (I, J) Q := kz_getJ hF hsh hk hd hp kk
theorem kz_putIp {idx ci j k : Nat} {ks : List Nat} {x : Int32} (hF : kz_Fd Sy mi.1.cls idx ci j .int false) (hsh : Sy.2.1[k]? = some (.inr (ci, ks))) (hk : ks[j]? = some 0) (hd : decode mi.2.1 pc = .ok (.putfield idx, 3)) (hp : pc + 3 = pc') (kk : kz_G l Sy mi pc' L S (kz_u I k j x, J) Q) : kz_G l Sy mi pc L (.int x :: .ref k :: S) (I, J) Q := kz_putI hF hsh hk hd hp kk
theorem kz_putZp {idx ci j k : Nat} {ks : List Nat} {x : Int32} (hF : kz_Fd Sy mi.1.cls idx ci j .boolean false) (hsh : Sy.2.1[k]? = some (.inr (ci, ks))) (hk : ks[j]? = some 1) (hx : x = 0 ∨ x = 1) (hd : decode mi.2.1 pc = .ok (.putfield idx, 3)) (hp : pc + 3 = pc') (kk : kz_G l Sy mi pc' L S (kz_u I k j x, J) Q) : kz_G l Sy mi pc L (.int x :: .ref k :: S) (I, J) Q := kz_putZ hF hsh hk hx hd hp kk
theorem kz_putJp {idx ci j k : Nat} {ks : List Nat} {x : Int64} (hF : kz_Fd Sy mi.1.cls idx ci j .long false) (hsh : Sy.2.1[k]? = some (.inr (ci, ks))) (hk : ks[j]? = some 2) (hd : decode mi.2.1 pc = .ok (.putfield idx, 3)) (hp : pc + 3 = pc') (kk : kz_G l Sy mi pc' L S (I, kz_u J k j x) Q) : kz_G l Sy mi pc L (.long x :: .ref k :: S) (I, J) Q := kz_putJ hF hsh hk hd hp kk
theorem kz_ialdp {k n : Nat} {i : Int32} {j : Nat} (hsh : Sy.2.1[k]? = some (.inl (0, n))) (hin : vp_in i n) (hj : i.toNatClampNeg = j) (hd : decode mi.2.1 pc = .ok (.iaload, 1)) (hp : pc + 1 = pc') (kk : kz_G l Sy mi pc' L (.int (I k j) :: S) (I, J) Q) : kz_G l Sy mi pc L (.int i :: .ref k :: S) (I, J) Q := kz_iald hsh hin hj hd hp kk
theorem kz_zaldp {k n : Nat} {i : Int32} {j : Nat} (hsh : Sy.2.1[k]? = some (.inl (1, n))) (hin : vp_in i n) (hj : i.toNatClampNeg = j) (hd : decode mi.2.1 pc = .ok (.baload, 1)) (hp : pc + 1 = pc') (kk : kz_G l Sy mi pc' L (.int (I k j) :: S) (I, J) Q) : kz_G l Sy mi pc L (.int i :: .ref k :: S) (I, J) Q := kz_zald hsh hin hj hd hp kk
theorem kz_laldp {k n : Nat} {i : Int32} {j : Nat} (hsh : Sy.2.1[k]? = some (.inl (2, n))) (hin : vp_in i n) (hj : i.toNatClampNeg = j) (hd : decode mi.2.1 pc = .ok (.laload, 1)) (hp : pc + 1 = pc') (kk : kz_G l Sy mi pc' L (.long (J k j) :: S) (I, J) Q) : kz_G l Sy mi pc L (.int i :: .ref k :: S) (I, J) Q := kz_lald hsh hin hj hd hp kk
theorem kz_iastp {k n j : Nat} {i x : Int32} (hsh : Sy.2.1[k]? = some (.inl (0, n))) (hin : vp_in i n) (hj : i.toNatClampNeg = j) (hd : decode mi.2.1 pc = .ok (.iastore, 1)) (hp : pc + 1 = pc') (kk : kz_G l Sy mi pc' L S (kz_u I k j x, J) Q) : kz_G l Sy mi pc L (.int x :: .int i :: .ref k :: S) (I, J) Q := kz_iast hsh hin hj hd hp kk
theorem kz_zastp {k n j : Nat} {i x : Int32} (hsh : Sy.2.1[k]? = some (.inl (1, n))) (hin : vp_in i n) (hj : i.toNatClampNeg = j) (hx : x = 0 ∨ x = 1) (hd : decode mi.2.1 pc = .ok (.bastore, 1)) (hp : pc + 1 = pc') (kk : kz_G l Sy mi pc' L S (kz_u I k j x, J) Q) : kz_G l Sy mi pc L (.int x :: .int i :: .ref k :: S) (I, J) Q := kz_zast hsh hin hj hx hd hp kk
theorem kz_lastp {k n j : Nat} {i : Int32} {x : Int64} (hsh : Sy.2.1[k]? = some (.inl (2, n))) (hin : vp_in i n) (hj : i.toNatClampNeg = j) (hd : decode mi.2.1 pc = .ok (.lastore, 1)) (hp : pc + 1 = pc') (kk : kz_G l Sy mi pc' L S (I, kz_u J k j x) Q) : kz_G l Sy mi pc L (.long x :: .int i :: .ref k :: S) (I, J) Q := kz_last hsh hin hj hd hp kk
end KZ3
