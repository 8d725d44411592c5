/-! Rules: one for each instruction. -/
section KZR
variable {l : Launch} {Sy : kz_Sy} {mi : kz_Me} {pc pc' : Nat} {L : List (Option Value)} {S : List Value} {M : kz_M} {Q : Option Value → kz_M → Prop}
theorem kz_iconst {n : Int} {v : Int32} (hd : decode mi.2.1 pc = .ok (.iconst n, 1)) (hv : Int32.ofInt n = v) (hp : pc + 1 = pc') (k : kz_G l Sy mi pc' L (.int v :: S) M Q) : kz_G l Sy mi pc L (S) M Q := by
  subst hp
  intro p e R s m args below meth c H locs cells slots ls ad cs D A Qc hX hc hP hD hS hL hQ
  exact lv_iconst hX.1 hX.2.1 hd hv (k p e R s m args below meth c H locs cells slots ls ad cs D A Qc hX hc hP hD hS hL hQ)
theorem kz_bipush {n : Int} {v : Int32} (hd : decode mi.2.1 pc = .ok (.bipush n, 2)) (hv : (Int8.ofInt n).toInt32 = v) (hp : pc + 2 = pc') (k : kz_G l Sy mi pc' L (.int v :: S) M Q) : kz_G l Sy mi pc L (S) M Q := by
  subst hp
  intro p e R s m args below meth c H locs cells slots ls ad cs D A Qc hX hc hP hD hS hL hQ
  exact lv_bipush hX.1 hX.2.1 hd hv (k p e R s m args below meth c H locs cells slots ls ad cs D A Qc hX hc hP hD hS hL hQ)
theorem kz_sipush {n : Int} {v : Int32} (hd : decode mi.2.1 pc = .ok (.sipush n, 3)) (hv : (Int16.ofInt n).toInt32 = v) (hp : pc + 3 = pc') (k : kz_G l Sy mi pc' L (.int v :: S) M Q) : kz_G l Sy mi pc L (S) M Q := by
  subst hp
  intro p e R s m args below meth c H locs cells slots ls ad cs D A Qc hX hc hP hD hS hL hQ
  exact lv_sipush hX.1 hX.2.1 hd hv (k p e R s m args below meth c H locs cells slots ls ad cs D A Qc hX hc hP hD hS hL hQ)
theorem kz_lconst {n : Fin 2} {v : Int64} (hd : decode mi.2.1 pc = .ok (.lconst n, 1)) (hv : Int64.ofNat (n : Nat) = v) (hp : pc + 1 = pc') (k : kz_G l Sy mi pc' L (.long v :: S) M Q) : kz_G l Sy mi pc L (S) M Q := by
  subst hp
  intro p e R s m args below meth c H locs cells slots ls ad cs D A Qc hX hc hP hD hS hL hQ
  exact lv_lconst hX.1 hX.2.1 hd hv (k p e R s m args below meth c H locs cells slots ls ad cs D A Qc hX hc hP hD hS hL hQ)
theorem kz_ldc {index : Nat} {v : Int32} (hd : decode mi.2.1 pc = .ok (.ldc index, 2)) (hw : Cond.constant mi.1.cls index v ∈ Sy.2.2.2) (hp : pc + 2 = pc') (k : kz_G l Sy mi pc' L (.int v :: S) M Q) : kz_G l Sy mi pc L S M Q := by
  subst hp
  intro p e R s m args below meth c H locs cells slots ls ad cs D A Qc hX hc hP hD hS hL hQ
  exact lv_ldc hX.1 hX.2.1 hX.2.2.2.1 (hX.2.2.2.2.1 _ hw) hd (k p e R s m args below meth c H locs cells slots ls ad cs D A Qc hX hc hP hD hS hL hQ)
theorem kz_ldc2 {index : Nat} {v : Int64} (hd : decode mi.2.1 pc = .ok (.ldc2_w index, 3)) (hw : Cond.constantLong mi.1.cls index v ∈ Sy.2.2.2) (hp : pc + 3 = pc') (k : kz_G l Sy mi pc' L (.long v :: S) M Q) : kz_G l Sy mi pc L S M Q := by
  subst hp
  intro p e R s m args below meth c H locs cells slots ls ad cs D A Qc hX hc hP hD hS hL hQ
  exact lv_ldc2 hX.1 hX.2.1 hX.2.2.2.1 (hX.2.2.2.2.1 _ hw) hd (k p e R s m args below meth c H locs cells slots ls ad cs D A Qc hX hc hP hD hS hL hQ)
theorem kz_iload_n {n : Fin 4} {x : Int32} (hd : decode mi.2.1 pc = .ok (.iload_n n, 1)) (hl : kz_at L n.val = some (.int x)) (hp : pc + 1 = pc') (k : kz_G l Sy mi pc' L (.int x :: S) M Q) : kz_G l Sy mi pc L S M Q := by
  subst hp
  intro p e R s m args below meth c H locs cells slots ls ad cs D A Qc hX hc hP hD hS hL hQ
  exact lv_iload_n hX.1 hX.2.1 hd rfl (hL.2.2.2 _ _ hl) (k p e R s m args below meth c H locs cells slots ls ad cs D A Qc hX hc hP hD hS hL hQ)
theorem kz_iload {i : Nat} {x : Int32} (hd : decode mi.2.1 pc = .ok (.iload i, 2)) (hl : kz_at L i = some (.int x)) (hp : pc + 2 = pc') (k : kz_G l Sy mi pc' L (.int x :: S) M Q) : kz_G l Sy mi pc L S M Q := by
  subst hp
  intro p e R s m args below meth c H locs cells slots ls ad cs D A Qc hX hc hP hD hS hL hQ
  exact lv_iload hX.1 hX.2.1 hd (hL.2.2.2 _ _ hl) (k p e R s m args below meth c H locs cells slots ls ad cs D A Qc hX hc hP hD hS hL hQ)
theorem kz_istore_n {n : Fin 4} {i : Nat} {x : Int32} (hd : decode mi.2.1 pc = .ok (.istore_n n, 1)) (hi : n.val = i) (hok : kz_ok L i = true) (hn : i < mi.2.2.1) (hp : pc + 1 = pc') (k : kz_G l Sy mi pc' (kz_set L i (some (.int x))) S M Q) : kz_G l Sy mi pc L (.int x :: S) M Q := by
  subst hp
  intro p e R s m args below meth c H locs cells slots ls ad cs D A Qc hX hc hP hD hS hL hQ
  exact lv_istore_n hX.1 hX.2.1 hd hi hL.has hn rfl (fun ls' h' => k p e R s m args below meth c H locs cells slots ls' ad cs D A Qc hX hc hP hD hS (hL.set1 (v := .int x) hok h') hQ)
theorem kz_istore {i : Nat} {x : Int32} (hd : decode mi.2.1 pc = .ok (.istore i, 2)) (hok : kz_ok L i = true) (hn : i < mi.2.2.1) (hp : pc + 2 = pc') (k : kz_G l Sy mi pc' (kz_set L i (some (.int x))) S M Q) : kz_G l Sy mi pc L (.int x :: S) M Q := by
  subst hp
  intro p e R s m args below meth c H locs cells slots ls ad cs D A Qc hX hc hP hD hS hL hQ
  exact lv_istore hX.1 hX.2.1 hd hL.has hn rfl (fun ls' h' => k p e R s m args below meth c H locs cells slots ls' ad cs D A Qc hX hc hP hD hS (hL.set1 (v := .int x) hok h') hQ)
theorem kz_lload_n {n : Fin 4} {x : Int64} (hd : decode mi.2.1 pc = .ok (.lload_n n, 1)) (hl : kz_at L n.val = some (.long x)) (hp : pc + 1 = pc') (k : kz_G l Sy mi pc' L (.long x :: S) M Q) : kz_G l Sy mi pc L S M Q := by
  subst hp
  intro p e R s m args below meth c H locs cells slots ls ad cs D A Qc hX hc hP hD hS hL hQ
  exact lv_lload_n hX.1 hX.2.1 hd rfl (hL.2.2.2 _ _ hl) (k p e R s m args below meth c H locs cells slots ls ad cs D A Qc hX hc hP hD hS hL hQ)
theorem kz_lload {i : Nat} {x : Int64} (hd : decode mi.2.1 pc = .ok (.lload i, 2)) (hl : kz_at L i = some (.long x)) (hp : pc + 2 = pc') (k : kz_G l Sy mi pc' L (.long x :: S) M Q) : kz_G l Sy mi pc L S M Q := by
  subst hp
  intro p e R s m args below meth c H locs cells slots ls ad cs D A Qc hX hc hP hD hS hL hQ
  exact lv_lload hX.1 hX.2.1 hd (hL.2.2.2 _ _ hl) (k p e R s m args below meth c H locs cells slots ls ad cs D A Qc hX hc hP hD hS hL hQ)
theorem kz_lstore_n {n : Fin 4} {i : Nat} {x : Int64} (hd : decode mi.2.1 pc = .ok (.lstore_n n, 1)) (hi : n.val = i) (hok : kz_ok L i = true) (hn : i + 1 < mi.2.2.1) (hp : pc + 1 = pc') (k : kz_G l Sy mi pc' (kz_set (kz_set L i (some (.long x))) (i + 1) none) S M Q) : kz_G l Sy mi pc L (.long x :: S) M Q := by
  subst hp
  intro p e R s m args below meth c H locs cells slots ls ad cs D A Qc hX hc hP hD hS hL hQ
  exact lv_lstore_n hX.1 hX.2.1 hd hi hL.has hn rfl (fun ls' h' => k p e R s m args below meth c H locs cells slots ls' ad cs D A Qc hX hc hP hD hS (hL.set2 (v := .long x) hok h') hQ)
theorem kz_lstore {i : Nat} {x : Int64} (hd : decode mi.2.1 pc = .ok (.lstore i, 2)) (hok : kz_ok L i = true) (hn : i + 1 < mi.2.2.1) (hp : pc + 2 = pc') (k : kz_G l Sy mi pc' (kz_set (kz_set L i (some (.long x))) (i + 1) none) S M Q) : kz_G l Sy mi pc L (.long x :: S) M Q := by
  subst hp
  intro p e R s m args below meth c H locs cells slots ls ad cs D A Qc hX hc hP hD hS hL hQ
  exact lv_lstore hX.1 hX.2.1 hd hL.has hn rfl (fun ls' h' => k p e R s m args below meth c H locs cells slots ls' ad cs D A Qc hX hc hP hD hS (hL.set2 (v := .long x) hok h') hQ)
theorem kz_aload_n {n : Fin 4} {x : Nat} (hd : decode mi.2.1 pc = .ok (.aload_n n, 1)) (hl : kz_at L n.val = some (.ref x)) (hp : pc + 1 = pc') (k : kz_G l Sy mi pc' L (.ref x :: S) M Q) : kz_G l Sy mi pc L S M Q := by
  subst hp
  intro p e R s m args below meth c H locs cells slots ls ad cs D A Qc hX hc hP hD hS hL hQ
  exact lv_aload_n hX.1 hX.2.1 hd rfl (hL.2.2.2 _ _ hl) (k p e R s m args below meth c H locs cells slots ls ad cs D A Qc hX hc hP hD hS hL hQ)
theorem kz_aload {i : Nat} {x : Nat} (hd : decode mi.2.1 pc = .ok (.aload i, 2)) (hl : kz_at L i = some (.ref x)) (hp : pc + 2 = pc') (k : kz_G l Sy mi pc' L (.ref x :: S) M Q) : kz_G l Sy mi pc L S M Q := by
  subst hp
  intro p e R s m args below meth c H locs cells slots ls ad cs D A Qc hX hc hP hD hS hL hQ
  exact lv_aload hX.1 hX.2.1 hd (hL.2.2.2 _ _ hl) (k p e R s m args below meth c H locs cells slots ls ad cs D A Qc hX hc hP hD hS hL hQ)
theorem kz_astore_n {n : Fin 4} {i : Nat} {x : Nat} (hd : decode mi.2.1 pc = .ok (.astore_n n, 1)) (hi : n.val = i) (hok : kz_ok L i = true) (hn : i < mi.2.2.1) (hp : pc + 1 = pc') (k : kz_G l Sy mi pc' (kz_set L i (some (.ref x))) S M Q) : kz_G l Sy mi pc L (.ref x :: S) M Q := by
  subst hp
  intro p e R s m args below meth c H locs cells slots ls ad cs D A Qc hX hc hP hD hS hL hQ
  exact lv_astore_n hX.1 hX.2.1 hd hi hL.has hn rfl (fun ls' h' => k p e R s m args below meth c H locs cells slots ls' ad cs D A Qc hX hc hP hD hS (hL.set1 (v := .ref x) hok h') hQ)
theorem kz_astore {i : Nat} {x : Nat} (hd : decode mi.2.1 pc = .ok (.astore i, 2)) (hok : kz_ok L i = true) (hn : i < mi.2.2.1) (hp : pc + 2 = pc') (k : kz_G l Sy mi pc' (kz_set L i (some (.ref x))) S M Q) : kz_G l Sy mi pc L (.ref x :: S) M Q := by
  subst hp
  intro p e R s m args below meth c H locs cells slots ls ad cs D A Qc hX hc hP hD hS hL hQ
  exact lv_astore hX.1 hX.2.1 hd hL.has hn rfl (fun ls' h' => k p e R s m args below meth c H locs cells slots ls' ad cs D A Qc hX hc hP hD hS (hL.set1 (v := .ref x) hok h') hQ)
theorem kz_iinc {i : Nat} {n : Int} {x v : Int32} (hd : decode mi.2.1 pc = .ok (.iinc i n, 3)) (hl : kz_at L i = some (.int x)) (hok : kz_ok L i = true) (hn : i < mi.2.2.1) (hv : x + Int32.ofInt n = v) (hp : pc + 3 = pc') (k : kz_G l Sy mi pc' (kz_set L i (some (.int v))) S M Q) : kz_G l Sy mi pc L S M Q := by
  subst hp
  intro p e R s m args below meth c H locs cells slots ls ad cs D A Qc hX hc hP hD hS hL hQ
  obtain ⟨j, hj⟩ := List.getElem?_of_mem (kz_pl_mem (ad := ad) hl)
  exact lv_iinc hX.1 hX.2.1 hd hL.has hj hv hn rfl (fun ls' h' => k p e R s m args below meth c H locs cells slots ls' ad cs D A Qc hX hc hP hD hS (hL.set1 (v := .int v) hok h') hQ)
theorem kz_iadd {x y : Int32} (hd : decode mi.2.1 pc = .ok (.iadd, 1))  (hp : pc + 1 = pc') (k : kz_G l Sy mi pc' L (.int (x + y) :: S) M Q) : kz_G l Sy mi pc L (.int y :: .int x :: S) M Q := by
  subst hp
  intro p e R s m args below meth c H locs cells slots ls ad cs D A Qc hX hc hP hD hS hL hQ
  exact lv_iadd hX.1 hX.2.1 hd  (k p e R s m args below meth c H locs cells slots ls ad cs D A Qc hX hc hP hD hS hL hQ)
theorem kz_isub {x y : Int32} (hd : decode mi.2.1 pc = .ok (.isub, 1))  (hp : pc + 1 = pc') (k : kz_G l Sy mi pc' L (.int (x - y) :: S) M Q) : kz_G l Sy mi pc L (.int y :: .int x :: S) M Q := by
  subst hp
  intro p e R s m args below meth c H locs cells slots ls ad cs D A Qc hX hc hP hD hS hL hQ
  exact lv_isub hX.1 hX.2.1 hd  (k p e R s m args below meth c H locs cells slots ls ad cs D A Qc hX hc hP hD hS hL hQ)
theorem kz_imul {x y : Int32} (hd : decode mi.2.1 pc = .ok (.imul, 1))  (hp : pc + 1 = pc') (k : kz_G l Sy mi pc' L (.int (x * y) :: S) M Q) : kz_G l Sy mi pc L (.int y :: .int x :: S) M Q := by
  subst hp
  intro p e R s m args below meth c H locs cells slots ls ad cs D A Qc hX hc hP hD hS hL hQ
  exact lv_imul hX.1 hX.2.1 hd  (k p e R s m args below meth c H locs cells slots ls ad cs D A Qc hX hc hP hD hS hL hQ)
theorem kz_iand {x y : Int32} (hd : decode mi.2.1 pc = .ok (.iand, 1))  (hp : pc + 1 = pc') (k : kz_G l Sy mi pc' L (.int (x &&& y) :: S) M Q) : kz_G l Sy mi pc L (.int y :: .int x :: S) M Q := by
  subst hp
  intro p e R s m args below meth c H locs cells slots ls ad cs D A Qc hX hc hP hD hS hL hQ
  exact lv_iand hX.1 hX.2.1 hd  (k p e R s m args below meth c H locs cells slots ls ad cs D A Qc hX hc hP hD hS hL hQ)
theorem kz_ior {x y : Int32} (hd : decode mi.2.1 pc = .ok (.ior, 1))  (hp : pc + 1 = pc') (k : kz_G l Sy mi pc' L (.int (x ||| y) :: S) M Q) : kz_G l Sy mi pc L (.int y :: .int x :: S) M Q := by
  subst hp
  intro p e R s m args below meth c H locs cells slots ls ad cs D A Qc hX hc hP hD hS hL hQ
  exact lv_ior hX.1 hX.2.1 hd  (k p e R s m args below meth c H locs cells slots ls ad cs D A Qc hX hc hP hD hS hL hQ)
theorem kz_ixor {x y : Int32} (hd : decode mi.2.1 pc = .ok (.ixor, 1))  (hp : pc + 1 = pc') (k : kz_G l Sy mi pc' L (.int (x ^^^ y) :: S) M Q) : kz_G l Sy mi pc L (.int y :: .int x :: S) M Q := by
  subst hp
  intro p e R s m args below meth c H locs cells slots ls ad cs D A Qc hX hc hP hD hS hL hQ
  exact lv_ixor hX.1 hX.2.1 hd  (k p e R s m args below meth c H locs cells slots ls ad cs D A Qc hX hc hP hD hS hL hQ)
theorem kz_idiv {x y : Int32} (hd : decode mi.2.1 pc = .ok (.idiv, 1)) (hne : ¬ y = 0) (hp : pc + 1 = pc') (k : kz_G l Sy mi pc' L (.int (x / y) :: S) M Q) : kz_G l Sy mi pc L (.int y :: .int x :: S) M Q := by
  subst hp
  intro p e R s m args below meth c H locs cells slots ls ad cs D A Qc hX hc hP hD hS hL hQ
  exact lv_idiv hX.1 hX.2.1 hd hne (k p e R s m args below meth c H locs cells slots ls ad cs D A Qc hX hc hP hD hS hL hQ)
theorem kz_irem {x y : Int32} (hd : decode mi.2.1 pc = .ok (.irem, 1)) (hne : ¬ y = 0) (hp : pc + 1 = pc') (k : kz_G l Sy mi pc' L (.int (x - x / y * y) :: S) M Q) : kz_G l Sy mi pc L (.int y :: .int x :: S) M Q := by
  subst hp
  intro p e R s m args below meth c H locs cells slots ls ad cs D A Qc hX hc hP hD hS hL hQ
  exact lv_irem hX.1 hX.2.1 hd hne (k p e R s m args below meth c H locs cells slots ls ad cs D A Qc hX hc hP hD hS hL hQ)
theorem kz_ineg {x : Int32} (hd : decode mi.2.1 pc = .ok (.ineg, 1))  (hp : pc + 1 = pc') (k : kz_G l Sy mi pc' L (.int (-x) :: S) M Q) : kz_G l Sy mi pc L (.int x :: S) M Q := by
  subst hp
  intro p e R s m args below meth c H locs cells slots ls ad cs D A Qc hX hc hP hD hS hL hQ
  exact lv_ineg hX.1 hX.2.1 hd  (k p e R s m args below meth c H locs cells slots ls ad cs D A Qc hX hc hP hD hS hL hQ)
theorem kz_ladd {x y : Int64} (hd : decode mi.2.1 pc = .ok (.ladd, 1))  (hp : pc + 1 = pc') (k : kz_G l Sy mi pc' L (.long (x + y) :: S) M Q) : kz_G l Sy mi pc L (.long y :: .long x :: S) M Q := by
  subst hp
  intro p e R s m args below meth c H locs cells slots ls ad cs D A Qc hX hc hP hD hS hL hQ
  exact lv_ladd hX.1 hX.2.1 hd  (k p e R s m args below meth c H locs cells slots ls ad cs D A Qc hX hc hP hD hS hL hQ)
theorem kz_lsub {x y : Int64} (hd : decode mi.2.1 pc = .ok (.lsub, 1))  (hp : pc + 1 = pc') (k : kz_G l Sy mi pc' L (.long (x - y) :: S) M Q) : kz_G l Sy mi pc L (.long y :: .long x :: S) M Q := by
  subst hp
  intro p e R s m args below meth c H locs cells slots ls ad cs D A Qc hX hc hP hD hS hL hQ
  exact lv_lsub hX.1 hX.2.1 hd  (k p e R s m args below meth c H locs cells slots ls ad cs D A Qc hX hc hP hD hS hL hQ)
theorem kz_lmul {x y : Int64} (hd : decode mi.2.1 pc = .ok (.lmul, 1))  (hp : pc + 1 = pc') (k : kz_G l Sy mi pc' L (.long (x * y) :: S) M Q) : kz_G l Sy mi pc L (.long y :: .long x :: S) M Q := by
  subst hp
  intro p e R s m args below meth c H locs cells slots ls ad cs D A Qc hX hc hP hD hS hL hQ
  exact lv_lmul hX.1 hX.2.1 hd  (k p e R s m args below meth c H locs cells slots ls ad cs D A Qc hX hc hP hD hS hL hQ)
theorem kz_land {x y : Int64} (hd : decode mi.2.1 pc = .ok (.land, 1))  (hp : pc + 1 = pc') (k : kz_G l Sy mi pc' L (.long (x &&& y) :: S) M Q) : kz_G l Sy mi pc L (.long y :: .long x :: S) M Q := by
  subst hp
  intro p e R s m args below meth c H locs cells slots ls ad cs D A Qc hX hc hP hD hS hL hQ
  exact lv_land hX.1 hX.2.1 hd  (k p e R s m args below meth c H locs cells slots ls ad cs D A Qc hX hc hP hD hS hL hQ)
theorem kz_lor {x y : Int64} (hd : decode mi.2.1 pc = .ok (.lor, 1))  (hp : pc + 1 = pc') (k : kz_G l Sy mi pc' L (.long (x ||| y) :: S) M Q) : kz_G l Sy mi pc L (.long y :: .long x :: S) M Q := by
  subst hp
  intro p e R s m args below meth c H locs cells slots ls ad cs D A Qc hX hc hP hD hS hL hQ
  exact lv_lor hX.1 hX.2.1 hd  (k p e R s m args below meth c H locs cells slots ls ad cs D A Qc hX hc hP hD hS hL hQ)
theorem kz_lxor {x y : Int64} (hd : decode mi.2.1 pc = .ok (.lxor, 1))  (hp : pc + 1 = pc') (k : kz_G l Sy mi pc' L (.long (x ^^^ y) :: S) M Q) : kz_G l Sy mi pc L (.long y :: .long x :: S) M Q := by
  subst hp
  intro p e R s m args below meth c H locs cells slots ls ad cs D A Qc hX hc hP hD hS hL hQ
  exact lv_lxor hX.1 hX.2.1 hd  (k p e R s m args below meth c H locs cells slots ls ad cs D A Qc hX hc hP hD hS hL hQ)
theorem kz_ishl {x y : Int32} (hd : decode mi.2.1 pc = .ok (.ishl, 1))  (hp : pc + 1 = pc') (k : kz_G l Sy mi pc' L (.int (x <<< (y &&& 31)) :: S) M Q) : kz_G l Sy mi pc L (.int y :: .int x :: S) M Q := by
  subst hp
  intro p e R s m args below meth c H locs cells slots ls ad cs D A Qc hX hc hP hD hS hL hQ
  exact lv_ishl hX.1 hX.2.1 hd  (k p e R s m args below meth c H locs cells slots ls ad cs D A Qc hX hc hP hD hS hL hQ)
theorem kz_ishr {x y : Int32} (hd : decode mi.2.1 pc = .ok (.ishr, 1))  (hp : pc + 1 = pc') (k : kz_G l Sy mi pc' L (.int (x >>> (y &&& 31)) :: S) M Q) : kz_G l Sy mi pc L (.int y :: .int x :: S) M Q := by
  subst hp
  intro p e R s m args below meth c H locs cells slots ls ad cs D A Qc hX hc hP hD hS hL hQ
  exact lv_ishr hX.1 hX.2.1 hd  (k p e R s m args below meth c H locs cells slots ls ad cs D A Qc hX hc hP hD hS hL hQ)
theorem kz_iushr {x y : Int32} (hd : decode mi.2.1 pc = .ok (.iushr, 1))  (hp : pc + 1 = pc') (k : kz_G l Sy mi pc' L (.int ((x.toUInt32 >>> (y.toUInt32 &&& Int32.toUInt32 31)).toInt32) :: S) M Q) : kz_G l Sy mi pc L (.int y :: .int x :: S) M Q := by
  subst hp
  intro p e R s m args below meth c H locs cells slots ls ad cs D A Qc hX hc hP hD hS hL hQ
  exact lv_iushr hX.1 hX.2.1 hd rfl (k p e R s m args below meth c H locs cells slots ls ad cs D A Qc hX hc hP hD hS hL hQ)
theorem kz_lushr {x : Int64} {y : Int32} (hd : decode mi.2.1 pc = .ok (.lushr, 1))  (hp : pc + 1 = pc') (k : kz_G l Sy mi pc' L (.long ((x.toUInt64 >>> (y.toInt64.toUInt64 &&& Int64.toUInt64 63)).toInt64) :: S) M Q) : kz_G l Sy mi pc L (.int y :: .long x :: S) M Q := by
  subst hp
  intro p e R s m args below meth c H locs cells slots ls ad cs D A Qc hX hc hP hD hS hL hQ
  exact lv_lushr hX.1 hX.2.1 hd rfl (k p e R s m args below meth c H locs cells slots ls ad cs D A Qc hX hc hP hD hS hL hQ)
theorem kz_lshl {x : Int64} {y : Int32} (hd : decode mi.2.1 pc = .ok (.lshl, 1))  (hp : pc + 1 = pc') (k : kz_G l Sy mi pc' L (.long (x <<< (y.toInt64 &&& 63)) :: S) M Q) : kz_G l Sy mi pc L (.int y :: .long x :: S) M Q := by
  subst hp
  intro p e R s m args below meth c H locs cells slots ls ad cs D A Qc hX hc hP hD hS hL hQ
  exact lv_lshl hX.1 hX.2.1 hd rfl (k p e R s m args below meth c H locs cells slots ls ad cs D A Qc hX hc hP hD hS hL hQ)
theorem kz_lshr {x : Int64} {y : Int32} (hd : decode mi.2.1 pc = .ok (.lshr, 1))  (hp : pc + 1 = pc') (k : kz_G l Sy mi pc' L (.long (x >>> (y.toInt64 &&& 63)) :: S) M Q) : kz_G l Sy mi pc L (.int y :: .long x :: S) M Q := by
  subst hp
  intro p e R s m args below meth c H locs cells slots ls ad cs D A Qc hX hc hP hD hS hL hQ
  exact lv_lshr hX.1 hX.2.1 hd rfl (k p e R s m args below meth c H locs cells slots ls ad cs D A Qc hX hc hP hD hS hL hQ)
theorem kz_i2l {x : Int32} (hd : decode mi.2.1 pc = .ok (.i2l, 1))  (hp : pc + 1 = pc') (k : kz_G l Sy mi pc' L (.long x.toInt64 :: S) M Q) : kz_G l Sy mi pc L (.int x :: S) M Q := by
  subst hp
  intro p e R s m args below meth c H locs cells slots ls ad cs D A Qc hX hc hP hD hS hL hQ
  exact lv_i2l hX.1 hX.2.1 hd rfl (k p e R s m args below meth c H locs cells slots ls ad cs D A Qc hX hc hP hD hS hL hQ)
theorem kz_l2i {x : Int64} (hd : decode mi.2.1 pc = .ok (.l2i, 1))  (hp : pc + 1 = pc') (k : kz_G l Sy mi pc' L (.int x.toInt32 :: S) M Q) : kz_G l Sy mi pc L (.long x :: S) M Q := by
  subst hp
  intro p e R s m args below meth c H locs cells slots ls ad cs D A Qc hX hc hP hD hS hL hQ
  exact lv_l2i hX.1 hX.2.1 hd rfl (k p e R s m args below meth c H locs cells slots ls ad cs D A Qc hX hc hP hD hS hL hQ)
theorem kz_lcmp {x y : Int64} (hd : decode mi.2.1 pc = .ok (.lcmp, 1))  (hp : pc + 1 = pc') (k : kz_G l Sy mi pc' L (.int (lg_cmp x y) :: S) M Q) : kz_G l Sy mi pc L (.long y :: .long x :: S) M Q := by
  subst hp
  intro p e R s m args below meth c H locs cells slots ls ad cs D A Qc hX hc hP hD hS hL hQ
  exact W.lcmp hX.1 hX.2.1 hd  (k p e R s m args below meth c H locs cells slots ls ad cs D A Qc hX hc hP hD hS hL hQ)
theorem kz_dup {va : Value} (hd : decode mi.2.1 pc = .ok (.dup, 1)) (hva : va.category = 1) (hp : pc + 1 = pc') (k : kz_G l Sy mi pc' L (va :: va :: S) M Q) : kz_G l Sy mi pc L (va :: S) M Q := by
  subst hp
  intro p e R s m args below meth c H locs cells slots ls ad cs D A Qc hX hc hP hD hS hL hQ
  exact lv_dup hX.1 hX.2.1 hd ((kz_rl_cat ad va).trans hva) (k p e R s m args below meth c H locs cells slots ls ad cs D A Qc hX hc hP hD hS hL hQ)
theorem kz_pop {va : Value} (hd : decode mi.2.1 pc = .ok (.pop, 1)) (hva : va.category = 1) (hp : pc + 1 = pc') (k : kz_G l Sy mi pc' L (S) M Q) : kz_G l Sy mi pc L (va :: S) M Q := by
  subst hp
  intro p e R s m args below meth c H locs cells slots ls ad cs D A Qc hX hc hP hD hS hL hQ
  exact lv_pop hX.1 hX.2.1 hd ((kz_rl_cat ad va).trans hva) (k p e R s m args below meth c H locs cells slots ls ad cs D A Qc hX hc hP hD hS hL hQ)
theorem kz_dup_x1 {va vb : Value} (hd : decode mi.2.1 pc = .ok (.dup_x1, 1)) (hva : va.category = 1) (hvb : vb.category = 1) (hp : pc + 1 = pc') (k : kz_G l Sy mi pc' L (va :: vb :: va :: S) M Q) : kz_G l Sy mi pc L (va :: vb :: S) M Q := by
  subst hp
  intro p e R s m args below meth c H locs cells slots ls ad cs D A Qc hX hc hP hD hS hL hQ
  exact lv_dup_x1 hX.1 hX.2.1 hd ((kz_rl_cat ad va).trans hva) ((kz_rl_cat ad vb).trans hvb) (k p e R s m args below meth c H locs cells slots ls ad cs D A Qc hX hc hP hD hS hL hQ)
theorem kz_dup_x2 {va vb vd : Value} (hd : decode mi.2.1 pc = .ok (.dup_x2, 1)) (hva : va.category = 1) (hvb : vb.category = 1) (hvd : vd.category = 1) (hp : pc + 1 = pc') (k : kz_G l Sy mi pc' L (va :: vb :: vd :: va :: S) M Q) : kz_G l Sy mi pc L (va :: vb :: vd :: S) M Q := by
  subst hp
  intro p e R s m args below meth c H locs cells slots ls ad cs D A Qc hX hc hP hD hS hL hQ
  exact lv_dup_x2 hX.1 hX.2.1 hd ((kz_rl_cat ad va).trans hva) ((kz_rl_cat ad vb).trans hvb) ((kz_rl_cat ad vd).trans hvd) (k p e R s m args below meth c H locs cells slots ls ad cs D A Qc hX hc hP hD hS hL hQ)
theorem kz_dup2_11 {va vb : Value} (hd : decode mi.2.1 pc = .ok (.dup2, 1)) (hva : va.category = 1) (hvb : vb.category = 1) (hp : pc + 1 = pc') (k : kz_G l Sy mi pc' L (va :: vb :: va :: vb :: S) M Q) : kz_G l Sy mi pc L (va :: vb :: S) M Q := by
  subst hp
  intro p e R s m args below meth c H locs cells slots ls ad cs D A Qc hX hc hP hD hS hL hQ
  exact lv_dup2_11 hX.1 hX.2.1 hd ((kz_rl_cat ad va).trans hva) ((kz_rl_cat ad vb).trans hvb) (k p e R s m args below meth c H locs cells slots ls ad cs D A Qc hX hc hP hD hS hL hQ)
theorem kz_dup2_2 {va : Value} (hd : decode mi.2.1 pc = .ok (.dup2, 1)) (hva : va.category = 2) (hp : pc + 1 = pc') (k : kz_G l Sy mi pc' L (va :: va :: S) M Q) : kz_G l Sy mi pc L (va :: S) M Q := by
  subst hp
  intro p e R s m args below meth c H locs cells slots ls ad cs D A Qc hX hc hP hD hS hL hQ
  exact lv_dup2_2 hX.1 hX.2.1 hd ((kz_rl_cat ad va).trans hva) (k p e R s m args below meth c H locs cells slots ls ad cs D A Qc hX hc hP hD hS hL hQ)
theorem kz_if_eq {x : Int32} {off : Int} {tgt : Nat} (hd : decode mi.2.1 pc = .ok (.ifCond .eq off, 3)) (ht : (pc : Int) + off = (tgt : Int)) (hp : pc + 3 = pc') (kt : x = 0 → kz_G l Sy mi tgt L S M Q) (kf : ¬ x = 0 → kz_G l Sy mi pc' L S M Q) : kz_G l Sy mi pc L (.int x :: S) M Q := by
  subst hp
  intro p e R s m args below meth c H locs cells slots ls ad cs D A Qc hX hc hP hD hS hL hQ
  exact lv_if_eq hX.1 hX.2.1 hd ht (fun h => kt h p e R s m args below meth c H locs cells slots ls ad cs D A Qc hX hc hP hD hS hL hQ) (fun h => kf h p e R s m args below meth c H locs cells slots ls ad cs D A Qc hX hc hP hD hS hL hQ)
theorem kz_icmp_eq {x y : Int32} {off : Int} {tgt : Nat} (hd : decode mi.2.1 pc = .ok (.if_icmp .eq off, 3)) (ht : (pc : Int) + off = (tgt : Int)) (hp : pc + 3 = pc') (kt : x = y → kz_G l Sy mi tgt L S M Q) (kf : ¬ x = y → kz_G l Sy mi pc' L S M Q) : kz_G l Sy mi pc L (.int y :: .int x :: S) M Q := by
  subst hp
  intro p e R s m args below meth c H locs cells slots ls ad cs D A Qc hX hc hP hD hS hL hQ
  exact lv_icmp_eq hX.1 hX.2.1 hd ht (fun h => kt h p e R s m args below meth c H locs cells slots ls ad cs D A Qc hX hc hP hD hS hL hQ) (fun h => kf h p e R s m args below meth c H locs cells slots ls ad cs D A Qc hX hc hP hD hS hL hQ)
theorem kz_if_ne {x : Int32} {off : Int} {tgt : Nat} (hd : decode mi.2.1 pc = .ok (.ifCond .ne off, 3)) (ht : (pc : Int) + off = (tgt : Int)) (hp : pc + 3 = pc') (kt : ¬ x = 0 → kz_G l Sy mi tgt L S M Q) (kf : x = 0 → kz_G l Sy mi pc' L S M Q) : kz_G l Sy mi pc L (.int x :: S) M Q := by
  subst hp
  intro p e R s m args below meth c H locs cells slots ls ad cs D A Qc hX hc hP hD hS hL hQ
  exact lv_if_ne hX.1 hX.2.1 hd ht (fun h => kt h p e R s m args below meth c H locs cells slots ls ad cs D A Qc hX hc hP hD hS hL hQ) (fun h => kf h p e R s m args below meth c H locs cells slots ls ad cs D A Qc hX hc hP hD hS hL hQ)
theorem kz_icmp_ne {x y : Int32} {off : Int} {tgt : Nat} (hd : decode mi.2.1 pc = .ok (.if_icmp .ne off, 3)) (ht : (pc : Int) + off = (tgt : Int)) (hp : pc + 3 = pc') (kt : ¬ x = y → kz_G l Sy mi tgt L S M Q) (kf : x = y → kz_G l Sy mi pc' L S M Q) : kz_G l Sy mi pc L (.int y :: .int x :: S) M Q := by
  subst hp
  intro p e R s m args below meth c H locs cells slots ls ad cs D A Qc hX hc hP hD hS hL hQ
  exact lv_icmp_ne hX.1 hX.2.1 hd ht (fun h => kt h p e R s m args below meth c H locs cells slots ls ad cs D A Qc hX hc hP hD hS hL hQ) (fun h => kf h p e R s m args below meth c H locs cells slots ls ad cs D A Qc hX hc hP hD hS hL hQ)
theorem kz_if_lt {x : Int32} {off : Int} {tgt : Nat} (hd : decode mi.2.1 pc = .ok (.ifCond .lt off, 3)) (ht : (pc : Int) + off = (tgt : Int)) (hp : pc + 3 = pc') (kt : x < 0 → kz_G l Sy mi tgt L S M Q) (kf : ¬ x < 0 → kz_G l Sy mi pc' L S M Q) : kz_G l Sy mi pc L (.int x :: S) M Q := by
  subst hp
  intro p e R s m args below meth c H locs cells slots ls ad cs D A Qc hX hc hP hD hS hL hQ
  exact lv_if_lt hX.1 hX.2.1 hd ht (fun h => kt h p e R s m args below meth c H locs cells slots ls ad cs D A Qc hX hc hP hD hS hL hQ) (fun h => kf h p e R s m args below meth c H locs cells slots ls ad cs D A Qc hX hc hP hD hS hL hQ)
theorem kz_icmp_lt {x y : Int32} {off : Int} {tgt : Nat} (hd : decode mi.2.1 pc = .ok (.if_icmp .lt off, 3)) (ht : (pc : Int) + off = (tgt : Int)) (hp : pc + 3 = pc') (kt : x < y → kz_G l Sy mi tgt L S M Q) (kf : ¬ x < y → kz_G l Sy mi pc' L S M Q) : kz_G l Sy mi pc L (.int y :: .int x :: S) M Q := by
  subst hp
  intro p e R s m args below meth c H locs cells slots ls ad cs D A Qc hX hc hP hD hS hL hQ
  exact lv_icmp_lt hX.1 hX.2.1 hd ht (fun h => kt h p e R s m args below meth c H locs cells slots ls ad cs D A Qc hX hc hP hD hS hL hQ) (fun h => kf h p e R s m args below meth c H locs cells slots ls ad cs D A Qc hX hc hP hD hS hL hQ)
theorem kz_if_ge {x : Int32} {off : Int} {tgt : Nat} (hd : decode mi.2.1 pc = .ok (.ifCond .ge off, 3)) (ht : (pc : Int) + off = (tgt : Int)) (hp : pc + 3 = pc') (kt : 0 ≤ x → kz_G l Sy mi tgt L S M Q) (kf : ¬ 0 ≤ x → kz_G l Sy mi pc' L S M Q) : kz_G l Sy mi pc L (.int x :: S) M Q := by
  subst hp
  intro p e R s m args below meth c H locs cells slots ls ad cs D A Qc hX hc hP hD hS hL hQ
  exact lv_if_ge hX.1 hX.2.1 hd ht (fun h => kt h p e R s m args below meth c H locs cells slots ls ad cs D A Qc hX hc hP hD hS hL hQ) (fun h => kf h p e R s m args below meth c H locs cells slots ls ad cs D A Qc hX hc hP hD hS hL hQ)
theorem kz_icmp_ge {x y : Int32} {off : Int} {tgt : Nat} (hd : decode mi.2.1 pc = .ok (.if_icmp .ge off, 3)) (ht : (pc : Int) + off = (tgt : Int)) (hp : pc + 3 = pc') (kt : y ≤ x → kz_G l Sy mi tgt L S M Q) (kf : ¬ y ≤ x → kz_G l Sy mi pc' L S M Q) : kz_G l Sy mi pc L (.int y :: .int x :: S) M Q := by
  subst hp
  intro p e R s m args below meth c H locs cells slots ls ad cs D A Qc hX hc hP hD hS hL hQ
  exact lv_icmp_ge hX.1 hX.2.1 hd ht (fun h => kt h p e R s m args below meth c H locs cells slots ls ad cs D A Qc hX hc hP hD hS hL hQ) (fun h => kf h p e R s m args below meth c H locs cells slots ls ad cs D A Qc hX hc hP hD hS hL hQ)
theorem kz_if_gt {x : Int32} {off : Int} {tgt : Nat} (hd : decode mi.2.1 pc = .ok (.ifCond .gt off, 3)) (ht : (pc : Int) + off = (tgt : Int)) (hp : pc + 3 = pc') (kt : 0 < x → kz_G l Sy mi tgt L S M Q) (kf : ¬ 0 < x → kz_G l Sy mi pc' L S M Q) : kz_G l Sy mi pc L (.int x :: S) M Q := by
  subst hp
  intro p e R s m args below meth c H locs cells slots ls ad cs D A Qc hX hc hP hD hS hL hQ
  exact lv_if_gt hX.1 hX.2.1 hd ht (fun h => kt h p e R s m args below meth c H locs cells slots ls ad cs D A Qc hX hc hP hD hS hL hQ) (fun h => kf h p e R s m args below meth c H locs cells slots ls ad cs D A Qc hX hc hP hD hS hL hQ)
theorem kz_icmp_gt {x y : Int32} {off : Int} {tgt : Nat} (hd : decode mi.2.1 pc = .ok (.if_icmp .gt off, 3)) (ht : (pc : Int) + off = (tgt : Int)) (hp : pc + 3 = pc') (kt : y < x → kz_G l Sy mi tgt L S M Q) (kf : ¬ y < x → kz_G l Sy mi pc' L S M Q) : kz_G l Sy mi pc L (.int y :: .int x :: S) M Q := by
  subst hp
  intro p e R s m args below meth c H locs cells slots ls ad cs D A Qc hX hc hP hD hS hL hQ
  exact lv_icmp_gt hX.1 hX.2.1 hd ht (fun h => kt h p e R s m args below meth c H locs cells slots ls ad cs D A Qc hX hc hP hD hS hL hQ) (fun h => kf h p e R s m args below meth c H locs cells slots ls ad cs D A Qc hX hc hP hD hS hL hQ)
theorem kz_if_le {x : Int32} {off : Int} {tgt : Nat} (hd : decode mi.2.1 pc = .ok (.ifCond .le off, 3)) (ht : (pc : Int) + off = (tgt : Int)) (hp : pc + 3 = pc') (kt : x ≤ 0 → kz_G l Sy mi tgt L S M Q) (kf : ¬ x ≤ 0 → kz_G l Sy mi pc' L S M Q) : kz_G l Sy mi pc L (.int x :: S) M Q := by
  subst hp
  intro p e R s m args below meth c H locs cells slots ls ad cs D A Qc hX hc hP hD hS hL hQ
  exact lv_if_le hX.1 hX.2.1 hd ht (fun h => kt h p e R s m args below meth c H locs cells slots ls ad cs D A Qc hX hc hP hD hS hL hQ) (fun h => kf h p e R s m args below meth c H locs cells slots ls ad cs D A Qc hX hc hP hD hS hL hQ)
theorem kz_icmp_le {x y : Int32} {off : Int} {tgt : Nat} (hd : decode mi.2.1 pc = .ok (.if_icmp .le off, 3)) (ht : (pc : Int) + off = (tgt : Int)) (hp : pc + 3 = pc') (kt : x ≤ y → kz_G l Sy mi tgt L S M Q) (kf : ¬ x ≤ y → kz_G l Sy mi pc' L S M Q) : kz_G l Sy mi pc L (.int y :: .int x :: S) M Q := by
  subst hp
  intro p e R s m args below meth c H locs cells slots ls ad cs D A Qc hX hc hP hD hS hL hQ
  exact lv_icmp_le hX.1 hX.2.1 hd ht (fun h => kt h p e R s m args below meth c H locs cells slots ls ad cs D A Qc hX hc hP hD hS hL hQ) (fun h => kf h p e R s m args below meth c H locs cells slots ls ad cs D A Qc hX hc hP hD hS hL hQ)
theorem kz_goto {off : Int} {tgt : Nat} (hd : decode mi.2.1 pc = .ok (.goto off, 3)) (ht : (pc : Int) + off = (tgt : Int)) (k : kz_G l Sy mi tgt L S M Q) : kz_G l Sy mi pc L S M Q := by
  intro p e R s m args below meth c H locs cells slots ls ad cs D A Qc hX hc hP hD hS hL hQ
  exact lv_goto hX.1 hX.2.1 hd ht (k p e R s m args below meth c H locs cells slots ls ad cs D A Qc hX hc hP hD hS hL hQ)
theorem kz_tableOut {dflt lo hi : Int} {offs : Array Int} {len : Nat} {x : Int32} {tgt : Nat} (hd : decode mi.2.1 pc = .ok (.tableswitch dflt lo hi offs, len)) (h : x.toInt < lo ∨ hi < x.toInt) (ht : (pc : Int) + dflt = (tgt : Int)) (k : kz_G l Sy mi tgt L S M Q) : kz_G l Sy mi pc L (.int x :: S) M Q := by
  intro p e R s m args below meth c H locs cells slots ls ad cs D A Qc hX hc hP hD hS hL hQ
  exact lv_tableOut hX.1 hX.2.1 hd h ht (k p e R s m args below meth c H locs cells slots ls ad cs D A Qc hX hc hP hD hS hL hQ)
theorem kz_tableIn {dflt lo hi : Int} {offs : Array Int} {len : Nat} {x : Int32} {off : Int} {tgt : Nat} (hd : decode mi.2.1 pc = .ok (.tableswitch dflt lo hi offs, len)) (h1 : ¬ x.toInt < lo) (h2 : ¬ hi < x.toInt) (ho : offs[(x.toInt - lo).toNat]? = some off) (ht : (pc : Int) + off = (tgt : Int)) (k : kz_G l Sy mi tgt L S M Q) : kz_G l Sy mi pc L (.int x :: S) M Q := by
  intro p e R s m args below meth c H locs cells slots ls ad cs D A Qc hX hc hP hD hS hL hQ
  exact lv_tableIn hX.1 hX.2.1 hd h1 h2 ho ht (k p e R s m args below meth c H locs cells slots ls ad cs D A Qc hX hc hP hD hS hL hQ)
theorem kz_lookup {dflt : Int} {ps : Array (Int × Int)} {len : Nat} {x : Int32} {off : Int} {tgt : Nat} (hd : decode mi.2.1 pc = .ok (.lookupswitch dflt ps, len)) (hq : (ps.toList.zip (ps.toList.drop 1)).all (fun (a, next) => a.1 < next.1) = true) (ho : Op.lookupswitch.offset ps.toList dflt x.toInt = off) (ht : (pc : Int) + off = (tgt : Int)) (k : kz_G l Sy mi tgt L S M Q) : kz_G l Sy mi pc L (.int x :: S) M Q := by
  intro p e R s m args below meth c H locs cells slots ls ad cs D A Qc hX hc hP hD hS hL hQ
  exact lv_lookup hX.1 hX.2.1 hd hq ho ht (k p e R s m args below meth c H locs cells slots ls ad cs D A Qc hX hc hP hD hS hL hQ)
theorem kz_iret {x : Int32} (hr : mi.2.2.2.1 = some .int) (hd : decode mi.2.1 pc = .ok (.ireturn, 1)) (hq : Q (some (.int x)) M) : kz_G l Sy mi pc L [.int x] M Q := by
  intro p e R s m args below meth c H locs cells slots ls ad cs D A Qc hX hc hP hD hS hL hQ
  exact W.iret hX.1 hX.2.1 (hX.2.2.2.2.2.1.trans hr) (fun t ht hw => hQ (some (.int x)) M t hq (by rw [ht]; exact hP) hD (hS.F ht) hw) hS.2.2 hd hX.2.2.2.2.2.2.1
theorem kz_lret {x : Int64} (hr : mi.2.2.2.1 = some .long) (hd : decode mi.2.1 pc = .ok (.lreturn, 1)) (hq : Q (some (.long x)) M) : kz_G l Sy mi pc L [.long x] M Q := by
  intro p e R s m args below meth c H locs cells slots ls ad cs D A Qc hX hc hP hD hS hL hQ
  exact W.lret hX.1 hX.2.1 (hX.2.2.2.2.2.1.trans hr) (fun t ht hw => hQ (some (.long x)) M t hq (by rw [ht]; exact hP) hD (hS.F ht) hw) hS.2.2 hd hX.2.2.2.2.2.2.1
theorem kz_zret {x : Int32} (hr : mi.2.2.2.1 = some .boolean) (hd : decode mi.2.1 pc = .ok (.ireturn, 1)) (hx : x = 0 ∨ x = 1) (hq : Q (some (.int x)) M) : kz_G l Sy mi pc L [.int x] M Q := by
  intro p e R s m args below meth c H locs cells slots ls ad cs D A Qc hX hc hP hD hS hL hQ
  have hn : narrow .boolean (.int x) = .int x := by rcases hx with rfl | rfl <;> rfl
  exact W.zret hX.1 hX.2.1 (hX.2.2.2.2.2.1.trans hr) hn (fun t ht hw => hQ (some (.int x)) M t hq (by rw [ht]; exact hP) hD (hS.F ht) hw) hS.2.2 hd hX.2.2.2.2.2.2.1
theorem kz_vret (hr : mi.2.2.2.1 = none) (hd : decode mi.2.1 pc = .ok (.return_, 1)) (hq : Q none M) : kz_G l Sy mi pc L [] M Q := by
  intro p e R s m args below meth c H locs cells slots ls ad cs D A Qc hX hc hP hD hS hL hQ
  exact W.vret hX.1 hX.2.1 (hX.2.2.2.2.2.1.trans hr) (fun t ht hw => hQ none M t hq (by rw [ht]; exact hP) hD (hS.F ht) hw) hS.2.2 hd hX.2.2.2.2.2.2.1
end KZR
/-- what a field's row needs of the tables -/
def kz_Fd (Sy : kz_Sy) (own : String) (idx ci j : Nat) (ty : FieldType) (fin : Bool) : Prop := ∃ (C : String) (T : u_T) (N : Nat) (ty0 : Nat → FieldType), Sy.1[ci]? = some (C, T, N) ∧ j < N ∧ (∀ w ∈ u_ws C T N, w ∈ Sy.2.2.2) ∧ Cond.fieldLink own idx C (T j).2.1 (T j).2.2.1 ∈ Sy.2.2.2 ∧ (T j).1 = C ∧ (∀ k, k < N → parseFieldDescriptor (T k).2.2.1 = some (ty0 k)) ∧ (∀ a, a < N → ∀ b, b < N → a ≠ b → (T a).2.1 ≠ (T b).2.1) ∧ ty0 j = ty ∧ (T j).2.2.2 = fin
theorem kz_fs_at {Rf : Nat → Nat → Option Nat} {ad : Nat → Nat} {M : kz_M} {k j kd : Nat} {ks : List Nat} (h : ks[j]? = some kd) : ((List.range ks.length).map fun j => kz_fv Rf ad M k j (ks.getD j 0))[j]? = some (kz_fv Rf ad M k j kd) := by
  have hj : j < ks.length := (List.getElem?_eq_some_iff.mp h).1
  rw [List.getElem?_map, List.getElem?_range hj]
  simp only [Option.map_some, List.getD_eq_getElem?_getD, h, Option.getD_some]
theorem kz_fs_set {Rf : Nat → Nat → Option Nat} {ad : Nat → Nat} {M N : kz_M} {k j kd : Nat} {ks : List Nat} (h : ks[j]? = some kd) (ho : ∀ i, i ≠ j → N.1 k i = M.1 k i ∧ N.2 k i = M.2 k i) : ((List.range ks.length).map fun j => kz_fv Rf ad N k j (ks.getD j 0)) = ((List.range ks.length).map fun j => kz_fv Rf ad M k j (ks.getD j 0)).set j (kz_fv Rf ad N k j kd) := by
  have hj : j < ks.length := (List.getElem?_eq_some_iff.mp h).1
  apply List.ext_getElem?
  intro i
  by_cases hi : i = j
  · subst hi
    rw [kz_fs_at h, List.getElem?_set_self (by simpa using hj)]
  · rw [List.getElem?_set_ne (Ne.symm hi)]
    cases hs : ks[i]? with
    | none =>
      have hl : ks.length ≤ i := List.getElem?_eq_none_iff.mp hs
      rw [List.getElem?_eq_none (by simpa using hl), List.getElem?_eq_none (by simpa using hl)]
    | some kd' =>
      rw [kz_fs_at hs, kz_fs_at hs]
      have e : kz_fv Rf ad N k i kd' = kz_fv Rf ad M k i kd' := by unfold kz_fv; rw [(ho i hi).1, (ho i hi).2]
      rw [e]
section KZF
variable {l : Launch} {Sy : kz_Sy} {mi : kz_Me} {pc pc' : Nat} {L : List (Option Value)} {S : List Value} {M : kz_M} {Q : Option Value → kz_M → Prop}
theorem kz_getV {idx ci j k kd : Nat} {ks : List Nat} {ty : FieldType} {fin : Bool} {v : Value} (hF : kz_Fd Sy mi.1.cls idx ci j ty fin) (hsh : Sy.2.1[k]? = some (.inr (ci, ks))) (hk : ks[j]? = some kd) (hv : ∀ ad, kz_fv Sy.2.2.1 ad M k j kd = kz_rl ad v) (hd : decode mi.2.1 pc = .ok (.getfield idx, 3)) (hp : pc + 3 = pc') (kk : kz_G l Sy mi pc' L (v :: S) M Q) : kz_G l Sy mi pc L (.ref k :: S) M Q := by
  subst hp
  intro p e R s m args below meth c H locs cells slots ls ad cs D A Qc hX hc hP hD hS hL hQ
  obtain ⟨C, T, N, ty0, h1, h2, h3, h4, h5, -⟩ := hF
  have hts := hX.2.2.2.2.1
  refine va_get (C := C) (T := T) (N := N) (ref := C) hX.1 hX.2.1 hts h3 hX.2.2.2.1 hX.2.2.2.2.2.2.2.1 hP k (kz_W_at hsh) h1 j h2 (hts _ h4) (fun x hx => by rw [h5] at hx; exact hx) ((kz_fs_at hk).trans (congrArg some (hv ad))) hd ?_
  exact kk p e R s m args below meth c H locs cells slots ls ad cs D A Qc hX hc hP hD hS hL hQ
theorem kz_getI {idx ci j k kd : Nat} {ks : List Nat} {ty : FieldType} {fin : Bool} (hF : kz_Fd Sy mi.1.cls idx ci j ty fin) (hsh : Sy.2.1[k]? = some (.inr (ci, ks))) (hk : ks[j]? = some kd) (hkd : kd = 0 ∨ kd = 1) (hd : decode mi.2.1 pc = .ok (.getfield idx, 3)) (hp : pc + 3 = pc') (kk : kz_G l Sy mi pc' L (.int (M.1 k j) :: S) M Q) : kz_G l Sy mi pc L (.ref k :: S) M Q :=
  kz_getV hF hsh hk (fun ad => by rcases hkd with rfl | rfl <;> rfl) hd hp kk
theorem kz_getR {idx ci j k r : Nat} {ks : List Nat} {ty : FieldType} {fin : Bool} (hF : kz_Fd Sy mi.1.cls idx ci j ty fin) (hsh : Sy.2.1[k]? = some (.inr (ci, ks))) (hk : ks[j]? = some 3) (hr : Sy.2.2.1 k j = some r) (hd : decode mi.2.1 pc = .ok (.getfield idx, 3)) (hp : pc + 3 = pc') (kk : kz_G l Sy mi pc' L (.ref r :: S) M Q) : kz_G l Sy mi pc L (.ref k :: S) M Q :=
  kz_getV hF hsh hk (fun ad => by show va_rf ((Sy.2.2.1 k j).map ad) = _; rw [hr]; rfl) hd hp kk
theorem kz_getJ {idx ci j k : Nat} {ks : List Nat} {ty : FieldType} {fin : Bool} (hF : kz_Fd Sy mi.1.cls idx ci j ty fin) (hsh : Sy.2.1[k]? = some (.inr (ci, ks))) (hk : ks[j]? = some 2) (hd : decode mi.2.1 pc = .ok (.getfield idx, 3)) (hp : pc + 3 = pc') (kk : kz_G l Sy mi pc' L (.long (M.2 k j) :: S) M Q) : kz_G l Sy mi pc L (.ref k :: S) M Q :=
  kz_getV hF hsh hk (fun ad => rfl) hd hp kk
theorem kz_putV {idx ci j k kd : Nat} {ks : List Nat} {ty : FieldType} {v : Value} {N1 : kz_M} (hF : kz_Fd Sy mi.1.cls idx ci j ty false) (hsh : Sy.2.1[k]? = some (.inr (ci, ks))) (hk : ks[j]? = some kd) (hv : ∀ ad, kz_fv Sy.2.2.1 ad N1 k j kd = kz_rl ad v) (hn : ∀ ad, narrow ty (kz_rl ad v) = kz_rl ad v) (hfit : ∀ ad, fits ty (kz_rl ad v) = true) (ho : ∀ a, a ≠ k → N1.1 a = M.1 a ∧ N1.2 a = M.2 a) (ho2 : ∀ i, i ≠ j → N1.1 k i = M.1 k i ∧ N1.2 k i = M.2 k i) (hd : decode mi.2.1 pc = .ok (.putfield idx, 3)) (hp : pc + 3 = pc') (kk : kz_G l Sy mi pc' L S N1 Q) : kz_G l Sy mi pc L (v :: .ref k :: S) M Q := by
  subst hp
  intro p e R s m args below meth c H locs cells slots ls ad cs D A Qc hX hc hP hD hS hL hQ
  obtain ⟨C, T, N, ty0, h1, h2, h3, h4, h5, h6, h7, h8, h9⟩ := hF
  have hts := hX.2.2.2.2.1
  have hw : kz_W Sy ad cs N1 = (kz_W Sy ad cs M).set k (ad k, .inr (ci, ((List.range ks.length).map fun j => kz_fv Sy.2.2.1 ad M k j (ks.getD j 0)).set j (kz_rl ad v))) := by
    rw [kz_W_set hsh ho]
    show (kz_W Sy ad cs M).set k (ad k, .inr (ci, (List.range ks.length).map fun j => kz_fv Sy.2.2.1 ad N1 k j (ks.getD j 0))) = _
    rw [kz_fs_set hk ho2, hv ad]
  refine va_put (C := C) (T := T) (N := N) (ref := C) (ty := ty) (v := kz_rl ad v) hX.1 hX.2.1 hts h3 ty0 h6 h7 hX.2.2.2.1 hX.2.2.2.2.2.2.2.1 hP hD hS k (kz_W_at hsh) h1 j h2 (hts _ h4) (fun x hx => by rw [h5] at hx; exact hx) h9 (by rw [h6 j h2, h8]) (hn ad) (hfit ad) (by simpa using (List.getElem?_eq_some_iff.mp hk).1) hd (fun H1 locs1 hP1 hD1 hS1 => ?_)
  rw [← hw] at hP1 hD1
  exact kk p e R s m args below meth c H1 locs1 cells slots ls ad cs D A Qc hX hc hP1 hD1 hS1 hL hQ
theorem kz_putI {idx ci j k : Nat} {ks : List Nat} {x : Int32} (hF : kz_Fd Sy mi.1.cls idx ci j .int false) (hsh : Sy.2.1[k]? = some (.inr (ci, ks))) (hk : ks[j]? = some 0) (hd : decode mi.2.1 pc = .ok (.putfield idx, 3)) (hp : pc + 3 = pc') (kk : kz_G l Sy mi pc' L S (kz_u M.1 k j x, M.2) Q) : kz_G l Sy mi pc L (.int x :: .ref k :: S) M Q :=
  kz_putV (N1 := (kz_u M.1 k j x, M.2)) hF hsh hk (fun ad => by show Value.int (kz_u M.1 k j x k j) = _; rw [kz_u_same]; rfl) (fun _ => rfl) (fun _ => rfl) (fun a h => ⟨kz_u_off _ _ _ _ h, rfl⟩) (fun i h => ⟨kz_u_ne _ _ _ _ (fun q => h q.2), rfl⟩) hd hp kk
theorem kz_putZ {idx ci j k : Nat} {ks : List Nat} {x : Int32} (hF : kz_Fd Sy mi.1.cls idx ci j .boolean false) (hsh : Sy.2.1[k]? = some (.inr (ci, ks))) (hk : ks[j]? = some 1) (hx : x = 0 ∨ x = 1) (hd : decode mi.2.1 pc = .ok (.putfield idx, 3)) (hp : pc + 3 = pc') (kk : kz_G l Sy mi pc' L S (kz_u M.1 k j x, M.2) Q) : kz_G l Sy mi pc L (.int x :: .ref k :: S) M Q :=
  kz_putV (N1 := (kz_u M.1 k j x, M.2)) hF hsh hk (fun ad => by show Value.int (kz_u M.1 k j x k j) = _; rw [kz_u_same]; rfl) (fun _ => by rcases hx with rfl | rfl <;> rfl) (fun _ => by rcases hx with rfl | rfl <;> rfl) (fun a h => ⟨kz_u_off _ _ _ _ h, rfl⟩) (fun i h => ⟨kz_u_ne _ _ _ _ (fun q => h q.2), rfl⟩) hd hp kk
theorem kz_putJ {idx ci j k : Nat} {ks : List Nat} {x : Int64} (hF : kz_Fd Sy mi.1.cls idx ci j .long false) (hsh : Sy.2.1[k]? = some (.inr (ci, ks))) (hk : ks[j]? = some 2) (hd : decode mi.2.1 pc = .ok (.putfield idx, 3)) (hp : pc + 3 = pc') (kk : kz_G l Sy mi pc' L S (M.1, kz_u M.2 k j x) Q) : kz_G l Sy mi pc L (.long x :: .ref k :: S) M Q :=
  kz_putV (N1 := (M.1, kz_u M.2 k j x)) hF hsh hk (fun ad => by show Value.long (kz_u M.2 k j x k j) = _; rw [kz_u_same]; rfl) (fun _ => rfl) (fun _ => rfl) (fun a h => ⟨rfl, kz_u_off _ _ _ _ h⟩) (fun i h => ⟨rfl, kz_u_ne _ _ _ _ (fun q => h q.2)⟩) hd hp kk
theorem kz_iald {k n : Nat} {i : Int32} {j : Nat} (hsh : Sy.2.1[k]? = some (.inl (0, n))) (hin : vp_in i n) (hj : i.toNatClampNeg = j) (hd : decode mi.2.1 pc = .ok (.iaload, 1)) (hp : pc + 1 = pc') (kk : kz_G l Sy mi pc' L (.int (M.1 k j) :: S) M Q) : kz_G l Sy mi pc L (.int i :: .ref k :: S) M Q := by
  subst hp
  subst hj
  intro p e R s m args below meth c H locs cells slots ls ad cs D A Qc hX hc hP hD hS hL hQ
  exact va_iald hX.1 hX.2.1 hX.2.2.2.2.2.2.2.1 hP k 0 (kz_W_at hsh) rfl hin hd (kk p e R s m args below meth c H locs cells slots ls ad cs D A Qc hX hc hP hD hS hL hQ)
theorem kz_zald {k n : Nat} {i : Int32} {j : Nat} (hsh : Sy.2.1[k]? = some (.inl (1, n))) (hin : vp_in i n) (hj : i.toNatClampNeg = j) (hd : decode mi.2.1 pc = .ok (.baload, 1)) (hp : pc + 1 = pc') (kk : kz_G l Sy mi pc' L (.int (M.1 k j) :: S) M Q) : kz_G l Sy mi pc L (.int i :: .ref k :: S) M Q := by
  subst hp
  subst hj
  intro p e R s m args below meth c H locs cells slots ls ad cs D A Qc hX hc hP hD hS hL hQ
  exact va_zald hX.1 hX.2.1 hX.2.2.2.2.2.2.2.1 hP k 1 (kz_W_at hsh) rfl hin hd (kk p e R s m args below meth c H locs cells slots ls ad cs D A Qc hX hc hP hD hS hL hQ)
theorem kz_lald {k n : Nat} {i : Int32} {j : Nat} (hsh : Sy.2.1[k]? = some (.inl (2, n))) (hin : vp_in i n) (hj : i.toNatClampNeg = j) (hd : decode mi.2.1 pc = .ok (.laload, 1)) (hp : pc + 1 = pc') (kk : kz_G l Sy mi pc' L (.long (M.2 k j) :: S) M Q) : kz_G l Sy mi pc L (.int i :: .ref k :: S) M Q := by
  subst hp
  subst hj
  intro p e R s m args below meth c H locs cells slots ls ad cs D A Qc hX hc hP hD hS hL hQ
  exact va_lald hX.1 hX.2.1 hX.2.2.2.2.2.2.2.1 hP k 2 (kz_W_at hsh) rfl hin hd (kk p e R s m args below meth c H locs cells slots ls ad cs D A Qc hX hc hP hD hS hL hQ)
theorem kz_aald {k n r : Nat} {i : Int32} (hsh : Sy.2.1[k]? = some (.inl (3, n))) (hin : vp_in i n) (hr : Sy.2.2.1 k i.toNatClampNeg = some r) (hd : decode mi.2.1 pc = .ok (.aaload, 1)) (hp : pc + 1 = pc') (kk : kz_G l Sy mi pc' L (.ref r :: S) M Q) : kz_G l Sy mi pc L (.int i :: .ref k :: S) M Q := by
  subst hp
  intro p e R s m args below meth c H locs cells slots ls ad cs D A Qc hX hc hP hD hS hL hQ
  have hK := hX.2.2.2.2.2.2.2.1
  have hlt : i.toNatClampNeg < n := Nat.not_le.mp fun q => hin (Or.inr q)
  have ha := kz_W_at (ad := ad) (cs := cs) (M := M) hsh
  refine W.aald (v := .ref (ad r)) (ty := .array .int) hX.1 hX.2.1 (hP k _ ha) ((hK.2 3 (cs 3, .array .int) rfl).1 n (fun j => va_rf ((Sy.2.2.1 k j).map ad))) rfl (fun q => by cases q) ?_ ?_ rfl rfl hd (kk p e R s m args below meth c H locs cells slots ls ad cs D A Qc hX hc hP hD hS hL hQ)
  · show ¬ (i < 0 ∨ (arrV _ _ _).slots.size ≤ _)
    rw [arrV_size]
    exact hin
  · show (arrV _ _ (fun j => va_rf ((Sy.2.2.1 k j).map ad))).slots[_]? = _
    rw [arrV_read _ _ hlt, hr]
    rfl
theorem kz_alen {k t n : Nat} {v : Int32} (hsh : Sy.2.1[k]? = some (.inl (t, n))) (ht : t < 4) (hv : Int32.ofNat n = v) (hd : decode mi.2.1 pc = .ok (.arraylength, 1)) (hp : pc + 1 = pc') (kk : kz_G l Sy mi pc' L (.int v :: S) M Q) : kz_G l Sy mi pc L (.ref k :: S) M Q := by
  subst hp
  intro p e R s m args below meth c H locs cells slots ls ad cs D A Qc hX hc hP hD hS hL hQ
  obtain ⟨ty, hty⟩ : ∃ ty, (kz_ty cs)[t]? = some (cs t, ty) := by
    rcases (show t = 0 ∨ t = 1 ∨ t = 2 ∨ t = 3 by omega) with rfl | rfl | rfl | rfl
    · exact ⟨_, rfl⟩
    · exact ⟨_, rfl⟩
    · exact ⟨_, rfl⟩
    · exact ⟨_, rfl⟩
  exact va_alen hX.1 hX.2.1 hX.2.2.2.2.2.2.2.1 hP k t (kz_W_at hsh) hty hv hd (kk p e R s m args below meth c H locs cells slots ls ad cs D A Qc hX hc hP hD hS hL hQ)
theorem kz_iast {k n j : Nat} {i x : Int32} (hsh : Sy.2.1[k]? = some (.inl (0, n))) (hin : vp_in i n) (hj : i.toNatClampNeg = j) (hd : decode mi.2.1 pc = .ok (.iastore, 1)) (hp : pc + 1 = pc') (kk : kz_G l Sy mi pc' L S (kz_u M.1 k j x, M.2) Q) : kz_G l Sy mi pc L (.int x :: .int i :: .ref k :: S) M Q := by
  subst hp
  subst hj
  intro p e R s m args below meth c H locs cells slots ls ad cs D A Qc hX hc hP hD hS hL hQ
  have hw : kz_W Sy ad cs (kz_u M.1 k i.toNatClampNeg x, M.2) = (kz_W Sy ad cs M).set k (ad k, .inl (cs 0, n, .inl (upd (M.1 k) i.toNatClampNeg x))) := by
    rw [kz_W_set hsh (M := M) (N := (kz_u M.1 k i.toNatClampNeg x, M.2)) (fun a h => ⟨kz_u_off _ _ _ _ h, rfl⟩)]
    show (kz_W Sy ad cs M).set k (ad k, .inl (cs 0, n, .inl (kz_u M.1 k i.toNatClampNeg x k))) = _
    rw [kz_u_row]
    rfl
  refine va_iast hX.1 hX.2.1 hX.2.2.2.2.2.2.2.1 hP hD hS k 0 (kz_W_at hsh) rfl hin hd (fun H1 locs1 hP1 hD1 hS1 => ?_)
  have hP1 : va_P D Sy.1 ((kz_W Sy ad cs M).set k (ad k, .inl (cs 0, n, .inl (upd (M.1 k) i.toNatClampNeg x)))) H1 := hP1
  have hD1 : va_D A ((kz_W Sy ad cs M).set k (ad k, .inl (cs 0, n, .inl (upd (M.1 k) i.toNatClampNeg x)))) := hD1
  rw [← hw] at hP1 hD1
  exact kk p e R s m args below meth c H1 locs1 cells slots ls ad cs D A Qc hX hc hP1 hD1 hS1 hL hQ
theorem kz_zast {k n j : Nat} {i x : Int32} (hsh : Sy.2.1[k]? = some (.inl (1, n))) (hin : vp_in i n) (hj : i.toNatClampNeg = j) (hx : x = 0 ∨ x = 1) (hd : decode mi.2.1 pc = .ok (.bastore, 1)) (hp : pc + 1 = pc') (kk : kz_G l Sy mi pc' L S (kz_u M.1 k j x, M.2) Q) : kz_G l Sy mi pc L (.int x :: .int i :: .ref k :: S) M Q := by
  subst hp
  subst hj
  intro p e R s m args below meth c H locs cells slots ls ad cs D A Qc hX hc hP hD hS hL hQ
  have hx' : vp_nar .boolean x = x := by rcases hx with rfl | rfl <;> rfl
  have hw : kz_W Sy ad cs (kz_u M.1 k i.toNatClampNeg x, M.2) = (kz_W Sy ad cs M).set k (ad k, .inl (cs 1, n, .inl (upd (M.1 k) i.toNatClampNeg (vp_nar .boolean x)))) := by
    rw [hx', kz_W_set hsh (M := M) (N := (kz_u M.1 k i.toNatClampNeg x, M.2)) (fun a h => ⟨kz_u_off _ _ _ _ h, rfl⟩)]
    show (kz_W Sy ad cs M).set k (ad k, .inl (cs 1, n, .inl (kz_u M.1 k i.toNatClampNeg x k))) = _
    rw [kz_u_row]
    rfl
  refine va_zast hX.1 hX.2.1 hX.2.2.2.2.2.2.2.1 hP hD hS k 1 (kz_W_at hsh) rfl hin hd (fun H1 locs1 hP1 hD1 hS1 => ?_)
  have hP1 : va_P D Sy.1 ((kz_W Sy ad cs M).set k (ad k, .inl (cs 1, n, .inl (upd (M.1 k) i.toNatClampNeg (vp_nar .boolean x))))) H1 := hP1
  have hD1 : va_D A ((kz_W Sy ad cs M).set k (ad k, .inl (cs 1, n, .inl (upd (M.1 k) i.toNatClampNeg (vp_nar .boolean x))))) := hD1
  rw [← hw] at hP1 hD1
  exact kk p e R s m args below meth c H1 locs1 cells slots ls ad cs D A Qc hX hc hP1 hD1 hS1 hL hQ
theorem kz_last {k n j : Nat} {i : Int32} {x : Int64} (hsh : Sy.2.1[k]? = some (.inl (2, n))) (hin : vp_in i n) (hj : i.toNatClampNeg = j) (hd : decode mi.2.1 pc = .ok (.lastore, 1)) (hp : pc + 1 = pc') (kk : kz_G l Sy mi pc' L S (M.1, kz_u M.2 k j x) Q) : kz_G l Sy mi pc L (.long x :: .int i :: .ref k :: S) M Q := by
  subst hp
  subst hj
  intro p e R s m args below meth c H locs cells slots ls ad cs D A Qc hX hc hP hD hS hL hQ
  have hw : kz_W Sy ad cs (M.1, kz_u M.2 k i.toNatClampNeg x) = (kz_W Sy ad cs M).set k (ad k, .inl (cs 2, n, .inr (.inl (vp_updL (M.2 k) i.toNatClampNeg x)))) := by
    rw [kz_W_set hsh (M := M) (N := (M.1, kz_u M.2 k i.toNatClampNeg x)) (fun a h => ⟨rfl, kz_u_off _ _ _ _ h⟩)]
    show (kz_W Sy ad cs M).set k (ad k, .inl (cs 2, n, .inr (.inl (kz_u M.2 k i.toNatClampNeg x k)))) = _
    rw [kz_u_row]
    rfl
  refine va_last hX.1 hX.2.1 hX.2.2.2.2.2.2.2.1 hP hD hS k 2 (kz_W_at hsh) rfl hin hd (fun H1 locs1 hP1 hD1 hS1 => ?_)
  have hP1 : va_P D Sy.1 ((kz_W Sy ad cs M).set k (ad k, .inl (cs 2, n, .inr (.inl (vp_updL (M.2 k) i.toNatClampNeg x))))) H1 := hP1
  have hD1 : va_D A ((kz_W Sy ad cs M).set k (ad k, .inl (cs 2, n, .inr (.inl (vp_updL (M.2 k) i.toNatClampNeg x))))) := hD1
  rw [← hw] at hP1 hD1
  exact kk p e R s m args below meth c H1 locs1 cells slots ls ad cs D A Qc hX hc hP1 hD1 hS1 hL hQ
/-! calls -/
theorem kz_goes {p : Program} {e : Env} {R : Room} {s : State} {m : MethodId} {args : Array Value} {below : List Frame} {meth : Method} {c : Code} {H : Heap} {locs : List Loc} {cells slots : Nat} {ls : Array Slot} {ad : Nat → Nat} {cs : Nat → ClassId} {D : va_G} {A A1 : Nat → Prop} {Qc : Array Value → State → Outcome → State → Prop} {Qz : Option Value → kz_M → Prop} {st0 : List Value} {a : Array Value}
    (hX : kz_X Sy mi p R s m args meth c cs D A) (hc : cells ≤ R.cells ∧ slots ≤ R.slots) (hS : va_S A s.heap H locs) (hL : kz_L ad ls mi.2.2.1 L) (hA1 : ∀ q, A1 q → A q)
    (hQ : ∀ (v : Option Value) (N : kz_M) (t : State), Q v N → va_P D Sy.1 (kz_W Sy ad cs N) t.heap → va_D A (kz_W Sy ad cs N) → va_F A s t → s.WarmedH t.vm → Qc args s (.returned (v.map (kz_rl ad))) t)
    (hr : va_Run p l e R s m args below meth c H locs cells slots 0 0 (F0 m pc ls st0) (S.map (kz_rl ad)) (kz_Qc Sy ad cs D A1 Qz a) A1)
    (kk : ∀ v N, Qz v N → kz_G l Sy mi (pc + 3) L (v.toList ++ S) N Q) : W p l e R s m args below meth c H locs cells slots (MQ below Qc args s cells slots A) (F0 m pc ls st0) := by
  intro T hT X
  obtain ⟨v, st₀, t, T', L', h0, X', hL', e1, e2, ⟨w, N, hq, hv, hP1, hK1, hD1, hz, hk⟩, st⟩ := hr T hT X
  rw [h0] at hz hk
  have hS' : va_S A s.heap T'.heap (locs ++ L') := by
    refine ⟨Nat.le_trans hS.1 (by rw [e1]; exact hz), fun q h1 h2 => ?_, fun q hq => ?_⟩
    · rw [e1, hk q (Nat.lt_of_lt_of_le h1 hS.1) (fun z => h2 (hA1 q z))]
      exact hS.2.1 q h1 h2
    · rcases List.mem_append.mp hq with h | h
      · exact hS.2.2 q h
      · exact hA1 _ (hL' q h)
  have e3 : v = w.map (kz_rl ad) := by cases hv; rfl
  obtain ⟨t2, a1, b1⟩ := kk w N hq p e R s m args below meth c T'.heap (locs ++ L') cells slots ls ad cs D A Qc hX hc (by rw [e1]; exact hP1) (hD1.weaken (fun _ _ _ h => hA1 _ h)) hS' hL hQ T' rfl X'
  refine ⟨t2, st t2 ?_, b1⟩
  have e4 : v.toList ++ S.map (kz_rl ad) = (w.toList ++ S).map (kz_rl ad) := by
    rw [e3, List.map_append]
    cases w <;> rfl
  rw [e4]
  exact a1
theorem kz_blind {ad : Nat → Nat} {cs : Nat → ClassId} {D : va_G} {sz : Nat} {as : List Value} : FrameBlind (kz_Pc Sy ad cs D sz as M) := by
  intro a U g mk q
  obtain ⟨q0, q1, qP, qK, qD⟩ := q
  exact ⟨q0, q1, qP, va_K.moved (u := U) (U := U.calling g mk a) (Vm.Alike.refl U.vm) qK, qD⟩
def kz_Kp (ws : List Cond) : Prop := ∀ w ∈ ws, (w.onTables && w.keeps) = true ∨ ∃ ty, w = .arrayClass ty
/-- what a call's row needs of the tables -/
def kz_Cw (Sy : kz_Sy) (own : String) (idx : Nat) (mz : kz_Me) (n : Nat) : Prop := kz_Kp Sy.2.2.2 ∧ Cond.methodLink own idx mz.1 ∈ Sy.2.2.2 ∧ Cond.initialized mz.1.cls ∈ Sy.2.2.2 ∧ Cond.code mz.1 mz.2.1 mz.2.2.1 mz.2.2.2.1 ∈ Sy.2.2.2 ∧ mz.1.cls ≠ "java/lang/invoke/MethodHandle" ∧ mz.1.cls ≠ "java/lang/invoke/VarHandle" ∧ (parseMethodDescriptor mz.1.desc).map (fun d => d.parameters.length) = some n
def kz_Cv (Sy : kz_Sy) (own : String) (idx : Nat) (mz : kz_Me) (n : Nat) : Prop := kz_Cw Sy own idx mz n ∧ Cond.instanceMethod mz.1 ∈ Sy.2.2.2 ∧ Cond.selects mz.1.cls mz.1 mz.1 ∈ Sy.2.2.2
def kz_Cs (Sy : kz_Sy) (own : String) (idx : Nat) (mz : kz_Me) (n : Nat) : Prop := kz_Cw Sy own idx mz n ∧ Cond.static mz.1 ∈ Sy.2.2.2
/-- the room of a call -/
def kz_Rm (mi mz : kz_Me) : Prop := mz.2.2.2.2.1 + 1 ≤ mi.2.2.2.2.1 ∧ 8 + (mz.2.2.1 + 11) + mz.2.2.2.2.2 ≤ mi.2.2.2.2.2
theorem kz_good {own : String} {idx n : Nat} {mz : kz_Me} (h : kz_Cw Sy own idx mz n) : GoodIn Sy.2.2.2 (kz_ws Sy mz) := by
  intro w hw
  rcases List.mem_cons.mp hw with rfl | hw
  · exact ⟨h.2.2.2.1, h.1 _ h.2.2.2.1⟩
  · exact ⟨hw, h.1 _ hw⟩
theorem kz_callV {idx n b ci : Nat} {ks : List Nat} {mz : kz_Me} {T : u_T} {N : Nat} (As : List Value) {S0 : List Value} {Qz : Option Value → kz_M → Prop} (hT : kz_T l Sy mz (.ref b :: As) M Qz) (hw : kz_Cv Sy mi.1.cls idx mz n) (hsh : Sy.2.1[b]? = some (.inr (ci, ks))) (hcl : Sy.1[ci]? = some (mz.1.cls, T, N)) (hn : As.length = n) (hrm : kz_Rm mi mz) (hrest : (S.map fun v => v.category).sum ≤ 8) (hst : As.reverse ++ .ref b :: S = S0) (hd : decode mi.2.1 pc = .ok (.invokevirtual idx, 3)) (hp : pc + 3 = pc') (kk : ∀ v N, Qz v N → kz_G l Sy mi pc' L (v.toList ++ S) N Q) : kz_G l Sy mi pc L S0 M Q := by
  subst hp
  subst hst
  intro p e R s m args below meth c H locs cells slots ls ad cs D A Qc hX hc hP hD hS hL hQ
  have hts := hX.2.2.2.2.1
  have hK := hX.2.2.2.2.2.2.2.1
  have hG := kz_good hw.1
  have hA1 : ∀ q, va_A (kz_W Sy ad cs M) H.size q → A q := by
    intro q h
    rcases h with ⟨k, e, h⟩ | h
    · exact hD.2 k (q, e) h
    · exact hX.2.2.2.2.2.2.2.2.1 q (Nat.le_trans hS.1 h)
  refine kz_goes (A1 := va_A (kz_W Sy ad cs M) H.size) (a := (Value.ref (ad b) :: As.map (kz_rl ad)).toArray) hX hc hS hL hA1 hQ ?_ kk
  refine va_runV (As := As.map (kz_rl ad)) (b := ad b) (C := mz.1.cls) (nL := mi.2.2.1) ⟨hX.1, hX.2.1, hX.2.2.1, hX.2.2.2.1, hts⟩ (hT ad cs D H.size)
    (cwV n hts ?_ rfl rfl rfl ⟨rfl, hw.1.2.2.2.2.1, hw.1.2.2.2.2.2.1, hw.1.2.2.2.2.2.2⟩ ⟨Nat.le_trans hrm.1 hX.2.2.2.2.2.2.2.2.2.1, Nat.le_trans hrm.2 hX.2.2.2.2.2.2.2.2.2.2⟩)
    ⟨kz_blind, va_recv hK hP hcl (kz_W_at hsh), fun U hU hW => ⟨rfl, by rw [hU], by rw [hU]; exact hP, va_K.moved hW.alike hK, hD.weaken (fun _ _ _ _ => trivial)⟩⟩ rfl (by rw [List.length_map]; exact hn) hL.1 ?_ (lv_room (by rw [kz_rl_sum]; exact hrest)) hd hc
  · intro w h
    unfold wsV at h
    rcases List.mem_append.mp h with h | h
    · simp only [List.mem_cons, List.not_mem_nil, or_false] at h
      rcases h with rfl | rfl | rfl | rfl
      · exact ⟨hw.1.2.1, hw.1.1 _ hw.1.2.1⟩
      · exact ⟨hw.2.1, hw.1.1 _ hw.2.1⟩
      · exact ⟨hw.2.2, hw.1.1 _ hw.2.2⟩
      · exact ⟨hw.1.2.2.1, hw.1.1 _ hw.1.2.2.1⟩
    · exact hG w h
  · show (As.reverse ++ .ref b :: S).map (kz_rl ad) = _
    rw [List.map_append, List.map_reverse, List.map_cons]
    rfl
theorem kz_callS {idx n : Nat} {mz : kz_Me} (As : List Value) {S0 : List Value} {Qz : Option Value → kz_M → Prop} (hT : kz_T l Sy mz As M Qz) (hw : kz_Cs Sy mi.1.cls idx mz n) (hn : As.length = n) (hrm : kz_Rm mi mz) (hrest : (S.map fun v => v.category).sum ≤ 8) (hst : As.reverse ++ S = S0) (hd : decode mi.2.1 pc = .ok (.invokestatic idx, 3)) (hp : pc + 3 = pc') (kk : ∀ v N, Qz v N → kz_G l Sy mi pc' L (v.toList ++ S) N Q) : kz_G l Sy mi pc L S0 M Q := by
  subst hp
  subst hst
  intro p e R s m args below meth c H locs cells slots ls ad cs D A Qc hX hc hP hD hS hL hQ
  have hts := hX.2.2.2.2.1
  have hK := hX.2.2.2.2.2.2.2.1
  have hG := kz_good hw.1
  have hA1 : ∀ q, va_A (kz_W Sy ad cs M) H.size q → A q := by
    intro q h
    rcases h with ⟨k, e, h⟩ | h
    · exact hD.2 k (q, e) h
    · exact hX.2.2.2.2.2.2.2.2.1 q (Nat.le_trans hS.1 h)
  refine kz_goes (A1 := va_A (kz_W Sy ad cs M) H.size) (a := (As.map (kz_rl ad)).toArray) hX hc hS hL hA1 hQ ?_ kk
  refine va_runS (As := As.map (kz_rl ad)) (nL := mi.2.2.1) ⟨hX.1, hX.2.1, hX.2.2.1, hX.2.2.2.1, hts⟩ (hT ad cs D H.size)
    (va_cwS n hts ?_ rfl rfl rfl ⟨hw.1.2.2.2.2.1, hw.1.2.2.2.2.2.1, hw.1.2.2.2.2.2.2⟩ ⟨Nat.le_trans hrm.1 hX.2.2.2.2.2.2.2.2.2.1, Nat.le_trans hrm.2 hX.2.2.2.2.2.2.2.2.2.2⟩)
    ⟨kz_blind, fun U hU hW => ⟨rfl, by rw [hU], by rw [hU]; exact hP, va_K.moved hW.alike hK, hD.weaken (fun _ _ _ _ => trivial)⟩⟩ rfl (by rw [List.length_map]; exact hn) hL.1 ?_ (lv_room (by rw [kz_rl_sum]; exact hrest)) hd hc
  · intro w h
    unfold va_wsS at h
    rcases List.mem_append.mp h with h | h
    · simp only [List.mem_cons, List.not_mem_nil, or_false] at h
      rcases h with rfl | rfl | rfl
      · exact ⟨hw.1.2.1, hw.1.1 _ hw.1.2.1⟩
      · exact ⟨hw.2, hw.1.1 _ hw.2⟩
      · exact ⟨hw.1.2.2.1, hw.1.1 _ hw.1.2.2.1⟩
    · exact hG w h
  · show (As.reverse ++ S).map (kz_rl ad) = _
    rw [List.map_append, List.map_reverse]
/-! answers of a call, said as equations -/
def kz_Dt (l : Launch) (Sy : kz_Sy) (mz : kz_Me) (as : List Value) (M : kz_M) (r : Option Value) (N : kz_M) : Prop := kz_T l Sy mz as M (fun v N' => v = r ∧ N' = N)
theorem kz_callVi {idx n b ci : Nat} {ks : List Nat} {mz : kz_Me} {T : u_T} {N : Nat} {As S0 : List Value} {x : Value} {N1 : kz_M} (hT : kz_Dt l Sy mz (.ref b :: As) M (some x) N1) (hw : kz_Cv Sy mi.1.cls idx mz n) (hsh : Sy.2.1[b]? = some (.inr (ci, ks))) (hcl : Sy.1[ci]? = some (mz.1.cls, T, N)) (hn : As.length = n) (hrm : kz_Rm mi mz) (hst : As.reverse ++ .ref b :: S = S0) (hrest : (S.map fun v => v.category).sum ≤ 8) (hd : decode mi.2.1 pc = .ok (.invokevirtual idx, 3)) (hp : pc + 3 = pc') (kk : kz_G l Sy mi pc' L (x :: S) N1 Q) : kz_G l Sy mi pc L S0 M Q :=
  kz_callV As hT hw hsh hcl hn hrm hrest hst hd hp (fun v N h => by obtain ⟨rfl, rfl⟩ := h; exact kk)
theorem kz_callVv {idx n b ci : Nat} {ks : List Nat} {mz : kz_Me} {T : u_T} {N : Nat} {As S0 : List Value} {N1 : kz_M} (hT : kz_Dt l Sy mz (.ref b :: As) M none N1) (hw : kz_Cv Sy mi.1.cls idx mz n) (hsh : Sy.2.1[b]? = some (.inr (ci, ks))) (hcl : Sy.1[ci]? = some (mz.1.cls, T, N)) (hn : As.length = n) (hrm : kz_Rm mi mz) (hst : As.reverse ++ .ref b :: S = S0) (hrest : (S.map fun v => v.category).sum ≤ 8) (hd : decode mi.2.1 pc = .ok (.invokevirtual idx, 3)) (hp : pc + 3 = pc') (kk : kz_G l Sy mi pc' L S N1 Q) : kz_G l Sy mi pc L S0 M Q :=
  kz_callV As hT hw hsh hcl hn hrm hrest hst hd hp (fun v N h => by obtain ⟨rfl, rfl⟩ := h; exact kk)
theorem kz_callSi {idx n : Nat} {mz : kz_Me} {As S0 : List Value} {x : Value} {N1 : kz_M} (hT : kz_Dt l Sy mz As M (some x) N1) (hw : kz_Cs Sy mi.1.cls idx mz n) (hn : As.length = n) (hrm : kz_Rm mi mz) (hst : As.reverse ++ S = S0) (hrest : (S.map fun v => v.category).sum ≤ 8) (hd : decode mi.2.1 pc = .ok (.invokestatic idx, 3)) (hp : pc + 3 = pc') (kk : kz_G l Sy mi pc' L (x :: S) N1 Q) : kz_G l Sy mi pc L S0 M Q :=
  kz_callS As hT hw hn hrm hrest hst hd hp (fun v N h => by obtain ⟨rfl, rfl⟩ := h; exact kk)
/-! truth as a number -/
def kz_ib : Bool → Int32
  | true => 1
  | false => 0
theorem kz_ib_or (b : Bool) : kz_ib b = 0 ∨ kz_ib b = 1 := by cases b <;> decide
theorem kz_if_eqb {b : Bool} {off : Int} {tgt : Nat} (hd : decode mi.2.1 pc = .ok (.ifCond .eq off, 3)) (ht : (pc : Int) + off = (tgt : Int)) (hp : pc + 3 = pc') (kt : b = false → kz_G l Sy mi tgt L S M Q) (kf : b = true → kz_G l Sy mi pc' L S M Q) : kz_G l Sy mi pc L (.int (kz_ib b) :: S) M Q :=
  kz_if_eq hd ht hp (fun h => kt (by cases b; rfl; exact absurd h (by decide))) (fun h => kf (by cases b; exact absurd rfl h; rfl))
theorem kz_if_neb {b : Bool} {off : Int} {tgt : Nat} (hd : decode mi.2.1 pc = .ok (.ifCond .ne off, 3)) (ht : (pc : Int) + off = (tgt : Int)) (hp : pc + 3 = pc') (kt : b = true → kz_G l Sy mi tgt L S M Q) (kf : b = false → kz_G l Sy mi pc' L S M Q) : kz_G l Sy mi pc L (.int (kz_ib b) :: S) M Q :=
  kz_if_ne hd ht hp (fun h => kt (by cases b; exact absurd rfl h; rfl)) (fun h => kf (by cases b; rfl; exact absurd h (by decide)))
theorem kz_vin {i : Int32} {n : Nat} (h : ¬ (i < 0 ∨ n ≤ i.toNatClampNeg)) : vp_in i n := h
theorem kz_topi {x y : Int32} (h : x = y) (k : kz_G l Sy mi pc L (.int y :: S) M Q) : kz_G l Sy mi pc L (.int x :: S) M Q := h ▸ k
theorem kz_min {idx : Nat} {x y : Int32} (hw : Cond.methodLink mi.1.cls idx Lib.Math.min.name ∈ Sy.2.2.2 ∧ Cond.static Lib.Math.min.name ∈ Sy.2.2.2 ∧ Cond.initialized "java/lang/Math" ∈ Sy.2.2.2 ∧ Cond.code Lib.Math.min.name Lib.Math.min.code 2 (some .int) ∈ Sy.2.2.2) (hrm : 1 ≤ mi.2.2.2.2.1 ∧ 21 ≤ mi.2.2.2.2.2) (hrest : (S.map fun v => v.category).sum ≤ 8) (hd : decode mi.2.1 pc = .ok (.invokestatic idx, 3)) (hp : pc + 3 = pc') (k : kz_G l Sy mi pc' L (.int (if y < x then y else x) :: S) M Q) : kz_G l Sy mi pc L (.int y :: .int x :: S) M Q := by
  subst hp
  intro p e R s m args below meth c H locs cells slots ls ad cs D A Qc hX hc hP hD hS hL hQ
  have hts := hX.2.2.2.2.1
  exact va_mmin hX.1 hX.2.1 (hX.2.2.1.trans hL.1.symm) hX.2.2.2.1 (hts _ hw.1) (hts _ hw.2.1) (hts _ hw.2.2.1) (hts _ hw.2.2.2) (Nat.le_trans hrm.1 hX.2.2.2.2.2.2.2.2.2.1) (by rw [kz_rl_sum]; have := hX.2.2.2.2.2.2.2.2.2.2; omega) hc.1 hc.2 hd (k p e R s m args below meth c H locs cells slots ls ad cs D A Qc hX hc hP hD hS hL hQ)
theorem kz_max {idx : Nat} {x y : Int32} (hw : Cond.methodLink mi.1.cls idx Lib.Math.max.name ∈ Sy.2.2.2 ∧ Cond.static Lib.Math.max.name ∈ Sy.2.2.2 ∧ Cond.initialized "java/lang/Math" ∈ Sy.2.2.2 ∧ Cond.code Lib.Math.max.name Lib.Math.max.code 2 (some .int) ∈ Sy.2.2.2) (hrm : 1 ≤ mi.2.2.2.2.1 ∧ 21 ≤ mi.2.2.2.2.2) (hrest : (S.map fun v => v.category).sum ≤ 8) (hd : decode mi.2.1 pc = .ok (.invokestatic idx, 3)) (hp : pc + 3 = pc') (k : kz_G l Sy mi pc' L (.int (if x < y then y else x) :: S) M Q) : kz_G l Sy mi pc L (.int y :: .int x :: S) M Q := by
  subst hp
  intro p e R s m args below meth c H locs cells slots ls ad cs D A Qc hX hc hP hD hS hL hQ
  have hts := hX.2.2.2.2.1
  exact va_mmax hX.1 hX.2.1 (hX.2.2.1.trans hL.1.symm) hX.2.2.2.1 (hts _ hw.1) (hts _ hw.2.1) (hts _ hw.2.2.1) (hts _ hw.2.2.2) (Nat.le_trans hrm.1 hX.2.2.2.2.2.2.2.2.2.1) (by rw [kz_rl_sum]; have := hX.2.2.2.2.2.2.2.2.2.2; omega) hc.1 hc.2 hd (k p e R s m args below meth c H locs cells slots ls ad cs D A Qc hX hc hP hD hS hL hQ)
/-- one int array's stretch onto itself -/
theorem kz_copy {idx k n0 : Nat} {sp dp n : Int32} (hw : Cond.methodLink mi.1.cls idx arraycopyName ∈ Sy.2.2.2 ∧ Cond.native arraycopyName ∈ Sy.2.2.2 ∧ Cond.static arraycopyName ∈ Sy.2.2.2 ∧ Cond.initialized "java/lang/System" ∈ Sy.2.2.2) (hsh : Sy.2.1[k]? = some (.inl (0, n0))) (h1 : ¬ sp < 0) (h2 : ¬ dp < 0) (h3 : ¬ n < 0) (h4 : sp.toNatClampNeg + n.toNatClampNeg ≤ n0) (h5 : dp.toNatClampNeg + n.toNatClampNeg ≤ n0) (hrm : 1 ≤ mi.2.2.2.2.1 ∧ 8 + (nativeFrameWords "java/lang/System" "arraycopy" 5 + 11) ≤ mi.2.2.2.2.2) (hrest : (S.map fun v => v.category).sum ≤ 8) (hd : decode mi.2.1 pc = .ok (.invokestatic idx, 3)) (hp : pc + 3 = pc')
    (kk : kz_G l Sy mi pc' L S ((fun a b => if a = k then va_cpy (M.1 k) (M.1 k) sp.toNatClampNeg dp.toNatClampNeg n.toNatClampNeg b else M.1 a b), M.2) Q) : kz_G l Sy mi pc L (.int n :: .int dp :: .ref k :: .int sp :: .ref k :: S) M Q := by
  subst hp
  intro p e R s m args below meth c H locs cells slots ls ad cs D A Qc hX hc hP hD hS hL hQ
  have hts := hX.2.2.2.2.1
  have hw1 : kz_W Sy ad cs ((fun a b => if a = k then va_cpy (M.1 k) (M.1 k) sp.toNatClampNeg dp.toNatClampNeg n.toNatClampNeg b else M.1 a b), M.2) = (kz_W Sy ad cs M).set k (ad k, .inl (cs 0, n0, .inl (va_cpy (M.1 k) (M.1 k) sp.toNatClampNeg dp.toNatClampNeg n.toNatClampNeg))) := by
    rw [kz_W_set hsh (M := M) (N := ((fun a b => if a = k then va_cpy (M.1 k) (M.1 k) sp.toNatClampNeg dp.toNatClampNeg n.toNatClampNeg b else M.1 a b), M.2)) (fun a h => ⟨by funext b; simp [h], rfl⟩)]
    show (kz_W Sy ad cs M).set k (ad k, .inl (cs 0, n0, .inl (fun b => if k = k then va_cpy (M.1 k) (M.1 k) sp.toNatClampNeg dp.toNatClampNeg n.toNatClampNeg b else M.1 k b))) = _
    simp only [if_true]
  refine va_copyi hX.1 hX.2.1 (hX.2.2.1.trans hL.1.symm) hX.2.2.2.1 (hts _ hw.1) (hts _ hw.2.1) (hts _ hw.2.2.1) (hts _ hw.2.2.2) hX.2.2.2.2.2.2.2.1 hP hD hS k k 0 0 (kz_W_at hsh) (kz_W_at hsh) rfl rfl rfl h1 h2 h3 h4 h5 (fun i _ => rfl) (Nat.le_trans hrm.1 hX.2.2.2.2.2.2.2.2.2.1) (by rw [kz_rl_sum]; have := hX.2.2.2.2.2.2.2.2.2.2; omega) hd (fun H1 locs1 hP1 hD1 hS1 => ?_)
  rw [← hw1] at hP1 hD1
  exact kk p e R s m args below meth c H1 locs1 cells slots ls ad cs D A Qc hX hc hP1 hD1 hS1 hL hQ
end KZF
