theorem kz_callVr {l : Launch} {Sy : kz_Sy} {mi : kz_Me} {pc pc' : Nat} {L : List (Option Value)} {S : List Value} {M : kz_M} {Q : Option Value → kz_M → Prop} {idx n b ci : Nat} {ks : List Nat} {mz : kz_Me} {T : u_T} {N : Nat} {As S0 : List Value} {Qz : Option Value → kz_M → Prop} (hT : kz_T l Sy mz (.ref b :: As) M Qz) (hw : kz_Cv Sy mi.1.cls idx mz n) (hsh : Sy.2.1[b]? = some (.inr (ci, ks))) (hcl : Sy.1[ci]? = some (mz.1.cls, T, N)) (hn : As.length = n) (hrm : kz_Rm mi mz) (hst : As.reverse ++ .ref b :: S = S0) (hrest : (S.map fun v => v.category).sum ≤ 8) (hd : decode mi.2.1 pc = .ok (.invokevirtual idx, 3)) (hp : pc + 3 = pc') (kk : ∀ v N, Qz v N → kz_G l Sy mi pc' L (v.toList ++ S) (N.1, N.2) Q) : kz_G l Sy mi pc L S0 M Q :=
  kz_callV As hT hw hsh hcl hn hrm hrest hst hd hp kk
def cx_cap (M : kz_M) (q : List Int32) : List Int32 := match q with
  | [] => []
  | t :: r => if M.1 0 9 - M.1 15 t.toNatClampNeg ≤ M.1 0 1 then t :: r else [t]
theorem cx_look_eq (M : kz_M) (rs ws : List Int32) : cx_look M rs ws = cx_cap M (cx_pick M rs ws) := rfl
theorem nI_len0 {n : Nat} (hn : n ≤ 8) (h : nI n = 0) : n = 0 := (nI_eq (a := n) (b := 0) (by omega) (by decide)).mp h
theorem nI_le0 {n : Nat} (hn : n ≤ 8) (h : nI n ≤ 0) : n = 0 := by
  have := (nI_leI (a := n) (b := 0) (by omega) (by decide)).mp h
  omega
