/-! Contracts of the reference: serving, its last loop. -/
def rv_b (M : kz_M) (wq : List Int32) (i : Nat) : Int32 := ck_bank (rq_a M (wq.getD i 0))
def rv_op (M : kz_M) (wq : List Int32) (f : Nat → Bool) (i : Nat) : Bool := f i && (decide (M.1 4 (rv_b M wq i).toNatClampNeg = -1) && rr_mayAct M (rv_b M wq i).toNatClampNeg)
def rv_cl (M : kz_M) (wq : List Int32) (f : Nat → Bool) (i : Nat) : Bool := f i && (!decide (M.1 4 (rv_b M wq i).toNatClampNeg = -1) && (!decide (M.1 4 (rv_b M wq i).toNatClampNeg = ck_row (rq_a M (wq.getD i 0))) && (!rq_an (rq_wt M wq f (rv_b M wq i)) wq.length 0 && rr_mayPre M (rv_b M wq i).toNatClampNeg)))
def rv_do (M : kz_M) (wq : List Int32) (f : Nat → Bool) (g : Nat) : Option Nat → kz_M
  | some i => if rv_op M wq f i = true then rr_act M g (rv_b M wq i) (ck_row (rq_a M (wq.getD i 0))) else rr_pre M g (rv_b M wq i)
  | none => M
set_option maxRecDepth 100000 in
set_option maxHeartbeats 1000000 in
theorem lp_rsve (l : Launch) {N : kz_M} {a1 i : Int32} {z4 z5 z6 z7 z8 : Option Value} {Q : Option Value → kz_M → Prop} (h : Q none N) : kz_G l sR m_Mo_serve 55 [some (.ref 0), some (.int a1), some (.int 0), some (.int i), z4, z5, z6, z7, z8] [] N Q := by
  refine kz_eta ?_
  refine kz_iload_n d_Mo_serve_55 rfl rfl ?_
  refine kz_aload_n d_Mo_serve_56 rfl rfl ?_
  refine kz_getIp fd_Mo_134 rfl rfl (Or.inl rfl) d_Mo_serve_57 rfl ?_
  refine kz_icmp_ge (tgt := 238) d_Mo_serve_60 (by decide) rfl (fun h60 => ?_) (fun h60 => ?_)
  · exact kz_vret rfl d_Mo_serve_238 (h)
  · refine kz_iload_n d_Mo_serve_63 rfl rfl ?_
    refine kz_if_eq (tgt := 238) d_Mo_serve_64 (by decide) rfl (fun _ => ?_) (fun h => absurd h (by decide))
    exact kz_vret rfl d_Mo_serve_238 (h)
set_option maxRecDepth 100000 in
set_option maxHeartbeats 1000000 in
theorem lp_rsv (l : Launch) {M : kz_M} {wq : List Int32} {f : Nat → Bool} {g : Nat} {a1 : Int32} (hq : rq_at M wq) (hf : rq_fl M wq.length f) (hg : g < 2 ^ 31) (hge : M.1 0 4 = nI g) : ∀ (n i : Nat) (z4 z5 z6 z7 z8 : Option Value), i + n = wq.length → kz_G l sR m_Mo_serve 55 [some (.ref 0), some (.int a1), some (.int 1), some (.int (nI i)), z4, z5, z6, z7, z8] [] M (fun v N => v = none ∧ N = rv_do M wq f g (rq_fst (fun i => rv_op M wq f i || rv_cl M wq f i) n i)) := by
  intro n
  have h16 := hq.2.1
  induction n with
  | zero =>
    intro i z4 z5 z6 z7 z8 hi
    obtain rfl : i = wq.length := by omega
    refine kz_iload_n d_Mo_serve_55 rfl rfl ?_
    refine kz_aload_n d_Mo_serve_56 rfl rfl ?_
    refine kz_getIp fd_Mo_134 rfl rfl (Or.inl rfl) d_Mo_serve_57 rfl ?_
    refine kz_topi hq.1 ?_
    refine kz_icmp_ge (tgt := 238) d_Mo_serve_60 (by decide) rfl (fun h60 => ?_) (fun h60 => ?_)
    · exact kz_vret rfl d_Mo_serve_238 (⟨rfl, rfl⟩)
    · exact absurd (Int32.le_refl _) h60
  | succ n ih =>
    intro i z4 z5 z6 z7 z8 hi
    obtain ⟨y, hy⟩ : ∃ y, wq[i]? = some y := ⟨_, List.getElem?_eq_getElem (by omega)⟩
    have hi16 : vp_in (nI i) 16 := rq_in (n := wq.length) (by omega) h16
    have hcl : (nI i).toNatClampNeg = i := nI_clamp (by omega)
    obtain ⟨hy4, hya, hyw⟩ := hq.2.2.2 y (List.mem_of_getElem? hy)
    have hb4 : vp_in (ck_bank (M.1 9 y.toNatClampNeg)) 4 := ck_bank_in hya
    have hgd : wq.getD i 0 = y := by rw [List.getD_eq_getElem?_getD, hy]; rfl
    have hr : M.1 17 (nI i).toNatClampNeg = kz_ib (f i) := by rw [hcl]; exact hf i (by omega)
    have hop : rv_op M wq f i = (f i && (decide (M.1 4 (ck_bank (M.1 9 y.toNatClampNeg)).toNatClampNeg = -1) && rr_mayAct M (ck_bank (M.1 9 y.toNatClampNeg)).toNatClampNeg)) := by unfold rv_op rv_b; rw [hgd]; rfl
    have hcz : rv_cl M wq f i = (f i && (!decide (M.1 4 (ck_bank (M.1 9 y.toNatClampNeg)).toNatClampNeg = -1) && (!decide (M.1 4 (ck_bank (M.1 9 y.toNatClampNeg)).toNatClampNeg = ck_row (M.1 9 y.toNatClampNeg)) && (!rq_an (rq_wt M wq f (ck_bank (M.1 9 y.toNatClampNeg))) wq.length 0 && rr_mayPre M (ck_bank (M.1 9 y.toNatClampNeg)).toNatClampNeg)))) := by unfold rv_cl rv_b; rw [hgd]; rfl
    have hdo : rv_do M wq f g (some i) = if rv_op M wq f i = true then rr_act M g (ck_bank (M.1 9 y.toNatClampNeg)) (ck_row (M.1 9 y.toNatClampNeg)) else rr_pre M g (ck_bank (M.1 9 y.toNatClampNeg)) := by show (if _ then _ else _) = _; unfold rv_b; rw [hgd]; rfl
    have on : ∀ z4 z5 z6 z7 z8, rv_op M wq f i = false → rv_cl M wq f i = false → kz_G l sR m_Mo_serve 55 [some (.ref 0), some (.int a1), some (.int 1), some (.int (nI (i + 1))), z4, z5, z6, z7, z8] [] M (fun v N => v = none ∧ N = rv_do M wq f g (rq_fst (fun i => rv_op M wq f i || rv_cl M wq f i) (n + 1) i)) := fun z4 z5 z6 z7 z8 h1 h2 => by
      have h := ih (i + 1) z4 z5 z6 z7 z8 (by omega)
      rw [rq_fst, if_neg (by rw [h1, h2]; decide)]
      exact h
    have of : ∀ z4 z5 z6 z7 z8 (x : Int32) (N : kz_M), (rv_op M wq f i || rv_cl M wq f i) = true → N = rv_do M wq f g (some i) → kz_G l sR m_Mo_serve 55 [some (.ref 0), some (.int a1), some (.int 0), some (.int x), z4, z5, z6, z7, z8] [] N (fun v N => v = none ∧ N = rv_do M wq f g (rq_fst (fun i => rv_op M wq f i || rv_cl M wq f i) (n + 1) i)) := fun z4 z5 z6 z7 z8 x N h1 h2 => by
      refine lp_rsve l ⟨rfl, ?_⟩
      rw [rq_fst, if_pos h1]
      exact h2
    refine kz_iload_n d_Mo_serve_55 rfl rfl ?_
    refine kz_aload_n d_Mo_serve_56 rfl rfl ?_
    refine kz_getIp fd_Mo_134 rfl rfl (Or.inl rfl) d_Mo_serve_57 rfl ?_
    refine kz_topi hq.1 ?_
    refine kz_icmp_ge (tgt := 238) d_Mo_serve_60 (by decide) rfl (fun h60 => ?_) (fun h60 => ?_)
    · exact absurd h60 (nI_ge (by omega) (by omega))
    · refine kz_iload_n d_Mo_serve_63 rfl rfl ?_
      refine kz_if_eq (tgt := 238) d_Mo_serve_64 (by decide) rfl (fun h => absurd h (by decide)) (fun _ => ?_)
      refine kz_aload_n d_Mo_serve_67 rfl rfl ?_
      refine kz_getR fd_Mo_44 rfl rfl rfl d_Mo_serve_68 rfl ?_
      refine kz_aload_n d_Mo_serve_71 rfl rfl ?_
      refine kz_getR fd_Mo_62 rfl rfl rfl d_Mo_serve_72 rfl ?_
      refine kz_iload_n d_Mo_serve_75 rfl rfl ?_
      refine kz_ialdp rfl (by first | assumption | exact kz_vin (by decide)) rfl d_Mo_serve_76 rfl ?_
      refine kz_topi (rq_read hq hy) ?_
      refine kz_ialdp rfl (by first | assumption | exact kz_vin (by decide)) rfl d_Mo_serve_77 rfl ?_
      refine kz_istore d_Mo_serve_78 rfl (Nat.le_of_ble_eq_true rfl) rfl ?_
      refine kz_iload d_Mo_serve_80 rfl rfl ?_
      refine kz_callSi (c_Mo_bankAt l hya) cs_Mo_167 rfl ⟨by decide, by decide⟩ rfl (Nat.le_of_ble_eq_true rfl) d_Mo_serve_82 rfl ?_
      refine kz_istore d_Mo_serve_85 rfl (Nat.le_of_ble_eq_true rfl) rfl ?_
      refine kz_aload_n d_Mo_serve_87 rfl rfl ?_
      refine kz_getR fd_Mo_20 rfl rfl rfl d_Mo_serve_88 rfl ?_
      refine kz_iload d_Mo_serve_91 rfl rfl ?_
      refine kz_ialdp rfl (by first | assumption | exact kz_vin (by decide)) rfl d_Mo_serve_93 rfl ?_
      refine kz_iconst (v := -1) d_Mo_serve_94 (by decide) rfl ?_
      refine kz_icmp_ne (tgt := 102) d_Mo_serve_95 (by decide) rfl (fun h95 => ?_) (fun h95 => ?_)
      · refine kz_iconst (v := 0) d_Mo_serve_102 (by decide) rfl ?_
        refine kz_istore d_Mo_serve_103 rfl (Nat.le_of_ble_eq_true rfl) rfl ?_
        refine kz_aload_n d_Mo_serve_105 rfl rfl ?_
        refine kz_getR fd_Mo_68 rfl rfl rfl d_Mo_serve_106 rfl ?_
        refine kz_iload_n d_Mo_serve_109 rfl rfl ?_
        refine kz_zaldp rfl (by first | assumption | exact kz_vin (by decide)) rfl d_Mo_serve_110 rfl ?_
        refine kz_topi hr ?_
        refine kz_if_eqb (tgt := 132) d_Mo_serve_111 (by decide) rfl (fun h111 => ?_) (fun h111 => ?_)
        · refine kz_iconst (v := 0) d_Mo_serve_132 (by decide) rfl ?_
          refine kz_istore d_Mo_serve_133 rfl (Nat.le_of_ble_eq_true rfl) rfl ?_
          refine kz_aload_n d_Mo_serve_135 rfl rfl ?_
          refine kz_getR fd_Mo_68 rfl rfl rfl d_Mo_serve_136 rfl ?_
          refine kz_iload_n d_Mo_serve_139 rfl rfl ?_
          refine kz_zaldp rfl (by first | assumption | exact kz_vin (by decide)) rfl d_Mo_serve_140 rfl ?_
          refine kz_topi hr ?_
          refine kz_if_eqb (tgt := 186) d_Mo_serve_141 (by decide) rfl (fun h141 => ?_) (fun h141 => ?_)
          · refine kz_iconst (v := 0) d_Mo_serve_186 (by decide) rfl ?_
            refine kz_istore d_Mo_serve_187 rfl (Nat.le_of_ble_eq_true rfl) rfl ?_
            refine kz_iload d_Mo_serve_189 rfl rfl ?_
            refine kz_if_eq (tgt := 205) d_Mo_serve_191 (by decide) rfl (fun _ => ?_) (fun h => absurd h (by decide))
            refine kz_iload d_Mo_serve_205 rfl rfl ?_
            refine kz_if_eq (tgt := 216) d_Mo_serve_207 (by decide) rfl (fun _ => ?_) (fun h => absurd h (by decide))
            refine kz_iload d_Mo_serve_216 rfl rfl ?_
            refine kz_if_ne (tgt := 230) d_Mo_serve_218 (by decide) rfl (fun h => absurd h (by decide)) (fun _ => ?_)
            refine kz_iload d_Mo_serve_221 rfl rfl ?_
            refine kz_if_ne (tgt := 230) d_Mo_serve_223 (by decide) rfl (fun h => absurd h (by decide)) (fun _ => ?_)
            refine kz_iconst (v := 1) d_Mo_serve_226 (by decide) rfl ?_
            refine kz_goto (tgt := 231) d_Mo_serve_227 (by decide) ?_
            refine kz_istore_n (i := 2) d_Mo_serve_231 rfl rfl (Nat.le_of_ble_eq_true rfl) rfl ?_
            refine kz_iinc d_Mo_serve_232 rfl rfl (Nat.le_of_ble_eq_true rfl) (kz_inc i) rfl ?_
            refine kz_goto (tgt := 55) d_Mo_serve_235 (by decide) ?_
            first
              | exact absurd h111 (by rw [h141]; decide)
              | exact absurd h141 (by rw [h111]; decide)
              | exact on _ _ _ _ _ (by rw [hop, decide_eq_false h95]; simp) (by rw [hcz, decide_eq_true h161]; simp)
              | exact on _ _ _ _ _ (by rw [hop]; simp [*]) (by rw [hcz]; simp [*])
              | exact of _ _ _ _ _ _ _ (by rw [hop, hcz]; simp [*]) (by rw [hdo, hop]; simp [*])
          · refine kz_iload d_Mo_serve_144 rfl rfl ?_
            refine kz_if_ne (tgt := 186) d_Mo_serve_146 (by decide) rfl (fun h => absurd h (by decide)) (fun _ => ?_)
            refine kz_aload_n d_Mo_serve_149 rfl rfl ?_
            refine kz_getR fd_Mo_20 rfl rfl rfl d_Mo_serve_150 rfl ?_
            refine kz_iload d_Mo_serve_153 rfl rfl ?_
            refine kz_ialdp rfl (by first | assumption | exact kz_vin (by decide)) rfl d_Mo_serve_155 rfl ?_
            refine kz_iload d_Mo_serve_156 rfl rfl ?_
            refine kz_callSi (c_Mo_rowAt l hya) cs_Mo_203 rfl ⟨by decide, by decide⟩ rfl (Nat.le_of_ble_eq_true rfl) d_Mo_serve_158 rfl ?_
            refine kz_icmp_eq (tgt := 186) d_Mo_serve_161 (by decide) rfl (fun h161 => ?_) (fun h161 => ?_)
            · refine kz_iconst (v := 0) d_Mo_serve_186 (by decide) rfl ?_
              refine kz_istore d_Mo_serve_187 rfl (Nat.le_of_ble_eq_true rfl) rfl ?_
              refine kz_iload d_Mo_serve_189 rfl rfl ?_
              refine kz_if_eq (tgt := 205) d_Mo_serve_191 (by decide) rfl (fun _ => ?_) (fun h => absurd h (by decide))
              refine kz_iload d_Mo_serve_205 rfl rfl ?_
              refine kz_if_eq (tgt := 216) d_Mo_serve_207 (by decide) rfl (fun _ => ?_) (fun h => absurd h (by decide))
              refine kz_iload d_Mo_serve_216 rfl rfl ?_
              refine kz_if_ne (tgt := 230) d_Mo_serve_218 (by decide) rfl (fun h => absurd h (by decide)) (fun _ => ?_)
              refine kz_iload d_Mo_serve_221 rfl rfl ?_
              refine kz_if_ne (tgt := 230) d_Mo_serve_223 (by decide) rfl (fun h => absurd h (by decide)) (fun _ => ?_)
              refine kz_iconst (v := 1) d_Mo_serve_226 (by decide) rfl ?_
              refine kz_goto (tgt := 231) d_Mo_serve_227 (by decide) ?_
              refine kz_istore_n (i := 2) d_Mo_serve_231 rfl rfl (Nat.le_of_ble_eq_true rfl) rfl ?_
              refine kz_iinc d_Mo_serve_232 rfl rfl (Nat.le_of_ble_eq_true rfl) (kz_inc i) rfl ?_
              refine kz_goto (tgt := 55) d_Mo_serve_235 (by decide) ?_
              first
                | exact absurd h111 (by rw [h141]; decide)
                | exact absurd h141 (by rw [h111]; decide)
                | exact on _ _ _ _ _ (by rw [hop, decide_eq_false h95]; simp) (by rw [hcz, decide_eq_true h161]; simp)
                | exact on _ _ _ _ _ (by rw [hop]; simp [*]) (by rw [hcz]; simp [*])
                | exact of _ _ _ _ _ _ _ (by rw [hop, hcz]; simp [*]) (by rw [hdo, hop]; simp [*])
            · refine kz_aload_n d_Mo_serve_164 rfl rfl ?_
              refine kz_iload d_Mo_serve_165 rfl rfl ?_
              refine kz_callVi (c_Mo_isWanted l hq hf hb4) cv_Mo_233 rfl rfl rfl ⟨by decide, by decide⟩ rfl (Nat.le_of_ble_eq_true rfl) d_Mo_serve_167 rfl ?_
              refine kz_if_neb (tgt := 186) d_Mo_serve_170 (by decide) rfl (fun h170 => ?_) (fun h170 => ?_)
              · refine kz_iconst (v := 0) d_Mo_serve_186 (by decide) rfl ?_
                refine kz_istore d_Mo_serve_187 rfl (Nat.le_of_ble_eq_true rfl) rfl ?_
                refine kz_iload d_Mo_serve_189 rfl rfl ?_
                refine kz_if_eq (tgt := 205) d_Mo_serve_191 (by decide) rfl (fun _ => ?_) (fun h => absurd h (by decide))
                refine kz_iload d_Mo_serve_205 rfl rfl ?_
                refine kz_if_eq (tgt := 216) d_Mo_serve_207 (by decide) rfl (fun _ => ?_) (fun h => absurd h (by decide))
                refine kz_iload d_Mo_serve_216 rfl rfl ?_
                refine kz_if_ne (tgt := 230) d_Mo_serve_218 (by decide) rfl (fun h => absurd h (by decide)) (fun _ => ?_)
                refine kz_iload d_Mo_serve_221 rfl rfl ?_
                refine kz_if_ne (tgt := 230) d_Mo_serve_223 (by decide) rfl (fun h => absurd h (by decide)) (fun _ => ?_)
                refine kz_iconst (v := 1) d_Mo_serve_226 (by decide) rfl ?_
                refine kz_goto (tgt := 231) d_Mo_serve_227 (by decide) ?_
                refine kz_istore_n (i := 2) d_Mo_serve_231 rfl rfl (Nat.le_of_ble_eq_true rfl) rfl ?_
                refine kz_iinc d_Mo_serve_232 rfl rfl (Nat.le_of_ble_eq_true rfl) (kz_inc i) rfl ?_
                refine kz_goto (tgt := 55) d_Mo_serve_235 (by decide) ?_
                first
                  | exact absurd h111 (by rw [h141]; decide)
                  | exact absurd h141 (by rw [h111]; decide)
                  | exact on _ _ _ _ _ (by rw [hop, decide_eq_false h95]; simp) (by rw [hcz, decide_eq_true h161]; simp)
                  | exact on _ _ _ _ _ (by rw [hop]; simp [*]) (by rw [hcz]; simp [*])
                  | exact of _ _ _ _ _ _ _ (by rw [hop, hcz]; simp [*]) (by rw [hdo, hop]; simp [*])
              · refine kz_aload_n d_Mo_serve_173 rfl rfl ?_
                refine kz_iload d_Mo_serve_174 rfl rfl ?_
                refine kz_callVi (c_Mo_mayPrecharge l hb4) cv_Mo_180 rfl rfl rfl ⟨by decide, by decide⟩ rfl (Nat.le_of_ble_eq_true rfl) d_Mo_serve_176 rfl ?_
                refine kz_if_eqb (tgt := 186) d_Mo_serve_179 (by decide) rfl (fun h179 => ?_) (fun h179 => ?_)
                · refine kz_iconst (v := 0) d_Mo_serve_186 (by decide) rfl ?_
                  refine kz_istore d_Mo_serve_187 rfl (Nat.le_of_ble_eq_true rfl) rfl ?_
                  refine kz_iload d_Mo_serve_189 rfl rfl ?_
                  refine kz_if_eq (tgt := 205) d_Mo_serve_191 (by decide) rfl (fun _ => ?_) (fun h => absurd h (by decide))
                  refine kz_iload d_Mo_serve_205 rfl rfl ?_
                  refine kz_if_eq (tgt := 216) d_Mo_serve_207 (by decide) rfl (fun _ => ?_) (fun h => absurd h (by decide))
                  refine kz_iload d_Mo_serve_216 rfl rfl ?_
                  refine kz_if_ne (tgt := 230) d_Mo_serve_218 (by decide) rfl (fun h => absurd h (by decide)) (fun _ => ?_)
                  refine kz_iload d_Mo_serve_221 rfl rfl ?_
                  refine kz_if_ne (tgt := 230) d_Mo_serve_223 (by decide) rfl (fun h => absurd h (by decide)) (fun _ => ?_)
                  refine kz_iconst (v := 1) d_Mo_serve_226 (by decide) rfl ?_
                  refine kz_goto (tgt := 231) d_Mo_serve_227 (by decide) ?_
                  refine kz_istore_n (i := 2) d_Mo_serve_231 rfl rfl (Nat.le_of_ble_eq_true rfl) rfl ?_
                  refine kz_iinc d_Mo_serve_232 rfl rfl (Nat.le_of_ble_eq_true rfl) (kz_inc i) rfl ?_
                  refine kz_goto (tgt := 55) d_Mo_serve_235 (by decide) ?_
                  first
                    | exact absurd h111 (by rw [h141]; decide)
                    | exact absurd h141 (by rw [h111]; decide)
                    | exact on _ _ _ _ _ (by rw [hop, decide_eq_false h95]; simp) (by rw [hcz, decide_eq_true h161]; simp)
                    | exact on _ _ _ _ _ (by rw [hop]; simp [*]) (by rw [hcz]; simp [*])
                    | exact of _ _ _ _ _ _ _ (by rw [hop, hcz]; simp [*]) (by rw [hdo, hop]; simp [*])
                · refine kz_iconst (v := 1) d_Mo_serve_182 (by decide) rfl ?_
                  refine kz_goto (tgt := 187) d_Mo_serve_183 (by decide) ?_
                  refine kz_istore d_Mo_serve_187 rfl (Nat.le_of_ble_eq_true rfl) rfl ?_
                  refine kz_iload d_Mo_serve_189 rfl rfl ?_
                  refine kz_if_eq (tgt := 205) d_Mo_serve_191 (by decide) rfl (fun _ => ?_) (fun h => absurd h (by decide))
                  refine kz_iload d_Mo_serve_205 rfl rfl ?_
                  refine kz_if_eq (tgt := 216) d_Mo_serve_207 (by decide) rfl (fun h => absurd h (by decide)) (fun _ => ?_)
                  refine kz_aload_n d_Mo_serve_210 rfl rfl ?_
                  refine kz_iload d_Mo_serve_211 rfl rfl ?_
                  refine kz_callVv (c_Mo_precharge l hb4 hg hge) cv_Mo_193 rfl rfl rfl ⟨by decide, by decide⟩ rfl (Nat.le_of_ble_eq_true rfl) d_Mo_serve_213 rfl ?_
                  refine kz_eta ?_
                  refine kz_iload d_Mo_serve_216 rfl rfl ?_
                  refine kz_if_ne (tgt := 230) d_Mo_serve_218 (by decide) rfl (fun h => absurd h (by decide)) (fun _ => ?_)
                  refine kz_iload d_Mo_serve_221 rfl rfl ?_
                  refine kz_if_ne (tgt := 230) d_Mo_serve_223 (by decide) rfl (fun _ => ?_) (fun h => absurd h (by decide))
                  refine kz_iconst (v := 0) d_Mo_serve_230 (by decide) rfl ?_
                  refine kz_istore_n (i := 2) d_Mo_serve_231 rfl rfl (Nat.le_of_ble_eq_true rfl) rfl ?_
                  refine kz_iinc d_Mo_serve_232 rfl rfl (Nat.le_of_ble_eq_true rfl) (kz_inc i) rfl ?_
                  refine kz_goto (tgt := 55) d_Mo_serve_235 (by decide) ?_
                  first
                    | exact absurd h111 (by rw [h141]; decide)
                    | exact absurd h141 (by rw [h111]; decide)
                    | exact on _ _ _ _ _ (by rw [hop, decide_eq_false h95]; simp) (by rw [hcz, decide_eq_true h161]; simp)
                    | exact on _ _ _ _ _ (by rw [hop]; simp [*]) (by rw [hcz]; simp [*])
                    | exact of _ _ _ _ _ _ _ (by rw [hop, hcz]; simp [*]) (by rw [hdo, hop]; simp [*])
        · refine kz_iload d_Mo_serve_114 rfl rfl ?_
          refine kz_if_eq (tgt := 132) d_Mo_serve_116 (by decide) rfl (fun _ => ?_) (fun h => absurd h (by decide))
          refine kz_iconst (v := 0) d_Mo_serve_132 (by decide) rfl ?_
          refine kz_istore d_Mo_serve_133 rfl (Nat.le_of_ble_eq_true rfl) rfl ?_
          refine kz_aload_n d_Mo_serve_135 rfl rfl ?_
          refine kz_getR fd_Mo_68 rfl rfl rfl d_Mo_serve_136 rfl ?_
          refine kz_iload_n d_Mo_serve_139 rfl rfl ?_
          refine kz_zaldp rfl (by first | assumption | exact kz_vin (by decide)) rfl d_Mo_serve_140 rfl ?_
          refine kz_topi hr ?_
          refine kz_if_eqb (tgt := 186) d_Mo_serve_141 (by decide) rfl (fun h141 => ?_) (fun h141 => ?_)
          · refine kz_iconst (v := 0) d_Mo_serve_186 (by decide) rfl ?_
            refine kz_istore d_Mo_serve_187 rfl (Nat.le_of_ble_eq_true rfl) rfl ?_
            refine kz_iload d_Mo_serve_189 rfl rfl ?_
            refine kz_if_eq (tgt := 205) d_Mo_serve_191 (by decide) rfl (fun _ => ?_) (fun h => absurd h (by decide))
            refine kz_iload d_Mo_serve_205 rfl rfl ?_
            refine kz_if_eq (tgt := 216) d_Mo_serve_207 (by decide) rfl (fun _ => ?_) (fun h => absurd h (by decide))
            refine kz_iload d_Mo_serve_216 rfl rfl ?_
            refine kz_if_ne (tgt := 230) d_Mo_serve_218 (by decide) rfl (fun h => absurd h (by decide)) (fun _ => ?_)
            refine kz_iload d_Mo_serve_221 rfl rfl ?_
            refine kz_if_ne (tgt := 230) d_Mo_serve_223 (by decide) rfl (fun h => absurd h (by decide)) (fun _ => ?_)
            refine kz_iconst (v := 1) d_Mo_serve_226 (by decide) rfl ?_
            refine kz_goto (tgt := 231) d_Mo_serve_227 (by decide) ?_
            refine kz_istore_n (i := 2) d_Mo_serve_231 rfl rfl (Nat.le_of_ble_eq_true rfl) rfl ?_
            refine kz_iinc d_Mo_serve_232 rfl rfl (Nat.le_of_ble_eq_true rfl) (kz_inc i) rfl ?_
            refine kz_goto (tgt := 55) d_Mo_serve_235 (by decide) ?_
            first
              | exact absurd h111 (by rw [h141]; decide)
              | exact absurd h141 (by rw [h111]; decide)
              | exact on _ _ _ _ _ (by rw [hop, decide_eq_false h95]; simp) (by rw [hcz, decide_eq_true h161]; simp)
              | exact on _ _ _ _ _ (by rw [hop]; simp [*]) (by rw [hcz]; simp [*])
              | exact of _ _ _ _ _ _ _ (by rw [hop, hcz]; simp [*]) (by rw [hdo, hop]; simp [*])
          · refine kz_iload d_Mo_serve_144 rfl rfl ?_
            refine kz_if_ne (tgt := 186) d_Mo_serve_146 (by decide) rfl (fun h => absurd h (by decide)) (fun _ => ?_)
            refine kz_aload_n d_Mo_serve_149 rfl rfl ?_
            refine kz_getR fd_Mo_20 rfl rfl rfl d_Mo_serve_150 rfl ?_
            refine kz_iload d_Mo_serve_153 rfl rfl ?_
            refine kz_ialdp rfl (by first | assumption | exact kz_vin (by decide)) rfl d_Mo_serve_155 rfl ?_
            refine kz_iload d_Mo_serve_156 rfl rfl ?_
            refine kz_callSi (c_Mo_rowAt l hya) cs_Mo_203 rfl ⟨by decide, by decide⟩ rfl (Nat.le_of_ble_eq_true rfl) d_Mo_serve_158 rfl ?_
            refine kz_icmp_eq (tgt := 186) d_Mo_serve_161 (by decide) rfl (fun h161 => ?_) (fun h161 => ?_)
            · refine kz_iconst (v := 0) d_Mo_serve_186 (by decide) rfl ?_
              refine kz_istore d_Mo_serve_187 rfl (Nat.le_of_ble_eq_true rfl) rfl ?_
              refine kz_iload d_Mo_serve_189 rfl rfl ?_
              refine kz_if_eq (tgt := 205) d_Mo_serve_191 (by decide) rfl (fun _ => ?_) (fun h => absurd h (by decide))
              refine kz_iload d_Mo_serve_205 rfl rfl ?_
              refine kz_if_eq (tgt := 216) d_Mo_serve_207 (by decide) rfl (fun _ => ?_) (fun h => absurd h (by decide))
              refine kz_iload d_Mo_serve_216 rfl rfl ?_
              refine kz_if_ne (tgt := 230) d_Mo_serve_218 (by decide) rfl (fun h => absurd h (by decide)) (fun _ => ?_)
              refine kz_iload d_Mo_serve_221 rfl rfl ?_
              refine kz_if_ne (tgt := 230) d_Mo_serve_223 (by decide) rfl (fun h => absurd h (by decide)) (fun _ => ?_)
              refine kz_iconst (v := 1) d_Mo_serve_226 (by decide) rfl ?_
              refine kz_goto (tgt := 231) d_Mo_serve_227 (by decide) ?_
              refine kz_istore_n (i := 2) d_Mo_serve_231 rfl rfl (Nat.le_of_ble_eq_true rfl) rfl ?_
              refine kz_iinc d_Mo_serve_232 rfl rfl (Nat.le_of_ble_eq_true rfl) (kz_inc i) rfl ?_
              refine kz_goto (tgt := 55) d_Mo_serve_235 (by decide) ?_
              first
                | exact absurd h111 (by rw [h141]; decide)
                | exact absurd h141 (by rw [h111]; decide)
                | exact on _ _ _ _ _ (by rw [hop, decide_eq_false h95]; simp) (by rw [hcz, decide_eq_true h161]; simp)
                | exact on _ _ _ _ _ (by rw [hop]; simp [*]) (by rw [hcz]; simp [*])
                | exact of _ _ _ _ _ _ _ (by rw [hop, hcz]; simp [*]) (by rw [hdo, hop]; simp [*])
            · refine kz_aload_n d_Mo_serve_164 rfl rfl ?_
              refine kz_iload d_Mo_serve_165 rfl rfl ?_
              refine kz_callVi (c_Mo_isWanted l hq hf hb4) cv_Mo_233 rfl rfl rfl ⟨by decide, by decide⟩ rfl (Nat.le_of_ble_eq_true rfl) d_Mo_serve_167 rfl ?_
              refine kz_if_neb (tgt := 186) d_Mo_serve_170 (by decide) rfl (fun h170 => ?_) (fun h170 => ?_)
              · refine kz_iconst (v := 0) d_Mo_serve_186 (by decide) rfl ?_
                refine kz_istore d_Mo_serve_187 rfl (Nat.le_of_ble_eq_true rfl) rfl ?_
                refine kz_iload d_Mo_serve_189 rfl rfl ?_
                refine kz_if_eq (tgt := 205) d_Mo_serve_191 (by decide) rfl (fun _ => ?_) (fun h => absurd h (by decide))
                refine kz_iload d_Mo_serve_205 rfl rfl ?_
                refine kz_if_eq (tgt := 216) d_Mo_serve_207 (by decide) rfl (fun _ => ?_) (fun h => absurd h (by decide))
                refine kz_iload d_Mo_serve_216 rfl rfl ?_
                refine kz_if_ne (tgt := 230) d_Mo_serve_218 (by decide) rfl (fun h => absurd h (by decide)) (fun _ => ?_)
                refine kz_iload d_Mo_serve_221 rfl rfl ?_
                refine kz_if_ne (tgt := 230) d_Mo_serve_223 (by decide) rfl (fun h => absurd h (by decide)) (fun _ => ?_)
                refine kz_iconst (v := 1) d_Mo_serve_226 (by decide) rfl ?_
                refine kz_goto (tgt := 231) d_Mo_serve_227 (by decide) ?_
                refine kz_istore_n (i := 2) d_Mo_serve_231 rfl rfl (Nat.le_of_ble_eq_true rfl) rfl ?_
                refine kz_iinc d_Mo_serve_232 rfl rfl (Nat.le_of_ble_eq_true rfl) (kz_inc i) rfl ?_
                refine kz_goto (tgt := 55) d_Mo_serve_235 (by decide) ?_
                first
                  | exact absurd h111 (by rw [h141]; decide)
                  | exact absurd h141 (by rw [h111]; decide)
                  | exact on _ _ _ _ _ (by rw [hop, decide_eq_false h95]; simp) (by rw [hcz, decide_eq_true h161]; simp)
                  | exact on _ _ _ _ _ (by rw [hop]; simp [*]) (by rw [hcz]; simp [*])
                  | exact of _ _ _ _ _ _ _ (by rw [hop, hcz]; simp [*]) (by rw [hdo, hop]; simp [*])
              · refine kz_aload_n d_Mo_serve_173 rfl rfl ?_
                refine kz_iload d_Mo_serve_174 rfl rfl ?_
                refine kz_callVi (c_Mo_mayPrecharge l hb4) cv_Mo_180 rfl rfl rfl ⟨by decide, by decide⟩ rfl (Nat.le_of_ble_eq_true rfl) d_Mo_serve_176 rfl ?_
                refine kz_if_eqb (tgt := 186) d_Mo_serve_179 (by decide) rfl (fun h179 => ?_) (fun h179 => ?_)
                · refine kz_iconst (v := 0) d_Mo_serve_186 (by decide) rfl ?_
                  refine kz_istore d_Mo_serve_187 rfl (Nat.le_of_ble_eq_true rfl) rfl ?_
                  refine kz_iload d_Mo_serve_189 rfl rfl ?_
                  refine kz_if_eq (tgt := 205) d_Mo_serve_191 (by decide) rfl (fun _ => ?_) (fun h => absurd h (by decide))
                  refine kz_iload d_Mo_serve_205 rfl rfl ?_
                  refine kz_if_eq (tgt := 216) d_Mo_serve_207 (by decide) rfl (fun _ => ?_) (fun h => absurd h (by decide))
                  refine kz_iload d_Mo_serve_216 rfl rfl ?_
                  refine kz_if_ne (tgt := 230) d_Mo_serve_218 (by decide) rfl (fun h => absurd h (by decide)) (fun _ => ?_)
                  refine kz_iload d_Mo_serve_221 rfl rfl ?_
                  refine kz_if_ne (tgt := 230) d_Mo_serve_223 (by decide) rfl (fun h => absurd h (by decide)) (fun _ => ?_)
                  refine kz_iconst (v := 1) d_Mo_serve_226 (by decide) rfl ?_
                  refine kz_goto (tgt := 231) d_Mo_serve_227 (by decide) ?_
                  refine kz_istore_n (i := 2) d_Mo_serve_231 rfl rfl (Nat.le_of_ble_eq_true rfl) rfl ?_
                  refine kz_iinc d_Mo_serve_232 rfl rfl (Nat.le_of_ble_eq_true rfl) (kz_inc i) rfl ?_
                  refine kz_goto (tgt := 55) d_Mo_serve_235 (by decide) ?_
                  first
                    | exact absurd h111 (by rw [h141]; decide)
                    | exact absurd h141 (by rw [h111]; decide)
                    | exact on _ _ _ _ _ (by rw [hop, decide_eq_false h95]; simp) (by rw [hcz, decide_eq_true h161]; simp)
                    | exact on _ _ _ _ _ (by rw [hop]; simp [*]) (by rw [hcz]; simp [*])
                    | exact of _ _ _ _ _ _ _ (by rw [hop, hcz]; simp [*]) (by rw [hdo, hop]; simp [*])
                · refine kz_iconst (v := 1) d_Mo_serve_182 (by decide) rfl ?_
                  refine kz_goto (tgt := 187) d_Mo_serve_183 (by decide) ?_
                  refine kz_istore d_Mo_serve_187 rfl (Nat.le_of_ble_eq_true rfl) rfl ?_
                  refine kz_iload d_Mo_serve_189 rfl rfl ?_
                  refine kz_if_eq (tgt := 205) d_Mo_serve_191 (by decide) rfl (fun _ => ?_) (fun h => absurd h (by decide))
                  refine kz_iload d_Mo_serve_205 rfl rfl ?_
                  refine kz_if_eq (tgt := 216) d_Mo_serve_207 (by decide) rfl (fun h => absurd h (by decide)) (fun _ => ?_)
                  refine kz_aload_n d_Mo_serve_210 rfl rfl ?_
                  refine kz_iload d_Mo_serve_211 rfl rfl ?_
                  refine kz_callVv (c_Mo_precharge l hb4 hg hge) cv_Mo_193 rfl rfl rfl ⟨by decide, by decide⟩ rfl (Nat.le_of_ble_eq_true rfl) d_Mo_serve_213 rfl ?_
                  refine kz_eta ?_
                  refine kz_iload d_Mo_serve_216 rfl rfl ?_
                  refine kz_if_ne (tgt := 230) d_Mo_serve_218 (by decide) rfl (fun h => absurd h (by decide)) (fun _ => ?_)
                  refine kz_iload d_Mo_serve_221 rfl rfl ?_
                  refine kz_if_ne (tgt := 230) d_Mo_serve_223 (by decide) rfl (fun _ => ?_) (fun h => absurd h (by decide))
                  refine kz_iconst (v := 0) d_Mo_serve_230 (by decide) rfl ?_
                  refine kz_istore_n (i := 2) d_Mo_serve_231 rfl rfl (Nat.le_of_ble_eq_true rfl) rfl ?_
                  refine kz_iinc d_Mo_serve_232 rfl rfl (Nat.le_of_ble_eq_true rfl) (kz_inc i) rfl ?_
                  refine kz_goto (tgt := 55) d_Mo_serve_235 (by decide) ?_
                  first
                    | exact absurd h111 (by rw [h141]; decide)
                    | exact absurd h141 (by rw [h111]; decide)
                    | exact on _ _ _ _ _ (by rw [hop, decide_eq_false h95]; simp) (by rw [hcz, decide_eq_true h161]; simp)
                    | exact on _ _ _ _ _ (by rw [hop]; simp [*]) (by rw [hcz]; simp [*])
                    | exact of _ _ _ _ _ _ _ (by rw [hop, hcz]; simp [*]) (by rw [hdo, hop]; simp [*])
      · refine kz_iconst (v := 1) d_Mo_serve_98 (by decide) rfl ?_
        refine kz_goto (tgt := 103) d_Mo_serve_99 (by decide) ?_
        refine kz_istore d_Mo_serve_103 rfl (Nat.le_of_ble_eq_true rfl) rfl ?_
        refine kz_aload_n d_Mo_serve_105 rfl rfl ?_
        refine kz_getR fd_Mo_68 rfl rfl rfl d_Mo_serve_106 rfl ?_
        refine kz_iload_n d_Mo_serve_109 rfl rfl ?_
        refine kz_zaldp rfl (by first | assumption | exact kz_vin (by decide)) rfl d_Mo_serve_110 rfl ?_
        refine kz_topi hr ?_
        refine kz_if_eqb (tgt := 132) d_Mo_serve_111 (by decide) rfl (fun h111 => ?_) (fun h111 => ?_)
        · refine kz_iconst (v := 0) d_Mo_serve_132 (by decide) rfl ?_
          refine kz_istore d_Mo_serve_133 rfl (Nat.le_of_ble_eq_true rfl) rfl ?_
          refine kz_aload_n d_Mo_serve_135 rfl rfl ?_
          refine kz_getR fd_Mo_68 rfl rfl rfl d_Mo_serve_136 rfl ?_
          refine kz_iload_n d_Mo_serve_139 rfl rfl ?_
          refine kz_zaldp rfl (by first | assumption | exact kz_vin (by decide)) rfl d_Mo_serve_140 rfl ?_
          refine kz_topi hr ?_
          refine kz_if_eqb (tgt := 186) d_Mo_serve_141 (by decide) rfl (fun h141 => ?_) (fun h141 => ?_)
          · refine kz_iconst (v := 0) d_Mo_serve_186 (by decide) rfl ?_
            refine kz_istore d_Mo_serve_187 rfl (Nat.le_of_ble_eq_true rfl) rfl ?_
            refine kz_iload d_Mo_serve_189 rfl rfl ?_
            refine kz_if_eq (tgt := 205) d_Mo_serve_191 (by decide) rfl (fun _ => ?_) (fun h => absurd h (by decide))
            refine kz_iload d_Mo_serve_205 rfl rfl ?_
            refine kz_if_eq (tgt := 216) d_Mo_serve_207 (by decide) rfl (fun _ => ?_) (fun h => absurd h (by decide))
            refine kz_iload d_Mo_serve_216 rfl rfl ?_
            refine kz_if_ne (tgt := 230) d_Mo_serve_218 (by decide) rfl (fun h => absurd h (by decide)) (fun _ => ?_)
            refine kz_iload d_Mo_serve_221 rfl rfl ?_
            refine kz_if_ne (tgt := 230) d_Mo_serve_223 (by decide) rfl (fun h => absurd h (by decide)) (fun _ => ?_)
            refine kz_iconst (v := 1) d_Mo_serve_226 (by decide) rfl ?_
            refine kz_goto (tgt := 231) d_Mo_serve_227 (by decide) ?_
            refine kz_istore_n (i := 2) d_Mo_serve_231 rfl rfl (Nat.le_of_ble_eq_true rfl) rfl ?_
            refine kz_iinc d_Mo_serve_232 rfl rfl (Nat.le_of_ble_eq_true rfl) (kz_inc i) rfl ?_
            refine kz_goto (tgt := 55) d_Mo_serve_235 (by decide) ?_
            first
              | exact absurd h111 (by rw [h141]; decide)
              | exact absurd h141 (by rw [h111]; decide)
              | exact on _ _ _ _ _ (by rw [hop, decide_eq_false h95]; simp) (by rw [hcz, decide_eq_true h161]; simp)
              | exact on _ _ _ _ _ (by rw [hop]; simp [*]) (by rw [hcz]; simp [*])
              | exact of _ _ _ _ _ _ _ (by rw [hop, hcz]; simp [*]) (by rw [hdo, hop]; simp [*])
          · refine kz_iload d_Mo_serve_144 rfl rfl ?_
            refine kz_if_ne (tgt := 186) d_Mo_serve_146 (by decide) rfl (fun _ => ?_) (fun h => absurd h (by decide))
            refine kz_iconst (v := 0) d_Mo_serve_186 (by decide) rfl ?_
            refine kz_istore d_Mo_serve_187 rfl (Nat.le_of_ble_eq_true rfl) rfl ?_
            refine kz_iload d_Mo_serve_189 rfl rfl ?_
            refine kz_if_eq (tgt := 205) d_Mo_serve_191 (by decide) rfl (fun _ => ?_) (fun h => absurd h (by decide))
            refine kz_iload d_Mo_serve_205 rfl rfl ?_
            refine kz_if_eq (tgt := 216) d_Mo_serve_207 (by decide) rfl (fun _ => ?_) (fun h => absurd h (by decide))
            refine kz_iload d_Mo_serve_216 rfl rfl ?_
            refine kz_if_ne (tgt := 230) d_Mo_serve_218 (by decide) rfl (fun h => absurd h (by decide)) (fun _ => ?_)
            refine kz_iload d_Mo_serve_221 rfl rfl ?_
            refine kz_if_ne (tgt := 230) d_Mo_serve_223 (by decide) rfl (fun h => absurd h (by decide)) (fun _ => ?_)
            refine kz_iconst (v := 1) d_Mo_serve_226 (by decide) rfl ?_
            refine kz_goto (tgt := 231) d_Mo_serve_227 (by decide) ?_
            refine kz_istore_n (i := 2) d_Mo_serve_231 rfl rfl (Nat.le_of_ble_eq_true rfl) rfl ?_
            refine kz_iinc d_Mo_serve_232 rfl rfl (Nat.le_of_ble_eq_true rfl) (kz_inc i) rfl ?_
            refine kz_goto (tgt := 55) d_Mo_serve_235 (by decide) ?_
            first
              | exact absurd h111 (by rw [h141]; decide)
              | exact absurd h141 (by rw [h111]; decide)
              | exact on _ _ _ _ _ (by rw [hop, decide_eq_false h95]; simp) (by rw [hcz, decide_eq_true h161]; simp)
              | exact on _ _ _ _ _ (by rw [hop]; simp [*]) (by rw [hcz]; simp [*])
              | exact of _ _ _ _ _ _ _ (by rw [hop, hcz]; simp [*]) (by rw [hdo, hop]; simp [*])
        · refine kz_iload d_Mo_serve_114 rfl rfl ?_
          refine kz_if_eq (tgt := 132) d_Mo_serve_116 (by decide) rfl (fun h => absurd h (by decide)) (fun _ => ?_)
          refine kz_aload_n d_Mo_serve_119 rfl rfl ?_
          refine kz_iload d_Mo_serve_120 rfl rfl ?_
          refine kz_callVi (c_Mo_mayActivate l hb4) cv_Mo_230 rfl rfl rfl ⟨by decide, by decide⟩ rfl (Nat.le_of_ble_eq_true rfl) d_Mo_serve_122 rfl ?_
          refine kz_if_eqb (tgt := 132) d_Mo_serve_125 (by decide) rfl (fun h125 => ?_) (fun h125 => ?_)
          · refine kz_iconst (v := 0) d_Mo_serve_132 (by decide) rfl ?_
            refine kz_istore d_Mo_serve_133 rfl (Nat.le_of_ble_eq_true rfl) rfl ?_
            refine kz_aload_n d_Mo_serve_135 rfl rfl ?_
            refine kz_getR fd_Mo_68 rfl rfl rfl d_Mo_serve_136 rfl ?_
            refine kz_iload_n d_Mo_serve_139 rfl rfl ?_
            refine kz_zaldp rfl (by first | assumption | exact kz_vin (by decide)) rfl d_Mo_serve_140 rfl ?_
            refine kz_topi hr ?_
            refine kz_if_eqb (tgt := 186) d_Mo_serve_141 (by decide) rfl (fun h141 => ?_) (fun h141 => ?_)
            · refine kz_iconst (v := 0) d_Mo_serve_186 (by decide) rfl ?_
              refine kz_istore d_Mo_serve_187 rfl (Nat.le_of_ble_eq_true rfl) rfl ?_
              refine kz_iload d_Mo_serve_189 rfl rfl ?_
              refine kz_if_eq (tgt := 205) d_Mo_serve_191 (by decide) rfl (fun _ => ?_) (fun h => absurd h (by decide))
              refine kz_iload d_Mo_serve_205 rfl rfl ?_
              refine kz_if_eq (tgt := 216) d_Mo_serve_207 (by decide) rfl (fun _ => ?_) (fun h => absurd h (by decide))
              refine kz_iload d_Mo_serve_216 rfl rfl ?_
              refine kz_if_ne (tgt := 230) d_Mo_serve_218 (by decide) rfl (fun h => absurd h (by decide)) (fun _ => ?_)
              refine kz_iload d_Mo_serve_221 rfl rfl ?_
              refine kz_if_ne (tgt := 230) d_Mo_serve_223 (by decide) rfl (fun h => absurd h (by decide)) (fun _ => ?_)
              refine kz_iconst (v := 1) d_Mo_serve_226 (by decide) rfl ?_
              refine kz_goto (tgt := 231) d_Mo_serve_227 (by decide) ?_
              refine kz_istore_n (i := 2) d_Mo_serve_231 rfl rfl (Nat.le_of_ble_eq_true rfl) rfl ?_
              refine kz_iinc d_Mo_serve_232 rfl rfl (Nat.le_of_ble_eq_true rfl) (kz_inc i) rfl ?_
              refine kz_goto (tgt := 55) d_Mo_serve_235 (by decide) ?_
              first
                | exact absurd h111 (by rw [h141]; decide)
                | exact absurd h141 (by rw [h111]; decide)
                | exact on _ _ _ _ _ (by rw [hop, decide_eq_false h95]; simp) (by rw [hcz, decide_eq_true h161]; simp)
                | exact on _ _ _ _ _ (by rw [hop]; simp [*]) (by rw [hcz]; simp [*])
                | exact of _ _ _ _ _ _ _ (by rw [hop, hcz]; simp [*]) (by rw [hdo, hop]; simp [*])
            · refine kz_iload d_Mo_serve_144 rfl rfl ?_
              refine kz_if_ne (tgt := 186) d_Mo_serve_146 (by decide) rfl (fun _ => ?_) (fun h => absurd h (by decide))
              refine kz_iconst (v := 0) d_Mo_serve_186 (by decide) rfl ?_
              refine kz_istore d_Mo_serve_187 rfl (Nat.le_of_ble_eq_true rfl) rfl ?_
              refine kz_iload d_Mo_serve_189 rfl rfl ?_
              refine kz_if_eq (tgt := 205) d_Mo_serve_191 (by decide) rfl (fun _ => ?_) (fun h => absurd h (by decide))
              refine kz_iload d_Mo_serve_205 rfl rfl ?_
              refine kz_if_eq (tgt := 216) d_Mo_serve_207 (by decide) rfl (fun _ => ?_) (fun h => absurd h (by decide))
              refine kz_iload d_Mo_serve_216 rfl rfl ?_
              refine kz_if_ne (tgt := 230) d_Mo_serve_218 (by decide) rfl (fun h => absurd h (by decide)) (fun _ => ?_)
              refine kz_iload d_Mo_serve_221 rfl rfl ?_
              refine kz_if_ne (tgt := 230) d_Mo_serve_223 (by decide) rfl (fun h => absurd h (by decide)) (fun _ => ?_)
              refine kz_iconst (v := 1) d_Mo_serve_226 (by decide) rfl ?_
              refine kz_goto (tgt := 231) d_Mo_serve_227 (by decide) ?_
              refine kz_istore_n (i := 2) d_Mo_serve_231 rfl rfl (Nat.le_of_ble_eq_true rfl) rfl ?_
              refine kz_iinc d_Mo_serve_232 rfl rfl (Nat.le_of_ble_eq_true rfl) (kz_inc i) rfl ?_
              refine kz_goto (tgt := 55) d_Mo_serve_235 (by decide) ?_
              first
                | exact absurd h111 (by rw [h141]; decide)
                | exact absurd h141 (by rw [h111]; decide)
                | exact on _ _ _ _ _ (by rw [hop, decide_eq_false h95]; simp) (by rw [hcz, decide_eq_true h161]; simp)
                | exact on _ _ _ _ _ (by rw [hop]; simp [*]) (by rw [hcz]; simp [*])
                | exact of _ _ _ _ _ _ _ (by rw [hop, hcz]; simp [*]) (by rw [hdo, hop]; simp [*])
          · refine kz_iconst (v := 1) d_Mo_serve_128 (by decide) rfl ?_
            refine kz_goto (tgt := 133) d_Mo_serve_129 (by decide) ?_
            refine kz_istore d_Mo_serve_133 rfl (Nat.le_of_ble_eq_true rfl) rfl ?_
            refine kz_aload_n d_Mo_serve_135 rfl rfl ?_
            refine kz_getR fd_Mo_68 rfl rfl rfl d_Mo_serve_136 rfl ?_
            refine kz_iload_n d_Mo_serve_139 rfl rfl ?_
            refine kz_zaldp rfl (by first | assumption | exact kz_vin (by decide)) rfl d_Mo_serve_140 rfl ?_
            refine kz_topi hr ?_
            refine kz_if_eqb (tgt := 186) d_Mo_serve_141 (by decide) rfl (fun h141 => ?_) (fun h141 => ?_)
            · refine kz_iconst (v := 0) d_Mo_serve_186 (by decide) rfl ?_
              refine kz_istore d_Mo_serve_187 rfl (Nat.le_of_ble_eq_true rfl) rfl ?_
              refine kz_iload d_Mo_serve_189 rfl rfl ?_
              refine kz_if_eq (tgt := 205) d_Mo_serve_191 (by decide) rfl (fun h => absurd h (by decide)) (fun _ => ?_)
              refine kz_aload_n d_Mo_serve_194 rfl rfl ?_
              refine kz_iload d_Mo_serve_195 rfl rfl ?_
              refine kz_iload d_Mo_serve_197 rfl rfl ?_
              refine kz_callSi (c_Mo_rowAt l hya) cs_Mo_203 rfl ⟨by decide, by decide⟩ rfl (Nat.le_of_ble_eq_true rfl) d_Mo_serve_199 rfl ?_
              refine kz_callVv (c_Mo_activate l hb4 hg hge) cv_Mo_236 rfl rfl rfl ⟨by decide, by decide⟩ rfl (Nat.le_of_ble_eq_true rfl) d_Mo_serve_202 rfl ?_
              refine kz_eta ?_
              refine kz_iload d_Mo_serve_205 rfl rfl ?_
              refine kz_if_eq (tgt := 216) d_Mo_serve_207 (by decide) rfl (fun _ => ?_) (fun h => absurd h (by decide))
              refine kz_iload d_Mo_serve_216 rfl rfl ?_
              refine kz_if_ne (tgt := 230) d_Mo_serve_218 (by decide) rfl (fun _ => ?_) (fun h => absurd h (by decide))
              refine kz_iconst (v := 0) d_Mo_serve_230 (by decide) rfl ?_
              refine kz_istore_n (i := 2) d_Mo_serve_231 rfl rfl (Nat.le_of_ble_eq_true rfl) rfl ?_
              refine kz_iinc d_Mo_serve_232 rfl rfl (Nat.le_of_ble_eq_true rfl) (kz_inc i) rfl ?_
              refine kz_goto (tgt := 55) d_Mo_serve_235 (by decide) ?_
              first
                | exact absurd h111 (by rw [h141]; decide)
                | exact absurd h141 (by rw [h111]; decide)
                | exact on _ _ _ _ _ (by rw [hop, decide_eq_false h95]; simp) (by rw [hcz, decide_eq_true h161]; simp)
                | exact on _ _ _ _ _ (by rw [hop]; simp [*]) (by rw [hcz]; simp [*])
                | exact of _ _ _ _ _ _ _ (by rw [hop, hcz]; simp [*]) (by rw [hdo, hop]; simp [*])
            · refine kz_iload d_Mo_serve_144 rfl rfl ?_
              refine kz_if_ne (tgt := 186) d_Mo_serve_146 (by decide) rfl (fun _ => ?_) (fun h => absurd h (by decide))
              refine kz_iconst (v := 0) d_Mo_serve_186 (by decide) rfl ?_
              refine kz_istore d_Mo_serve_187 rfl (Nat.le_of_ble_eq_true rfl) rfl ?_
              refine kz_iload d_Mo_serve_189 rfl rfl ?_
              refine kz_if_eq (tgt := 205) d_Mo_serve_191 (by decide) rfl (fun h => absurd h (by decide)) (fun _ => ?_)
              refine kz_aload_n d_Mo_serve_194 rfl rfl ?_
              refine kz_iload d_Mo_serve_195 rfl rfl ?_
              refine kz_iload d_Mo_serve_197 rfl rfl ?_
              refine kz_callSi (c_Mo_rowAt l hya) cs_Mo_203 rfl ⟨by decide, by decide⟩ rfl (Nat.le_of_ble_eq_true rfl) d_Mo_serve_199 rfl ?_
              refine kz_callVv (c_Mo_activate l hb4 hg hge) cv_Mo_236 rfl rfl rfl ⟨by decide, by decide⟩ rfl (Nat.le_of_ble_eq_true rfl) d_Mo_serve_202 rfl ?_
              refine kz_eta ?_
              refine kz_iload d_Mo_serve_205 rfl rfl ?_
              refine kz_if_eq (tgt := 216) d_Mo_serve_207 (by decide) rfl (fun _ => ?_) (fun h => absurd h (by decide))
              refine kz_iload d_Mo_serve_216 rfl rfl ?_
              refine kz_if_ne (tgt := 230) d_Mo_serve_218 (by decide) rfl (fun _ => ?_) (fun h => absurd h (by decide))
              refine kz_iconst (v := 0) d_Mo_serve_230 (by decide) rfl ?_
              refine kz_istore_n (i := 2) d_Mo_serve_231 rfl rfl (Nat.le_of_ble_eq_true rfl) rfl ?_
              refine kz_iinc d_Mo_serve_232 rfl rfl (Nat.le_of_ble_eq_true rfl) (kz_inc i) rfl ?_
              refine kz_goto (tgt := 55) d_Mo_serve_235 (by decide) ?_
              first
                | exact absurd h111 (by rw [h141]; decide)
                | exact absurd h141 (by rw [h111]; decide)
                | exact on _ _ _ _ _ (by rw [hop, decide_eq_false h95]; simp) (by rw [hcz, decide_eq_true h161]; simp)
                | exact on _ _ _ _ _ (by rw [hop]; simp [*]) (by rw [hcz]; simp [*])
                | exact of _ _ _ _ _ _ _ (by rw [hop, hcz]; simp [*]) (by rw [hdo, hop]; simp [*])
