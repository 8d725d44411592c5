/-! The relation of class and reference: the lowest bank that may be closed. -/
theorem sB_low {t : Nat} {M R : kz_M} (hT : sT M R) (hK : ∀ b, b < 4 → sK t M R b) (hm : M.1 0 9 = nI t) (hn : R.1 0 2 = nI t) (ht : t ≤ 200000) : ∀ (k b : Nat), b + k = 4 → co_low M k b = rq_fst (rr_mayPre R) k b
  | 0, _, _ => rfl
  | k + 1, b, h => by
    rw [co_low, rq_fst, hm, sB_pre hT (hK b (by omega)) (by omega) hn ht, sB_low hT hK hm hn ht k (b + 1) (by omega)]
