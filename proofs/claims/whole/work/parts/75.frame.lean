/-! The relation of class and reference: the banks, whole; what it speaks of. -/
def sB (t : Nat) (M R : kz_M) : Prop := sT M R ∧ (∀ b, b < 4 → sK t M R b) ∧ sA t M R ∧ sL t M R ∧ sU t M R
theorem sB_fr {t : Nat} {M R N S : kz_M} (h : sB t M R) (hM : ∀ k, 1 ≤ k → k ≤ 8 → N.1 k = M.1 k) (h1 : S.1 1 = R.1 1) (hR : ∀ k, 4 ≤ k → k ≤ 7 → S.1 k = R.1 k) (h16 : S.1 0 16 = R.1 0 16) (h17 : S.1 0 17 = R.1 0 17) : sB t N S := by
  unfold sB sT sK sA sL sU at *
  rw [hM 1 (by decide) (by decide), hM 2 (by decide) (by decide), hM 3 (by decide) (by decide), hM 4 (by decide) (by decide), hM 5 (by decide) (by decide), hM 6 (by decide) (by decide), hM 7 (by decide) (by decide), hM 8 (by decide) (by decide), h1, hR 4 (by decide) (by decide), hR 5 (by decide) (by decide), hR 6 (by decide) (by decide), hR 7 (by decide) (by decide), h16, h17]
  exact h
theorem sB_up {t : Nat} {M R : kz_M} (h : sB t M R) : sB (t + 1) M R := by
  obtain ⟨h1, h2, ⟨a1, a2, a3, a4⟩, ⟨x, y, l1, l2, l3⟩, h5⟩ := h
  refine ⟨h1, fun b hb => ?_, ⟨st_mono a1 (by omega), fun i hi => st_mono (a2 i hi) (by omega), st_mono a3 (by omega), st_mono a4 (by omega)⟩, ⟨x, y, l1, st_mono l2 (by omega), ?_⟩, ?_⟩
  · obtain ⟨k1, k2, k3, k4, k5, k6⟩ := h2 b hb
    exact ⟨k1, k2, st_mono k3 (by omega), st_mono k4 (by omega), st_mono k5 (by omega), st_mono k6 (by omega)⟩
  · rcases l3 with z | ⟨a, z1, c, z2, z3, z4⟩
    · exact Or.inl z
    · exact Or.inr ⟨a, z1, c, z2, z3, by omega⟩
  · rcases h5 with z | ⟨v, w, z1, z2⟩
    · exact Or.inl z
    · exact Or.inr ⟨v, w, by omega, z2⟩
