theorem okP_x {K : Nat → Int64} {pe : Nat} {p : Int32} (h4 : K 4 = lN pe) (hpe : pe ≤ 10) : okP K p ↔ ∃ i, i < pe ∧ p = nI i := by
  constructor
  · rintro ⟨h1, h2⟩
    rw [h4] at h2
    rcases Nat.eq_zero_or_pos pe with e | e
    · subst e
      exact absurd (Int64.le_trans h1 h2) (by decide)
    · rw [show lN pe - 1 = lN (pe - 1) from lN_sub (b := 1) (by omega)] at h2
      obtain ⟨i, hi, rfl⟩ := jix2 (n := pe - 1) (by omega) h1 h2
      exact ⟨i, by omega, rfl⟩
  · rintro ⟨i, hi, rfl⟩
    show (0 : Int64) ≤ (nI i).toInt64 ∧ (nI i).toInt64 ≤ K 4 - 1
    rw [h4, show lN pe - 1 = lN (pe - 1) from lN_sub (b := 1) (by omega), nI_l (by omega)]
    exact ⟨(pk_lLE (a := 0) (by omega) (by omega)).mpr (by omega), (pk_lLE (by omega) (by omega)).mpr (by omega)⟩
theorem hasP_x {pe : Nat} {p : Int32} (hpe : pe ≤ 10) : (¬ p < 0 ∧ p < nI pe) ↔ ∃ i, i < pe ∧ p = nI i := by
  constructor
  · rintro ⟨h1, h2⟩
    obtain ⟨i, hi, rfl⟩ := nI_of h1
    exact ⟨i, (nI_ltI hi (by omega)).mp h2, rfl⟩
  · rintro ⟨i, hi, rfl⟩
    exact ⟨nI_nneg (by omega), nI_lt hi (by omega)⟩
