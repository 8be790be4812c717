/-! numbers compared -/
theorem qx_rng {x : Int32} {a b : Nat} (hab : a ≤ b) (hb : b < 2 ^ 31) (h : nI a ≤ x ∧ x ≤ nI b) : ∃ k, x = nI k ∧ a ≤ k ∧ k ≤ b := by
  obtain ⟨h1, h2⟩ := h
  have p0 : ¬ x < 0 := by
    intro z
    have z1 := Int32.lt_iff_toInt_lt.1 z
    have z2 := Int32.le_iff_toInt_le.1 h1
    rw [nI_toInt (by omega)] at z2
    have z3 : (0 : Int32).toInt = 0 := by decide
    omega
  obtain ⟨j, hj, rfl⟩ := nI_of p0
  exact ⟨j, rfl, (nI_leI (by omega) hj).1 h1, (nI_leI hj hb).1 h2⟩
