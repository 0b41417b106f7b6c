/-! RopeThreadsModel: the calls -/
theorem inR_f {x y : Int32} {k : Nat} (hy : y = nI k) (hk : k ≤ 5) (h : inK x 0 (y - 1) = false) : x < 0 ∨ nI k ≤ x := by
  subst hy
  rcases pk_ix x (n := k) (by omega) with q | q | ⟨i, hi, rfl⟩
  · exact Or.inl q
  · exact Or.inr q
  · exfalso
    have h2 := of_decide_eq_false h
    rw [nI_m1 (by omega)] at h2
    exact h2 ⟨nI_pos' (by omega), nI_le (by omega) (by omega)⟩
theorem inR_t {x y : Int32} {k : Nat} (hy : y = nI k) (hk : k ≤ 5) (h : inK x 0 (y - 1) = true) : ∃ i, x = nI i ∧ i < k := by
  subst hy
  have h2 := of_decide_eq_true h
  rcases pk_ix x (n := k) (by omega) with q | q | ⟨i, hi, rfl⟩
  · exact absurd q (Int32.not_lt.mpr h2.1)
  · exfalso
    rcases Nat.eq_zero_or_pos k with z | z
    · subst z
      exact absurd (Int32.le_trans h2.1 h2.2) (by decide)
    · rw [nI_m1 z] at h2
      exact absurd (Int32.le_trans q h2.2) (nI_ge (by omega) (by omega))
  · exact ⟨i, rfl, hi⟩
theorem inG_f {x a b : Int32} (h : inK x a b = false) : x < a ∨ ¬ x ≤ b := by
  have h2 := of_decide_eq_false h
  by_cases q : x < a
  · exact Or.inl q
  · exact Or.inr fun z => h2 ⟨Int32.not_lt.mp q, z⟩
theorem inG_t {x a b : Int32} (h : inK x a b = true) : ¬ x < a ∧ x ≤ b := by
  have h2 := of_decide_eq_true h
  exact ⟨Int32.not_lt.mpr h2.1, h2.2⟩
