theorem x_rng (x : Int32) : (x < 1 ∨ 24 < x) ∨ ∃ j : Nat, 1 ≤ j ∧ j ≤ 24 ∧ x = nI j := by
  by_cases h1 : x < 1
  · exact Or.inl (Or.inl h1)
  · by_cases h2 : 24 < x
    · exact Or.inl (Or.inr h2)
    · right
      have h0 : ¬ x < 0 := fun h => h1 (Int32.lt_trans h (by decide))
      obtain ⟨j, hj, rfl⟩ := nI_of h0
      refine ⟨j, ?_, ?_, rfl⟩
      · rcases Nat.lt_or_ge j 1 with q | q
        · exact absurd (nI_lt (a := j) (b := 1) q (by decide)) h1
        · exact q
      · rcases Nat.lt_or_ge 24 j with q | q
        · exact absurd (nI_lt (a := 24) (b := j) q hj) h2
        · exact q
theorem x_rng2 (x : Int32) : (x < 1 ∨ 24 < x) ∨ (¬ x < 1 ∧ ¬ 24 < x) := by
  by_cases h1 : x < 1
  · exact Or.inl (Or.inl h1)
  · by_cases h2 : 24 < x
    · exact Or.inl (Or.inr h2)
    · exact Or.inr ⟨h1, h2⟩
theorem x_three (x : Int32) : x = 0 ∨ x = 1 ∨ (¬ x = 0 ∧ ¬ x = 1) := by
  by_cases h1 : x = 0
  · exact Or.inl h1
  · by_cases h2 : x = 1
    · exact Or.inr (Or.inl h2)
    · exact Or.inr (Or.inr ⟨h1, h2⟩)
