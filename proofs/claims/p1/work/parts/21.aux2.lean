theorem x_bad {x : Int32} (h : x < 1 ∨ 24 < x) (c : ¬ x < 1) : ¬ x ≤ 24 := by
  rcases h with h | h
  · exact absurd h c
  · exact Int32.not_le.mpr h
theorem x_n01 {x : Int32} (c : ¬ x < 0) (h0 : ¬ x = 0) (h1 : ¬ x = 1) : ¬ x < 2 := by
  intro h
  have t0 := x_ne h0 (z := 0) rfl
  have t1 := x_ne h1 (z := 1) rfl
  have a := Int32.lt_iff_toInt_lt.mp h
  have b := mt Int32.lt_iff_toInt_lt.mpr c
  have e2 : (2 : Int32).toInt = 2 := rfl
  have e0 : (0 : Int32).toInt = 0 := rfl
  omega
theorem x_n01b {x : Int32} (c : ¬ x < 0) (h0 : ¬ x = 0) (h1 : ¬ x = 1) : (2 : Int32) ≤ x := Int32.not_lt.mp (x_n01 c h0 h1)
theorem x_em (x : Int32) : x < 0 ∨ -1 < x := by
  rw [Int32.lt_iff_toInt_lt, Int32.lt_iff_toInt_lt]
  have e0 : (0 : Int32).toInt = 0 := rfl
  have e1 : (-1 : Int32).toInt = -1 := rfl
  omega
theorem x_ge1 {x : Int32} (c : ¬ x < 0) (h0 : ¬ x = 0) : ¬ x < 1 := by
  intro h
  have t0 := x_ne h0 (z := 0) rfl
  have a := Int32.lt_iff_toInt_lt.mp h
  have b := mt Int32.lt_iff_toInt_lt.mpr c
  have e2 : (1 : Int32).toInt = 1 := rfl
  have e0 : (0 : Int32).toInt = 0 := rfl
  omega
theorem x_n01c {x : Int32} (h0 : ¬ x = 0) (h1 : ¬ x = 1) : x < 0 ∨ 1 < x := by
  rw [Int32.lt_iff_toInt_lt, Int32.lt_iff_toInt_lt]
  have t0 := x_ne h0 (z := 0) rfl
  have t1 := x_ne h1 (z := 1) rfl
  have e0 : (0 : Int32).toInt = 0 := rfl
  have e1 : (1 : Int32).toInt = 1 := rfl
  omega
