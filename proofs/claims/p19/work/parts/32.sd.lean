/-! lines: where they end, what they keep -/
theorem tkX_ge (b : Int → Int) (n m p : Int) : p ≤ tkX b n m p := by
  have h1 := sc_ge (blB b) n p
  have h2 := sc_ge (wdB b) n (tkS b n p)
  have e : tkS b n p = sc (blB b) n p := rfl
  unfold tkX tkQ
  split
  · omega
  split
  · omega
  split <;> omega
theorem tkX_gt {b : Int → Int} {n m p : Int} (h : 2 ≤ tkK b n m p) : p < tkX b n m p := by
  have h1 := sc_ge (blB b) n p
  have h2 := sc_ge (wdB b) n (tkS b n p + 1)
  have e : tkS b n p = sc (blB b) n p := rfl
  unfold tkK at h
  unfold tkX
  by_cases c1 : m < n ∧ m ≤ tkS b n p
  · rw [if_pos c1] at h
    omega
  · rw [if_neg c1] at h
    rw [if_neg c1]
    by_cases c2 : n ≤ tkS b n p
    · rw [if_pos c2] at h
      omega
    · rw [if_neg c2]
      by_cases c3 : (97 ≤ b (tkS b n p) ∧ b (tkS b n p) ≤ 122) ∨ (48 ≤ b (tkS b n p) ∧ b (tkS b n p) ≤ 57)
      · rw [if_pos c3]
        have h3 := sc_step (P := wdB b) (n := n) (p := tkS b n p) (by omega) (wdB_t c3)
        unfold tkQ
        omega
      · rw [if_neg c3]
        omega
theorem lnSlide_x {b : Int → Int} {n m : Int} {s : Nat → Int} {p0 p1 q1 q2 q3 q4 q5 : Int} (h : (lnSlide b n m s p0 p1 q1 q2 q3 q4 q5).1 = 0) : (s 0 ≠ 6) ∧ (tkK b n m p1 = 2) ∧ (lnSlide b n m s p0 p1 q1 q2 q3 q4 q5).2.2 = (tkX b n m q5, upI (upI s (70 + (s 0).toNat) (tkW b n p1)) 0 (s 0 + 1)) := by
  unfold lnSlide at h ⊢
  by_cases c0 : s 0 = 6
  · rw [if_pos c0] at h
    exact absurd h (show ¬ ((4 : Int) = 0) by decide)
  rw [if_neg c0] at h ⊢
  by_cases c1 : ¬ (tkK b n m p1 = 2 ∧ kyN (tkW b n p1) = -1)
  · rw [if_pos c1] at h
    exact absurd h (show ¬ ((1 : Int) = 0) by decide)
  rw [if_neg c1] at h ⊢
  by_cases c2 : ¬ (sF s (tkW b n p1) = -1 ∧ hF s (tkW b n p1) = -1)
  · rw [if_pos c2] at h
    exact absurd h (show ¬ ((3 : Int) = 0) by decide)
  rw [if_neg c2] at h ⊢
  by_cases c3 : nf b n m q1 0 15 ≠ 0
  · rw [if_pos c3] at h
    exact absurd h c3
  rw [if_neg c3] at h ⊢
  by_cases c4 : nf b n m q2 0 15 ≠ 0
  · rw [if_pos c4] at h
    exact absurd h c4
  rw [if_neg c4] at h ⊢
  by_cases c5 : nf b n m q3 0 15 ≠ 0
  · rw [if_pos c5] at h
    exact absurd h c5
  rw [if_neg c5] at h ⊢
  by_cases c6 : nf b n m q4 0 15 ≠ 0
  · rw [if_pos c6] at h
    exact absurd h c6
  rw [if_neg c6] at h ⊢
  by_cases c7 : nf b n m q5 1 20 ≠ 0
  · rw [if_pos c7] at h
    exact absurd h c7
  rw [if_neg c7] at h ⊢
  exact ⟨c0, (by omega), rfl⟩
theorem lnHearer_x {b : Int → Int} {n m : Int} {s : Nat → Int} {p0 p1 p2 q1 : Int} (h : (lnHearer b n m s p0 p1 p2 q1).1 = 0) : (s 1 ≠ 8) ∧ (tkK b n m p1 = 2) ∧ (lnHearer b n m s p0 p1 p2 q1).2.2 = (tkX b n m q1, upI (upI s (76 + (s 1).toNat) (tkW b n p1)) 1 (s 1 + 1)) := by
  unfold lnHearer at h ⊢
  by_cases c0 : s 1 = 8
  · rw [if_pos c0] at h
    exact absurd h (show ¬ ((4 : Int) = 0) by decide)
  rw [if_neg c0] at h ⊢
  by_cases c1 : ¬ (tkK b n m p1 = 2 ∧ kyN (tkW b n p1) = -1)
  · rw [if_pos c1] at h
    exact absurd h (show ¬ ((1 : Int) = 0) by decide)
  rw [if_neg c1] at h ⊢
  by_cases c2 : ¬ (sF s (tkW b n p1) = -1 ∧ hF s (tkW b n p1) = -1)
  · rw [if_pos c2] at h
    exact absurd h (show ¬ ((3 : Int) = 0) by decide)
  rw [if_neg c2] at h ⊢
  by_cases c3 : ¬ (tkK b n m p2 = 2 ∧ (kyN (tkW b n p2) = 9 ∨ kyN (tkW b n p2) = 10))
  · rw [if_pos c3] at h
    exact absurd h (show ¬ ((1 : Int) = 0) by decide)
  rw [if_neg c3] at h ⊢
  by_cases c4 : nf b n m q1 0 16 ≠ 0
  · rw [if_pos c4] at h
    exact absurd h c4
  rw [if_neg c4] at h ⊢
  exact ⟨c0, (by omega), rfl⟩
theorem lnThinks_x {b : Int → Int} {n m : Int} {s : Nat → Int} {p1 q1 q2 : Int} {row : Nat} (h : (lnThinks b n m s row p1 q1 q2).1 = 0) : (hF s (tkW b n p1) ≠ -1) ∧ (lnThinks b n m s row p1 q1 q2).2.2 = (tkX b n m q2, upI s (row + (hF s (tkW b n p1)).toNat) (orI (s (row + (hF s (tkW b n p1)).toNat)) (tkN b n q1 + 4 * tkN b n q2))) := by
  unfold lnThinks at h ⊢
  by_cases c0 : ¬ (tkK b n m p1 = 2 ∧ kyN (tkW b n p1) = -1)
  · rw [if_pos c0] at h
    exact absurd h (show ¬ ((1 : Int) = 0) by decide)
  rw [if_neg c0] at h ⊢
  by_cases c1 : hF s (tkW b n p1) = -1
  · rw [if_pos c1] at h
    exact absurd h (show ¬ ((3 : Int) = 0) by decide)
  rw [if_neg c1] at h ⊢
  by_cases c2 : nf b n m q1 0 3 ≠ 0
  · rw [if_pos c2] at h
    exact absurd h c2
  rw [if_neg c2] at h ⊢
  by_cases c3 : nf b n m q2 0 3 ≠ 0
  · rw [if_pos c3] at h
    exact absurd h c3
  rw [if_neg c3] at h ⊢
  by_cases c4 : (Int32.ofInt (s (40 + (hF s (tkW b n p1)).toNat)) ||| Int32.ofInt (s (48 + (hF s (tkW b n p1)).toNat))).toBitVec.getLsbD (tkN b n q1 + 4 * tkN b n q2).toNat = true
  · rw [if_pos c4] at h
    exact absurd h (show ¬ ((3 : Int) = 0) by decide)
  rw [if_neg c4] at h ⊢
  exact ⟨c1, rfl⟩
theorem lnNear_x {b : Int → Int} {n m : Int} {s : Nat → Int} {p0 p1 p2 : Int} (h : (lnNear b n m s p0 p1 p2).1 = 0) : (s 2 ≠ 12) ∧ (hF s (tkW b n p1) ≠ -1) ∧ (hF s (tkW b n p2) ≠ -1) ∧ (lnNear b n m s p0 p1 p2).2.2 = (tkX b n m p2, upI (upI (upI s (56 + (hF s (tkW b n p1)).toNat) (orI (s (56 + (hF s (tkW b n p1)).toNat)) (hF s (tkW b n p2)))) (56 + (hF s (tkW b n p2)).toNat) (orI (s (56 + (hF s (tkW b n p2)).toNat)) (hF s (tkW b n p1)))) 2 (s 2 + 1)) := by
  unfold lnNear at h ⊢
  by_cases c0 : s 2 = 12
  · rw [if_pos c0] at h
    exact absurd h (show ¬ ((4 : Int) = 0) by decide)
  rw [if_neg c0] at h ⊢
  by_cases c1 : ¬ (tkK b n m p1 = 2 ∧ kyN (tkW b n p1) = -1)
  · rw [if_pos c1] at h
    exact absurd h (show ¬ ((1 : Int) = 0) by decide)
  rw [if_neg c1] at h ⊢
  by_cases c2 : hF s (tkW b n p1) = -1
  · rw [if_pos c2] at h
    exact absurd h (show ¬ ((3 : Int) = 0) by decide)
  rw [if_neg c2] at h ⊢
  by_cases c3 : ¬ (tkK b n m p2 = 2 ∧ kyN (tkW b n p2) = -1)
  · rw [if_pos c3] at h
    exact absurd h (show ¬ ((1 : Int) = 0) by decide)
  rw [if_neg c3] at h ⊢
  by_cases c4 : hF s (tkW b n p2) = -1
  · rw [if_pos c4] at h
    exact absurd h (show ¬ ((3 : Int) = 0) by decide)
  rw [if_neg c4] at h ⊢
  by_cases c5 : hF s (tkW b n p1) = hF s (tkW b n p2)
  · rw [if_pos c5] at h
    exact absurd h (show ¬ ((3 : Int) = 0) by decide)
  rw [if_neg c5] at h ⊢
  by_cases c6 : bitI (s (56 + (hF s (tkW b n p1)).toNat)) (hF s (tkW b n p2))
  · rw [if_pos c6] at h
    exact absurd h (show ¬ ((3 : Int) = 0) by decide)
  rw [if_neg c6] at h ⊢
  exact ⟨c0, c2, c4, rfl⟩
theorem lnAfter_x {b : Int → Int} {n m : Int} {s : Nat → Int} {p1 p2 : Int} (h : (lnAfter b n m s p1 p2).1 = 0) : (sF s (tkW b n p1) ≠ -1) ∧ (sF s (tkW b n p2) ≠ -1) ∧ (lnAfter b n m s p1 p2).2.2 = (tkX b n m p2, upI s (18 + (sF s (tkW b n p1)).toNat) (sF s (tkW b n p2))) := by
  unfold lnAfter at h ⊢
  by_cases c0 : ¬ (tkK b n m p1 = 2 ∧ kyN (tkW b n p1) = -1)
  · rw [if_pos c0] at h
    exact absurd h (show ¬ ((1 : Int) = 0) by decide)
  rw [if_neg c0] at h ⊢
  by_cases c1 : sF s (tkW b n p1) = -1
  · rw [if_pos c1] at h
    exact absurd h (show ¬ ((3 : Int) = 0) by decide)
  rw [if_neg c1] at h ⊢
  by_cases c2 : s (18 + (sF s (tkW b n p1)).toNat) ≠ -1
  · rw [if_pos c2] at h
    exact absurd h (show ¬ ((3 : Int) = 0) by decide)
  rw [if_neg c2] at h ⊢
  by_cases c3 : ¬ (tkK b n m p2 = 2 ∧ kyN (tkW b n p2) = -1)
  · rw [if_pos c3] at h
    exact absurd h (show ¬ ((1 : Int) = 0) by decide)
  rw [if_neg c3] at h ⊢
  by_cases c4 : sF s (tkW b n p2) = -1
  · rw [if_pos c4] at h
    exact absurd h (show ¬ ((3 : Int) = 0) by decide)
  rw [if_neg c4] at h ⊢
  by_cases c5 : sF s (tkW b n p1) = sF s (tkW b n p2)
  · rw [if_pos c5] at h
    exact absurd h (show ¬ ((3 : Int) = 0) by decide)
  rw [if_neg c5] at h ⊢
  exact ⟨c1, c4, rfl⟩
theorem lnSet_x {b : Int → Int} {n m : Int} {s : Nat → Int} {lo hi p0 q1 : Int} {k : Nat} (h : (lnSet b n m s k lo hi p0 q1).1 = 0) : (lnSet b n m s k lo hi p0 q1).2.2 = (tkX b n m q1, upI (upI s (64 + k) 1) (3 + k) (tkN b n q1)) := by
  unfold lnSet at h ⊢
  by_cases c0 : s (64 + k) ≠ 0
  · rw [if_pos c0] at h
    exact absurd h (show ¬ ((3 : Int) = 0) by decide)
  rw [if_neg c0] at h ⊢
  by_cases c1 : nf b n m q1 lo hi ≠ 0
  · rw [if_pos c1] at h
    exact absurd h c1
  rw [if_neg c1] at h ⊢
  all_goals rfl
theorem sgI_slide {s : Nat → Int} {W : Int} (hg : sgI s) (h6 : s 0 ≠ 6) (h0 : 0 ≤ W) (h1 : W < 10460353203) : sgI (upI (upI s (70 + (s 0).toNat) W) 0 (s 0 + 1)) := by
  obtain ⟨g0, g1, g2, g3, g4, g5, g6, g7⟩ := hg
  refine ⟨?_, ?_, ?_, fun j hj => ?_, fun j hj => ?_, fun j hj hj2 => ?_, fun j hj hj2 => ?_, fun j hj => ?_⟩
  · rw [upI_eq]; omega
  · rw [upI_ne (j := 1) (by omega), upI_ne (j := 1) (by omega)]; exact g1
  · rw [upI_ne (j := 2) (by omega), upI_ne (j := 2) (by omega)]; exact g2
  · rw [upI_ne (j := 70 + j) (i := 0) (by omega)]; exact if e : 70 + j = 70 + (s 0).toNat then (by rw [e, upI_eq]; exact ⟨h0, h1⟩) else (by rw [upI_ne e]; exact g3 j hj)
  · rw [upI_ne (j := 18 + j) (by omega), upI_ne (j := 18 + j) (by omega)]; exact g4 j hj
  · rw [upI_eq] at hj; rw [upI_ne (j := 18 + j) (by omega), upI_ne (j := 18 + j) (by omega)]; exact g5 j (by omega) hj2
  · rw [upI_ne (j := 1) (by omega), upI_ne (j := 1) (by omega)] at hj; rw [upI_ne (j := 40 + j) (by omega), upI_ne (j := 40 + j) (by omega), upI_ne (j := 48 + j) (by omega), upI_ne (j := 48 + j) (by omega), upI_ne (j := 56 + j) (by omega), upI_ne (j := 56 + j) (by omega)]; exact g6 j hj hj2
  · rw [upI_ne (j := 64 + j) (by omega), upI_ne (j := 64 + j) (by omega)]; exact g7 j hj
theorem sgI_hearer {s : Nat → Int} {W : Int} (hg : sgI s) (h8 : s 1 ≠ 8) (h0 : 0 ≤ W) (h1 : W < 10460353203) : sgI (upI (upI s (76 + (s 1).toNat) W) 1 (s 1 + 1)) := by
  obtain ⟨g0, g1, g2, g3, g4, g5, g6, g7⟩ := hg
  refine ⟨?_, ?_, ?_, fun j hj => ?_, fun j hj => ?_, fun j hj hj2 => ?_, fun j hj hj2 => ?_, fun j hj => ?_⟩
  · rw [upI_ne (j := 0) (by omega), upI_ne (j := 0) (by omega)]; exact g0
  · rw [upI_eq]; omega
  · rw [upI_ne (j := 2) (by omega), upI_ne (j := 2) (by omega)]; exact g2
  · rw [upI_ne (j := 70 + j) (i := 1) (by omega)]; exact if e : 70 + j = 76 + (s 1).toNat then (by rw [e, upI_eq]; exact ⟨h0, h1⟩) else (by rw [upI_ne e]; exact g3 j hj)
  · rw [upI_ne (j := 18 + j) (by omega), upI_ne (j := 18 + j) (by omega)]; exact g4 j hj
  · rw [upI_ne (j := 0) (by omega), upI_ne (j := 0) (by omega)] at hj; rw [upI_ne (j := 18 + j) (by omega), upI_ne (j := 18 + j) (by omega)]; exact g5 j hj hj2
  · rw [upI_eq] at hj; rw [upI_ne (j := 40 + j) (by omega), upI_ne (j := 40 + j) (by omega), upI_ne (j := 48 + j) (by omega), upI_ne (j := 48 + j) (by omega), upI_ne (j := 56 + j) (by omega), upI_ne (j := 56 + j) (by omega)]; exact g6 j (by omega) hj2
  · rw [upI_ne (j := 64 + j) (by omega), upI_ne (j := 64 + j) (by omega)]; exact g7 j hj
theorem sgI_row {s : Nat → Int} {i : Nat} {v : Int} (hg : sgI s) (hi : (40 ≤ i ∧ (i : Int) < 40 + s 1) ∨ (48 ≤ i ∧ (i : Int) < 48 + s 1) ∨ (56 ≤ i ∧ (i : Int) < 56 + s 1)) : sgI (upI s i v) := by
  obtain ⟨g0, g1, g2, g3, g4, g5, g6, g7⟩ := hg
  refine ⟨?_, ?_, ?_, fun j hj => ?_, fun j hj => ?_, fun j hj hj2 => ?_, fun j hj hj2 => ?_, fun j hj => ?_⟩
  · rw [upI_ne (j := 0) (by omega)]; exact g0
  · rw [upI_ne (j := 1) (by omega)]; exact g1
  · rw [upI_ne (j := 2) (by omega)]; exact g2
  · rw [upI_ne (j := 70 + j) (by omega)]; exact g3 j hj
  · rw [upI_ne (j := 18 + j) (by omega)]; exact g4 j hj
  · rw [upI_ne (j := 0) (by omega)] at hj; rw [upI_ne (j := 18 + j) (by omega)]; exact g5 j hj hj2
  · rw [upI_ne (j := 1) (by omega)] at hj; rw [upI_ne (j := 40 + j) (by omega), upI_ne (j := 48 + j) (by omega), upI_ne (j := 56 + j) (by omega)]; exact g6 j hj hj2
  · rw [upI_ne (j := 64 + j) (by omega)]; exact g7 j hj
theorem sgI_aft {s : Nat → Int} {i : Nat} {v : Int} (hg : sgI s) (hi : (i : Int) < s 0) (hv : -1 ≤ v ∧ v ≤ 5) : sgI (upI s (18 + i) v) := by
  obtain ⟨g0, g1, g2, g3, g4, g5, g6, g7⟩ := hg
  refine ⟨?_, ?_, ?_, fun j hj => ?_, fun j hj => ?_, fun j hj hj2 => ?_, fun j hj hj2 => ?_, fun j hj => ?_⟩
  · rw [upI_ne (j := 0) (by omega)]; exact g0
  · rw [upI_ne (j := 1) (by omega)]; exact g1
  · rw [upI_ne (j := 2) (by omega)]; exact g2
  · rw [upI_ne (j := 70 + j) (by omega)]; exact g3 j hj
  · exact if e : 18 + j = 18 + i then (by rw [e, upI_eq]; exact hv) else (by rw [upI_ne e]; exact g4 j hj)
  · rw [upI_ne (j := 0) (by omega)] at hj; rw [upI_ne (j := 18 + j) (by omega)]; exact g5 j hj hj2
  · rw [upI_ne (j := 1) (by omega)] at hj; rw [upI_ne (j := 40 + j) (by omega), upI_ne (j := 48 + j) (by omega), upI_ne (j := 56 + j) (by omega)]; exact g6 j hj hj2
  · rw [upI_ne (j := 64 + j) (by omega)]; exact g7 j hj
theorem sgI_nr {s : Nat → Int} {v : Int} (hg : sgI s) (hv : 0 ≤ v ∧ v ≤ 12) : sgI (upI s 2 v) := by
  obtain ⟨g0, g1, g2, g3, g4, g5, g6, g7⟩ := hg
  refine ⟨?_, ?_, ?_, fun j hj => ?_, fun j hj => ?_, fun j hj hj2 => ?_, fun j hj hj2 => ?_, fun j hj => ?_⟩
  · rw [upI_ne (j := 0) (by omega)]; exact g0
  · rw [upI_ne (j := 1) (by omega)]; exact g1
  · rw [upI_eq]; exact hv
  · rw [upI_ne (j := 70 + j) (by omega)]; exact g3 j hj
  · rw [upI_ne (j := 18 + j) (by omega)]; exact g4 j hj
  · rw [upI_ne (j := 0) (by omega)] at hj; rw [upI_ne (j := 18 + j) (by omega)]; exact g5 j hj hj2
  · rw [upI_ne (j := 1) (by omega)] at hj; rw [upI_ne (j := 40 + j) (by omega), upI_ne (j := 48 + j) (by omega), upI_ne (j := 56 + j) (by omega)]; exact g6 j hj hj2
  · rw [upI_ne (j := 64 + j) (by omega)]; exact g7 j hj
theorem sgI_st {s : Nat → Int} {i : Nat} {v : Int} (hg : sgI s) (hi : i < 3) : sgI (upI (upI s (64 + i) 1) (3 + i) v) := by
  obtain ⟨g0, g1, g2, g3, g4, g5, g6, g7⟩ := hg
  refine ⟨?_, ?_, ?_, fun j hj => ?_, fun j hj => ?_, fun j hj hj2 => ?_, fun j hj hj2 => ?_, fun j hj => ?_⟩
  · rw [upI_ne (j := 0) (by omega), upI_ne (j := 0) (by omega)]; exact g0
  · rw [upI_ne (j := 1) (by omega), upI_ne (j := 1) (by omega)]; exact g1
  · rw [upI_ne (j := 2) (by omega), upI_ne (j := 2) (by omega)]; exact g2
  · rw [upI_ne (j := 70 + j) (by omega), upI_ne (j := 70 + j) (by omega)]; exact g3 j hj
  · rw [upI_ne (j := 18 + j) (by omega), upI_ne (j := 18 + j) (by omega)]; exact g4 j hj
  · rw [upI_ne (j := 0) (by omega), upI_ne (j := 0) (by omega)] at hj; rw [upI_ne (j := 18 + j) (by omega), upI_ne (j := 18 + j) (by omega)]; exact g5 j hj hj2
  · rw [upI_ne (j := 1) (by omega), upI_ne (j := 1) (by omega)] at hj; rw [upI_ne (j := 40 + j) (by omega), upI_ne (j := 40 + j) (by omega), upI_ne (j := 48 + j) (by omega), upI_ne (j := 48 + j) (by omega), upI_ne (j := 56 + j) (by omega), upI_ne (j := 56 + j) (by omega)]; exact g6 j hj hj2
  · rw [upI_ne (j := 64 + j) (i := 3 + i) (by omega)]; exact if e : 64 + j = 64 + i then (by rw [e, upI_eq]; exact Or.inr rfl) else (by rw [upI_ne e]; exact g7 j hj)
theorem lnAny_x {b : Int → Int} {n m : Int} {s : Nat → Int} {p : Int} (hg : sgI s) (h : (lnAny b n m s p).1 = 0) : sgI (lnAny b n m s p).2.2.2 ∧ p < (lnAny b n m s p).2.2.1 := by
  have gg0 := hg.1; have gg1 := hg.2.1; have gg2 := hg.2.2.1
  unfold lnAny at h ⊢
  by_cases c0 : ¬ (tkK b n m p = 2)
  · rw [if_pos c0] at h
    exact absurd h (show ¬ ((1 : Int) = 0) by decide)
  rw [if_neg c0] at h ⊢
  have t0 := tkX_gt (b := b) (n := n) (m := m) (p := p) (by omega)
  have t1 := tkX_ge b n m (tkX b n m p)
  have t2 := tkX_ge b n m (tkX b n m (tkX b n m p))
  have t3 := tkX_ge b n m (tkX b n m (tkX b n m (tkX b n m p)))
  have t4 := tkX_ge b n m (tkX b n m (tkX b n m (tkX b n m (tkX b n m p))))
  have t5 := tkX_ge b n m (tkX b n m (tkX b n m (tkX b n m (tkX b n m (tkX b n m p)))))
  have t6 := tkX_ge b n m (tkX b n m (tkX b n m (tkX b n m (tkX b n m (tkX b n m (tkX b n m p))))))
  by_cases d0 : kyN (tkW b n p) = 0
  · rw [if_pos d0] at h ⊢
    obtain ⟨a1, a2, a3⟩ := lnSlide_x h
    rw [a3]
    refine ⟨sgI_slide hg a1 (tkW_bd a2).2.1 (tkW_bd a2).2.2, ?_⟩
    dsimp only
    omega
  rw [if_neg d0] at h ⊢
  by_cases d1 : kyN (tkW b n p) = 1
  · rw [if_pos d1] at h ⊢
    obtain ⟨a1, a2, a3⟩ := lnHearer_x h
    rw [a3]
    refine ⟨sgI_hearer hg a1 (tkW_bd a2).2.1 (tkW_bd a2).2.2, ?_⟩
    dsimp only
    omega
  rw [if_neg d1] at h ⊢
  by_cases d2 : kyN (tkW b n p) = 2
  · rw [if_pos d2] at h ⊢
    obtain ⟨a1, a3⟩ := lnThinks_x h
    rw [a3]
    refine ⟨sgI_row hg (by have hb := hF_bd hg (tkW b n (tkX b n m p)); omega), ?_⟩
    dsimp only
    omega
  rw [if_neg d2] at h ⊢
  by_cases d3 : kyN (tkW b n p) = 3
  · rw [if_pos d3] at h ⊢
    obtain ⟨a1, a3⟩ := lnThinks_x h
    rw [a3]
    refine ⟨sgI_row hg (by have hb := hF_bd hg (tkW b n (tkX b n m p)); omega), ?_⟩
    dsimp only
    omega
  rw [if_neg d3] at h ⊢
  by_cases d4 : kyN (tkW b n p) = 4
  · rw [if_pos d4] at h ⊢
    obtain ⟨a0, a1, a2, a3⟩ := lnNear_x h
    rw [a3]
    refine ⟨sgI_nr (sgI_row (sgI_row hg (by have hb := hF_bd hg (tkW b n (tkX b n m p)); omega)) (by rw [upI_ne (j := 1) (by omega)]; have hb := hF_bd hg (tkW b n (tkX b n m (tkX b n m p))); omega)) (by omega), ?_⟩
    dsimp only
    omega
  rw [if_neg d4] at h ⊢
  by_cases d5 : kyN (tkW b n p) = 5
  · rw [if_pos d5] at h ⊢
    obtain ⟨a1, a2, a3⟩ := lnAfter_x h
    rw [a3]
    refine ⟨sgI_aft hg (by have hb := sF_bd hg (tkW b n (tkX b n m p)); omega) (by have hb := sF_bd hg (tkW b n (tkX b n m (tkX b n m p))); omega), ?_⟩
    dsimp only
    omega
  rw [if_neg d5] at h ⊢
  by_cases d6 : kyN (tkW b n p) = 6
  · rw [if_pos d6] at h ⊢
    have a3 := lnSet_x h
    rw [a3]
    refine ⟨sgI_st hg (by omega), ?_⟩
    dsimp only
    omega
  rw [if_neg d6] at h ⊢
  by_cases d7 : kyN (tkW b n p) = 7
  · rw [if_pos d7] at h ⊢
    have a3 := lnSet_x h
    rw [a3]
    refine ⟨sgI_st hg (by omega), ?_⟩
    dsimp only
    omega
  rw [if_neg d7] at h ⊢
  by_cases d8 : kyN (tkW b n p) = 8
  · rw [if_pos d8] at h ⊢
    have a3 := lnSet_x h
    rw [a3]
    refine ⟨sgI_st hg (by omega), ?_⟩
    dsimp only
    omega
  rw [if_neg d8] at h ⊢
  exact absurd h (show ¬ ((1 : Int) = 0) by decide)
/-! the whole, line by line -/
theorem ss_f {l : Int} (hl : l ≤ 940) : ∃ k, (941 - l).toNat = k + 1 ∧ (941 - (l + 1)).toNat = k := ⟨(940 - l).toNat, by omega, by omega⟩
theorem ss_end {b : Int → Int} {n m : Int} {s : Nat → Int} {P l : Int} (hs : ssF b n m (941 - l).toNat s P l = ss b n m) (hl : l ≤ 940) (hK : tkK b n m P = 0) : ss b n m = (0, 0, l, s) := by
  obtain ⟨k, hk, _⟩ := ss_f hl
  rw [hk, ssF_s, if_pos hK] at hs
  exact hs.symm
theorem ss_bad {b : Int → Int} {n m : Int} {s : Nat → Int} {P l : Int} (hs : ssF b n m (941 - l).toNat s P l = ss b n m) (hl : l ≤ 940) (hK : tkK b n m P ≠ 0) (hL : (lnAny b n m s P).1 ≠ 0) : ss b n m = ((lnAny b n m s P).1, (lnAny b n m s P).2.1, 0, s) := by
  obtain ⟨k, hk, _⟩ := ss_f hl
  rw [hk, ssF_s, if_neg hK, if_pos hL] at hs
  exact hs.symm
theorem ss_bad2 {b : Int → Int} {n m : Int} {s : Nat → Int} {P l : Int} (hs : ssF b n m (941 - l).toNat s P l = ss b n m) (hl : l ≤ 940) (hK : tkK b n m P ≠ 0) (hL : (lnAny b n m s P).1 = 0) (hE : ¬ (tkK b n m (lnAny b n m s P).2.2.1 = 4 ∧ tkG b n (lnAny b n m s P).2.2.1 = 59)) : ss b n m = (1, tkP b n m (lnAny b n m s P).2.2.1, 0, s) := by
  obtain ⟨k, hk, _⟩ := ss_f hl
  rw [hk, ssF_s, if_neg hK, if_neg (fun h9 => h9 hL), if_pos hE] at hs
  exact hs.symm
theorem ss_next {b : Int → Int} {n m : Int} {s : Nat → Int} {P l : Int} (hs : ssF b n m (941 - l).toNat s P l = ss b n m) (hl : l ≤ 940) (hK : tkK b n m P ≠ 0) (hL : (lnAny b n m s P).1 = 0) (hE : tkK b n m (lnAny b n m s P).2.2.1 = 4 ∧ tkG b n (lnAny b n m s P).2.2.1 = 59) : ssF b n m (941 - (l + 1)).toNat (lnAny b n m s P).2.2.2 (tkX b n m (lnAny b n m s P).2.2.1) (l + 1) = ss b n m := by
  obtain ⟨k, hk, hk2⟩ := ss_f hl
  rw [hk, ssF_s, if_neg hK, if_neg (fun h9 => h9 hL), if_neg (fun h9 => h9 hE)] at hs
  rw [hk2]
  exact hs
theorem ss_0 (b : Int → Int) (n m : Int) : ssF b n m (941 - 0 : Int).toNat s00 0 0 = ss b n m := by
  rw [show ((941 : Int) - 0).toNat = 941 from by decide]
  all_goals rfl
theorem lnAny_nx {b : Int → Int} {n m : Int} {s : Nat → Int} {P l : Int} (hg : sgI s) (hL : (lnAny b n m s P).1 = 0) (hE : tkK b n m (lnAny b n m s P).2.2.1 = 4) (h2 : 2 * l ≤ P) : sgI (lnAny b n m s P).2.2.2 ∧ 2 * (l + 1) ≤ tkX b n m (lnAny b n m s P).2.2.1 := by
  obtain ⟨h3, h4⟩ := lnAny_x hg hL
  have h5 := tkX_gt (b := b) (n := n) (m := m) (p := (lnAny b n m s P).2.2.1) (by omega)
  exact ⟨h3, by omega⟩
/-- a cell's bit -/
def cellI (r : Int32) (K : Int) : Prop := ∃ c : Int32, c.toInt = K ∧ r = (1 : Int32) <<< (c &&& 31)
/-- the LINES read so far: the token now begins at P; s is told -/
def rdI (b : Int → Int) (n m fr pl kd ke li : Int) (R : (Nat → Int) → Prop) : Prop := ∃ (P : Int) (s : Nat → Int), (fr = tkX b n m P ∧ pl = tkP b n m P ∧ (kd = 0 ↔ tkK b n m P = 0)) ∧ ((tkK b n m P = 2 ∧ ke = kyN (tkW b n P)) ∨ (¬ tkK b n m P = 2 ∧ ke = -1)) ∧ R s ∧ sgI s ∧ ssF b n m (941 - li).toNat s P li = ss b n m ∧ (0 ≤ li ∧ 2 * li ≤ P ∧ P ≤ 940)
theorem rlC_s00 {sl he ne pa sp la st : Int32} (sn : Nat → Int64) (af : Nat → Int32) (hn : Nat → Int64) (li ha nr : Nat → Int32) (h0 : sl.toInt = 0) (h1 : he.toInt = 0) (h2 : ne.toInt = 0) (h3 : pa.toInt = 1) (h4 : sp.toInt = 0) (h5 : la.toInt = 40) (h6 : st.toInt = 0) : rlC s00 sl he ne pa sp la st sn af hn li ha nr := by
  refine ⟨⟨h0, h1, h2, h3, h4, h5, h6⟩, fun j hj => ?_, fun j hj => ?_⟩
  · exact absurd hj (show ¬ (j : Int) < 0 by omega)
  · exact absurd hj (show ¬ (j : Int) < 0 by omega)
theorem nx_k {K ky kd : Int} (h : (K = 0 ∧ kd = 0) ∨ (K = 1 ∧ kd = 1) ∨ (K = 2 ∧ ky = -1 ∧ kd = 2) ∨ (K = 2 ∧ 0 ≤ ky ∧ kd = 3) ∨ (K = 3 ∧ kd = 4) ∨ (K = 4 ∧ kd = 5)) : kd = 0 ↔ K = 0 := by omega
theorem nx_y {K ky ke c w : Int} (h1 : K = 2 → c = w ∧ ke = ky) (h2 : K ≠ 2 → ke = -1) : (K = 2 ∧ ke = ky) ∨ (¬ K = 2 ∧ ke = -1) := by
  by_cases h : K = 2
  · exact Or.inl ⟨h, (h1 h).2⟩
  · exact Or.inr ⟨h, h2 h⟩
/-- a hearer's thoughts -/
theorem tb_iff {o l h r v k : Int32} {X Y K : Int} (hl : l.toInt = X) (hh : h.toInt = Y) (eo : o = l ||| h) (hk : k.toInt = K) (h0 : 0 ≤ K) (h1 : K < 16) (er : r = (1 : Int32) <<< (k &&& 31)) (ev : v = o &&& r) : v.toInt = 0 ↔ ¬ (Int32.ofInt X ||| Int32.ofInt Y).toBitVec.getLsbD K.toNat = true := by
  rw [i_of hl, i_of hh, ← eo, ← cellB_iff hk h0 h1, ← er, ← ev]
  exact ⟨fun h9 => Int32.toInt_inj.mp h9, fun h9 => by rw [h9]; rfl⟩
theorem nb_iff {x s v k : Int32} {X K : Int} (hx : x.toInt = X) (hk : k.toInt = K) (h0 : 0 ≤ K) (h1 : K < 16) (es : s = x >>> (k &&& 31)) (ev : (0 ≤ v.toInt ∧ v.toInt ≤ 1) ∧ v = s &&& 1) : v.toInt = 0 ↔ ¬ bitI X K := by
  have hb : hasB x k ↔ bitI X K := by
    unfold bitI
    rw [i_of hx]
    exact hasB_iff hk h0 h1
  have hv : hasB x k ↔ v = 1 := by
    unfold hasB
    rw [← es, ← ev.2]
  constructor
  · intro h9 h8
    have h7 := hv.mp (hb.mpr h8)
    rw [h7] at h9
    exact absurd h9 (by decide)
  · intro h9
    by_cases h8 : v.toInt = 0
    · exact h8
    · exact absurd (hb.mp (hv.mpr (i_eqL (y := 1) (Y := 1) rfl (by omega)))) h9
