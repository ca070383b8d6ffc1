-- needs: 08
/-! bits of a set of slides, longs -/
def bt (x : Int32) (k : Nat) : Int := if x.toBitVec.getLsbD k = true then 1 else 0
def pc6 (x : Int32) : Int := bt x 0 + bt x 1 + bt x 2 + bt x 3 + bt x 4 + bt x 5
theorem bt_le (x : Int32) (k : Nat) : 0 ≤ bt x k ∧ bt x k ≤ 1 := by
  unfold bt; split <;> omega
theorem pc6_6 (x : Int32) : pc6 x ≤ 6 := by
  have h0 := bt_le x 0
  have h1 := bt_le x 1
  have h2 := bt_le x 2
  have h3 := bt_le x 3
  have h4 := bt_le x 4
  have h5 := bt_le x 5
  unfold pc6
  omega
theorem bt_and (x c : Int32) (k : Nat) : bt (x &&& c) k = if (x.toBitVec.getLsbD k && c.toBitVec.getLsbD k) = true then 1 else 0 := by
  unfold bt
  rw [Int32.toBitVec_and, BitVec.getLsbD_and]
theorem hasB_0 {x : Int32} (h : hasB x 0) : x.toBitVec.getLsbD 0 = true := by
  unfold hasB at h
  have h2 := congrArg (fun z : Int32 => z.toBitVec.getLsbD 0) h
  have e : ((0 : Int32) &&& 31) = 0 := by decide
  rw [e] at h2
  have h3 : ((x >>> (0 : Int32)).toBitVec &&& (1 : Int32).toBitVec).getLsbD 0 = true := h2
  rw [BitVec.getLsbD_and, Int32.toBitVec_shiftRight] at h3
  have e2 : ((0 : Int32).toBitVec.smod 32) = 0#32 := by decide
  rw [e2] at h3
  have h4 := (Bool.and_eq_true _ _).mp h3 |>.1
  have h5 : (x.toBitVec.sshiftRight 0).getLsbD 0 = true := h4
  rw [BitVec.getLsbD_sshiftRight] at h5
  simpa using h5
theorem pc6c_0 {x : Int32} (h : x.toBitVec.getLsbD 0 = true) : pc6 (x &&& (-2)) + 1 = pc6 x := by
  unfold pc6
  rw [bt_and, bt_and, bt_and, bt_and, bt_and, bt_and]
  unfold bt
  have c0 : (-2 : Int32).toBitVec.getLsbD 0 = false := by decide
  have c1 : (-2 : Int32).toBitVec.getLsbD 1 = true := by decide
  have c2 : (-2 : Int32).toBitVec.getLsbD 2 = true := by decide
  have c3 : (-2 : Int32).toBitVec.getLsbD 3 = true := by decide
  have c4 : (-2 : Int32).toBitVec.getLsbD 4 = true := by decide
  have c5 : (-2 : Int32).toBitVec.getLsbD 5 = true := by decide
  rw [c0, c1, c2, c3, c4, c5]
  revert h
  generalize x.toBitVec.getLsbD 0 = b0
  generalize x.toBitVec.getLsbD 1 = b1
  generalize x.toBitVec.getLsbD 2 = b2
  generalize x.toBitVec.getLsbD 3 = b3
  generalize x.toBitVec.getLsbD 4 = b4
  generalize x.toBitVec.getLsbD 5 = b5
  revert b0 b1 b2 b3 b4 b5
  decide
theorem hasB_1 {x : Int32} (h : hasB x 1) : x.toBitVec.getLsbD 1 = true := by
  unfold hasB at h
  have h2 := congrArg (fun z : Int32 => z.toBitVec.getLsbD 0) h
  have e : ((1 : Int32) &&& 31) = 1 := by decide
  rw [e] at h2
  have h3 : ((x >>> (1 : Int32)).toBitVec &&& (1 : Int32).toBitVec).getLsbD 0 = true := h2
  rw [BitVec.getLsbD_and, Int32.toBitVec_shiftRight] at h3
  have e2 : ((1 : Int32).toBitVec.smod 32) = 1#32 := by decide
  rw [e2] at h3
  have h4 := (Bool.and_eq_true _ _).mp h3 |>.1
  have h5 : (x.toBitVec.sshiftRight 1).getLsbD 0 = true := h4
  rw [BitVec.getLsbD_sshiftRight] at h5
  simpa using h5
theorem pc6c_1 {x : Int32} (h : x.toBitVec.getLsbD 1 = true) : pc6 (x &&& (-3)) + 1 = pc6 x := by
  unfold pc6
  rw [bt_and, bt_and, bt_and, bt_and, bt_and, bt_and]
  unfold bt
  have c0 : (-3 : Int32).toBitVec.getLsbD 0 = true := by decide
  have c1 : (-3 : Int32).toBitVec.getLsbD 1 = false := by decide
  have c2 : (-3 : Int32).toBitVec.getLsbD 2 = true := by decide
  have c3 : (-3 : Int32).toBitVec.getLsbD 3 = true := by decide
  have c4 : (-3 : Int32).toBitVec.getLsbD 4 = true := by decide
  have c5 : (-3 : Int32).toBitVec.getLsbD 5 = true := by decide
  rw [c0, c1, c2, c3, c4, c5]
  revert h
  generalize x.toBitVec.getLsbD 0 = b0
  generalize x.toBitVec.getLsbD 1 = b1
  generalize x.toBitVec.getLsbD 2 = b2
  generalize x.toBitVec.getLsbD 3 = b3
  generalize x.toBitVec.getLsbD 4 = b4
  generalize x.toBitVec.getLsbD 5 = b5
  revert b0 b1 b2 b3 b4 b5
  decide
theorem hasB_2 {x : Int32} (h : hasB x 2) : x.toBitVec.getLsbD 2 = true := by
  unfold hasB at h
  have h2 := congrArg (fun z : Int32 => z.toBitVec.getLsbD 0) h
  have e : ((2 : Int32) &&& 31) = 2 := by decide
  rw [e] at h2
  have h3 : ((x >>> (2 : Int32)).toBitVec &&& (1 : Int32).toBitVec).getLsbD 0 = true := h2
  rw [BitVec.getLsbD_and, Int32.toBitVec_shiftRight] at h3
  have e2 : ((2 : Int32).toBitVec.smod 32) = 2#32 := by decide
  rw [e2] at h3
  have h4 := (Bool.and_eq_true _ _).mp h3 |>.1
  have h5 : (x.toBitVec.sshiftRight 2).getLsbD 0 = true := h4
  rw [BitVec.getLsbD_sshiftRight] at h5
  simpa using h5
theorem pc6c_2 {x : Int32} (h : x.toBitVec.getLsbD 2 = true) : pc6 (x &&& (-5)) + 1 = pc6 x := by
  unfold pc6
  rw [bt_and, bt_and, bt_and, bt_and, bt_and, bt_and]
  unfold bt
  have c0 : (-5 : Int32).toBitVec.getLsbD 0 = true := by decide
  have c1 : (-5 : Int32).toBitVec.getLsbD 1 = true := by decide
  have c2 : (-5 : Int32).toBitVec.getLsbD 2 = false := by decide
  have c3 : (-5 : Int32).toBitVec.getLsbD 3 = true := by decide
  have c4 : (-5 : Int32).toBitVec.getLsbD 4 = true := by decide
  have c5 : (-5 : Int32).toBitVec.getLsbD 5 = true := by decide
  rw [c0, c1, c2, c3, c4, c5]
  revert h
  generalize x.toBitVec.getLsbD 0 = b0
  generalize x.toBitVec.getLsbD 1 = b1
  generalize x.toBitVec.getLsbD 2 = b2
  generalize x.toBitVec.getLsbD 3 = b3
  generalize x.toBitVec.getLsbD 4 = b4
  generalize x.toBitVec.getLsbD 5 = b5
  revert b0 b1 b2 b3 b4 b5
  decide
theorem hasB_3 {x : Int32} (h : hasB x 3) : x.toBitVec.getLsbD 3 = true := by
  unfold hasB at h
  have h2 := congrArg (fun z : Int32 => z.toBitVec.getLsbD 0) h
  have e : ((3 : Int32) &&& 31) = 3 := by decide
  rw [e] at h2
  have h3 : ((x >>> (3 : Int32)).toBitVec &&& (1 : Int32).toBitVec).getLsbD 0 = true := h2
  rw [BitVec.getLsbD_and, Int32.toBitVec_shiftRight] at h3
  have e2 : ((3 : Int32).toBitVec.smod 32) = 3#32 := by decide
  rw [e2] at h3
  have h4 := (Bool.and_eq_true _ _).mp h3 |>.1
  have h5 : (x.toBitVec.sshiftRight 3).getLsbD 0 = true := h4
  rw [BitVec.getLsbD_sshiftRight] at h5
  simpa using h5
theorem pc6c_3 {x : Int32} (h : x.toBitVec.getLsbD 3 = true) : pc6 (x &&& (-9)) + 1 = pc6 x := by
  unfold pc6
  rw [bt_and, bt_and, bt_and, bt_and, bt_and, bt_and]
  unfold bt
  have c0 : (-9 : Int32).toBitVec.getLsbD 0 = true := by decide
  have c1 : (-9 : Int32).toBitVec.getLsbD 1 = true := by decide
  have c2 : (-9 : Int32).toBitVec.getLsbD 2 = true := by decide
  have c3 : (-9 : Int32).toBitVec.getLsbD 3 = false := by decide
  have c4 : (-9 : Int32).toBitVec.getLsbD 4 = true := by decide
  have c5 : (-9 : Int32).toBitVec.getLsbD 5 = true := by decide
  rw [c0, c1, c2, c3, c4, c5]
  revert h
  generalize x.toBitVec.getLsbD 0 = b0
  generalize x.toBitVec.getLsbD 1 = b1
  generalize x.toBitVec.getLsbD 2 = b2
  generalize x.toBitVec.getLsbD 3 = b3
  generalize x.toBitVec.getLsbD 4 = b4
  generalize x.toBitVec.getLsbD 5 = b5
  revert b0 b1 b2 b3 b4 b5
  decide
theorem hasB_4 {x : Int32} (h : hasB x 4) : x.toBitVec.getLsbD 4 = true := by
  unfold hasB at h
  have h2 := congrArg (fun z : Int32 => z.toBitVec.getLsbD 0) h
  have e : ((4 : Int32) &&& 31) = 4 := by decide
  rw [e] at h2
  have h3 : ((x >>> (4 : Int32)).toBitVec &&& (1 : Int32).toBitVec).getLsbD 0 = true := h2
  rw [BitVec.getLsbD_and, Int32.toBitVec_shiftRight] at h3
  have e2 : ((4 : Int32).toBitVec.smod 32) = 4#32 := by decide
  rw [e2] at h3
  have h4 := (Bool.and_eq_true _ _).mp h3 |>.1
  have h5 : (x.toBitVec.sshiftRight 4).getLsbD 0 = true := h4
  rw [BitVec.getLsbD_sshiftRight] at h5
  simpa using h5
theorem pc6c_4 {x : Int32} (h : x.toBitVec.getLsbD 4 = true) : pc6 (x &&& (-17)) + 1 = pc6 x := by
  unfold pc6
  rw [bt_and, bt_and, bt_and, bt_and, bt_and, bt_and]
  unfold bt
  have c0 : (-17 : Int32).toBitVec.getLsbD 0 = true := by decide
  have c1 : (-17 : Int32).toBitVec.getLsbD 1 = true := by decide
  have c2 : (-17 : Int32).toBitVec.getLsbD 2 = true := by decide
  have c3 : (-17 : Int32).toBitVec.getLsbD 3 = true := by decide
  have c4 : (-17 : Int32).toBitVec.getLsbD 4 = false := by decide
  have c5 : (-17 : Int32).toBitVec.getLsbD 5 = true := by decide
  rw [c0, c1, c2, c3, c4, c5]
  revert h
  generalize x.toBitVec.getLsbD 0 = b0
  generalize x.toBitVec.getLsbD 1 = b1
  generalize x.toBitVec.getLsbD 2 = b2
  generalize x.toBitVec.getLsbD 3 = b3
  generalize x.toBitVec.getLsbD 4 = b4
  generalize x.toBitVec.getLsbD 5 = b5
  revert b0 b1 b2 b3 b4 b5
  decide
theorem hasB_5 {x : Int32} (h : hasB x 5) : x.toBitVec.getLsbD 5 = true := by
  unfold hasB at h
  have h2 := congrArg (fun z : Int32 => z.toBitVec.getLsbD 0) h
  have e : ((5 : Int32) &&& 31) = 5 := by decide
  rw [e] at h2
  have h3 : ((x >>> (5 : Int32)).toBitVec &&& (1 : Int32).toBitVec).getLsbD 0 = true := h2
  rw [BitVec.getLsbD_and, Int32.toBitVec_shiftRight] at h3
  have e2 : ((5 : Int32).toBitVec.smod 32) = 5#32 := by decide
  rw [e2] at h3
  have h4 := (Bool.and_eq_true _ _).mp h3 |>.1
  have h5 : (x.toBitVec.sshiftRight 5).getLsbD 0 = true := h4
  rw [BitVec.getLsbD_sshiftRight] at h5
  simpa using h5
theorem pc6c_5 {x : Int32} (h : x.toBitVec.getLsbD 5 = true) : pc6 (x &&& (-33)) + 1 = pc6 x := by
  unfold pc6
  rw [bt_and, bt_and, bt_and, bt_and, bt_and, bt_and]
  unfold bt
  have c0 : (-33 : Int32).toBitVec.getLsbD 0 = true := by decide
  have c1 : (-33 : Int32).toBitVec.getLsbD 1 = true := by decide
  have c2 : (-33 : Int32).toBitVec.getLsbD 2 = true := by decide
  have c3 : (-33 : Int32).toBitVec.getLsbD 3 = true := by decide
  have c4 : (-33 : Int32).toBitVec.getLsbD 4 = true := by decide
  have c5 : (-33 : Int32).toBitVec.getLsbD 5 = false := by decide
  rw [c0, c1, c2, c3, c4, c5]
  revert h
  generalize x.toBitVec.getLsbD 0 = b0
  generalize x.toBitVec.getLsbD 1 = b1
  generalize x.toBitVec.getLsbD 2 = b2
  generalize x.toBitVec.getLsbD 3 = b3
  generalize x.toBitVec.getLsbD 4 = b4
  generalize x.toBitVec.getLsbD 5 = b5
  revert b0 b1 b2 b3 b4 b5
  decide
theorem slot6 {s : Int32} (h0 : 0 ≤ s.toInt) (h1 : s.toInt ≤ 5) : s = 0 ∨ s = 1 ∨ s = 2 ∨ s = 3 ∨ s = 4 ∨ s = 5 := by
  have h : s.toInt = 0 ∨ s.toInt = 1 ∨ s.toInt = 2 ∨ s.toInt = 3 ∨ s.toInt = 4 ∨ s.toInt = 5 := by omega
  rcases h with h | h | h | h | h | h
  · exact Or.inl (i_eqL rfl h)
  · exact Or.inr (Or.inl (i_eqL rfl h))
  · exact Or.inr (Or.inr (Or.inl (i_eqL rfl h)))
  · exact Or.inr (Or.inr (Or.inr (Or.inl (i_eqL rfl h))))
  · exact Or.inr (Or.inr (Or.inr (Or.inr (Or.inl (i_eqL rfl h)))))
  · exact Or.inr (Or.inr (Or.inr (Or.inr (Or.inr (i_eqL rfl h)))))
theorem pc6_clr {x s : Int32} (h : hasB x s) (h0 : 0 ≤ s.toInt) (h1 : s.toInt ≤ 5) : pc6 (x &&& (((1 : Int32) <<< (s &&& 31)) ^^^ (-1))) + 1 = pc6 x := by
  rcases slot6 h0 h1 with e | e | e | e | e | e
  · subst e
    rw [show (((1 : Int32) <<< ((0 : Int32) &&& 31)) ^^^ (-1)) = -2 by decide]
    exact pc6c_0 (hasB_0 h)
  · subst e
    rw [show (((1 : Int32) <<< ((1 : Int32) &&& 31)) ^^^ (-1)) = -3 by decide]
    exact pc6c_1 (hasB_1 h)
  · subst e
    rw [show (((1 : Int32) <<< ((2 : Int32) &&& 31)) ^^^ (-1)) = -5 by decide]
    exact pc6c_2 (hasB_2 h)
  · subst e
    rw [show (((1 : Int32) <<< ((3 : Int32) &&& 31)) ^^^ (-1)) = -9 by decide]
    exact pc6c_3 (hasB_3 h)
  · subst e
    rw [show (((1 : Int32) <<< ((4 : Int32) &&& 31)) ^^^ (-1)) = -17 by decide]
    exact pc6c_4 (hasB_4 h)
  · subst e
    rw [show (((1 : Int32) <<< ((5 : Int32) &&& 31)) ^^^ (-1)) = -33 by decide]
    exact pc6c_5 (hasB_5 h)
theorem pc6_pos {x s : Int32} (h : hasB x s) (h0 : 0 ≤ s.toInt) (h1 : s.toInt ≤ 5) : 1 ≤ pc6 x := by
  have e := pc6_clr h h0 h1
  have h2 : ∀ y : Int32, 0 ≤ pc6 y := by
    intro y
    have h0 := bt_le y 0
    have h1 := bt_le y 1
    have h2 := bt_le y 2
    have h3 := bt_le y 3
    have h4 := bt_le y 4
    have h5 := bt_le y 5
    unfold pc6
    omega
  have := h2 (x &&& (((1 : Int32) <<< (s &&& 31)) ^^^ (-1)))
  omega
theorem l_bd (x : Int64) : -9223372036854775808 ≤ x.toInt ∧ x.toInt ≤ 9223372036854775807 := by
  have h1 := Int64.toInt_lt x
  have h2 := Int64.le_toInt x
  omega
theorem l_bm {z : Int} (h1 : -9223372036854775808 ≤ z) (h2 : z ≤ 9223372036854775807) : z.bmod (2 ^ 64) = z := by
  apply Int.bmod_eq_of_le <;> omega
theorem l_add {x y : Int64} {X Y : Int} (hx : x.toInt = X) (hy : y.toInt = Y) (h1 : -9223372036854775808 ≤ X + Y) (h2 : X + Y ≤ 9223372036854775807) : (x + y).toInt = X + Y := by
  rw [Int64.toInt_add, hx, hy]; exact l_bm h1 h2
theorem l_sub {x y : Int64} {X Y : Int} (hx : x.toInt = X) (hy : y.toInt = Y) (h1 : -9223372036854775808 ≤ X - Y) (h2 : X - Y ≤ 9223372036854775807) : (x - y).toInt = X - Y := by
  rw [Int64.toInt_sub, hx, hy]; exact l_bm h1 h2
theorem l_mul {x y : Int64} {X Y : Int} (hx : x.toInt = X) (hy : y.toInt = Y) (h1 : -9223372036854775808 ≤ X * Y) (h2 : X * Y ≤ 9223372036854775807) : (x * y).toInt = X * Y := by
  rw [Int64.toInt_mul, hx, hy]; exact l_bm h1 h2
theorem l_i2l (x : Int32) : x.toInt64.toInt = x.toInt := Int32.toInt_toInt64 x
theorem l_cmp {x y : Int64} {X Y : Int} (hx : x.toInt = X) (hy : y.toInt = Y) : 0 ≤ (lg_cmp x y).toInt ↔ Y ≤ X := by
  have h := lg_cmp_ge x y
  rw [Int32.le_iff_toInt_le, Int64.le_iff_toInt_le, hx, hy] at h
  exact h
theorem l_div27 {x : Int64} {X : Int} (hx : x.toInt = X) (h : 0 ≤ X) : (x / 27).toInt = X / 27 := by
  have b := l_bd x
  have e : (27 : Int64).toInt = 27 := rfl
  rw [Int64.toInt_div, hx, e, Int.tdiv_eq_ediv_of_nonneg h]
  exact l_bm (by omega) (by omega)
