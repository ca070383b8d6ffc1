/-! what the reference's rows hold -/
theorem upd_lo {f : Nat → Int32} {i : Int32} {v : Int32} {k : Nat} (h : (k : Int) < i.toInt) : upd f i.toNatClampNeg v k = f k := by
  simp only [upd]
  rw [if_neg]
  rw [i_cn]; omega
theorem upd_at (f : Nat → Int32) (i : Nat) (v : Int32) : upd f i v i = v := by simp [upd]
theorem upd_ne {f : Nat → Int32} {i k : Nat} {v : Int32} (h : k ≠ i) : upd f i v k = f k := by
  simp only [upd]; rw [if_neg h]
/-- a row of what is told: how many, behind which -/
def slI (f : Nat → Int32) : Prop := ∀ k : Nat, (k = 0 → 0 ≤ (f k).toInt ∧ (f k).toInt ≤ 6) ∧ (k = 1 → 0 ≤ (f k).toInt ∧ (f k).toInt ≤ 8) ∧ (18 ≤ k ∧ k < 24 → -1 ≤ (f k).toInt ∧ (f k).toInt ≤ 5)
theorem slI_upd {f : Nat → Int32} {i : Nat} {v : Int32} (h : slI f) (h0 : i = 0 → 0 ≤ v.toInt ∧ v.toInt ≤ 6) (h1 : i = 1 → 0 ≤ v.toInt ∧ v.toInt ≤ 8) (h2 : 18 ≤ i ∧ i < 24 → -1 ≤ v.toInt ∧ v.toInt ≤ 5) : slI (upd f i v) := by
  intro k
  simp only [upd]
  by_cases e : k = i
  · rw [if_pos e]; subst e; exact ⟨h0, h1, h2⟩
  · rw [if_neg e]; exact h k
theorem slI_congr {f g : Nat → Int32} (h : slI f) (e : ∀ k, k < 339 → g k = f k) : slI g := by
  intro k
  by_cases hk : k < 339
  · rw [e k hk]; exact h k
  · exact ⟨fun q => by omega, fun q => by omega, fun q => by omega⟩
/-- a node: what stands below it stands ahead of it -/
def ndOk (o x y k : Int) : Prop := (o = 1 → 0 ≤ x ∧ x < k) ∧ (o = 2 ∨ o = 3 → (0 ≤ x ∧ x < k) ∧ (0 ≤ y ∧ y < k)) ∧ (o = 72 → 0 ≤ x ∧ x ≤ 5)
def ndI (f : Nat → Int32) : Prop := ∀ k : Nat, k < 60 → ndOk (f (4 * k)).toInt (f (4 * k + 1)).toInt (f (4 * k + 2)).toInt k
def trI (f : Nat → Int32) : Prop := (0 ≤ (f 98).toInt ∧ (f 98).toInt ≤ 59) ∧ ndI (fun j => f (99 + j))
theorem ndI_congr {f g : Nat → Int32} (h : ndI f) (e : ∀ k, k < 240 → g k = f k) : ndI g := by
  intro k hk
  rw [e _ (by omega), e _ (by omega), e _ (by omega)]
  exact h k hk
theorem trI_congr {f g : Nat → Int32} (h : trI f) (e : ∀ k, k < 339 → g k = f k) : trI g :=
  ⟨by rw [e _ (by omega)]; exact h.1, ndI_congr h.2 (fun k hk => e _ (by omega))⟩
theorem trI_lo {f : Nat → Int32} {i : Nat} {v : Int32} (h : trI f) (hi : i < 98) : trI (upd f i v) :=
  ⟨by rw [upd_ne (by omega)]; exact h.1, fun k hk => by
    show ndOk (upd f i v (99 + 4 * k)).toInt (upd f i v (99 + (4 * k + 1))).toInt (upd f i v (99 + (4 * k + 2))).toInt k
    rw [upd_ne (by omega), upd_ne (by omega), upd_ne (by omega)]; exact h.2 k hk⟩
theorem trI_top {f : Nat → Int32} {v : Int32} (h : trI f) (hv : 0 ≤ v.toInt ∧ v.toInt ≤ 59) : trI (upd f 98 v) :=
  ⟨by rw [upd_at]; exact hv, fun k hk => by
    show ndOk (upd f 98 v (99 + 4 * k)).toInt (upd f 98 v (99 + (4 * k + 1))).toInt (upd f 98 v (99 + (4 * k + 2))).toInt k
    rw [upd_ne (by omega), upd_ne (by omega), upd_ne (by omega)]; exact h.2 k hk⟩
theorem trI_0 {f : Nat → Int32} {i : Nat} (h : trI f) : trI (upd f i 0) := by
  have e0 : (0 : Int32).toInt = 0 := rfl
  refine ⟨?_, fun k hk => ?_⟩
  · simp only [upd]; split
    · rw [e0]; omega
    · exact h.1
  · have q := h.2 k hk
    show ndOk (upd f i 0 (99 + 4 * k)).toInt (upd f i 0 (99 + (4 * k + 1))).toInt (upd f i 0 (99 + (4 * k + 2))).toInt k
    by_cases a : 99 + 4 * k = i
    · subst a
      rw [upd_at, e0]
      exact ⟨fun t => by omega, fun t => by omega, fun t => by omega⟩
    · rw [upd_ne a]
      obtain ⟨q1, q2, q3⟩ := q
      by_cases b : 99 + (4 * k + 1) = i
      · subst b
        rw [upd_at, upd_ne (by omega), e0]
        exact ⟨fun t => by have := q1 t; omega, fun t => ⟨by have := (q2 t).1; omega, (q2 t).2⟩, fun t => by omega⟩
      · rw [upd_ne b]
        by_cases d : 99 + (4 * k + 2) = i
        · subst d
          rw [upd_at, e0]
          exact ⟨q1, fun t => ⟨(q2 t).1, by have := (q2 t).2; omega⟩, q3⟩
        · rw [upd_ne d]; exact ⟨q1, q2, q3⟩
theorem ndI_say {f : Nat → Int32} {K : Nat} {w a b r : Int32} (h : ndI f) (hok : ndOk w.toInt a.toInt b.toInt K) : ndI (upd (upd (upd (upd f (4 * K) w) (4 * K + 1) a) (4 * K + 2) b) (4 * K + 3) r) := by
  intro k hk
  by_cases e : k = K
  · subst e
    have e0 : upd (upd (upd (upd f (4 * k) w) (4 * k + 1) a) (4 * k + 2) b) (4 * k + 3) r (4 * k) = w := by
      rw [upd_ne (by omega), upd_ne (by omega), upd_ne (by omega), upd_at]
    have e1 : upd (upd (upd (upd f (4 * k) w) (4 * k + 1) a) (4 * k + 2) b) (4 * k + 3) r (4 * k + 1) = a := by
      rw [upd_ne (by omega), upd_ne (by omega), upd_at]
    have e2 : upd (upd (upd (upd f (4 * k) w) (4 * k + 1) a) (4 * k + 2) b) (4 * k + 3) r (4 * k + 2) = b := by
      rw [upd_ne (by omega), upd_at]
    rw [e0, e1, e2]; exact hok
  · have en : ∀ j, j < 3 → upd (upd (upd (upd f (4 * K) w) (4 * K + 1) a) (4 * K + 2) b) (4 * K + 3) r (4 * k + j) = f (4 * k + j) := by
      intro j hj
      rw [upd_ne (by omega), upd_ne (by omega), upd_ne (by omega), upd_ne (by omega)]
    have := h k hk
    rw [show 4 * k = 4 * k + 0 from rfl, en 0 (by omega), show 4 * k + 0 + 1 = 4 * k + 1 from rfl, en 1 (by omega), show 4 * k + 0 + 2 = 4 * k + 2 from rfl, en 2 (by omega)]
    exact this
/-- a BOOK's lines -/
def lnI (f : Nat → Int32) : Prop := ∀ k : Nat, k < 120 → (k % 3 = 1 → -1 ≤ (f k).toInt ∧ (f k).toInt ≤ 7) ∧ (k % 3 = 2 → -1 ≤ (f k).toInt ∧ (f k).toInt ≤ 24)
theorem lnI_upd {f : Nat → Int32} {i : Nat} {v : Int32} (h : lnI f) (h1 : i % 3 = 1 → -1 ≤ v.toInt ∧ v.toInt ≤ 7) (h2 : i % 3 = 2 → -1 ≤ v.toInt ∧ v.toInt ≤ 24) : lnI (upd f i v) := by
  intro k hk
  simp only [upd]
  by_cases e : k = i
  · rw [if_pos e]; subst e; exact ⟨h1, h2⟩
  · rw [if_neg e]; exact h k hk
/-- the images -/
def kpI (f : Nat → Int32) : Prop := (slI f ∧ trI f) ∧ slI (fun j => f (339 + j)) ∧ trI (fun j => f (339 + j))
/-- a row is being copied -/
def cpI (f g0 : Nat → Int32) (so d : Nat) (i : Int32) (g : Nat → Int32) : Prop := (∀ j : Nat, (j : Int) < i.toInt → g (d + j) = f (so + j)) ∧ ∀ j : Nat, (j < d ∨ (d : Int) + i.toInt ≤ j) → g j = g0 j
theorem cpI_0 {f g : Nat → Int32} {so d : Nat} : cpI f g so d 0 g := by
  have e0 : (0 : Int32).toInt = 0 := rfl
  refine ⟨fun j h => ?_, fun j _ => rfl⟩
  rw [e0] at h; omega
theorem cpI_s {f g0 g : Nat → Int32} {so d a b : Nat} {i i' v : Int32} (h : cpI f g0 so d i g) (h0 : 0 ≤ i.toInt) (hi : i'.toInt = i.toInt + 1) (ha : (a : Int) = so + i.toInt) (hb : (b : Int) = d + i.toInt) (hv : f a = v) : cpI f g0 so d i' (upd g b v) := by
  refine ⟨fun j hj => ?_, fun j hj => ?_⟩
  · by_cases e : d + j = b
    · rw [e, upd_at, ← hv]; congr 1; omega
    · rw [upd_ne e]; exact h.1 j (by omega)
  · rw [upd_ne (by omega)]; exact h.2 j (by omega)
/-- a bit is there -/
def hasB (x k : Int32) : Prop := (x >>> (k &&& 31)) &&& 1 = 1
theorem i_clr {x : Int32} (h : x.toInt ≠ 0) : (x &&& (x - 1)).toUInt32.toNat < x.toUInt32.toNat := by
  have hx : x ≠ 0 := i_ne0 h
  have e1 : (x &&& (x - 1)).toUInt32.toNat = x.toUInt32.toNat &&& (x - 1).toUInt32.toNat := by
    show (x.toBitVec &&& (x - 1).toBitVec).toNat = _
    rw [BitVec.toNat_and]; rfl
  have e2 : (x - 1).toUInt32.toNat = x.toUInt32.toNat - 1 := by
    show (x.toBitVec - 1#32).toNat = x.toBitVec.toNat - 1
    have hp : x.toBitVec.toNat ≠ 0 := fun q => hx (by
      have : x.toBitVec = 0#32 := BitVec.eq_of_toNat_eq q
      exact Int32.toBitVec_inj.mp this)
    rw [BitVec.toNat_sub]
    have hl := x.toBitVec.isLt
    have e3 : (1#32).toNat = 1 := rfl
    rw [e3]
    omega
  have hp : x.toUInt32.toNat ≠ 0 := fun q => hx (by
    have : x.toBitVec = 0#32 := BitVec.eq_of_toNat_eq q
    exact Int32.toBitVec_inj.mp this)
  rw [e1, e2]
  have := @Nat.and_le_right x.toUInt32.toNat (x.toUInt32.toNat - 1)
  omega
theorem i_orN (x y : Int32) : x.toUInt32.toNat ≤ (x ||| y).toUInt32.toNat := by
  have e1 : (x ||| y).toUInt32.toNat = x.toUInt32.toNat ||| y.toUInt32.toNat := by
    show (x.toBitVec ||| y.toBitVec).toNat = _
    rw [BitVec.toNat_or]; rfl
  rw [e1]; exact Nat.left_le_or
theorem i_uN {x y : Int32} (h : x.toInt ≠ y.toInt) (hl : x.toUInt32.toNat ≤ y.toUInt32.toNat) : x.toUInt32.toNat < y.toUInt32.toNat := by
  rcases Nat.lt_or_eq_of_le hl with q | q
  · exact q
  · exact absurd (congrArg Int32.toInt (Int32.toBitVec_inj.mp (BitVec.eq_of_toNat_eq q))) h
theorem i_uB (x : Int32) : x.toUInt32.toNat < 4294967296 := x.toUInt32.toNat_lt
