theorem bp_b (x : Int32) : x.toInt8.toInt32 &&& 255 = x &&& 255 := by
  apply Int32.toBitVec_inj.mp
  rw [Int32.toBitVec_and, Int32.toBitVec_and, Int8.toBitVec_toInt32, Int32.toBitVec_toInt8]
  apply BitVec.eq_of_getLsbD_eq
  intro i hi
  rw [BitVec.getLsbD_and, BitVec.getLsbD_and]
  have hm : ∀ i < 32, 8 ≤ i → (255 : Int32).toBitVec.getLsbD i = false := by decide
  rcases Nat.lt_or_ge i 8 with z | z
  · rw [BitVec.getLsbD_signExtend, BitVec.getLsbD_signExtend, if_pos z, if_pos hi]
    simp only [z, hi, decide_true, Bool.true_and]
  · rw [hm i hi z]; simp
/-! bytes fed: as both sides have them; a SESSION's answer -/
def byU (v s : Int32) : Int32 := (v.toUInt32 >>> (s.toUInt32 &&& Int32.toUInt32 31)).toInt32
def byV (v : Int32) (j : Int) : Int := (byU v (if j = 0 then 24 else if j = 1 then 16 else if j = 2 then 8 else 0) &&& 255).toInt
def cC (f : Nat → Int32) (i : Int) : Int := ((f i.toNat) &&& 255).toInt
def cR (f : Nat → Int32) (i : Int) : Int := (f i.toNat).toInt
def eqN (A B : Int → Int) (m : Int) : Prop := ∀ i, 0 ≤ i → i < m → A i = B i
def bx (A : Int → Int) (n : Int) (v : Int32) : Int → Int := fun i => if i < n then A i else byV v (i - n)
theorem cC_upd {f f' : Nat → Int32} {n w u v sh : Int32} (e : upd f n.toNatClampNeg (vp_nar .byte w) = f') (hw : w = u.toInt8.toInt32) (hu : u = byU v sh) (h0 : 0 ≤ n.toInt) : ∀ i : Int, 0 ≤ i → cC f' i = if i = n.toInt then (byU v sh &&& 255).toInt else cC f i := by
  intro i hi
  unfold cC
  rw [← e]
  by_cases h : i = n.toInt
  · rw [if_pos h, show i.toNat = n.toNatClampNeg by rw [i_cn]; omega, ud_eq, hw, pk_vb, bp_b, hu]
  · rw [if_neg h, ud_ne (by rw [i_cn]; omega)]
theorem cR_upd {f f' : Nat → Int32} {n x u v sh : Int32} (e : upd f n.toNatClampNeg x = f') (hx : (0 ≤ x.toInt ∧ x.toInt ≤ 255) ∧ x = u &&& 255) (hu : u = byU v sh) (h0 : 0 ≤ n.toInt) : ∀ i : Int, 0 ≤ i → cR f' i = if i = n.toInt then (byU v sh &&& 255).toInt else cR f i := by
  intro i hi
  unfold cR
  rw [← e]
  by_cases h : i = n.toInt
  · rw [if_pos h, show i.toNat = n.toNatClampNeg by rw [i_cn]; omega, ud_eq, hx.2, hu]
  · rw [if_neg h, ud_ne (by rw [i_cn]; omega)]
theorem put4 {A A1 A2 A3 A4 : Int → Int} {n0 n1 n2 n3 : Int} {v : Int32} (h1 : ∀ i, 0 ≤ i → A1 i = if i = n0 then (byU v 24 &&& 255).toInt else A i) (h2 : ∀ i, 0 ≤ i → A2 i = if i = n1 then (byU v 16 &&& 255).toInt else A1 i) (h3 : ∀ i, 0 ≤ i → A3 i = if i = n2 then (byU v 8 &&& 255).toInt else A2 i) (h4 : ∀ i, 0 ≤ i → A4 i = if i = n3 then (byU v 0 &&& 255).toInt else A3 i) (e1 : n1 = n0 + 1) (e2 : n2 = n0 + 2) (e3 : n3 = n0 + 3) : eqN A4 (bx A n0 v) (n0 + 4) := by
  intro i h0 hi
  rw [h4 i h0, h3 i h0, h2 i h0, h1 i h0]
  unfold bx byV
  by_cases c : i < n0
  · rw [if_neg (by omega), if_neg (by omega), if_neg (by omega), if_neg (by omega), if_pos c]
  · rw [if_neg c]
    rcases (show i = n0 ∨ i = n0 + 1 ∨ i = n0 + 2 ∨ i = n0 + 3 by omega) with h | h | h | h
    · rw [if_neg (by omega), if_neg (by omega), if_neg (by omega), if_pos (by omega), if_pos (by omega)]
    · rw [if_neg (by omega), if_neg (by omega), if_pos (by omega), if_neg (by omega), if_pos (by omega)]
    · rw [if_neg (by omega), if_pos (by omega), if_neg (by omega), if_neg (by omega), if_pos (by omega)]
    · rw [if_pos (by omega), if_neg (by omega), if_neg (by omega), if_neg (by omega)]
theorem bx_step {A B C : Int → Int} {m : Int} {v : Int32} (h1 : eqN A B m) (h2 : eqN C (bx A m v) (m + 4)) : eqN C (bx B m v) (m + 4) := by
  intro i h0 hi
  rw [h2 i h0 hi]
  unfold bx
  by_cases c : i < m
  · rw [if_pos c, if_pos c, h1 i h0 c]
  · rw [if_neg c, if_neg c]
theorem bx_con {A B : Int → Int} {n : Int} {v : Int32} (h : eqN A B n) : ∀ i, 0 ≤ i → bx A n v i = bx B n v i := by
  intro i h0
  unfold bx
  by_cases c : i < n
  · rw [if_pos c, if_pos c, h i h0 c]
  · rw [if_neg c, if_neg c]
def bx5 (A : Int → Int) (n : Int) (v1 v2 v3 v4 v5 : Int32) : Int → Int := bx (bx (bx (bx (bx A n v1) (n + 4) v2) (n + 4 + 4) v3) (n + 4 + 4 + 4) v4) (n + 4 + 4 + 4 + 4) v5
theorem bx5_of {A A1 A2 A3 A4 A5 : Int → Int} {n n1 n2 n3 n4 : Int} {v1 v2 v3 v4 v5 : Int32} (h1 : eqN A1 (bx A n v1) (n + 4)) (h2 : eqN A2 (bx A1 n1 v2) (n1 + 4)) (h3 : eqN A3 (bx A2 n2 v3) (n2 + 4)) (h4 : eqN A4 (bx A3 n3 v4) (n3 + 4)) (h5 : eqN A5 (bx A4 n4 v5) (n4 + 4)) (e1 : n1 = n + 4) (e2 : n2 = n1 + 4) (e3 : n3 = n2 + 4) (e4 : n4 = n3 + 4) : eqN A5 (bx5 A n v1 v2 v3 v4 v5) (n + 20) := by
  subst e1
  subst e2
  subst e3
  subst e4
  have g5 := bx_step (bx_step (bx_step (bx_step h1 h2) h3) h4) h5
  intro i h0 hi
  exact g5 i h0 (by omega)
theorem bx5_con {A B : Int → Int} {n : Int} {v1 v2 v3 v4 v5 : Int32} (h : eqN A B n) : ∀ i, 0 ≤ i → bx5 A n v1 v2 v3 v4 v5 i = bx5 B n v1 v2 v3 v4 v5 i := by
  have g1 : eqN (bx A n v1) (bx B n v1) (n + 4) := fun i h0 _ => bx_con h i h0
  have g2 : eqN (bx (bx A n v1) (n + 4) v2) (bx (bx B n v1) (n + 4) v2) (n + 4 + 4) := fun i h0 _ => bx_con g1 i h0
  have g3 : eqN (bx (bx (bx A n v1) (n + 4) v2) (n + 4 + 4) v3) (bx (bx (bx B n v1) (n + 4) v2) (n + 4 + 4) v3) (n + 4 + 4 + 4) := fun i h0 _ => bx_con g2 i h0
  have g4 : eqN (bx (bx (bx (bx A n v1) (n + 4) v2) (n + 4 + 4) v3) (n + 4 + 4 + 4) v4) (bx (bx (bx (bx B n v1) (n + 4) v2) (n + 4 + 4) v3) (n + 4 + 4 + 4) v4) (n + 4 + 4 + 4 + 4) := fun i h0 _ => bx_con g3 i h0
  intro i h0
  exact bx_con g4 i h0
def fdI (A A' : Int → Int) (n : Int) (v1 v2 v3 v4 v5 : Int32) : Prop := (n ≤ 920 ∧ eqN A' (bx5 A n v1 v2 v3 v4 v5) (n + 20)) ∨ (920 < n ∧ A' = A)
theorem fd_rel {A A' B B' : Int → Int} {n n2 k : Int} {v1 v2 v3 v4 v5 : Int32} (h : eqN A B n) (e : n = n2) (hA : fdI A A' n v1 v2 v3 v4 v5) (hB : fdI B B' n2 v1 v2 v3 v4 v5) (hk1 : n ≤ 920 → k = n + 20) (hk2 : 920 < n → k = n) : eqN A' B' k := by
  subst e
  rcases hA with ⟨h1, h2⟩ | ⟨h1, h2⟩
  · rcases hB with ⟨g1, g2⟩ | ⟨g1, g2⟩
    · intro i h0 hi
      have h3 := hk1 h1
      rw [h2 i h0 (by omega), g2 i h0 (by omega)]
      exact bx5_con h i h0
    · exfalso; omega
  · rcases hB with ⟨g1, g2⟩ | ⟨g1, g2⟩
    · exfalso; omega
    · rw [h2, g2, hk2 h1]; exact h
theorem eqN_le {A B : Int → Int} {n k : Int} (h : eqN A B n) (hk : k ≤ n) : eqN A B k := fun i h0 hi => h i h0 (Int.lt_of_lt_of_le hi hk)
theorem eqN_C {f g : Nat → Int32} {n : Int32} (h : eqN (cC f) (cR g) n.toInt) : tbC (fun i => (g i.toNat).toInt) f n := fun i h0 hi => (h i h0 hi).symm
def sesR (b : Int → Int) (n : Int) : Int := if (ss b n 900).1 = 0 then (ss b n 900).2.2.1 else -1 - (ss b n 900).2.1
/-- the LINES read so far, as the reference has them -/
def rsI (b : Int → Int) (n m to fr kd l : Int) (nu sn : Int32) (w : Int64) (R : (Nat → Int) → Prop) : Prop := ∃ (P : Int) (s : Nat → Int), (to = tkX b n m P ∧ fr = tkP b n m P ∧ kd = tkK b n m P ∧ tkV b n m P nu sn w) ∧ R s ∧ sgI s ∧ ssF b n m (941 - l).toNat s P l = ss b n m ∧ (0 ≤ l ∧ 2 * l ≤ P ∧ P ≤ 940)
theorem ses_ok {b : Int → Int} {n m r : Int} {s : Nat → Int} (hm : m = 900) (hE : ss b n m = (0, 0, r, s)) : r = sesR b n := by
  subst hm
  unfold sesR
  rw [hE]
  exact (if_pos rfl).symm
theorem ses_bad {b : Int → Int} {n m f p r : Int} {s : Nat → Int} (hm : m = 900) (hE : ss b n m = (f, p, 0, s)) (hf : f ≠ 0) (hr : r = -1 - p) : r = sesR b n := by
  subst hm
  unfold sesR
  rw [hE, hr]
  exact (if_neg hf).symm
theorem kcI_kcF : kcI kcF := by
  have h : ∀ k, k < 27 → (kcF k).toInt = cv (kN k) := by decide +kernel
  exact h
