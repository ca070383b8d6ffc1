/-! tokens, as plain functions of the bytes -/
def scF (P : Int → Bool) : Nat → Int → Int
  | 0, p => p
  | k + 1, p => if P p = true then scF P k (p + 1) else p
def sc (P : Int → Bool) (n p : Int) : Int := scF P (n - p).toNat p
theorem sc_step {P : Int → Bool} {n p : Int} (h : p < n) (hP : P p = true) : sc P n (p + 1) = sc P n p := by
  unfold sc
  have e : (n - p).toNat = (n - (p + 1)).toNat + 1 := by omega
  rw [e]
  show _ = (if P p = true then scF P (n - (p + 1)).toNat (p + 1) else p)
  rw [if_pos hP]
theorem sc_stop {P : Int → Bool} {n p : Int} (h : p < n → P p = false) : sc P n p = p := by
  unfold sc
  by_cases hp : p < n
  · have e : (n - p).toNat = (n - (p + 1)).toNat + 1 := by omega
    rw [e]
    show (if P p = true then scF P (n - (p + 1)).toNat (p + 1) else p) = p
    rw [h hp]
    rfl
  · have e : (n - p).toNat = 0 := by omega
    rw [e]
    rfl
theorem sc_all (P : Int → Bool) (n : Int) : ∀ (k : Nat) (p : Int), (n - p).toNat = k → p ≤ sc P n p ∧ (p ≤ n → sc P n p ≤ n) ∧ (sc P n p < n → P (sc P n p) = false) := by
  intro k
  induction k with
  | zero =>
    intro p hk
    rw [sc_stop (fun h => by omega)]
    exact ⟨Int.le_refl _, fun h => h, fun h => by omega⟩
  | succ k ih =>
    intro p hk
    cases hP : P p with
    | false =>
      rw [sc_stop (fun _ => hP)]
      exact ⟨Int.le_refl _, fun h => h, fun _ => hP⟩
    | true =>
      rw [← sc_step (by omega) hP]
      obtain ⟨h1, h2, h3⟩ := ih (p + 1) (by omega)
      exact ⟨by omega, fun _ => h2 (by omega), h3⟩
theorem sc_ge (P : Int → Bool) (n p : Int) : p ≤ sc P n p := (sc_all P n _ p rfl).1
theorem sc_le {P : Int → Bool} {n p : Int} (h : p ≤ n) : sc P n p ≤ n := (sc_all P n _ p rfl).2.1 h
def isL (c : Int) : Prop := 97 ≤ c ∧ c ≤ 122
def isD (c : Int) : Prop := 48 ≤ c ∧ c ≤ 57
def blB (b : Int → Int) (p : Int) : Bool := decide (b p = 32 ∨ b p = 10)
def wdB (b : Int → Int) (p : Int) : Bool := decide ((97 ≤ b p ∧ b p ≤ 122) ∨ (48 ≤ b p ∧ b p ≤ 57))
theorem blB_t {b : Int → Int} {p : Int} (h : b p = 32 ∨ b p = 10) : blB b p = true := decide_eq_true h
theorem blB_f {b : Int → Int} {p : Int} (h : ¬ (b p = 32 ∨ b p = 10)) : blB b p = false := decide_eq_false h
theorem wdB_t {b : Int → Int} {p : Int} (h : (97 ≤ b p ∧ b p ≤ 122) ∨ (48 ≤ b p ∧ b p ≤ 57)) : wdB b p = true := decide_eq_true h
theorem wdB_f {b : Int → Int} {p : Int} (h : ¬ ((97 ≤ b p ∧ b p ≤ 122) ∨ (48 ≤ b p ∧ b p ≤ 57))) : wdB b p = false := decide_eq_false h
/-- how many of the first k behind s are letters, digits -/
def cL (b : Int → Int) (s : Int) : Nat → Int
  | 0 => 0
  | k + 1 => cL b s k + (if 97 ≤ b (s + k) ∧ b (s + k) ≤ 122 then 1 else 0)
def cD (b : Int → Int) (s : Int) : Nat → Int
  | 0 => 0
  | k + 1 => cD b s k + (if 48 ≤ b (s + k) ∧ b (s + k) ≤ 57 then 1 else 0)
/-- the code to the base 32, the word to the base 27, the number -/
def cw (b : Int → Int) (s : Int) : Nat → Int
  | 0 => 0
  | k + 1 => cw b s k * 32 + (b (s + k) - 96)
def ww (b : Int → Int) (s : Int) : Nat → Int
  | 0 => 0
  | k + 1 => 27 * ww b s k + (b (s + k) - 96)
def dv (b : Int → Int) (s : Int) : Nat → Int
  | 0 => 0
  | k + 1 => 10 * dv b s k + (b (s + k) - 48)
theorem cL_s (b : Int → Int) (s : Int) (k : Nat) : cL b s (k + 1) = cL b s k + (if 97 ≤ b (s + k) ∧ b (s + k) ≤ 122 then 1 else 0) := rfl
theorem cD_s (b : Int → Int) (s : Int) (k : Nat) : cD b s (k + 1) = cD b s k + (if 48 ≤ b (s + k) ∧ b (s + k) ≤ 57 then 1 else 0) := rfl
theorem cw_s (b : Int → Int) (s : Int) (k : Nat) : cw b s (k + 1) = cw b s k * 32 + (b (s + k) - 96) := rfl
theorem ww_s (b : Int → Int) (s : Int) (k : Nat) : ww b s (k + 1) = 27 * ww b s k + (b (s + k) - 96) := rfl
theorem dv_s (b : Int → Int) (s : Int) (k : Nat) : dv b s (k + 1) = 10 * dv b s k + (b (s + k) - 48) := rfl
theorem cLD_bd (b : Int → Int) (s : Int) (k : Nat) : 0 ≤ cL b s k ∧ 0 ≤ cD b s k ∧ cL b s k + cD b s k ≤ k := by
  induction k with
  | zero => exact ⟨Int.le_refl _, Int.le_refl _, Int.le_refl _⟩
  | succ k ih =>
    rw [cL_s, cD_s]
    split <;> split <;> omega
/-- the digits of a number to the base 27 as digits to the base 32 -/
def cvF : Nat → Int → Int
  | 0, _ => 0
  | f + 1, w => cvF f (w / 27) * 32 + w % 27
def ucF : Nat → Int → Int
  | 0, _ => 0
  | f + 1, v => ucF f (v / 32) * 27 + v % 32
def cv (w : Int) : Int := cvF 7 w
theorem cvF_0 (f : Nat) : cvF f 0 = 0 := by
  induction f with
  | zero => rfl
  | succ f ih =>
    show cvF f (0 / 27) * 32 + 0 % 27 = 0
    rw [show (0 : Int) / 27 = 0 from rfl, ih]
    rfl
theorem cvF_nn (f : Nat) : ∀ w : Int, 0 ≤ cvF f w := by
  induction f with
  | zero => intro w; exact Int.le_refl _
  | succ f ih =>
    intro w
    show 0 ≤ cvF f (w / 27) * 32 + w % 27
    have := ih (w / 27)
    omega
theorem cvF_more (f : Nat) : ∀ w : Int, 0 ≤ w → w < 27 ^ f → cvF (f + 1) w = cvF f w := by
  induction f with
  | zero =>
    intro w h0 h1
    have e : w = 0 := by
      have : (27 : Int) ^ 0 = 1 := rfl
      omega
    rw [e, cvF_0, cvF_0]
  | succ f ih =>
    intro w h0 h1
    show cvF (f + 1) (w / 27) * 32 + w % 27 = cvF f (w / 27) * 32 + w % 27
    rw [ih (w / 27) (by omega) (by rw [Int.pow_succ] at h1; omega)]
theorem ucF_cvF (f : Nat) : ∀ w : Int, 0 ≤ w → w < 27 ^ f → ucF f (cvF f w) = w := by
  induction f with
  | zero =>
    intro w h0 h1
    have : (27 : Int) ^ 0 = 1 := rfl
    show (0 : Int) = w
    omega
  | succ f ih =>
    intro w h0 h1
    have hn := cvF_nn f (w / 27)
    show ucF f ((cvF f (w / 27) * 32 + w % 27) / 32) * 27 + (cvF f (w / 27) * 32 + w % 27) % 32 = w
    rw [show (cvF f (w / 27) * 32 + w % 27) / 32 = cvF f (w / 27) by omega, show (cvF f (w / 27) * 32 + w % 27) % 32 = w % 27 by omega, ih (w / 27) (by omega) (by rw [Int.pow_succ] at h1; omega)]
    omega
theorem cv_inj {w v : Int} (h0 : 0 ≤ w) (h1 : w < 10460353203) (g0 : 0 ≤ v) (g1 : v < 10460353203) (e : cv w = cv v) : w = v := by
  have a := ucF_cvF 7 w h0 (Int.lt_of_lt_of_le h1 (by decide))
  have c := ucF_cvF 7 v g0 (Int.lt_of_lt_of_le g1 (by decide))
  exact a.symm.trans ((congrArg (ucF 7) e).trans c)
/-- words of letters alone -/
theorem ww_bd (b : Int → Int) (s : Int) (k : Nat) : cL b s k = k → (0 ≤ ww b s k ∧ ww b s k < 27 ^ k) ∧ cw b s k = cvF k (ww b s k) := by
  induction k with
  | zero => intro _; exact ⟨⟨Int.le_refl _, (show (0 : Int) < 27 ^ 0 by decide)⟩, rfl⟩
  | succ k ih =>
    intro h
    rw [cL_s] at h
    have hb := cLD_bd b s k
    by_cases hl : 97 ≤ b (s + k) ∧ b (s + k) ≤ 122
    · rw [if_pos hl] at h
      obtain ⟨⟨i0, i1⟩, i2⟩ := ih (by omega)
      rw [ww_s, cw_s]
      refine ⟨⟨by omega, by rw [Int.pow_succ]; omega⟩, ?_⟩
      show _ = cvF k ((27 * ww b s k + (b (s + k) - 96)) / 27) * 32 + (27 * ww b s k + (b (s + k) - 96)) % 27
      rw [show (27 * ww b s k + (b (s + k) - 96)) / 27 = ww b s k by omega, show (27 * ww b s k + (b (s + k) - 96)) % 27 = b (s + k) - 96 by omega, i2]
    · rw [if_neg hl] at h
      omega
theorem pw_up (k j : Nat) : (27 : Int) ^ k ≤ 27 ^ (k + j) := by
  induction j with
  | zero => exact Int.le_refl _
  | succ j ih =>
    have h := Int.pow_nonneg (n := 27) (m := k + j) (by decide)
    rw [show k + (j + 1) = (k + j) + 1 from rfl, Int.pow_succ]
    generalize (27 : Int) ^ (k + j) = z at h ih ⊢
    omega
theorem cvF_up {w : Int} (k : Nat) (h0 : 0 ≤ w) (h : w < 27 ^ k) : ∀ j : Nat, cvF (k + j) w = cvF k w := by
  intro j
  induction j with
  | zero => rfl
  | succ j ih => rw [show k + (j + 1) = k + j + 1 from rfl, cvF_more (k + j) w h0 (Int.lt_of_lt_of_le h (pw_up k j)), ih]
theorem ww_cv {b : Int → Int} {s : Int} {k : Nat} (h : cL b s k = k) (hk : k ≤ 7) : cw b s k = cv (ww b s k) ∧ 0 ≤ ww b s k ∧ ww b s k < 10460353203 := by
  obtain ⟨⟨h0, h1⟩, h2⟩ := ww_bd b s k h
  obtain ⟨j, hj⟩ : ∃ j, k + j = 7 := ⟨7 - k, by omega⟩
  have e := cvF_up k h0 h1 j
  have hp := pw_up k j
  rw [hj] at e hp
  exact ⟨by rw [h2]; exact e.symm, h0, Int.lt_of_lt_of_le h1 (Int.le_trans hp (by decide))⟩
theorem sc_in (P : Int → Bool) (n : Int) : ∀ (k : Nat) (p : Int), (n - p).toNat = k → ∀ j, p ≤ j → j < sc P n p → P j = true := by
  intro k
  induction k with
  | zero =>
    intro p hk j h1 h2
    rw [sc_stop (fun h => by omega)] at h2
    omega
  | succ k ih =>
    intro p hk j h1 h2
    cases hP : P p with
    | false =>
      rw [sc_stop (fun _ => hP)] at h2
      omega
    | true =>
      by_cases e : j = p
      · rw [e]; exact hP
      · rw [← sc_step (by omega) hP] at h2
        exact ih (p + 1) (by omega) j (by omega) h2
theorem cLD_eq {b : Int → Int} {s : Int} : ∀ k : Nat, (∀ j : Nat, j < k → wdB b (s + j) = true) → cL b s k + cD b s k = k := by
  intro k
  induction k with
  | zero => intro _; rfl
  | succ k ih =>
    intro h
    have h1 := ih (fun j hj => h j (by omega))
    have h2 := of_decide_eq_true (h k (by omega))
    rw [cL_s, cD_s]
    split <;> split <;> omega
theorem cLD_sc (b : Int → Int) (n s : Int) : cL b s (sc (wdB b) n s - s).toNat + cD b s (sc (wdB b) n s - s).toNat = sc (wdB b) n s - s := by
  have hg := sc_ge (wdB b) n s
  have h := cLD_eq (b := b) (s := s) (sc (wdB b) n s - s).toNat (fun j hj => sc_in (wdB b) n _ s rfl (s + j) (by omega) (by omega))
  rw [h]
  omega
/-! a token: where it begins, where its letters and digits end, its kind (0 the end, 1 none, 2 a word, 3 a number, 4 a sign), its place, what is behind it -/
def tkS (b : Int → Int) (n p : Int) : Int := sc (blB b) n p
def tkQ (b : Int → Int) (n p : Int) : Int := sc (wdB b) n (tkS b n p)
def tkC (b : Int → Int) (n p : Int) : Nat := (tkQ b n p - tkS b n p).toNat
def tkK (b : Int → Int) (n m p : Int) : Int :=
  if m < n ∧ m ≤ tkS b n p then 1
  else if n ≤ tkS b n p then 0
  else if (97 ≤ b (tkS b n p) ∧ b (tkS b n p) ≤ 122) ∨ (48 ≤ b (tkS b n p) ∧ b (tkS b n p) ≤ 57) then
    (if cD b (tkS b n p) (tkC b n p) = 0 ∧ cL b (tkS b n p) (tkC b n p) ≤ 7 then 2
    else if cL b (tkS b n p) (tkC b n p) = 0 ∧ cD b (tkS b n p) (tkC b n p) ≤ 3 then 3 else 1)
  else if (59 ≤ b (tkS b n p) ∧ b (tkS b n p) ≤ 62) ∨ b (tkS b n p) = 40 ∨ b (tkS b n p) = 41 then 4 else 1
def tkP (b : Int → Int) (n m p : Int) : Int := if m < n ∧ m ≤ tkS b n p then m else tkS b n p
def tkX (b : Int → Int) (n m p : Int) : Int :=
  if m < n ∧ m ≤ tkS b n p then tkS b n p
  else if n ≤ tkS b n p then tkS b n p
  else if (97 ≤ b (tkS b n p) ∧ b (tkS b n p) ≤ 122) ∨ (48 ≤ b (tkS b n p) ∧ b (tkS b n p) ≤ 57) then tkQ b n p
  else tkS b n p + 1
def tkN (b : Int → Int) (n p : Int) : Int := dv b (tkS b n p) (tkC b n p)
def tkW (b : Int → Int) (n p : Int) : Int := ww b (tkS b n p) (tkC b n p)
def tkG (b : Int → Int) (n p : Int) : Int := b (tkS b n p)
theorem tkK_2 {b : Int → Int} {n m p : Int} (h : tkK b n m p = 2) : cD b (tkS b n p) (tkC b n p) = 0 ∧ cL b (tkS b n p) (tkC b n p) ≤ 7 := by
  unfold tkK at h
  split at h
  · omega
  split at h
  · omega
  split at h
  · split at h
    · assumption
    · split at h <;> omega
  · split at h <;> omega
theorem tkK_3 {b : Int → Int} {n m p : Int} (h : tkK b n m p = 3) : cL b (tkS b n p) (tkC b n p) = 0 ∧ cD b (tkS b n p) (tkC b n p) ≤ 3 := by
  unfold tkK at h
  split at h
  · omega
  split at h
  · omega
  split at h
  · split at h
    · omega
    · split at h
      · assumption
      · omega
  · split at h <;> omega
theorem tkW_bd {b : Int → Int} {n m p : Int} (h : tkK b n m p = 2) : cw b (tkS b n p) (tkC b n p) = cv (tkW b n p) ∧ 0 ≤ tkW b n p ∧ tkW b n p < 10460353203 := by
  obtain ⟨h1, h2⟩ := tkK_2 h
  have h3 := cLD_sc b n (tkS b n p)
  have hg := sc_ge (wdB b) n (tkS b n p)
  have h4 : cL b (tkS b n p) (tkC b n p) + cD b (tkS b n p) (tkC b n p) = ((tkC b n p : Nat) : Int) := by
    unfold tkC tkQ
    omega
  exact ww_cv (by omega) (by omega)
theorem dv_bd (b : Int → Int) (s : Int) (k : Nat) : cD b s k = k → 0 ≤ dv b s k ∧ dv b s k < 10 ^ k := by
  induction k with
  | zero => intro _; exact ⟨Int.le_refl _, (show (0 : Int) < 1 by decide)⟩
  | succ k ih =>
    intro h
    rw [cD_s] at h
    have hb := cLD_bd b s k
    by_cases hl : 48 ≤ b (s + k) ∧ b (s + k) ≤ 57
    · rw [if_pos hl] at h
      obtain ⟨i0, i1⟩ := ih (by omega)
      rw [dv_s, Int.pow_succ]
      omega
    · rw [if_neg hl] at h
      omega
theorem tkN_bd {b : Int → Int} {n m p : Int} (h : tkK b n m p = 3) : 0 ≤ tkN b n p ∧ tkN b n p ≤ 999 := by
  obtain ⟨h1, h2⟩ := tkK_3 h
  have h3 := cLD_sc b n (tkS b n p)
  have hg := sc_ge (wdB b) n (tkS b n p)
  have h4 : cL b (tkS b n p) (tkC b n p) + cD b (tkS b n p) (tkC b n p) = ((tkC b n p : Nat) : Int) := by
    unfold tkC tkQ
    omega
  have hd := dv_bd b (tkS b n p) (tkC b n p) (by omega)
  have hk : tkC b n p ≤ 3 := by omega
  unfold tkN
  generalize tkC b n p = k at hd hk
  match k, hk with
  | 0, _ => have e : (10 : Int) ^ 0 = 1 := rfl; omega
  | 1, _ => have e : (10 : Int) ^ 1 = 10 := rfl; omega
  | 2, _ => have e : (10 : Int) ^ 2 = 100 := rfl; omega
  | 3, _ => have e : (10 : Int) ^ 3 = 1000 := rfl; omega
/-! the words that no NAME may be -/
def kN (k : Nat) : Int := ([10340249, 117481419, 6562612, 4285945, 279252, 664272, 316189, 281490259, 237292, 3554273, 31519426, 10266413, 311436, 7413636302, 381097, 168984, 423, 1111, 10631, 528, 1421140441, 114602, 243059, 6559778, 161156, 10279864, 212302449] : List Int).getD k 0
def kyF (t : Nat → Int) (w : Int) : Nat → Int
  | 0 => -1
  | k + 1 => if t k = w then (k : Int) else kyF t w k
def kyN (w : Int) : Int := kyF kN w 27
theorem kyF_s (t : Nat → Int) (w : Int) (k : Nat) : kyF t w (k + 1) = if t k = w then (k : Int) else kyF t w k := rfl
theorem kyF_bd (t : Nat → Int) (w : Int) (k : Nat) : -1 ≤ kyF t w k ∧ kyF t w k < k ∧ (∀ j : Nat, kyF t w k = j → t j = w) := by
  induction k with
  | zero => exact ⟨Int.le_refl _, by show (-1 : Int) < 0; decide, fun j h => by have : (-1 : Int) = j := h; omega⟩
  | succ k ih =>
    rw [kyF_s]
    split
    · rename_i h
      exact ⟨by omega, by omega, fun j hj => by rw [← h]; congr 1; omega⟩
    · exact ⟨ih.1, by omega, ih.2.2⟩
theorem kyF_no {t : Nat → Int} {w : Int} (k : Nat) (h : kyF t w k = -1) : ∀ j : Nat, j < k → t j ≠ w := by
  induction k with
  | zero => intro j hj; omega
  | succ k ih =>
    rw [kyF_s] at h
    split at h
    · omega
    · rename_i hne
      intro j hj
      by_cases e : j = k
      · rw [e]; exact hne
      · exact ih h j (by omega)
theorem kN_inj : ∀ i, i < 27 → ∀ j, j < 27 → kN i = kN j → i = j := by decide +kernel
theorem kN_bd : ∀ i, i < 27 → 0 ≤ kN i ∧ kN i < 10460353203 := by decide +kernel
theorem kyN_is {w : Int} {i : Nat} (hi : i < 27) : kyN w = i ↔ w = kN i := by
  constructor
  · intro h; exact ((kyF_bd kN w 27).2.2 i h).symm
  · intro h
    have hb := kyF_bd kN w 27
    by_cases hn : kyF kN w 27 = -1
    · exact absurd h.symm (kyF_no 27 hn i hi)
    · obtain ⟨j, hj⟩ : ∃ j : Nat, kyF kN w 27 = j := ⟨(kyF kN w 27).toNat, by omega⟩
      have := kN_inj j (by omega) i hi ((hb.2.2 j hj).trans h)
      show kyF kN w 27 = i
      rw [hj, this]
theorem kyN_no {w : Int} : kyN w = -1 ↔ ∀ i : Nat, i < 27 → w ≠ kN i := by
  constructor
  · intro h i hi e
    exact kyF_no 27 h i hi e.symm
  · intro h
    have hb := kyF_bd kN w 27
    by_cases hn : kyF kN w 27 = -1
    · exact hn
    · obtain ⟨j, hj⟩ : ∃ j : Nat, kyF kN w 27 = j := ⟨(kyF kN w 27).toNat, by omega⟩
      exact absurd (hb.2.2 j hj).symm (h j (by omega))
theorem kyN_bd (w : Int) : -1 ≤ kyN w ∧ kyN w ≤ 26 := by
  have hb := kyF_bd kN w 27
  unfold kyN
  omega
/-- the class's table of codes -/
def kcI (f : Nat → Int64) : Prop := ∀ k : Nat, k < 27 → (f k).toInt = cv (kN k)
theorem kyF_cv {f : Nat → Int64} (hf : kcI f) {w : Int} (h0 : 0 ≤ w) (h1 : w < 10460353203) : ∀ k : Nat, k ≤ 27 → kyF (fun k => (f k).toInt) (cv w) k = kyF kN w k := by
  intro k
  induction k with
  | zero => intro _; rfl
  | succ k ih =>
    intro hk
    rw [kyF_s, kyF_s, ih (by omega)]
    have hb := kN_bd k (by omega)
    by_cases e : kN k = w
    · rw [if_pos e, if_pos (by rw [hf k (by omega), e])]
    · rw [if_neg e, if_neg (by rw [hf k (by omega)]; exact fun q => e (cv_inj hb.1 hb.2 h0 h1 q))]
theorem l_cmp0 {x y : Int64} {X Y : Int} (hx : x.toInt = X) (hy : y.toInt = Y) : (lg_cmp x y).toInt = 0 ↔ X = Y := by
  unfold lg_cmp
  by_cases h1 : x > y
  · rw [if_pos h1]
    have h2 : y.toInt < x.toInt := Int64.lt_iff_toInt_lt.mp h1
    have e : (1 : Int32).toInt = 1 := rfl
    omega
  · rw [if_neg h1]
    by_cases h2 : x = y
    · rw [if_pos h2]
      have e : (0 : Int32).toInt = 0 := rfl
      have e2 : X = Y := by rw [← hx, ← hy, h2]
      omega
    · rw [if_neg h2]
      have e : (-1 : Int32).toInt = -1 := rfl
      have e2 : X ≠ Y := fun q => h2 (Int64.toInt_inj.mp (by rw [hx, hy, q]))
      omega
/-- the class's bytes as numbers -/
def tbC (b : Int → Int) (f : Nat → Int32) (n : Int32) : Prop := ∀ i : Int, 0 ≤ i → i < n.toInt → b i = ((f i.toNat) &&& 255).toInt
/-- the reference's bytes as numbers -/
def tbR (b : Int → Int) (f : Nat → Int32) (n : Int32) : Prop := ∀ i : Int, 0 ≤ i → i < n.toInt → b i = (f i.toNat).toInt
/-! steps of the folds -/
theorem nx_len {f s : Int} {f' : Int} (h : s ≤ f) (e : f' = f + 1) : (f' - s).toNat = (f - s).toNat + 1 ∧ s + ((f - s).toNat : Int) = f := by omega
theorem cL_y {b : Int → Int} {f s f' : Int} (h : s ≤ f) (e : f' = f + 1) (hl : 97 ≤ b f ∧ b f ≤ 122) : cL b s (f' - s).toNat = cL b s (f - s).toNat + 1 ∧ cD b s (f' - s).toNat = cD b s (f - s).toNat := by
  obtain ⟨h1, h2⟩ := nx_len h e
  rw [h1, cL_s, cD_s, h2, if_pos hl, if_neg (by omega)]
  omega
theorem cD_y {b : Int → Int} {f s f' : Int} (h : s ≤ f) (e : f' = f + 1) (hl : 48 ≤ b f ∧ b f ≤ 57) : cL b s (f' - s).toNat = cL b s (f - s).toNat ∧ cD b s (f' - s).toNat = cD b s (f - s).toNat + 1 := by
  obtain ⟨h1, h2⟩ := nx_len h e
  rw [h1, cL_s, cD_s, h2, if_pos hl, if_neg (by omega)]
  omega
theorem cw_lt (b : Int → Int) (s : Int) (k : Nat) : cL b s k = k → 0 ≤ cw b s k ∧ cw b s k < 32 ^ k := by
  induction k with
  | zero => intro _; exact ⟨Int.le_refl _, (show (0 : Int) < 1 by decide)⟩
  | succ k ih =>
    intro h
    rw [cL_s] at h
    have hb := cLD_bd b s k
    by_cases hl : 97 ≤ b (s + k) ∧ b (s + k) ≤ 122
    · rw [if_pos hl] at h
      obtain ⟨i0, i1⟩ := ih (by omega)
      rw [cw_s, Int.pow_succ]
      omega
    · rw [if_neg hl] at h
      omega
theorem pw7 {k : Nat} (h : k ≤ 7) : (32 : Int) ^ k ≤ 34359738368 ∧ (27 : Int) ^ k ≤ 10460353203 ∧ (10 : Int) ^ k ≤ 10000000 := by
  match k, h with
  | 0, _ => decide
  | 1, _ => decide
  | 2, _ => decide
  | 3, _ => decide
  | 4, _ => decide
  | 5, _ => decide
  | 6, _ => decide
  | 7, _ => decide
theorem code_step {b : Int → Int} {c c' c1 x8 : Int64} {x : Int32} {f s f' : Int} (h : s ≤ f) (e : f' = f + 1) (hl : 97 ≤ b f ∧ b f ≤ 122) (hk : f - s ≤ 6) (ha : cL b s (f - s).toNat = f - s) (hc : c.toInt = cw b s (f - s).toNat) (e1 : c1 = c * 32) (hx : x.toInt = b f - 96) (e2 : x8 = x.toInt64) (e3 : c' = c1 + x8) : c'.toInt = cw b s (f' - s).toNat := by
  obtain ⟨h1, h2⟩ := nx_len h e
  have hb := cw_lt b s (f - s).toNat (by omega)
  have hp := (pw7 (k := (f - s).toNat) (by omega)).1
  rw [h1, cw_s, h2, e3, e1, e2]
  have m1 : (c * 32).toInt = cw b s (f - s).toNat * 32 := l_mul hc rfl (by omega) (by omega)
  exact l_add m1 ((l_i2l x).trans hx) (by omega) (by omega)
theorem val_step {b : Int → Int} {v v' v1 x : Int32} {f s f' : Int} (h : s ≤ f) (e : f' = f + 1) (hl : 48 ≤ b f ∧ b f ≤ 57) (hk : f - s ≤ 2) (ha : cD b s (f - s).toNat = f - s) (hc : v.toInt = dv b s (f - s).toNat) (e1 : v1 = v * 10) (hx : x.toInt = b f - 48) (e3 : v' = v1 + x) : v'.toInt = dv b s (f' - s).toNat := by
  obtain ⟨h1, h2⟩ := nx_len h e
  have hb := dv_bd b s (f - s).toNat (by omega)
  have hp := (pw7 (k := (f - s).toNat) (by omega)).2.2
  rw [h1, dv_s, h2, e3, e1]
  have m1 : (v * 10).toInt = dv b s (f - s).toNat * 10 := i_mul hc rfl (by omega) (by omega)
  have m2 : (v * 10 + x).toInt = dv b s (f - s).toNat * 10 + (b f - 48) := i_add m1 hx (by omega) (by omega)
  rw [m2]
  omega
theorem run_word {b : Int → Int} {n m p F code key : Int} {f : Nat → Int64} (hf : kcI f) (hS : tkS b n p = F) (hK : tkK b n m p = 2) (hc : code = cw b F (sc (wdB b) n F - F).toNat) (hk : key = kyF (fun k => (f k).toInt) code 27) : code = cv (tkW b n p) ∧ key = kyN (tkW b n p) := by
  obtain ⟨h1, h2, h3⟩ := tkW_bd hK
  have e : code = cv (tkW b n p) := by
    rw [← h1, hc]
    unfold tkC tkQ
    rw [hS]
  refine ⟨e, ?_⟩
  rw [hk, e]
  exact kyF_cv hf h2 h3 27 (by omega)
theorem run_num {b : Int → Int} {n p F v : Int} (hS : tkS b n p = F) (hv : v = dv b F (sc (wdB b) n F - F).toNat) : v = tkN b n p := by
  unfold tkN tkC tkQ
  rw [hS, hv]
theorem cLD_y {b : Int → Int} {f s : Int} (h : s ≤ f) (hl : (97 ≤ b f ∧ b f ≤ 122) ∨ (48 ≤ b f ∧ b f ≤ 57)) : ((97 ≤ b f ∧ b f ≤ 122 ∧ cL b s (f + 1 - s).toNat = cL b s (f - s).toNat + 1 ∧ cD b s (f + 1 - s).toNat = cD b s (f - s).toNat) ∨ (48 ≤ b f ∧ b f ≤ 57 ∧ cL b s (f + 1 - s).toNat = cL b s (f - s).toNat ∧ cD b s (f + 1 - s).toNat = cD b s (f - s).toNat + 1)) ∧ 0 ≤ cL b s (f - s).toNat ∧ 0 ≤ cD b s (f - s).toNat := by
  have hb := cLD_bd b s (f - s).toNat
  rcases hl with hl | hl
  · have := cL_y (b := b) h rfl hl
    omega
  · have := cD_y (b := b) h rfl hl
    omega
theorem word_step {b : Int → Int} {w w1 w2 w3 x8 : Int64} {f s f' : Int} (h : s ≤ f) (e : f' = f + 1) (hl : 97 ≤ b f ∧ b f ≤ 122) (hk : f - s ≤ 6) (ha : cL b s (f - s).toNat = f - s) (hc : w.toInt = ww b s (f - s).toNat) (hx : x8.toInt = b f) (e1 : w1 = 27 * w) (e2 : w2 = w1 + x8) (e3 : w3 = w2 - 96) : w3.toInt = ww b s (f' - s).toNat := by
  obtain ⟨h1, h2⟩ := nx_len h e
  have hb := (ww_bd b s (f - s).toNat (by omega)).1
  have hp := (pw7 (k := (f - s).toNat) (by omega)).2.1
  rw [h1, ww_s, h2, e3, e2, e1]
  have m1 : (27 * w).toInt = 27 * ww b s (f - s).toNat := l_mul rfl hc (by omega) (by omega)
  have m2 : (27 * w + x8).toInt = 27 * ww b s (f - s).toNat + b f := l_add m1 hx (by omega) (by omega)
  have m3 : (27 * w + x8 - 96).toInt = 27 * ww b s (f - s).toNat + b f - 96 := l_sub m2 rfl (by omega) (by omega)
  rw [m3]
  omega
theorem num_step {b : Int → Int} {v v1 v2 v3 x : Int32} {f s f' : Int} (h : s ≤ f) (e : f' = f + 1) (hl : 48 ≤ b f ∧ b f ≤ 57) (hk : f - s ≤ 2) (ha : cD b s (f - s).toNat = f - s) (hc : v.toInt = dv b s (f - s).toNat) (hx : x.toInt = b f) (e1 : v1 = 10 * v) (e2 : v2 = v1 + x) (e3 : v3 = v2 - 48) : v3.toInt = dv b s (f' - s).toNat := by
  obtain ⟨h1, h2⟩ := nx_len h e
  have hb := dv_bd b s (f - s).toNat (by omega)
  have hp := (pw7 (k := (f - s).toNat) (by omega)).2.2
  rw [h1, dv_s, h2, e3, e2, e1]
  have m1 : (10 * v).toInt = 10 * dv b s (f - s).toNat := i_mul rfl hc (by omega) (by omega)
  have m2 : (10 * v + x).toInt = 10 * dv b s (f - s).toNat + b f := i_add m1 hx (by omega) (by omega)
  have m3 : (10 * v + x - 48).toInt = 10 * dv b s (f - s).toNat + b f - 48 := i_sub m2 rfl (by omega) (by omega)
  rw [m3]
  omega
/-! the reference's run of letters and digits -/
def goW (b : Int → Int) (S t : Int) (w : Int64) : Prop := cD b S (t - S).toNat = 0 → t - S ≤ 7 → w.toInt = ww b S (t - S).toNat
def goN (b : Int → Int) (S t : Int) (n : Int32) : Prop := cL b S (t - S).toNat = 0 → t - S ≤ 3 → n.toInt = dv b S (t - S).toNat
def wstI (S t bt : Int) (w w' : Int64) : Prop := t - S < 7 → ∃ x8 : Int64, x8.toInt = bt ∧ w' = 27 * w + x8 - 96
def nstI (S t bt : Int) (n n' : Int32) : Prop := t - S < 3 → ∃ x : Int32, x.toInt = bt ∧ n' = 10 * n + x - 48
def goI1 (b : Int → Int) (N S t : Int) (g : Int32) (w : Int64) (n : Int32) : Prop := sc (wdB b) N t = sc (wdB b) N S ∧ S ≤ t ∧ t ≤ N ∧ cL b S (t - S).toNat + cD b S (t - S).toNat = t - S ∧ ((g.toInt = 1 ∧ cD b S (t - S).toNat = 0) ∨ (g.toInt = 0 ∧ 1 ≤ cD b S (t - S).toNat)) ∧ (S < t → 1 ≤ cL b S (t - S).toNat) ∧ goW b S t w ∧ goN b S t n
theorem goI1_0 {b : Int → Int} {N S : Int} (h : S ≤ N) : goI1 b N S S 1 0 0 := by
  have z0 : (S - S).toNat = 0 := by omega
  refine ⟨rfl, by omega, h, ?_, Or.inl ⟨rfl, ?_⟩, fun h => by omega, ?_, ?_⟩
  · rw [z0]
    show (0 : Int) + 0 = S - S
    omega
  · rw [z0]
    all_goals rfl
  · intro _ _
    rw [z0]
    all_goals rfl
  · intro _ _
    rw [z0]
    all_goals rfl
theorem goI1_s {b : Int → Int} {N S t t' : Int} {g g' : Int32} {w w' : Int64} {n n' : Int32} (h : goI1 b N S t g w n) (ht : t < N) (hS : 97 ≤ b S ∧ b S ≤ 122) (hw : (97 ≤ b t ∧ b t ≤ 122) ∨ (48 ≤ b t ∧ b t ≤ 57)) (hg : (g'.toInt = 1 ∧ g.toInt ≠ 0 ∧ (97 ≤ b t ∧ b t ≤ 122)) ∨ (g'.toInt = 0 ∧ (g.toInt = 0 ∨ ¬ (97 ≤ b t ∧ b t ≤ 122)))) (h1 : wstI S t (b t) w w') (h2 : nstI S t (b t) n n') (e : t' = t + 1) : goI1 b N S t' g' w' n' := by
  obtain ⟨a1, a2, a3, a4, a5, a6, a7, a8⟩ := h
  obtain ⟨hst, hb1, hb2⟩ := cLD_y a2 hw
  subst e
  refine ⟨by rw [sc_step ht (wdB_t hw)]; exact a1, by omega, by omega, by omega, by omega, fun _ => ?_, fun h7 h8 => ?_, fun h7 h8 => ?_⟩
  · by_cases e : t = S
    · subst e
      omega
    · have := a6 (by omega)
      omega
  · obtain ⟨x8, hx, e⟩ := h1 (by omega)
    exact word_step a2 rfl (by omega) (by omega) (by omega) (a7 (by omega) (by omega)) hx rfl rfl e
  · obtain ⟨x8, hx, e⟩ := h2 (by omega)
    exact num_step a2 rfl (by omega) (by omega) (by omega) (a8 (by omega) (by omega)) hx rfl rfl e
theorem goI1_e {b : Int → Int} {N m p S t : Int} {g : Int32} {w : Int64} {n : Int32} (h : goI1 b N S t g w n) (hS : tkS b N p = S) (hn : S < N) (hl : N ≤ m ∨ S < m) (h0 : 97 ≤ b S ∧ b S ≤ 122) (hstop : t < N → ¬ ((97 ≤ b t ∧ b t ≤ 122) ∨ (48 ≤ b t ∧ b t ≤ 57))) : tkX b N m p = t ∧ tkP b N m p = S ∧ (g.toInt = 1 → t - S ≤ 7 → tkK b N m p = 2 ∧ w.toInt = tkW b N p) ∧ (g.toInt = 0 ∨ 7 < t - S → tkK b N m p = 1) := by
  obtain ⟨a1, a2, a3, a4, a5, a6, a7, a8⟩ := h
  have hQ : sc (wdB b) N S = t := a1.symm.trans (sc_stop (fun h => wdB_f (hstop h)))
  have q1 := sc_step (P := wdB b) hn (wdB_t (Or.inl h0))
  have q2 := sc_ge (wdB b) N (S + 1)
  have hC : tkC b N p = (t - S).toNat := by
    unfold tkC tkQ
    rw [hS, hQ]
  have hQ2 : tkQ b N p = t := by
    unfold tkQ
    rw [hS, hQ]
  have h6 := a6 (by omega)
  have hb := cLD_bd b S (t - S).toNat
  refine ⟨?_, ?_, fun g1 l1 => ⟨?_, ?_⟩, fun hb1 => ?_⟩
  · unfold tkX
    rw [hS, if_neg (by omega), if_neg (by omega), if_pos (by omega), hQ2]
  · unfold tkP
    rw [hS, if_neg (by omega)]
  · unfold tkK
    rw [hS, hC, if_neg (by omega), if_neg (by omega), if_pos (by omega)]
    rw [if_pos (by omega)]
  · unfold tkW
    rw [hS, hC]
    exact a7 (by omega) (by omega)
  · unfold tkK
    rw [hS, hC, if_neg (by omega), if_neg (by omega), if_pos (by omega), if_neg (by omega), if_neg (by omega)]
def goI0 (b : Int → Int) (N S t : Int) (g : Int32) (w : Int64) (n : Int32) : Prop := sc (wdB b) N t = sc (wdB b) N S ∧ S ≤ t ∧ t ≤ N ∧ cL b S (t - S).toNat + cD b S (t - S).toNat = t - S ∧ ((g.toInt = 1 ∧ cL b S (t - S).toNat = 0) ∨ (g.toInt = 0 ∧ 1 ≤ cL b S (t - S).toNat)) ∧ (S < t → 1 ≤ cD b S (t - S).toNat) ∧ goW b S t w ∧ goN b S t n
theorem goI0_0 {b : Int → Int} {N S : Int} (h : S ≤ N) : goI0 b N S S 1 0 0 := by
  have z0 : (S - S).toNat = 0 := by omega
  refine ⟨rfl, by omega, h, ?_, Or.inl ⟨rfl, ?_⟩, fun h => by omega, ?_, ?_⟩
  · rw [z0]
    show (0 : Int) + 0 = S - S
    omega
  · rw [z0]
    all_goals rfl
  · intro _ _
    rw [z0]
    all_goals rfl
  · intro _ _
    rw [z0]
    all_goals rfl
theorem goI0_s {b : Int → Int} {N S t t' : Int} {g g' : Int32} {w w' : Int64} {n n' : Int32} (h : goI0 b N S t g w n) (ht : t < N) (hS : 48 ≤ b S ∧ b S ≤ 57) (hw : (97 ≤ b t ∧ b t ≤ 122) ∨ (48 ≤ b t ∧ b t ≤ 57)) (hg : (g'.toInt = 1 ∧ g.toInt ≠ 0 ∧ (48 ≤ b t ∧ b t ≤ 57)) ∨ (g'.toInt = 0 ∧ (g.toInt = 0 ∨ ¬ (48 ≤ b t ∧ b t ≤ 57)))) (h1 : wstI S t (b t) w w') (h2 : nstI S t (b t) n n') (e : t' = t + 1) : goI0 b N S t' g' w' n' := by
  obtain ⟨a1, a2, a3, a4, a5, a6, a7, a8⟩ := h
  obtain ⟨hst, hb1, hb2⟩ := cLD_y a2 hw
  subst e
  refine ⟨by rw [sc_step ht (wdB_t hw)]; exact a1, by omega, by omega, by omega, by omega, fun _ => ?_, fun h7 h8 => ?_, fun h7 h8 => ?_⟩
  · by_cases e : t = S
    · subst e
      omega
    · have := a6 (by omega)
      omega
  · obtain ⟨x8, hx, e⟩ := h1 (by omega)
    exact word_step a2 rfl (by omega) (by omega) (by omega) (a7 (by omega) (by omega)) hx rfl rfl e
  · obtain ⟨x8, hx, e⟩ := h2 (by omega)
    exact num_step a2 rfl (by omega) (by omega) (by omega) (a8 (by omega) (by omega)) hx rfl rfl e
theorem goI0_e {b : Int → Int} {N m p S t : Int} {g : Int32} {w : Int64} {n : Int32} (h : goI0 b N S t g w n) (hS : tkS b N p = S) (hn : S < N) (hl : N ≤ m ∨ S < m) (h0 : 48 ≤ b S ∧ b S ≤ 57) (hstop : t < N → ¬ ((97 ≤ b t ∧ b t ≤ 122) ∨ (48 ≤ b t ∧ b t ≤ 57))) : tkX b N m p = t ∧ tkP b N m p = S ∧ (g.toInt = 1 → t - S ≤ 3 → tkK b N m p = 3 ∧ n.toInt = tkN b N p) ∧ (g.toInt = 0 ∨ 3 < t - S → tkK b N m p = 1) := by
  obtain ⟨a1, a2, a3, a4, a5, a6, a7, a8⟩ := h
  have hQ : sc (wdB b) N S = t := a1.symm.trans (sc_stop (fun h => wdB_f (hstop h)))
  have q1 := sc_step (P := wdB b) hn (wdB_t (Or.inr h0))
  have q2 := sc_ge (wdB b) N (S + 1)
  have hC : tkC b N p = (t - S).toNat := by
    unfold tkC tkQ
    rw [hS, hQ]
  have hQ2 : tkQ b N p = t := by
    unfold tkQ
    rw [hS, hQ]
  have h6 := a6 (by omega)
  have hb := cLD_bd b S (t - S).toNat
  refine ⟨?_, ?_, fun g1 l1 => ⟨?_, ?_⟩, fun hb1 => ?_⟩
  · unfold tkX
    rw [hS, if_neg (by omega), if_neg (by omega), if_pos (by omega), hQ2]
  · unfold tkP
    rw [hS, if_neg (by omega)]
  · unfold tkK
    rw [hS, hC, if_neg (by omega), if_neg (by omega), if_pos (by omega)]
    rw [if_neg (by omega), if_pos (by omega)]
  · unfold tkN
    rw [hS, hC]
    exact a8 (by omega) (by omega)
  · unfold tkK
    rw [hS, hC, if_neg (by omega), if_neg (by omega), if_pos (by omega), if_neg (by omega), if_neg (by omega)]
/-- the values that a token of a kind has -/
def tkV (b : Int → Int) (n m p : Int) (nu sn : Int32) (w : Int64) : Prop := (tkK b n m p = 3 → nu.toInt = tkN b n p) ∧ (tkK b n m p = 4 → sn.toInt = tkG b n p) ∧ (tkK b n m p = 2 → w.toInt = tkW b n p)
