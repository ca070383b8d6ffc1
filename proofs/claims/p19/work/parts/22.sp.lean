/-! a SESSION read, as a plain function: s is what is told so far (0 slides, 1 hearers, 2 near, 3 pass, 4 spread, 5 lamp, 18.. after, 40.. likes, 48.. hates, 56.. near, 64.. told settings, 70.. names of slides, 76.. of hearers) -/
def fdF (t : Nat → Int) (w : Int) : Nat → Nat → Int
  | 0, _ => -1
  | f + 1, k => if t k = w then (k : Int) else fdF t w f (k + 1)
def fd (t : Nat → Int) (n : Nat) (w : Int) : Int := fdF t w n 0
theorem fdF_s (t : Nat → Int) (w : Int) (f k : Nat) : fdF t w (f + 1) k = if t k = w then (k : Int) else fdF t w f (k + 1) := rfl
theorem fdF_bd (t : Nat → Int) (w : Int) (f : Nat) : ∀ k : Nat, fdF t w f k = -1 ∨ ((k : Int) ≤ fdF t w f k ∧ fdF t w f k < (k : Int) + f) := by
  induction f with
  | zero => intro k; exact Or.inl rfl
  | succ f ih =>
    intro k
    rw [fdF_s]
    split
    · omega
    · have := ih (k + 1)
      omega
theorem fd_bd (t : Nat → Int) (n : Nat) (w : Int) : fd t n w = -1 ∨ (0 ≤ fd t n w ∧ fd t n w < n) := by
  have := fdF_bd t w n 0
  unfold fd
  omega
theorem fdF_congr {t t' : Nat → Int} {w w' : Int} (f : Nat) : ∀ k : Nat, (∀ j, k ≤ j → j < k + f → (t j = w ↔ t' j = w')) → fdF t w f k = fdF t' w' f k := by
  induction f with
  | zero => intro k _; rfl
  | succ f ih =>
    intro k h
    rw [fdF_s, fdF_s, ih (k + 1) (fun j h1 h2 => h j (by omega) (by omega))]
    by_cases e : t k = w
    · rw [if_pos e, if_pos ((h k (by omega) (by omega)).mp e)]
    · rw [if_neg e, if_neg (fun q => e ((h k (by omega) (by omega)).mpr q))]
theorem fd_congr {t t' : Nat → Int} {w w' : Int} {n : Nat} (h : ∀ j, j < n → (t j = w ↔ t' j = w')) : fd t n w = fd t' n w' := fdF_congr n 0 (fun j _ h2 => h j (by omega))
def upI (s : Nat → Int) (i : Nat) (v : Int) : Nat → Int := fun j => if j = i then v else s j
theorem upI_eq (s : Nat → Int) (i : Nat) (v : Int) : upI s i v i = v := if_pos rfl
theorem upI_ne {s : Nat → Int} {i j : Nat} {v : Int} (h : j ≠ i) : upI s i v j = s j := if_neg h
abbrev LR : Type := Int × Int × Int × (Nat → Int)
def sF (s : Nat → Int) (w : Int) : Int := fd (fun k => s (70 + k)) (s 0).toNat w
def hF (s : Nat → Int) (w : Int) : Int := fd (fun k => s (76 + k)) (s 1).toNat w
def nf (b : Int → Int) (n m q lo hi : Int) : Int := if tkK b n m q ≠ 3 then 1 else if tkN b n q < lo ∨ hi < tkN b n q then 2 else 0
abbrev bitI (x k : Int) : Prop := (Int32.ofInt x).toBitVec.getLsbD k.toNat = true
def orI (x k : Int) : Int := (Int32.ofInt x ||| ((1 : Int32) <<< (Int32.ofInt k &&& 31))).toInt
def lnSlide (b : Int → Int) (n m : Int) (s : Nat → Int) (p0 p1 q1 q2 q3 q4 q5 : Int) : LR :=
  if s 0 = 6 then (4, tkP b n m p0, 0, s)
  else if ¬ (tkK b n m p1 = 2 ∧ kyN (tkW b n p1) = -1) then (1, tkP b n m p1, 0, s)
  else if ¬ (sF s (tkW b n p1) = -1 ∧ hF s (tkW b n p1) = -1) then (3, tkP b n m p1, 0, s)
  else if nf b n m q1 0 15 ≠ 0 then (nf b n m q1 0 15, tkP b n m q1, 0, s)
  else if nf b n m q2 0 15 ≠ 0 then (nf b n m q2 0 15, tkP b n m q2, 0, s)
  else if nf b n m q3 0 15 ≠ 0 then (nf b n m q3 0 15, tkP b n m q3, 0, s)
  else if nf b n m q4 0 15 ≠ 0 then (nf b n m q4 0 15, tkP b n m q4, 0, s)
  else if nf b n m q5 1 20 ≠ 0 then (nf b n m q5 1 20, tkP b n m q5, 0, s)
  else (0, 0, tkX b n m q5, upI (upI s (70 + (s 0).toNat) (tkW b n p1)) 0 (s 0 + 1))
def lnHearer (b : Int → Int) (n m : Int) (s : Nat → Int) (p0 p1 p2 q1 : Int) : LR :=
  if s 1 = 8 then (4, tkP b n m p0, 0, s)
  else if ¬ (tkK b n m p1 = 2 ∧ kyN (tkW b n p1) = -1) then (1, tkP b n m p1, 0, s)
  else if ¬ (sF s (tkW b n p1) = -1 ∧ hF s (tkW b n p1) = -1) then (3, tkP b n m p1, 0, s)
  else if ¬ (tkK b n m p2 = 2 ∧ (kyN (tkW b n p2) = 9 ∨ kyN (tkW b n p2) = 10)) then (1, tkP b n m p2, 0, s)
  else if nf b n m q1 0 16 ≠ 0 then (nf b n m q1 0 16, tkP b n m q1, 0, s)
  else (0, 0, tkX b n m q1, upI (upI s (76 + (s 1).toNat) (tkW b n p1)) 1 (s 1 + 1))
def lnThinks (b : Int → Int) (n m : Int) (s : Nat → Int) (row : Nat) (p1 q1 q2 : Int) : LR :=
  if ¬ (tkK b n m p1 = 2 ∧ kyN (tkW b n p1) = -1) then (1, tkP b n m p1, 0, s)
  else if hF s (tkW b n p1) = -1 then (3, tkP b n m p1, 0, s)
  else if nf b n m q1 0 3 ≠ 0 then (nf b n m q1 0 3, tkP b n m q1, 0, s)
  else if nf b n m q2 0 3 ≠ 0 then (nf b n m q2 0 3, tkP b n m q2, 0, s)
  else if (Int32.ofInt (s (40 + (hF s (tkW b n p1)).toNat)) ||| Int32.ofInt (s (48 + (hF s (tkW b n p1)).toNat))).toBitVec.getLsbD (tkN b n q1 + 4 * tkN b n q2).toNat = true then (3, tkP b n m q2, 0, s)
  else (0, 0, tkX b n m q2, upI s (row + (hF s (tkW b n p1)).toNat) (orI (s (row + (hF s (tkW b n p1)).toNat)) (tkN b n q1 + 4 * tkN b n q2)))
def lnNear (b : Int → Int) (n m : Int) (s : Nat → Int) (p0 p1 p2 : Int) : LR :=
  if s 2 = 12 then (4, tkP b n m p0, 0, s)
  else if ¬ (tkK b n m p1 = 2 ∧ kyN (tkW b n p1) = -1) then (1, tkP b n m p1, 0, s)
  else if hF s (tkW b n p1) = -1 then (3, tkP b n m p1, 0, s)
  else if ¬ (tkK b n m p2 = 2 ∧ kyN (tkW b n p2) = -1) then (1, tkP b n m p2, 0, s)
  else if hF s (tkW b n p2) = -1 then (3, tkP b n m p2, 0, s)
  else if hF s (tkW b n p1) = hF s (tkW b n p2) then (3, tkP b n m p2, 0, s)
  else if bitI (s (56 + (hF s (tkW b n p1)).toNat)) (hF s (tkW b n p2)) then (3, tkP b n m p2, 0, s)
  else (0, 0, tkX b n m p2, upI (upI (upI s (56 + (hF s (tkW b n p1)).toNat) (orI (s (56 + (hF s (tkW b n p1)).toNat)) (hF s (tkW b n p2)))) (56 + (hF s (tkW b n p2)).toNat) (orI (s (56 + (hF s (tkW b n p2)).toNat)) (hF s (tkW b n p1)))) 2 (s 2 + 1))
def lnAfter (b : Int → Int) (n m : Int) (s : Nat → Int) (p1 p2 : Int) : LR :=
  if ¬ (tkK b n m p1 = 2 ∧ kyN (tkW b n p1) = -1) then (1, tkP b n m p1, 0, s)
  else if sF s (tkW b n p1) = -1 then (3, tkP b n m p1, 0, s)
  else if s (18 + (sF s (tkW b n p1)).toNat) ≠ -1 then (3, tkP b n m p1, 0, s)
  else if ¬ (tkK b n m p2 = 2 ∧ kyN (tkW b n p2) = -1) then (1, tkP b n m p2, 0, s)
  else if sF s (tkW b n p2) = -1 then (3, tkP b n m p2, 0, s)
  else if sF s (tkW b n p1) = sF s (tkW b n p2) then (3, tkP b n m p2, 0, s)
  else (0, 0, tkX b n m p2, upI s (18 + (sF s (tkW b n p1)).toNat) (sF s (tkW b n p2)))
def lnSet (b : Int → Int) (n m : Int) (s : Nat → Int) (k : Nat) (lo hi p0 q1 : Int) : LR :=
  if s (64 + k) ≠ 0 then (3, tkP b n m p0, 0, s)
  else if nf b n m q1 lo hi ≠ 0 then (nf b n m q1 lo hi, tkP b n m q1, 0, s)
  else (0, 0, tkX b n m q1, upI (upI s (64 + k) 1) (3 + k) (tkN b n q1))
def lnAny (b : Int → Int) (n m : Int) (s : Nat → Int) (p : Int) : LR :=
  if ¬ (tkK b n m p = 2) then (1, tkP b n m p, 0, s)
  else if kyN (tkW b n p) = 0 then lnSlide b n m s p (tkX b n m p) (tkX b n m (tkX b n m p)) (tkX b n m (tkX b n m (tkX b n m p))) (tkX b n m (tkX b n m (tkX b n m (tkX b n m p)))) (tkX b n m (tkX b n m (tkX b n m (tkX b n m (tkX b n m p))))) (tkX b n m (tkX b n m (tkX b n m (tkX b n m (tkX b n m (tkX b n m p))))))
  else if kyN (tkW b n p) = 1 then lnHearer b n m s p (tkX b n m p) (tkX b n m (tkX b n m p)) (tkX b n m (tkX b n m (tkX b n m p)))
  else if kyN (tkW b n p) = 2 then lnThinks b n m s 40 (tkX b n m p) (tkX b n m (tkX b n m p)) (tkX b n m (tkX b n m (tkX b n m p)))
  else if kyN (tkW b n p) = 3 then lnThinks b n m s 48 (tkX b n m p) (tkX b n m (tkX b n m p)) (tkX b n m (tkX b n m (tkX b n m p)))
  else if kyN (tkW b n p) = 4 then lnNear b n m s p (tkX b n m p) (tkX b n m (tkX b n m p))
  else if kyN (tkW b n p) = 5 then lnAfter b n m s (tkX b n m p) (tkX b n m (tkX b n m p))
  else if kyN (tkW b n p) = 6 then lnSet b n m s 0 0 8 p (tkX b n m p)
  else if kyN (tkW b n p) = 7 then lnSet b n m s 1 0 8 p (tkX b n m p)
  else if kyN (tkW b n p) = 8 then lnSet b n m s 2 1 99 p (tkX b n m p)
  else (1, tkP b n m p, 0, s)
/-- the whole SESSION: its FAULT, the place, how many LINES, what is told -/
def ssF (b : Int → Int) (n m : Int) : Nat → (Nat → Int) → Int → Int → LR
  | 0, s, _, l => (0, 0, l, s)
  | f + 1, s, p, l =>
    if tkK b n m p = 0 then (0, 0, l, s)
    else if (lnAny b n m s p).1 ≠ 0 then ((lnAny b n m s p).1, (lnAny b n m s p).2.1, 0, s)
    else if ¬ (tkK b n m (lnAny b n m s p).2.2.1 = 4 ∧ tkG b n (lnAny b n m s p).2.2.1 = 59) then (1, tkP b n m (lnAny b n m s p).2.2.1, 0, s)
    else ssF b n m f (lnAny b n m s p).2.2.2 (tkX b n m (lnAny b n m s p).2.2.1) (l + 1)
def s00 (k : Nat) : Int := if k = 3 then 1 else if k = 5 then 40 else if 18 ≤ k ∧ k ≤ 23 then -1 else 0
def ss (b : Int → Int) (n m : Int) : LR := ssF b n m 941 s00 0 0
theorem ssF_s (b : Int → Int) (n m : Int) (f : Nat) (s : Nat → Int) (p l : Int) : ssF b n m (f + 1) s p l = if tkK b n m p = 0 then (0, 0, l, s) else if (lnAny b n m s p).1 ≠ 0 then ((lnAny b n m s p).1, (lnAny b n m s p).2.1, 0, s) else if ¬ (tkK b n m (lnAny b n m s p).2.2.1 = 4 ∧ tkG b n (lnAny b n m s p).2.2.1 = 59) then (1, tkP b n m (lnAny b n m s p).2.2.1, 0, s) else ssF b n m f (lnAny b n m s p).2.2.2 (tkX b n m (lnAny b n m s p).2.2.1) (l + 1) := rfl
/-! what is told, as the reference has it, and as the class has it -/
def rlR (s : Nat → Int) (rd : Nat → Int32) (nm : Nat → Int64) (on : Nat → Int32) : Prop :=
  (∀ k, (k ≤ 5 ∨ (18 ≤ k ∧ k ≤ 23) ∨ (40 ≤ k ∧ k ≤ 63)) → (rd k).toInt = s k) ∧ (∀ k, k < 3 → (on k).toInt = s (64 + k)) ∧ (∀ j : Nat, (j : Int) < s 0 → (nm j).toInt = s (70 + j)) ∧ (∀ j : Nat, (j : Int) < s 1 → (nm (6 + j)).toInt = s (76 + j))
def sgI (s : Nat → Int) : Prop :=
  (0 ≤ s 0 ∧ s 0 ≤ 6) ∧ (0 ≤ s 1 ∧ s 1 ≤ 8) ∧ (0 ≤ s 2 ∧ s 2 ≤ 12) ∧ (∀ j, j < 14 → 0 ≤ s (70 + j) ∧ s (70 + j) < 10460353203) ∧ (∀ j, j < 6 → -1 ≤ s (18 + j) ∧ s (18 + j) ≤ 5) ∧ (∀ j : Nat, s 0 ≤ j → j < 6 → s (18 + j) = -1) ∧ (∀ j : Nat, s 1 ≤ j → j < 8 → s (40 + j) = 0 ∧ s (48 + j) = 0 ∧ s (56 + j) = 0) ∧ (∀ j, j < 3 → s (64 + j) = 0 ∨ s (64 + j) = 1)
def rlC (s : Nat → Int) (sl he ne pa sp la st : Int32) (sn : Nat → Int64) (af : Nat → Int32) (hn : Nat → Int64) (li ha nr : Nat → Int32) : Prop :=
  (sl.toInt = s 0 ∧ he.toInt = s 1 ∧ ne.toInt = s 2 ∧ pa.toInt = s 3 ∧ sp.toInt = s 4 ∧ la.toInt = s 5 ∧ st.toInt = 64 * s 64 + 128 * s 65 + 256 * s 66) ∧ (∀ j : Nat, (j : Int) < s 0 → (sn j).toInt = cv (s (70 + j)) ∧ (af j).toInt = s (18 + j)) ∧ (∀ j : Nat, (j : Int) < s 1 → (hn j).toInt = cv (s (76 + j)) ∧ (li j).toInt = s (40 + j) ∧ (ha j).toInt = s (48 + j) ∧ (nr j).toInt = s (56 + j))
theorem ud_eq (f : Nat → Int32) (k : Nat) (x : Int32) : upd f k x k = x := if_pos rfl
theorem ud_ne {f : Nat → Int32} {k j : Nat} {x : Int32} (h : j ≠ k) : upd f k x j = f j := if_neg h
theorem ul_eq (f : Nat → Int64) (k : Nat) (x : Int64) : vp_updL f k x k = x := if_pos rfl
theorem ul_ne {f : Nat → Int64} {k j : Nat} {x : Int64} (h : j ≠ k) : vp_updL f k x j = f j := if_neg h
theorem fR_s {s : Nat → Int} {rd : Nat → Int32} {nm : Nat → Int64} {on : Nat → Int32} (h : rlR s rd nm on) (hg : sgI s) {n : Int} (hn : n = s 0) (w : Int) : fd (fun k => (nm (0 + k)).toInt) n.toNat w = sF s w := by
  unfold sF
  rw [hn]
  refine fd_congr (fun j hj => ?_)
  have g0 := hg.1
  have e := h.2.2.1 j (by omega)
  show (nm (0 + j)).toInt = w ↔ s (70 + j) = w
  rw [show 0 + j = j by omega, e]
theorem fR_h {s : Nat → Int} {rd : Nat → Int32} {nm : Nat → Int64} {on : Nat → Int32} (h : rlR s rd nm on) (hg : sgI s) {n : Int} (hn : n = s 1) (w : Int) : fd (fun k => (nm (6 + k)).toInt) n.toNat w = hF s w := by
  unfold hF
  rw [hn]
  refine fd_congr (fun j hj => ?_)
  have g1 := hg.2.1
  have e := h.2.2.2 j (by omega)
  show (nm (6 + j)).toInt = w ↔ s (76 + j) = w
  rw [e]
theorem sF_bd {s : Nat → Int} (hg : sgI s) (w : Int) : sF s w = -1 ∨ (0 ≤ sF s w ∧ sF s w < s 0) := by
  have h := fd_bd (fun k => s (70 + k)) (s 0).toNat w
  have g0 := hg.1
  unfold sF
  omega
theorem hF_bd {s : Nat → Int} (hg : sgI s) (w : Int) : hF s w = -1 ∨ (0 ≤ hF s w ∧ hF s w < s 1) := by
  have h := fd_bd (fun k => s (76 + k)) (s 1).toNat w
  have g1 := hg.2.1
  unfold hF
  omega
theorem rlR_slide {s : Nat → Int} {rd : Nat → Int32} {nm : Nat → Int64} {on : Nat → Int32} {i0 i1 i2 : Nat} {x1 x2 x3 : Int32} {w : Int64} {W : Int} (h : rlR s rd nm on) (hg : sgI s) (h6 : s 0 ≠ 6) (hi0 : i0 = (s 0).toNat) (hi1 : 6 ≤ i1 ∧ i1 ≤ 17) (hi2 : 6 ≤ i2 ∧ i2 ≤ 17) (h3 : x3.toInt = s 0 + 1) (hw : w.toInt = W) : rlR (upI (upI s (70 + (s 0).toNat) W) 0 (s 0 + 1)) (upd (upd (upd rd i1 x1) i2 x2) 0 x3) (vp_updL nm i0 w) on := by
  obtain ⟨a1, a2, a3, a4⟩ := h
  have g0 := hg.1
  subst hi0 hw
  refine ⟨fun k hk => ?_, fun k hk => ?_, fun j hj => ?_, fun j hj => ?_⟩
  · by_cases e : k = 0
    · subst e
      rw [upI_eq, ud_eq, h3]
    · rw [upI_ne e, upI_ne (by omega), ud_ne e, ud_ne (by omega), ud_ne (by omega)]
      exact a1 k hk
  · rw [upI_ne (by omega), upI_ne (by omega)]
    exact a2 k hk
  · rw [upI_eq] at hj
    rw [upI_ne (by omega)]
    by_cases e : j = (s 0).toNat
    · rw [e, upI_eq, ul_eq]
    · rw [upI_ne (by omega), ul_ne e]
      exact a3 j (by omega)
  · rw [upI_ne (by omega), upI_ne (by omega)] at hj
    rw [upI_ne (by omega), upI_ne (by omega), ul_ne (by omega)]
    exact a4 j hj
theorem rlR_hearer {s : Nat → Int} {rd : Nat → Int32} {nm : Nat → Int64} {on : Nat → Int32} {i0 i1 i2 : Nat} {x1 x2 x3 : Int32} {w : Int64} {W : Int} (h : rlR s rd nm on) (hg : sgI s) (h8 : s 1 ≠ 8) (hi0 : i0 = 6 + (s 1).toNat) (hi1 : 24 ≤ i1 ∧ i1 ≤ 39) (hi2 : 24 ≤ i2 ∧ i2 ≤ 39) (h3 : x3.toInt = s 1 + 1) (hw : w.toInt = W) : rlR (upI (upI s (76 + (s 1).toNat) W) 1 (s 1 + 1)) (upd (upd (upd rd i1 x1) i2 x2) 1 x3) (vp_updL nm i0 w) on := by
  obtain ⟨a1, a2, a3, a4⟩ := h
  have g0 := hg.1
  have g1 := hg.2.1
  subst hi0 hw
  refine ⟨fun k hk => ?_, fun k hk => ?_, fun j hj => ?_, fun j hj => ?_⟩
  · by_cases e : k = 1
    · subst e
      rw [upI_eq, ud_eq, h3]
    · rw [upI_ne e, upI_ne (by omega), ud_ne e, ud_ne (by omega), ud_ne (by omega)]
      exact a1 k hk
  · rw [upI_ne (by omega), upI_ne (by omega)]
    exact a2 k hk
  · rw [upI_ne (by omega), upI_ne (by omega)] at hj
    rw [upI_ne (by omega), upI_ne (by omega), ul_ne (by omega)]
    exact a3 j hj
  · rw [upI_eq] at hj
    rw [upI_ne (by omega)]
    by_cases e : j = (s 1).toNat
    · rw [e, upI_eq, ul_eq]
    · rw [upI_ne (by omega), ul_ne (by omega)]
      exact a4 j (by omega)
theorem rlR_set {s : Nat → Int} {rd : Nat → Int32} {nm : Nat → Int64} {on : Nat → Int32} {i j : Nat} {x : Int32} {v : Int} (h : rlR s rd nm on) (hi : (2 ≤ i ∧ i ≤ 5) ∨ (18 ≤ i ∧ i ≤ 23) ∨ (40 ≤ i ∧ i ≤ 63)) (e : j = i) (hx : x.toInt = v) : rlR (upI s i v) (upd rd j x) nm on := by
  obtain ⟨a1, a2, a3, a4⟩ := h
  subst e hx
  refine ⟨fun k hk => ?_, fun k hk => ?_, fun k hk => ?_, fun k hk => ?_⟩
  · by_cases e : k = j
    · rw [e, upI_eq, ud_eq]
    · rw [upI_ne e, ud_ne e]
      exact a1 k hk
  · rw [upI_ne (by omega)]
    exact a2 k hk
  · rw [upI_ne (by omega)] at hk
    rw [upI_ne (by omega)]
    exact a3 k hk
  · rw [upI_ne (by omega)] at hk
    rw [upI_ne (by omega)]
    exact a4 k hk
theorem rlR_once {s : Nat → Int} {rd : Nat → Int32} {nm : Nat → Int64} {on : Nat → Int32} {i j : Nat} {x : Int32} (h : rlR s rd nm on) (hi : i < 3) (e : j = i) (hx : x.toInt = 1) : rlR (upI s (64 + i) 1) rd nm (upd on j x) := by
  obtain ⟨a1, a2, a3, a4⟩ := h
  subst e
  refine ⟨fun k hk => ?_, fun k hk => ?_, fun k hk => ?_, fun k hk => ?_⟩
  · rw [upI_ne (by omega)]
    exact a1 k hk
  · by_cases e : k = j
    · rw [e, upI_eq, ud_eq, hx]
    · rw [upI_ne (by omega), ud_ne e]
      exact a2 k hk
  · rw [upI_ne (by omega)] at hk
    rw [upI_ne (by omega)]
    exact a3 k hk
  · rw [upI_ne (by omega)] at hk
    rw [upI_ne (by omega)]
    exact a4 k hk
/-! bits -/
theorem hb_ge (y : BitVec 32) : (y &&& 1#32 = 1#32) ↔ y.getLsbD 0 = true := by
  rw [show (1#32) = BitVec.twoPow 32 0 from by decide, BitVec.and_twoPow]
  generalize y.getLsbD 0 = c
  cases c <;> decide
theorem hb_0 (x : Int32) : hasB x 0 ↔ x.toBitVec.getLsbD 0 = true := by
  unfold hasB
  rw [show ((0 : Int32) &&& 31) = 0 from by decide]
  have h1 : ((x >>> (0 : Int32)) &&& 1 = 1) ↔ ((x >>> (0 : Int32)).toBitVec &&& 1#32 = 1#32) := by
    rw [← Int32.toBitVec_inj]
    exact Iff.rfl
  rw [h1, hb_ge, Int32.toBitVec_shiftRight, show ((0 : Int32).toBitVec.smod 32) = 0#32 from by decide]
  show (x.toBitVec.sshiftRight 0).getLsbD 0 = true ↔ _
  rw [BitVec.getLsbD_sshiftRight]
  simp
theorem cb_0 (x : Int32) : (x &&& ((1 : Int32) <<< ((0 : Int32) &&& 31))) = 0 ↔ ¬ x.toBitVec.getLsbD 0 = true := by
  rw [show ((1 : Int32) <<< ((0 : Int32) &&& 31)) = 1 from by decide, ← Int32.toBitVec_inj]
  show x.toBitVec &&& 1#32 = 0#32 ↔ _
  rw [show (1#32) = BitVec.twoPow 32 0 from by decide, BitVec.and_twoPow]
  generalize x.toBitVec.getLsbD 0 = c
  cases c <;> decide
theorem hb_1 (x : Int32) : hasB x 1 ↔ x.toBitVec.getLsbD 1 = true := by
  unfold hasB
  rw [show ((1 : Int32) &&& 31) = 1 from by decide]
  have h1 : ((x >>> (1 : Int32)) &&& 1 = 1) ↔ ((x >>> (1 : Int32)).toBitVec &&& 1#32 = 1#32) := by
    rw [← Int32.toBitVec_inj]
    exact Iff.rfl
  rw [h1, hb_ge, Int32.toBitVec_shiftRight, show ((1 : Int32).toBitVec.smod 32) = 1#32 from by decide]
  show (x.toBitVec.sshiftRight 1).getLsbD 0 = true ↔ _
  rw [BitVec.getLsbD_sshiftRight]
  simp
theorem cb_1 (x : Int32) : (x &&& ((1 : Int32) <<< ((1 : Int32) &&& 31))) = 0 ↔ ¬ x.toBitVec.getLsbD 1 = true := by
  rw [show ((1 : Int32) <<< ((1 : Int32) &&& 31)) = 2 from by decide, ← Int32.toBitVec_inj]
  show x.toBitVec &&& 2#32 = 0#32 ↔ _
  rw [show (2#32) = BitVec.twoPow 32 1 from by decide, BitVec.and_twoPow]
  generalize x.toBitVec.getLsbD 1 = c
  cases c <;> decide
theorem hb_2 (x : Int32) : hasB x 2 ↔ x.toBitVec.getLsbD 2 = true := by
  unfold hasB
  rw [show ((2 : Int32) &&& 31) = 2 from by decide]
  have h1 : ((x >>> (2 : Int32)) &&& 1 = 1) ↔ ((x >>> (2 : Int32)).toBitVec &&& 1#32 = 1#32) := by
    rw [← Int32.toBitVec_inj]
    exact Iff.rfl
  rw [h1, hb_ge, Int32.toBitVec_shiftRight, show ((2 : Int32).toBitVec.smod 32) = 2#32 from by decide]
  show (x.toBitVec.sshiftRight 2).getLsbD 0 = true ↔ _
  rw [BitVec.getLsbD_sshiftRight]
  simp
theorem cb_2 (x : Int32) : (x &&& ((1 : Int32) <<< ((2 : Int32) &&& 31))) = 0 ↔ ¬ x.toBitVec.getLsbD 2 = true := by
  rw [show ((1 : Int32) <<< ((2 : Int32) &&& 31)) = 4 from by decide, ← Int32.toBitVec_inj]
  show x.toBitVec &&& 4#32 = 0#32 ↔ _
  rw [show (4#32) = BitVec.twoPow 32 2 from by decide, BitVec.and_twoPow]
  generalize x.toBitVec.getLsbD 2 = c
  cases c <;> decide
theorem hb_3 (x : Int32) : hasB x 3 ↔ x.toBitVec.getLsbD 3 = true := by
  unfold hasB
  rw [show ((3 : Int32) &&& 31) = 3 from by decide]
  have h1 : ((x >>> (3 : Int32)) &&& 1 = 1) ↔ ((x >>> (3 : Int32)).toBitVec &&& 1#32 = 1#32) := by
    rw [← Int32.toBitVec_inj]
    exact Iff.rfl
  rw [h1, hb_ge, Int32.toBitVec_shiftRight, show ((3 : Int32).toBitVec.smod 32) = 3#32 from by decide]
  show (x.toBitVec.sshiftRight 3).getLsbD 0 = true ↔ _
  rw [BitVec.getLsbD_sshiftRight]
  simp
theorem cb_3 (x : Int32) : (x &&& ((1 : Int32) <<< ((3 : Int32) &&& 31))) = 0 ↔ ¬ x.toBitVec.getLsbD 3 = true := by
  rw [show ((1 : Int32) <<< ((3 : Int32) &&& 31)) = 8 from by decide, ← Int32.toBitVec_inj]
  show x.toBitVec &&& 8#32 = 0#32 ↔ _
  rw [show (8#32) = BitVec.twoPow 32 3 from by decide, BitVec.and_twoPow]
  generalize x.toBitVec.getLsbD 3 = c
  cases c <;> decide
theorem hb_4 (x : Int32) : hasB x 4 ↔ x.toBitVec.getLsbD 4 = true := by
  unfold hasB
  rw [show ((4 : Int32) &&& 31) = 4 from by decide]
  have h1 : ((x >>> (4 : Int32)) &&& 1 = 1) ↔ ((x >>> (4 : Int32)).toBitVec &&& 1#32 = 1#32) := by
    rw [← Int32.toBitVec_inj]
    exact Iff.rfl
  rw [h1, hb_ge, Int32.toBitVec_shiftRight, show ((4 : Int32).toBitVec.smod 32) = 4#32 from by decide]
  show (x.toBitVec.sshiftRight 4).getLsbD 0 = true ↔ _
  rw [BitVec.getLsbD_sshiftRight]
  simp
theorem cb_4 (x : Int32) : (x &&& ((1 : Int32) <<< ((4 : Int32) &&& 31))) = 0 ↔ ¬ x.toBitVec.getLsbD 4 = true := by
  rw [show ((1 : Int32) <<< ((4 : Int32) &&& 31)) = 16 from by decide, ← Int32.toBitVec_inj]
  show x.toBitVec &&& 16#32 = 0#32 ↔ _
  rw [show (16#32) = BitVec.twoPow 32 4 from by decide, BitVec.and_twoPow]
  generalize x.toBitVec.getLsbD 4 = c
  cases c <;> decide
theorem hb_5 (x : Int32) : hasB x 5 ↔ x.toBitVec.getLsbD 5 = true := by
  unfold hasB
  rw [show ((5 : Int32) &&& 31) = 5 from by decide]
  have h1 : ((x >>> (5 : Int32)) &&& 1 = 1) ↔ ((x >>> (5 : Int32)).toBitVec &&& 1#32 = 1#32) := by
    rw [← Int32.toBitVec_inj]
    exact Iff.rfl
  rw [h1, hb_ge, Int32.toBitVec_shiftRight, show ((5 : Int32).toBitVec.smod 32) = 5#32 from by decide]
  show (x.toBitVec.sshiftRight 5).getLsbD 0 = true ↔ _
  rw [BitVec.getLsbD_sshiftRight]
  simp
theorem cb_5 (x : Int32) : (x &&& ((1 : Int32) <<< ((5 : Int32) &&& 31))) = 0 ↔ ¬ x.toBitVec.getLsbD 5 = true := by
  rw [show ((1 : Int32) <<< ((5 : Int32) &&& 31)) = 32 from by decide, ← Int32.toBitVec_inj]
  show x.toBitVec &&& 32#32 = 0#32 ↔ _
  rw [show (32#32) = BitVec.twoPow 32 5 from by decide, BitVec.and_twoPow]
  generalize x.toBitVec.getLsbD 5 = c
  cases c <;> decide
theorem hb_6 (x : Int32) : hasB x 6 ↔ x.toBitVec.getLsbD 6 = true := by
  unfold hasB
  rw [show ((6 : Int32) &&& 31) = 6 from by decide]
  have h1 : ((x >>> (6 : Int32)) &&& 1 = 1) ↔ ((x >>> (6 : Int32)).toBitVec &&& 1#32 = 1#32) := by
    rw [← Int32.toBitVec_inj]
    exact Iff.rfl
  rw [h1, hb_ge, Int32.toBitVec_shiftRight, show ((6 : Int32).toBitVec.smod 32) = 6#32 from by decide]
  show (x.toBitVec.sshiftRight 6).getLsbD 0 = true ↔ _
  rw [BitVec.getLsbD_sshiftRight]
  simp
theorem cb_6 (x : Int32) : (x &&& ((1 : Int32) <<< ((6 : Int32) &&& 31))) = 0 ↔ ¬ x.toBitVec.getLsbD 6 = true := by
  rw [show ((1 : Int32) <<< ((6 : Int32) &&& 31)) = 64 from by decide, ← Int32.toBitVec_inj]
  show x.toBitVec &&& 64#32 = 0#32 ↔ _
  rw [show (64#32) = BitVec.twoPow 32 6 from by decide, BitVec.and_twoPow]
  generalize x.toBitVec.getLsbD 6 = c
  cases c <;> decide
theorem hb_7 (x : Int32) : hasB x 7 ↔ x.toBitVec.getLsbD 7 = true := by
  unfold hasB
  rw [show ((7 : Int32) &&& 31) = 7 from by decide]
  have h1 : ((x >>> (7 : Int32)) &&& 1 = 1) ↔ ((x >>> (7 : Int32)).toBitVec &&& 1#32 = 1#32) := by
    rw [← Int32.toBitVec_inj]
    exact Iff.rfl
  rw [h1, hb_ge, Int32.toBitVec_shiftRight, show ((7 : Int32).toBitVec.smod 32) = 7#32 from by decide]
  show (x.toBitVec.sshiftRight 7).getLsbD 0 = true ↔ _
  rw [BitVec.getLsbD_sshiftRight]
  simp
theorem cb_7 (x : Int32) : (x &&& ((1 : Int32) <<< ((7 : Int32) &&& 31))) = 0 ↔ ¬ x.toBitVec.getLsbD 7 = true := by
  rw [show ((1 : Int32) <<< ((7 : Int32) &&& 31)) = 128 from by decide, ← Int32.toBitVec_inj]
  show x.toBitVec &&& 128#32 = 0#32 ↔ _
  rw [show (128#32) = BitVec.twoPow 32 7 from by decide, BitVec.and_twoPow]
  generalize x.toBitVec.getLsbD 7 = c
  cases c <;> decide
theorem hb_8 (x : Int32) : hasB x 8 ↔ x.toBitVec.getLsbD 8 = true := by
  unfold hasB
  rw [show ((8 : Int32) &&& 31) = 8 from by decide]
  have h1 : ((x >>> (8 : Int32)) &&& 1 = 1) ↔ ((x >>> (8 : Int32)).toBitVec &&& 1#32 = 1#32) := by
    rw [← Int32.toBitVec_inj]
    exact Iff.rfl
  rw [h1, hb_ge, Int32.toBitVec_shiftRight, show ((8 : Int32).toBitVec.smod 32) = 8#32 from by decide]
  show (x.toBitVec.sshiftRight 8).getLsbD 0 = true ↔ _
  rw [BitVec.getLsbD_sshiftRight]
  simp
theorem cb_8 (x : Int32) : (x &&& ((1 : Int32) <<< ((8 : Int32) &&& 31))) = 0 ↔ ¬ x.toBitVec.getLsbD 8 = true := by
  rw [show ((1 : Int32) <<< ((8 : Int32) &&& 31)) = 256 from by decide, ← Int32.toBitVec_inj]
  show x.toBitVec &&& 256#32 = 0#32 ↔ _
  rw [show (256#32) = BitVec.twoPow 32 8 from by decide, BitVec.and_twoPow]
  generalize x.toBitVec.getLsbD 8 = c
  cases c <;> decide
theorem hb_9 (x : Int32) : hasB x 9 ↔ x.toBitVec.getLsbD 9 = true := by
  unfold hasB
  rw [show ((9 : Int32) &&& 31) = 9 from by decide]
  have h1 : ((x >>> (9 : Int32)) &&& 1 = 1) ↔ ((x >>> (9 : Int32)).toBitVec &&& 1#32 = 1#32) := by
    rw [← Int32.toBitVec_inj]
    exact Iff.rfl
  rw [h1, hb_ge, Int32.toBitVec_shiftRight, show ((9 : Int32).toBitVec.smod 32) = 9#32 from by decide]
  show (x.toBitVec.sshiftRight 9).getLsbD 0 = true ↔ _
  rw [BitVec.getLsbD_sshiftRight]
  simp
theorem cb_9 (x : Int32) : (x &&& ((1 : Int32) <<< ((9 : Int32) &&& 31))) = 0 ↔ ¬ x.toBitVec.getLsbD 9 = true := by
  rw [show ((1 : Int32) <<< ((9 : Int32) &&& 31)) = 512 from by decide, ← Int32.toBitVec_inj]
  show x.toBitVec &&& 512#32 = 0#32 ↔ _
  rw [show (512#32) = BitVec.twoPow 32 9 from by decide, BitVec.and_twoPow]
  generalize x.toBitVec.getLsbD 9 = c
  cases c <;> decide
theorem hb_10 (x : Int32) : hasB x 10 ↔ x.toBitVec.getLsbD 10 = true := by
  unfold hasB
  rw [show ((10 : Int32) &&& 31) = 10 from by decide]
  have h1 : ((x >>> (10 : Int32)) &&& 1 = 1) ↔ ((x >>> (10 : Int32)).toBitVec &&& 1#32 = 1#32) := by
    rw [← Int32.toBitVec_inj]
    exact Iff.rfl
  rw [h1, hb_ge, Int32.toBitVec_shiftRight, show ((10 : Int32).toBitVec.smod 32) = 10#32 from by decide]
  show (x.toBitVec.sshiftRight 10).getLsbD 0 = true ↔ _
  rw [BitVec.getLsbD_sshiftRight]
  simp
theorem cb_10 (x : Int32) : (x &&& ((1 : Int32) <<< ((10 : Int32) &&& 31))) = 0 ↔ ¬ x.toBitVec.getLsbD 10 = true := by
  rw [show ((1 : Int32) <<< ((10 : Int32) &&& 31)) = 1024 from by decide, ← Int32.toBitVec_inj]
  show x.toBitVec &&& 1024#32 = 0#32 ↔ _
  rw [show (1024#32) = BitVec.twoPow 32 10 from by decide, BitVec.and_twoPow]
  generalize x.toBitVec.getLsbD 10 = c
  cases c <;> decide
theorem hb_11 (x : Int32) : hasB x 11 ↔ x.toBitVec.getLsbD 11 = true := by
  unfold hasB
  rw [show ((11 : Int32) &&& 31) = 11 from by decide]
  have h1 : ((x >>> (11 : Int32)) &&& 1 = 1) ↔ ((x >>> (11 : Int32)).toBitVec &&& 1#32 = 1#32) := by
    rw [← Int32.toBitVec_inj]
    exact Iff.rfl
  rw [h1, hb_ge, Int32.toBitVec_shiftRight, show ((11 : Int32).toBitVec.smod 32) = 11#32 from by decide]
  show (x.toBitVec.sshiftRight 11).getLsbD 0 = true ↔ _
  rw [BitVec.getLsbD_sshiftRight]
  simp
theorem cb_11 (x : Int32) : (x &&& ((1 : Int32) <<< ((11 : Int32) &&& 31))) = 0 ↔ ¬ x.toBitVec.getLsbD 11 = true := by
  rw [show ((1 : Int32) <<< ((11 : Int32) &&& 31)) = 2048 from by decide, ← Int32.toBitVec_inj]
  show x.toBitVec &&& 2048#32 = 0#32 ↔ _
  rw [show (2048#32) = BitVec.twoPow 32 11 from by decide, BitVec.and_twoPow]
  generalize x.toBitVec.getLsbD 11 = c
  cases c <;> decide
theorem hb_12 (x : Int32) : hasB x 12 ↔ x.toBitVec.getLsbD 12 = true := by
  unfold hasB
  rw [show ((12 : Int32) &&& 31) = 12 from by decide]
  have h1 : ((x >>> (12 : Int32)) &&& 1 = 1) ↔ ((x >>> (12 : Int32)).toBitVec &&& 1#32 = 1#32) := by
    rw [← Int32.toBitVec_inj]
    exact Iff.rfl
  rw [h1, hb_ge, Int32.toBitVec_shiftRight, show ((12 : Int32).toBitVec.smod 32) = 12#32 from by decide]
  show (x.toBitVec.sshiftRight 12).getLsbD 0 = true ↔ _
  rw [BitVec.getLsbD_sshiftRight]
  simp
theorem cb_12 (x : Int32) : (x &&& ((1 : Int32) <<< ((12 : Int32) &&& 31))) = 0 ↔ ¬ x.toBitVec.getLsbD 12 = true := by
  rw [show ((1 : Int32) <<< ((12 : Int32) &&& 31)) = 4096 from by decide, ← Int32.toBitVec_inj]
  show x.toBitVec &&& 4096#32 = 0#32 ↔ _
  rw [show (4096#32) = BitVec.twoPow 32 12 from by decide, BitVec.and_twoPow]
  generalize x.toBitVec.getLsbD 12 = c
  cases c <;> decide
theorem hb_13 (x : Int32) : hasB x 13 ↔ x.toBitVec.getLsbD 13 = true := by
  unfold hasB
  rw [show ((13 : Int32) &&& 31) = 13 from by decide]
  have h1 : ((x >>> (13 : Int32)) &&& 1 = 1) ↔ ((x >>> (13 : Int32)).toBitVec &&& 1#32 = 1#32) := by
    rw [← Int32.toBitVec_inj]
    exact Iff.rfl
  rw [h1, hb_ge, Int32.toBitVec_shiftRight, show ((13 : Int32).toBitVec.smod 32) = 13#32 from by decide]
  show (x.toBitVec.sshiftRight 13).getLsbD 0 = true ↔ _
  rw [BitVec.getLsbD_sshiftRight]
  simp
theorem cb_13 (x : Int32) : (x &&& ((1 : Int32) <<< ((13 : Int32) &&& 31))) = 0 ↔ ¬ x.toBitVec.getLsbD 13 = true := by
  rw [show ((1 : Int32) <<< ((13 : Int32) &&& 31)) = 8192 from by decide, ← Int32.toBitVec_inj]
  show x.toBitVec &&& 8192#32 = 0#32 ↔ _
  rw [show (8192#32) = BitVec.twoPow 32 13 from by decide, BitVec.and_twoPow]
  generalize x.toBitVec.getLsbD 13 = c
  cases c <;> decide
theorem hb_14 (x : Int32) : hasB x 14 ↔ x.toBitVec.getLsbD 14 = true := by
  unfold hasB
  rw [show ((14 : Int32) &&& 31) = 14 from by decide]
  have h1 : ((x >>> (14 : Int32)) &&& 1 = 1) ↔ ((x >>> (14 : Int32)).toBitVec &&& 1#32 = 1#32) := by
    rw [← Int32.toBitVec_inj]
    exact Iff.rfl
  rw [h1, hb_ge, Int32.toBitVec_shiftRight, show ((14 : Int32).toBitVec.smod 32) = 14#32 from by decide]
  show (x.toBitVec.sshiftRight 14).getLsbD 0 = true ↔ _
  rw [BitVec.getLsbD_sshiftRight]
  simp
theorem cb_14 (x : Int32) : (x &&& ((1 : Int32) <<< ((14 : Int32) &&& 31))) = 0 ↔ ¬ x.toBitVec.getLsbD 14 = true := by
  rw [show ((1 : Int32) <<< ((14 : Int32) &&& 31)) = 16384 from by decide, ← Int32.toBitVec_inj]
  show x.toBitVec &&& 16384#32 = 0#32 ↔ _
  rw [show (16384#32) = BitVec.twoPow 32 14 from by decide, BitVec.and_twoPow]
  generalize x.toBitVec.getLsbD 14 = c
  cases c <;> decide
theorem hb_15 (x : Int32) : hasB x 15 ↔ x.toBitVec.getLsbD 15 = true := by
  unfold hasB
  rw [show ((15 : Int32) &&& 31) = 15 from by decide]
  have h1 : ((x >>> (15 : Int32)) &&& 1 = 1) ↔ ((x >>> (15 : Int32)).toBitVec &&& 1#32 = 1#32) := by
    rw [← Int32.toBitVec_inj]
    exact Iff.rfl
  rw [h1, hb_ge, Int32.toBitVec_shiftRight, show ((15 : Int32).toBitVec.smod 32) = 15#32 from by decide]
  show (x.toBitVec.sshiftRight 15).getLsbD 0 = true ↔ _
  rw [BitVec.getLsbD_sshiftRight]
  simp
theorem cb_15 (x : Int32) : (x &&& ((1 : Int32) <<< ((15 : Int32) &&& 31))) = 0 ↔ ¬ x.toBitVec.getLsbD 15 = true := by
  rw [show ((1 : Int32) <<< ((15 : Int32) &&& 31)) = 32768 from by decide, ← Int32.toBitVec_inj]
  show x.toBitVec &&& 32768#32 = 0#32 ↔ _
  rw [show (32768#32) = BitVec.twoPow 32 15 from by decide, BitVec.and_twoPow]
  generalize x.toBitVec.getLsbD 15 = c
  cases c <;> decide
theorem hasB_iff {x k : Int32} {K : Int} (hk : k.toInt = K) (h0 : 0 ≤ K) (h1 : K < 16) : hasB x k ↔ x.toBitVec.getLsbD K.toNat = true := by
  obtain ⟨j, hj, e, ej⟩ := i_nat (x := k) (by omega)
  have hK : K.toNat = j := by omega
  have h16 : j < 16 := by omega
  rw [hK, e]
  match j, h16 with
  | 0, _ => exact hb_0 x
  | 1, _ => exact hb_1 x
  | 2, _ => exact hb_2 x
  | 3, _ => exact hb_3 x
  | 4, _ => exact hb_4 x
  | 5, _ => exact hb_5 x
  | 6, _ => exact hb_6 x
  | 7, _ => exact hb_7 x
  | 8, _ => exact hb_8 x
  | 9, _ => exact hb_9 x
  | 10, _ => exact hb_10 x
  | 11, _ => exact hb_11 x
  | 12, _ => exact hb_12 x
  | 13, _ => exact hb_13 x
  | 14, _ => exact hb_14 x
  | 15, _ => exact hb_15 x
  | j + 16, h => exact absurd h (by omega)
theorem cellB_iff {x k : Int32} {K : Int} (hk : k.toInt = K) (h0 : 0 ≤ K) (h1 : K < 16) : (x &&& ((1 : Int32) <<< (k &&& 31))) = 0 ↔ ¬ x.toBitVec.getLsbD K.toNat = true := by
  obtain ⟨j, hj, e, ej⟩ := i_nat (x := k) (by omega)
  have hK : K.toNat = j := by omega
  have h16 : j < 16 := by omega
  rw [hK, e]
  match j, h16 with
  | 0, _ => exact cb_0 x
  | 1, _ => exact cb_1 x
  | 2, _ => exact cb_2 x
  | 3, _ => exact cb_3 x
  | 4, _ => exact cb_4 x
  | 5, _ => exact cb_5 x
  | 6, _ => exact cb_6 x
  | 7, _ => exact cb_7 x
  | 8, _ => exact cb_8 x
  | 9, _ => exact cb_9 x
  | 10, _ => exact cb_10 x
  | 11, _ => exact cb_11 x
  | 12, _ => exact cb_12 x
  | 13, _ => exact cb_13 x
  | 14, _ => exact cb_14 x
  | 15, _ => exact cb_15 x
  | j + 16, h => exact absurd h (by omega)
theorem or_of {v v' c o : Int32} {X K : Int} (hv : v.toInt = X) (hc : c.toInt = K) (e1 : o = (1 : Int32) <<< (c &&& 31)) (e2 : v' = v ||| o) : v'.toInt = orI X K := by
  unfold orI
  rw [← hv, ← hc, Int32.ofInt_toInt, Int32.ofInt_toInt, e2, e1]
theorem i_of {x : Int32} {z : Int} (h : x.toInt = z) : Int32.ofInt z = x := by rw [← h, Int32.ofInt_toInt]
theorem rlR_s00 {R : Nat → Int32} {nm : Nat → Int64} {on : Nat → Int32} {x0 x1 x2 : Int32} (h : ∀ j : Nat, (j : Int) < 64 → R j = 0) (h0 : x0.toInt = 0) (h1 : x1.toInt = 0) (h2 : x2.toInt = 0) : rlR s00 (upd (upd (upd (upd (upd (upd (upd (upd R 18 (-1)) 19 (-1)) 20 (-1)) 21 (-1)) 22 (-1)) 23 (-1)) 3 1) 5 40) nm (upd (upd (upd on 0 x0) 1 x1) 2 x2) := by
  refine ⟨fun k hk => ?_, fun k hk => ?_, fun j hj => ?_, fun j hj => ?_⟩
  · rcases (show k = 5 ∨ k = 3 ∨ k = 18 ∨ k = 19 ∨ k = 20 ∨ k = 21 ∨ k = 22 ∨ k = 23 ∨ (k ≠ 5 ∧ k ≠ 3 ∧ (k < 18 ∨ 23 < k)) by omega) with rfl | rfl | rfl | rfl | rfl | rfl | rfl | rfl | ⟨e5, e3, e18⟩
    · rfl
    · rfl
    · rfl
    · rfl
    · rfl
    · rfl
    · rfl
    · rfl
    · rw [ud_ne e5, ud_ne e3, ud_ne (by omega), ud_ne (by omega), ud_ne (by omega), ud_ne (by omega), ud_ne (by omega), ud_ne (by omega), h k (by omega)]
      unfold s00
      rw [if_neg e3, if_neg e5, if_neg (by omega)]
      rfl
  · match k, hk with
    | 0, _ => rw [ud_ne (by omega), ud_ne (by omega), ud_eq, h0]; rfl
    | 1, _ => rw [ud_ne (by omega), ud_eq, h1]; rfl
    | 2, _ => rw [ud_eq, h2]; rfl
  · exact absurd hj (show ¬ (j : Int) < 0 by omega)
  · exact absurd hj (show ¬ (j : Int) < 0 by omega)
theorem sgI_s00 : sgI s00 := by
  refine ⟨by decide, by decide, by decide, fun j hj => ?_, fun j hj => ?_, fun j _ hj => ?_, fun j _ hj => ?_, fun j hj => ?_⟩
  · unfold s00
    rw [if_neg (by omega), if_neg (by omega), if_neg (by omega)]
    omega
  · unfold s00
    rw [if_neg (by omega), if_neg (by omega), if_pos (by omega)]
    omega
  · unfold s00
    rw [if_neg (by omega), if_neg (by omega), if_pos (by omega)]
  · unfold s00
    refine ⟨?_, ?_, ?_⟩ <;> rw [if_neg (by omega), if_neg (by omega), if_neg (by omega)]
  · unfold s00
    rw [if_neg (by omega), if_neg (by omega), if_neg (by omega)]
    exact Or.inl rfl
