/-! sighs that spread -/
def bcF (a : Int32) : Int32 := (fun b : Int32 => (fun c : Int32 => (fun d : Int32 => (fun e : Int32 => (fun f : Int32 => f &&& 63) (e + byU e 16)) (d + byU d 8)) ((c + byU c 4) &&& 252645135)) ((b &&& 858993459) + (byU b 2 &&& 858993459))) (a - (byU a 1 &&& 1431655765))
theorem bc_all : ∀ n, n < 256 → 0 ≤ (bcF (nI n)).toInt ∧ (bcF (nI n)).toInt ≤ 8 := by decide +kernel
theorem bc_low : ∀ n, n < 256 → n ≠ 0 → 0 ≤ (nI n &&& (nI n - 1)).toInt ∧ (nI n &&& (nI n - 1)).toInt < n ∧ (bcF (nI n)).toInt = (bcF (nI n &&& (nI n - 1))).toInt + 1 := by decide +kernel
theorem bc_or : ∀ n, n < 256 → ∀ h, h < 8 → (0 ≤ (nI n ||| ((1 : Int32) <<< (nI h &&& 31))).toInt ∧ (nI n ||| ((1 : Int32) <<< (nI h &&& 31))).toInt ≤ 255) ∧ (bcF (nI n)).toInt ≤ (bcF (nI n ||| ((1 : Int32) <<< (nI h &&& 31)))).toInt ∧ (nI n ||| ((1 : Int32) <<< (nI h &&& 31)) = nI n ∨ (bcF (nI n)).toInt < (bcF (nI n ||| ((1 : Int32) <<< (nI h &&& 31)))).toInt) := by decide +kernel
theorem bc_255 : ∀ n, n < 256 → nI n &&& 255 = nI n := by decide +kernel
theorem bc_0 {x : Int32} (h : x.toInt = 0) : (bcF x).toInt = 0 := by
  rw [i_eqL (y := 0) (Y := 0) rfl h]
  decide +kernel
theorem bc_bd {x : Int32} (h0 : 0 ≤ x.toInt) (h1 : x.toInt ≤ 255) : 0 ≤ (bcF x).toInt ∧ (bcF x).toInt ≤ 8 := by
  obtain ⟨j, hj, e, ej⟩ := i_nat h0
  subst e
  exact bc_all j (by omega)
theorem bc_st {x y z : Int32} (h0 : 0 ≤ x.toInt) (h1 : x.toInt ≤ 255) (hne : x.toInt ≠ 0) (e1 : y = x - 1) (e2 : z = x &&& y) : 0 ≤ z.toInt ∧ z.toInt < x.toInt ∧ (bcF x).toInt = (bcF z).toInt + 1 := by
  obtain ⟨j, hj, e, ej⟩ := i_nat h0
  subst e
  subst e2
  subst e1
  have h := bc_low j (by omega) (by omega)
  exact ⟨h.1, by rw [ej]; exact h.2.1, h.2.2⟩
theorem bc_orI {x : Int32} {k : Nat} (h0 : 0 ≤ x.toInt) (h1 : x.toInt ≤ 255) (hk : k < 8) : (0 ≤ (x ||| ((1 : Int32) <<< (nI k &&& 31))).toInt ∧ (x ||| ((1 : Int32) <<< (nI k &&& 31))).toInt ≤ 255) ∧ (bcF x).toInt ≤ (bcF (x ||| ((1 : Int32) <<< (nI k &&& 31)))).toInt ∧ (x ||| ((1 : Int32) <<< (nI k &&& 31)) = x ∨ (bcF x).toInt < (bcF (x ||| ((1 : Int32) <<< (nI k &&& 31)))).toInt) := by
  obtain ⟨j, hj, e, ej⟩ := i_nat h0
  subst e
  exact bc_or j (by omega) k hk
theorem and255 {x w z : Int32} (h0 : 0 ≤ w.toInt) (h1 : w.toInt ≤ 255) (e : z = x &&& w) : 0 ≤ z.toInt ∧ z.toInt ≤ 255 := by
  obtain ⟨j, hj, e2, ej⟩ := i_nat h0
  subst e
  have h3 : x &&& w = (x &&& w) &&& 255 := by
    rw [Int32.and_assoc, e2, bc_255 j (by omega)]
  rw [h3]
  exact i_andR 8 rfl (by decide) rfl
def spA (nr : Nat → Int32) (sp : Int) (w : Int32) : Nat → Int32
  | 0 => w
  | k + 1 => if sp ≤ (bcF (nr k &&& w)).toInt then spA nr sp w k ||| ((1 : Int32) <<< (nI k &&& 31)) else spA nr sp w k
theorem spA_s (nr : Nat → Int32) (sp : Int) (w : Int32) (k : Nat) : spA nr sp w (k + 1) = if sp ≤ (bcF (nr k &&& w)).toInt then spA nr sp w k ||| ((1 : Int32) <<< (nI k &&& 31)) else spA nr sp w k := rfl
theorem spA_bd {nr : Nat → Int32} {sp : Int} {w : Int32} (h0 : 0 ≤ w.toInt) (h1 : w.toInt ≤ 255) : ∀ k, k ≤ 8 → (0 ≤ (spA nr sp w k).toInt ∧ (spA nr sp w k).toInt ≤ 255) ∧ (bcF w).toInt ≤ (bcF (spA nr sp w k)).toInt ∧ (spA nr sp w k = w ∨ (bcF w).toInt < (bcF (spA nr sp w k)).toInt) := by
  intro k
  induction k with
  | zero => intro _; exact ⟨⟨h0, h1⟩, Int.le_refl _, Or.inl rfl⟩
  | succ k ih =>
    intro hk
    obtain ⟨i1, i2, i3⟩ := ih (by omega)
    rw [spA_s]
    split
    · have h := bc_orI (x := spA nr sp w k) (k := k) i1.1 i1.2 (by omega)
      refine ⟨h.1, by omega, ?_⟩
      rcases h.2.2 with h4 | h4
      · rw [h4]
        exact i3
      · exact Or.inr (by omega)
    · exact ⟨i1, i2, i3⟩
theorem spA_congr {nr nr' : Nat → Int32} {sp : Int} {w : Int32} : ∀ k, (∀ j, j < k → nr j = nr' j) → spA nr sp w k = spA nr' sp w k := by
  intro k
  induction k with
  | zero => intro _; rfl
  | succ k ih =>
    intro h
    rw [spA_s, spA_s, ih (fun j hj => h j (by omega)), h k (by omega)]
theorem h_nI {h : Int32} (h0 : 0 ≤ h.toInt) : nI h.toInt.toNat = h := by
  obtain ⟨j, hj, e, ej⟩ := i_nat h0
  rw [ej, e]
  rfl
theorem spA_y {nr : Nat → Int32} {sp : Int} {w a a' h h' v z r sh : Int32} (hm : a = spA nr sp w h.toInt.toNat) (h0 : 0 ≤ h.toInt) (ev : v = nr h.toInt.toNat) (ez : z = v &&& w) (er : r = bcF z) (hc : sp ≤ r.toInt) (es : sh = (1 : Int32) <<< (h &&& 31)) (em : a' = a ||| sh) (e1 : h'.toInt = h.toInt + 1) : a' = spA nr sp w h'.toInt.toNat := by
  rw [show h'.toInt.toNat = h.toInt.toNat + 1 by omega, spA_s, if_pos (by rw [← ev, ← ez, ← er]; exact hc), h_nI h0, ← es, ← hm, em]
theorem spA_n {nr : Nat → Int32} {sp : Int} {w a h h' v z r : Int32} (hm : a = spA nr sp w h.toInt.toNat) (h0 : 0 ≤ h.toInt) (ev : v = nr h.toInt.toNat) (ez : z = v &&& w) (er : r = bcF z) (hc : r.toInt < sp) (e1 : h'.toInt = h.toInt + 1) : a = spA nr sp w h'.toInt.toNat := by
  rw [show h'.toInt.toNat = h.toInt.toNat + 1 by omega, spA_s, if_neg (by rw [← ev, ← ez, ← er]; omega), ← hm]
def spN (nr : Nat → Int32) (sp : Int) (he : Nat) : Nat → Int32 → Int32
  | 0, w => w
  | k + 1, w => spN nr sp he k (spA nr sp w he)
def spM (nr : Nat → Int32) (sp : Int) (he : Nat) (w : Int32) : Nat → Int32
  | 0 => w
  | m + 1 => spA nr sp (spM nr sp he w m) he
theorem spN_s (nr : Nat → Int32) (sp : Int) (he k : Nat) (w : Int32) : spN nr sp he (k + 1) w = spN nr sp he k (spA nr sp w he) := rfl
theorem spM_s (nr : Nat → Int32) (sp : Int) (he m : Nat) (w : Int32) : spM nr sp he w (m + 1) = spA nr sp (spM nr sp he w m) he := rfl
theorem spN_fix {nr : Nat → Int32} {sp : Int} {he : Nat} {w : Int32} (h : spA nr sp w he = w) : ∀ k, spN nr sp he k w = w := by
  intro k
  induction k with
  | zero => rfl
  | succ k ih => rw [spN_s, h, ih]
theorem spN_M (nr : Nat → Int32) (sp : Int) (he : Nat) (w : Int32) : ∀ m, m ≤ 8 → spN nr sp he 8 w = spN nr sp he (8 - m) (spM nr sp he w m) := by
  intro m
  induction m with
  | zero => intro _; rfl
  | succ m ih =>
    intro hm
    rw [ih (by omega), show 8 - m = (8 - (m + 1)) + 1 by omega, spN_s, spM_s]
theorem spN_congr {nr nr' : Nat → Int32} {sp : Int} {he : Nat} (h : ∀ j, j < he → nr j = nr' j) : ∀ k w, spN nr sp he k w = spN nr' sp he k w := by
  intro k
  induction k with
  | zero => intro w; rfl
  | succ k ih => intro w; rw [spN_s, spN_s, spA_congr he h, ih]
theorem spN_d {nr : Nat → Int32} {sp : Int} {he : Nat} {w v a r r' : Int32} (h : spN nr sp he (8 - r.toInt).toNat w = a) (hr : r.toInt < 8) (e : v = spA nr sp w he) (er : r'.toInt = r.toInt + 1) : spN nr sp he (8 - r'.toInt).toNat v = a := by
  rw [show (8 - r.toInt).toNat = (8 - r'.toInt).toNat + 1 by omega, spN_s, ← e] at h
  exact h
/-- the reference's rounds -/
def spJ (nr : Nat → Int32) (sp : Int) (he : Nat) (w a : Int32) : Prop := ∃ m : Nat, a = spM nr sp he w m ∧ (m : Int) ≤ (bcF a).toInt ∧ (0 ≤ a.toInt ∧ a.toInt ≤ 255)
theorem spJ_0 {nr : Nat → Int32} {sp : Int} {he : Nat} {w : Int32} (h0 : 0 ≤ w.toInt) (h1 : w.toInt ≤ 255) : spJ nr sp he w w := ⟨0, rfl, (bc_bd h0 h1).1, h0, h1⟩
theorem spJ_s {nr : Nat → Int32} {sp : Int} {he : Nat} {w a a' : Int32} (h : spJ nr sp he w a) (hh : he ≤ 8) (e : a' = spA nr sp a he) (hne : a'.toInt ≠ a.toInt) : spJ nr sp he w a' ∧ (bcF a).toInt < (bcF a').toInt ∧ (bcF a').toInt ≤ 8 := by
  obtain ⟨m, e1, h2, h3, h4⟩ := h
  obtain ⟨g1, g2, g3⟩ := spA_bd (nr := nr) (sp := sp) h3 h4 he hh
  rw [← e] at g1 g2 g3
  have g4 : (bcF a).toInt < (bcF a').toInt := by
    rcases g3 with g3 | g3
    · exact absurd (by rw [g3]) hne
    · exact g3
  exact ⟨⟨m + 1, by rw [spM_s, ← e1, e], by omega, g1⟩, g4, (bc_bd g1.1 g1.2).2⟩
theorem spJ_e {nr : Nat → Int32} {sp : Int} {he : Nat} {w a a' : Int32} (h : spJ nr sp he w a) (e : a' = spA nr sp a he) (hq : a'.toInt = a.toInt) : a' = spN nr sp he 8 w := by
  obtain ⟨m, e1, h2, h3, h4⟩ := h
  have hb := bc_bd h3 h4
  have hq : a' = a := Int32.toInt_inj.mp hq
  rw [spN_M nr sp he w m (by omega), ← e1, spN_fix (by rw [← e, hq])]
  exact hq
/-- who sighs in the end, of a set -/
def spG (nr : Nat → Int32) (sp he : Int) (w : Int32) : Int := if sp ≤ 0 then w.toInt else (spN nr sp he.toNat 8 w).toInt
def spR (nr : Nat → Int32) (sp he : Int) (w : Int32) : Int := if ¬ (0 ≤ w.toInt ∧ w.toInt < 2 ^ he.toNat) then -1 else spG nr sp he w
theorem pw_le {he : Int} (h0 : 0 ≤ he) (h8 : he ≤ 8) : (2 : Int) ^ he.toNat ≤ 256 := by
  have h : ∀ j, j ≤ 8 → (2 : Int) ^ j ≤ 256 := by decide
  exact h he.toNat (by omega)
theorem shl_eq {he v : Int32} (h0 : 0 ≤ he.toInt) (h8 : he.toInt ≤ 8) (ev : v = (1 : Int32) <<< (he &&& 31)) : v.toInt = 2 ^ he.toInt.toNat := by
  have h : ∀ j, j < 9 → ((1 : Int32) <<< (nI j &&& 31)).toInt = 2 ^ j := by decide +kernel
  rw [ev, ← h he.toInt.toNat (by omega), h_nI h0]
theorem shr_iff {a he v : Int32} (ha : 0 ≤ a.toInt) (h0 : 0 ≤ he.toInt) (h8 : he.toInt ≤ 8) (ev : v = a >>> (he &&& 31)) : v.toInt = 0 ↔ a.toInt < 2 ^ he.toInt.toNat := by
  obtain ⟨j, hj, e, ej⟩ := i_nat h0
  have hs : ∀ j, j < 9 → ((nI j &&& 31).toBitVec.smod 32).toNat = j := by decide +kernel
  have hv : v.toInt = a.toInt >>> j := by
    rw [ev, e]
    exact pk_shr a (nI j &&& 31) j (hs j (by omega))
  have hpc : ∀ j, j < 9 → 0 < ((2 ^ j : Nat) : Int) ∧ ((2 ^ j : Nat) : Int) = 2 ^ j := by decide
  obtain ⟨hp, hc⟩ := hpc j (by omega)
  rw [hv, Int.shiftRight_eq_div_pow, Int.ediv_eq_iff_of_pos hp, Int.zero_mul, Int.zero_add, hc, show he.toInt.toNat = j by omega]
  exact ⟨fun h => h.2, fun h => ⟨ha, h⟩⟩
theorem spR_eq {sl he ne pa sp la a : Int32} {li ha nr nw : Nat → Int32} (h : scR sl he ne pa sp la li ha nr nw) (h8 : he.toInt ≤ 8) : spR nr sp.toInt he.toInt a = spR (fun j9 => nw (56 + j9)) (nw 4).toInt (nw 1).toInt a := by
  obtain ⟨⟨a0, a1, a2, a3, a4, a5⟩, b1⟩ := h
  unfold spR spG
  rw [← a1, ← a4, spN_congr (nr' := fun j9 => nw (56 + j9)) (fun j hj => Int32.toInt_inj.mp (b1 j (by omega) (by omega)).2.2)]
