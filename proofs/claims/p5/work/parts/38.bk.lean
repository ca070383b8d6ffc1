/-! a BOOK read, as a plain function; S, H: which SLIDE, which HEARER has a NAME; l LINES stand already. FAULT, place, where the token behind the LINE begins -/
abbrev BKR : Type := Int × Int × Int
def bkL (b : Int → Int) (n m : Int) (S H : Int → Int) (l p q q1 q2 : Int) : BKR :=
  if tkK b n m p = 2 ∧ kyN (tkW b n p) = 15 then
    (if l = 40 then (4, tkP b n m p, 0) else if nf b n m q 1 24 ≠ 0 then (nf b n m q 1 24, tkP b n m q, 0) else (0, 0, tkX b n m q))
  else if ¬ (tkK b n m p = 2 ∧ kyN (tkW b n p) = -1) then (1, tkP b n m p, 0)
  else if S (tkW b n p) = -1 ∧ H (tkW b n p) = -1 then (3, tkP b n m p, 0)
  else if l = 40 then (4, tkP b n m p, 0)
  else if ¬ S (tkW b n p) = -1 then
    (if tkK b n m q = 2 ∧ kyN (tkW b n q) = 11 then (if nf b n m q1 0 3 ≠ 0 then (nf b n m q1 0 3, tkP b n m q1, 0) else (0, 0, tkX b n m q1))
    else if tkK b n m q = 2 ∧ kyN (tkW b n q) = 12 then (if ¬ (tkK b n m q1 = 2 ∧ kyN (tkW b n q1) = -1) then (1, tkP b n m q1, 0) else if S (tkW b n q1) = -1 then (3, tkP b n m q1, 0) else (0, 0, tkX b n m q1))
    else if tkK b n m q = 2 ∧ kyN (tkW b n q) = 13 then (if nf b n m q1 0 3 ≠ 0 then (nf b n m q1 0 3, tkP b n m q1, 0) else if nf b n m q2 0 3 ≠ 0 then (nf b n m q2 0 3, tkP b n m q2, 0) else (0, 0, tkX b n m q2))
    else (1, tkP b n m q, 0))
  else (if ¬ (tkK b n m q = 2 ∧ kyN (tkW b n q) = 14) then (1, tkP b n m q, 0) else if ¬ (tkK b n m q1 = 2 ∧ (kyN (tkW b n q1) = 9 ∨ kyN (tkW b n q1) = 10)) then (1, tkP b n m q1, 0) else (0, 0, tkX b n m q1))
def bkA (b : Int → Int) (n m : Int) (S H : Int → Int) (l p : Int) : BKR := bkL b n m S H l p (tkX b n m p) (tkX b n m (tkX b n m p)) (tkX b n m (tkX b n m (tkX b n m p)))
/-- the whole BOOK: its FAULT and the place -/
def bsF (b : Int → Int) (n m : Int) (S H : Int → Int) : Nat → Int → Int → Int × Int
  | 0, _, _ => (0, 0)
  | f + 1, p, l =>
    if tkK b n m p = 0 then (0, 0)
    else if (bkA b n m S H l p).1 ≠ 0 then ((bkA b n m S H l p).1, (bkA b n m S H l p).2.1)
    else if ¬ (tkK b n m (bkA b n m S H l p).2.2 = 4 ∧ tkG b n (bkA b n m S H l p).2.2 = 59) then (1, tkP b n m (bkA b n m S H l p).2.2)
    else bsF b n m S H f (tkX b n m (bkA b n m S H l p).2.2) (l + 1)
def bs (b : Int → Int) (n m : Int) (S H : Int → Int) : Int × Int := bsF b n m S H 41 0 0
theorem bsF_s (b : Int → Int) (n m : Int) (S H : Int → Int) (f : Nat) (p l : Int) : bsF b n m S H (f + 1) p l = if tkK b n m p = 0 then (0, 0) else if (bkA b n m S H l p).1 ≠ 0 then ((bkA b n m S H l p).1, (bkA b n m S H l p).2.1) else if ¬ (tkK b n m (bkA b n m S H l p).2.2 = 4 ∧ tkG b n (bkA b n m S H l p).2.2 = 59) then (1, tkP b n m (bkA b n m S H l p).2.2) else bsF b n m S H f (tkX b n m (bkA b n m S H l p).2.2) (l + 1) := rfl
theorem bkA_40 {b : Int → Int} {n m : Int} {S H : Int → Int} {l p : Int} (h : (bkA b n m S H l p).1 = 0) : l ≠ 40 := by
  intro e
  subst e
  unfold bkA bkL at h
  by_cases c0 : tkK b n m p = 2 ∧ kyN (tkW b n p) = 15
  · rw [if_pos c0, if_pos rfl] at h
    exact absurd h (show ¬ ((4 : Int) = 0) by decide)
  rw [if_neg c0] at h
  by_cases c1 : ¬ (tkK b n m p = 2 ∧ kyN (tkW b n p) = -1)
  · rw [if_pos c1] at h
    exact absurd h (show ¬ ((1 : Int) = 0) by decide)
  rw [if_neg c1] at h
  by_cases c2 : S (tkW b n p) = -1 ∧ H (tkW b n p) = -1
  · rw [if_pos c2] at h
    exact absurd h (show ¬ ((3 : Int) = 0) by decide)
  rw [if_neg c2, if_pos rfl] at h
  exact absurd h (show ¬ ((4 : Int) = 0) by decide)
theorem bs_f {l : Int} (hl : l ≤ 40) : ∃ k, (41 - l).toNat = k + 1 ∧ (41 - (l + 1)).toNat = k := ⟨(40 - l).toNat, by omega, by omega⟩
theorem bs_end {b : Int → Int} {n m : Int} {S H : Int → Int} {p l : Int} (hs : bsF b n m S H (41 - l).toNat p l = bs b n m S H) (hl : l ≤ 40) (hK : tkK b n m p = 0) : bs b n m S H = (0, 0) := by
  obtain ⟨k, hk, _⟩ := bs_f hl
  rw [hk, bsF_s, if_pos hK] at hs
  exact hs.symm
theorem bs_bad {b : Int → Int} {n m : Int} {S H : Int → Int} {p l : Int} (hs : bsF b n m S H (41 - l).toNat p l = bs b n m S H) (hl : l ≤ 40) (hK : tkK b n m p ≠ 0) (hL : (bkA b n m S H l p).1 ≠ 0) : bs b n m S H = ((bkA b n m S H l p).1, (bkA b n m S H l p).2.1) := by
  obtain ⟨k, hk, _⟩ := bs_f hl
  rw [hk, bsF_s, if_neg hK, if_pos hL] at hs
  exact hs.symm
theorem bs_bad2 {b : Int → Int} {n m : Int} {S H : Int → Int} {p l : Int} (hs : bsF b n m S H (41 - l).toNat p l = bs b n m S H) (hl : l ≤ 40) (hK : tkK b n m p ≠ 0) (hL : (bkA b n m S H l p).1 = 0) (hE : ¬ (tkK b n m (bkA b n m S H l p).2.2 = 4 ∧ tkG b n (bkA b n m S H l p).2.2 = 59)) : bs b n m S H = (1, tkP b n m (bkA b n m S H l p).2.2) := by
  obtain ⟨k, hk, _⟩ := bs_f hl
  rw [hk, bsF_s, if_neg hK, if_neg (fun h9 => h9 hL), if_pos hE] at hs
  exact hs.symm
theorem bs_next {b : Int → Int} {n m : Int} {S H : Int → Int} {p l : Int} (hs : bsF b n m S H (41 - l).toNat p l = bs b n m S H) (hl : l ≤ 40) (hK : tkK b n m p ≠ 0) (hL : (bkA b n m S H l p).1 = 0) (hE : tkK b n m (bkA b n m S H l p).2.2 = 4 ∧ tkG b n (bkA b n m S H l p).2.2 = 59) : bsF b n m S H (41 - (l + 1)).toNat (tkX b n m (bkA b n m S H l p).2.2) (l + 1) = bs b n m S H ∧ l + 1 ≤ 40 := by
  have h40 := bkA_40 hL
  obtain ⟨k, hk, hk2⟩ := bs_f hl
  rw [hk, bsF_s, if_neg hK, if_neg (fun h9 => h9 hL), if_neg (fun h9 => h9 hE)] at hs
  rw [hk2]
  exact ⟨hs, by omega⟩
theorem bs_0 (b : Int → Int) (n m : Int) (S H : Int → Int) : bsF b n m S H (41 - 0 : Int).toNat 0 0 = bs b n m S H := by
  rw [show ((41 : Int) - 0).toNat = 41 from by decide]
  all_goals rfl
theorem b_h4 {b : Int → Int} {n m : Int} {S H : Int → Int} {l p f fp : Int} (hk : tkK b n m p = 2 ∧ kyN (tkW b n p) = 15) (h4 : l = 40) (ef : f = 4) (ep : fp = tkP b n m p) : bkA b n m S H l p = (f, fp, 0) := by
  subst ef
  subst ep
  unfold bkA bkL
  rw [if_pos hk, if_pos h4]
theorem b_hn {b : Int → Int} {n m : Int} {S H : Int → Int} {l p f fp q : Int} (hk : tkK b n m p = 2 ∧ kyN (tkW b n p) = 15) (hl : ¬ l = 40) (e0 : q = tkX b n m p) (hf : nf b n m q 1 24 ≠ 0) (ef : f = nf b n m q 1 24) (ep : fp = tkP b n m q) : bkA b n m S H l p = (f, fp, 0) := by
  subst e0
  subst ef
  subst ep
  unfold bkA bkL
  rw [if_pos hk, if_neg hl, if_pos hf]
theorem b_hk {b : Int → Int} {n m : Int} {S H : Int → Int} {l p r q : Int} (hk : tkK b n m p = 2 ∧ kyN (tkW b n p) = 15) (hl : ¬ l = 40) (e0 : q = tkX b n m p) (hf : nf b n m q 1 24 = 0) (er : r = tkX b n m q) : bkA b n m S H l p = (0, 0, r) := by
  subst e0
  subst er
  unfold bkA bkL
  rw [if_pos hk, if_neg hl, if_neg (fun h9 => h9 hf)]
theorem b_1 {b : Int → Int} {n m : Int} {S H : Int → Int} {l p f fp : Int} (hk : ¬ (tkK b n m p = 2 ∧ kyN (tkW b n p) = 15)) (hn : ¬ (tkK b n m p = 2 ∧ kyN (tkW b n p) = -1)) (ef : f = 1) (ep : fp = tkP b n m p) : bkA b n m S H l p = (f, fp, 0) := by
  subst ef
  subst ep
  unfold bkA bkL
  rw [if_neg hk, if_pos hn]
theorem b_3 {b : Int → Int} {n m : Int} {S H : Int → Int} {l p f fp : Int} (hn : tkK b n m p = 2 ∧ kyN (tkW b n p) = -1) (hS : S (tkW b n p) = -1) (hH : H (tkW b n p) = -1) (ef : f = 3) (ep : fp = tkP b n m p) : bkA b n m S H l p = (f, fp, 0) := by
  subst ef
  subst ep
  unfold bkA bkL
  rw [if_neg (by omega), if_neg (fun h9 => h9 hn), if_pos ⟨hS, hH⟩]
theorem b_4 {b : Int → Int} {n m : Int} {S H : Int → Int} {l p f fp : Int} (hn : tkK b n m p = 2 ∧ kyN (tkW b n p) = -1) (hS : ¬ (S (tkW b n p) = -1 ∧ H (tkW b n p) = -1)) (h4 : l = 40) (ef : f = 4) (ep : fp = tkP b n m p) : bkA b n m S H l p = (f, fp, 0) := by
  subst ef
  subst ep
  unfold bkA bkL
  rw [if_neg (by omega), if_neg (fun h9 => h9 hn), if_neg hS, if_pos h4]
theorem b_sn {b : Int → Int} {n m : Int} {S H : Int → Int} {l p f fp q q1 : Int} (hn : tkK b n m p = 2 ∧ kyN (tkW b n p) = -1) (hl : ¬ l = 40) (hS : ¬ S (tkW b n p) = -1) (e0 : q = tkX b n m p) (e1 : q1 = tkX b n m q) (hq : tkK b n m q = 2 ∧ kyN (tkW b n q) = 11) (hf : nf b n m q1 0 3 ≠ 0) (ef : f = nf b n m q1 0 3) (ep : fp = tkP b n m q1) : bkA b n m S H l p = (f, fp, 0) := by
  subst e0
  subst e1
  subst ef
  subst ep
  unfold bkA bkL
  rw [if_neg (by omega), if_neg (fun h9 => h9 hn), if_neg (fun h9 => hS h9.1), if_neg hl, if_pos hS, if_pos hq, if_pos hf]
theorem b_sk {b : Int → Int} {n m : Int} {S H : Int → Int} {l p r q q1 : Int} (hn : tkK b n m p = 2 ∧ kyN (tkW b n p) = -1) (hl : ¬ l = 40) (hS : ¬ S (tkW b n p) = -1) (e0 : q = tkX b n m p) (e1 : q1 = tkX b n m q) (hq : tkK b n m q = 2 ∧ kyN (tkW b n q) = 11) (hf : nf b n m q1 0 3 = 0) (er : r = tkX b n m q1) : bkA b n m S H l p = (0, 0, r) := by
  subst e0
  subst e1
  subst er
  unfold bkA bkL
  rw [if_neg (by omega), if_neg (fun h9 => h9 hn), if_neg (fun h9 => hS h9.1), if_neg hl, if_pos hS, if_pos hq, if_neg (fun h9 => h9 hf)]
theorem b_o1 {b : Int → Int} {n m : Int} {S H : Int → Int} {l p f fp q q1 : Int} (hn : tkK b n m p = 2 ∧ kyN (tkW b n p) = -1) (hl : ¬ l = 40) (hS : ¬ S (tkW b n p) = -1) (e0 : q = tkX b n m p) (e1 : q1 = tkX b n m q) (hq : tkK b n m q = 2 ∧ kyN (tkW b n q) = 12) (hm : ¬ (tkK b n m q1 = 2 ∧ kyN (tkW b n q1) = -1)) (ef : f = 1) (ep : fp = tkP b n m q1) : bkA b n m S H l p = (f, fp, 0) := by
  subst e0
  subst e1
  subst ef
  subst ep
  unfold bkA bkL
  rw [if_neg (by omega), if_neg (fun h9 => h9 hn), if_neg (fun h9 => hS h9.1), if_neg hl, if_pos hS, if_neg (by omega), if_pos hq, if_pos hm]
theorem b_o3 {b : Int → Int} {n m : Int} {S H : Int → Int} {l p f fp q q1 : Int} (hn : tkK b n m p = 2 ∧ kyN (tkW b n p) = -1) (hl : ¬ l = 40) (hS : ¬ S (tkW b n p) = -1) (e0 : q = tkX b n m p) (e1 : q1 = tkX b n m q) (hq : tkK b n m q = 2 ∧ kyN (tkW b n q) = 12) (hm : tkK b n m q1 = 2 ∧ kyN (tkW b n q1) = -1) (hs : S (tkW b n q1) = -1) (ef : f = 3) (ep : fp = tkP b n m q1) : bkA b n m S H l p = (f, fp, 0) := by
  subst e0
  subst e1
  subst ef
  subst ep
  unfold bkA bkL
  rw [if_neg (by omega), if_neg (fun h9 => h9 hn), if_neg (fun h9 => hS h9.1), if_neg hl, if_pos hS, if_neg (by omega), if_pos hq, if_neg (fun h9 => h9 hm), if_pos hs]
theorem b_ok {b : Int → Int} {n m : Int} {S H : Int → Int} {l p r q q1 : Int} (hn : tkK b n m p = 2 ∧ kyN (tkW b n p) = -1) (hl : ¬ l = 40) (hS : ¬ S (tkW b n p) = -1) (e0 : q = tkX b n m p) (e1 : q1 = tkX b n m q) (hq : tkK b n m q = 2 ∧ kyN (tkW b n q) = 12) (hm : tkK b n m q1 = 2 ∧ kyN (tkW b n q1) = -1) (hs : ¬ S (tkW b n q1) = -1) (er : r = tkX b n m q1) : bkA b n m S H l p = (0, 0, r) := by
  subst e0
  subst e1
  subst er
  unfold bkA bkL
  rw [if_neg (by omega), if_neg (fun h9 => h9 hn), if_neg (fun h9 => hS h9.1), if_neg hl, if_pos hS, if_neg (by omega), if_pos hq, if_neg (fun h9 => h9 hm), if_neg hs]
theorem b_cx {b : Int → Int} {n m : Int} {S H : Int → Int} {l p f fp q q1 : Int} (hn : tkK b n m p = 2 ∧ kyN (tkW b n p) = -1) (hl : ¬ l = 40) (hS : ¬ S (tkW b n p) = -1) (e0 : q = tkX b n m p) (e1 : q1 = tkX b n m q) (hq : tkK b n m q = 2 ∧ kyN (tkW b n q) = 13) (hf : nf b n m q1 0 3 ≠ 0) (ef : f = nf b n m q1 0 3) (ep : fp = tkP b n m q1) : bkA b n m S H l p = (f, fp, 0) := by
  subst e0
  subst e1
  subst ef
  subst ep
  unfold bkA bkL
  rw [if_neg (by omega), if_neg (fun h9 => h9 hn), if_neg (fun h9 => hS h9.1), if_neg hl, if_pos hS, if_neg (by omega), if_neg (by omega), if_pos hq, if_pos hf]
theorem b_cy {b : Int → Int} {n m : Int} {S H : Int → Int} {l p f fp q q1 q2 : Int} (hn : tkK b n m p = 2 ∧ kyN (tkW b n p) = -1) (hl : ¬ l = 40) (hS : ¬ S (tkW b n p) = -1) (e0 : q = tkX b n m p) (e1 : q1 = tkX b n m q) (e2 : q2 = tkX b n m q1) (hq : tkK b n m q = 2 ∧ kyN (tkW b n q) = 13) (hf : nf b n m q1 0 3 = 0) (hg : nf b n m q2 0 3 ≠ 0) (ef : f = nf b n m q2 0 3) (ep : fp = tkP b n m q2) : bkA b n m S H l p = (f, fp, 0) := by
  subst e0
  subst e1
  subst e2
  subst ef
  subst ep
  unfold bkA bkL
  rw [if_neg (by omega), if_neg (fun h9 => h9 hn), if_neg (fun h9 => hS h9.1), if_neg hl, if_pos hS, if_neg (by omega), if_neg (by omega), if_pos hq, if_neg (fun h9 => h9 hf), if_pos hg]
theorem b_ck {b : Int → Int} {n m : Int} {S H : Int → Int} {l p r q q1 q2 : Int} (hn : tkK b n m p = 2 ∧ kyN (tkW b n p) = -1) (hl : ¬ l = 40) (hS : ¬ S (tkW b n p) = -1) (e0 : q = tkX b n m p) (e1 : q1 = tkX b n m q) (e2 : q2 = tkX b n m q1) (hq : tkK b n m q = 2 ∧ kyN (tkW b n q) = 13) (hf : nf b n m q1 0 3 = 0) (hg : nf b n m q2 0 3 = 0) (er : r = tkX b n m q2) : bkA b n m S H l p = (0, 0, r) := by
  subst e0
  subst e1
  subst e2
  subst er
  unfold bkA bkL
  rw [if_neg (by omega), if_neg (fun h9 => h9 hn), if_neg (fun h9 => hS h9.1), if_neg hl, if_pos hS, if_neg (by omega), if_neg (by omega), if_pos hq, if_neg (fun h9 => h9 hf), if_neg (fun h9 => h9 hg)]
theorem b_s1 {b : Int → Int} {n m : Int} {S H : Int → Int} {l p f fp q : Int} (hn : tkK b n m p = 2 ∧ kyN (tkW b n p) = -1) (hl : ¬ l = 40) (hS : ¬ S (tkW b n p) = -1) (e0 : q = tkX b n m p) (h11 : ¬ (tkK b n m q = 2 ∧ kyN (tkW b n q) = 11)) (h12 : ¬ (tkK b n m q = 2 ∧ kyN (tkW b n q) = 12)) (h13 : ¬ (tkK b n m q = 2 ∧ kyN (tkW b n q) = 13)) (ef : f = 1) (ep : fp = tkP b n m q) : bkA b n m S H l p = (f, fp, 0) := by
  subst e0
  subst ef
  subst ep
  unfold bkA bkL
  rw [if_neg (by omega), if_neg (fun h9 => h9 hn), if_neg (fun h9 => hS h9.1), if_neg hl, if_pos hS, if_neg h11, if_neg h12, if_neg h13]
theorem b_t1 {b : Int → Int} {n m : Int} {S H : Int → Int} {l p f fp q : Int} (hn : tkK b n m p = 2 ∧ kyN (tkW b n p) = -1) (hl : ¬ l = 40) (hS : S (tkW b n p) = -1) (hH : ¬ H (tkW b n p) = -1) (e0 : q = tkX b n m p) (hq : ¬ (tkK b n m q = 2 ∧ kyN (tkW b n q) = 14)) (ef : f = 1) (ep : fp = tkP b n m q) : bkA b n m S H l p = (f, fp, 0) := by
  subst e0
  subst ef
  subst ep
  unfold bkA bkL
  rw [if_neg (by omega), if_neg (fun h9 => h9 hn), if_neg (fun h9 => hH h9.2), if_neg hl, if_neg (fun h9 => h9 hS), if_pos hq]
theorem b_t2 {b : Int → Int} {n m : Int} {S H : Int → Int} {l p f fp q q1 : Int} (hn : tkK b n m p = 2 ∧ kyN (tkW b n p) = -1) (hl : ¬ l = 40) (hS : S (tkW b n p) = -1) (hH : ¬ H (tkW b n p) = -1) (e0 : q = tkX b n m p) (e1 : q1 = tkX b n m q) (hq : tkK b n m q = 2 ∧ kyN (tkW b n q) = 14) (hs : ¬ (tkK b n m q1 = 2 ∧ (kyN (tkW b n q1) = 9 ∨ kyN (tkW b n q1) = 10))) (ef : f = 1) (ep : fp = tkP b n m q1) : bkA b n m S H l p = (f, fp, 0) := by
  subst e0
  subst e1
  subst ef
  subst ep
  unfold bkA bkL
  rw [if_neg (by omega), if_neg (fun h9 => h9 hn), if_neg (fun h9 => hH h9.2), if_neg hl, if_neg (fun h9 => h9 hS), if_neg (fun h9 => h9 hq), if_pos hs]
theorem b_tk {b : Int → Int} {n m : Int} {S H : Int → Int} {l p r q q1 : Int} (hn : tkK b n m p = 2 ∧ kyN (tkW b n p) = -1) (hl : ¬ l = 40) (hS : S (tkW b n p) = -1) (hH : ¬ H (tkW b n p) = -1) (e0 : q = tkX b n m p) (e1 : q1 = tkX b n m q) (hq : tkK b n m q = 2 ∧ kyN (tkW b n q) = 14) (hs : tkK b n m q1 = 2 ∧ (kyN (tkW b n q1) = 9 ∨ kyN (tkW b n q1) = 10)) (er : r = tkX b n m q1) : bkA b n m S H l p = (0, 0, r) := by
  subst e0
  subst e1
  subst er
  unfold bkA bkL
  rw [if_neg (by omega), if_neg (fun h9 => h9 hn), if_neg (fun h9 => hH h9.2), if_neg hl, if_neg (fun h9 => h9 hS), if_neg (fun h9 => h9 hq), if_neg (fun h9 => h9 hs)]
theorem bs_y {b : Int → Int} {n m : Int} {S H : Int → Int} {p l q r : Int} (hs : bsF b n m S H (41 - l).toNat p l = bs b n m S H) (hl : l ≤ 40) (hK : tkK b n m p ≠ 0) (hb : bkA b n m S H l p = (0, 0, q)) (hE : tkK b n m q = 4 ∧ tkG b n q = 59) (er : r = tkX b n m q) : bsF b n m S H (41 - (l + 1)).toNat r (l + 1) = bs b n m S H ∧ l + 1 ≤ 40 := by
  subst er
  have h := bs_next hs hl hK (by rw [hb]; all_goals rfl) (by rw [hb]; exact hE)
  rw [hb] at h
  exact h
theorem bs_x {b : Int → Int} {n m : Int} {S H : Int → Int} {p l f fp : Int} (hs : bsF b n m S H (41 - l).toNat p l = bs b n m S H) (hl : l ≤ 40) (hK : tkK b n m p ≠ 0) (hb : bkA b n m S H l p = (f, fp, 0)) (hf : f ≠ 0) : bs b n m S H = (f, fp) := by
  have h := bs_bad hs hl hK (by rw [hb]; exact hf)
  rw [hb] at h
  exact h
theorem bs_z {b : Int → Int} {n m : Int} {S H : Int → Int} {p l q f fp : Int} (hs : bsF b n m S H (41 - l).toNat p l = bs b n m S H) (hl : l ≤ 40) (hK : tkK b n m p ≠ 0) (hb : bkA b n m S H l p = (0, 0, q)) (hE : ¬ (tkK b n m q = 4 ∧ tkG b n q = 59)) (ef : f = 1) (ep : fp = tkP b n m q) : bs b n m S H = (f, fp) := by
  subst ef
  subst ep
  have h := bs_bad2 hs hl hK (by rw [hb]; all_goals rfl) (by rw [hb]; exact hE)
  rw [hb] at h
  exact h
/-- the class's token now, ahead of a LINE -/
def bkJ (b : Int → Int) (n m : Int) (S H : Int → Int) (l : Int) (fr pl kd ke va : Int32) (co : Int64) : Prop := ∃ P : Int, tkU b n m P fr pl kd ke va ∧ (tkK b n m P = 2 → co.toInt = cv (tkW b n P)) ∧ bsF b n m S H (41 - l).toNat P l = bs b n m S H
/-- the reference's -/
def bkT (b : Int → Int) (n m : Int) (S H : Int → Int) (l : Int) (to fr kd nu sn : Int32) (wd : Int64) : Prop := ∃ P : Int, tkT b n m P to fr kd nu sn wd ∧ bsF b n m S H (41 - l).toNat P l = bs b n m S H
def bpV (b : Int → Int) (n m : Int) (S H : Int → Int) (l p : Int) (to fr kd nu sn : Int32) (wd : Int64) : Prop := ∃ Q : Int, bkA b n m S H l p = (0, 0, Q) ∧ tkT b n m Q to fr kd nu sn wd
def beV (b : Int → Int) (n m : Int) (S H : Int → Int) (l p : Int) (to fr kd nu sn : Int32) (wd : Int64) : Prop := ∃ Q : Int, bkA b n m S H l p = (0, 0, Q) ∧ (tkK b n m Q = 4 ∧ tkG b n Q = 59) ∧ tkT b n m (tkX b n m Q) to fr kd nu sn wd
def beX (b : Int → Int) (n m : Int) (S H : Int → Int) (l p f fp : Int) : Prop := (f ≠ 0 ∧ bkA b n m S H l p = (f, fp, 0)) ∨ (f = 1 ∧ ∃ Q : Int, bkA b n m S H l p = (0, 0, Q) ∧ ¬ (tkK b n m Q = 4 ∧ tkG b n Q = 59) ∧ fp = tkP b n m Q)
theorem bs_no {b : Int → Int} {n m : Int} {S H : Int → Int} {p l f fp : Int} (hs : bsF b n m S H (41 - l).toNat p l = bs b n m S H) (hl : l ≤ 40) (hK : tkK b n m p ≠ 0) (h : beX b n m S H l p f fp) : bs b n m S H = (f, fp) := by
  rcases h with ⟨hf, hb⟩ | ⟨hf, Q, hb, hn, hp⟩
  · exact bs_x hs hl hK hb hf
  · exact bs_z hs hl hK hb hn hf hp
theorem bs_g {b : Int → Int} {n m : Int} {S H : Int → Int} {v f fp : Int} (hm : m = 400) (hE : bs b n m S H = (f, fp)) (e : v = f) : v = (bs b n 400 S H).1 := by
  subst hm
  rw [hE]
  exact e
theorem ss_fl {b : Int → Int} {n m v f p r : Int} {s : Nat → Int} (hm : m = 900) (hE : ss b n m = (f, p, r, s)) (e : v = f) : v = (ss b n 900).1 := by
  subst hm
  rw [hE]
  exact e
theorem bk_ft {a v w x y v' w' : Int} (h0 : v = w) (hs : x = y) (h1 : (a = 0 ∨ a = 1) → v' = x) (h2 : (a < 0 ∨ 1 < a) → v' = v) (h3 : (a = 0 ∨ a = 1) → w' = y) (h4 : (a < 0 ∨ 1 < a) → w' = w) : v' = w' := by
  by_cases h : a = 0 ∨ a = 1
  · rw [h1 h, h3 h, hs]
  · have h9 : a < 0 ∨ 1 < a := by omega
    rw [h2 h9, h4 h9, h0]
theorem bk_le {a s s' : Int} (h0 : 0 ≤ s) (h1 : (a = 0 ∨ a = 1) → s' = 0) (h2 : (a < 0 ∨ 1 < a) → s' = s) : s' ≤ s := by
  by_cases h : a = 0 ∨ a = 1
  · rw [h1 h]
    exact h0
  · have h9 : a < 0 ∨ 1 < a := by omega
    rw [h2 h9]
    exact Int.le_refl _
def nmW (N : Int → Int) (nm : Nat → Int64) (nw : Nat → Int32) : Prop := ∀ W, fd (fun k => (nm (6 + k)).toInt) (nw 1).toInt.toNat W = N W
/-- a SENTENCE's FAULT -/
def snF (b : Int → Int) (n : Int) (N : Int → Int) (a : Int) : Prop := ∃ r : GR, grR b n 200 N 2 0 0 0 r ∧ ((r.1 ≠ 0 ∧ a = r.1) ∨ (r.1 = 0 ∧ tkK b n 200 r.2.2.1 ≠ 0 ∧ a = 1) ∨ (r.1 = 0 ∧ tkK b n 200 r.2.2.1 = 0 ∧ a = 0))
theorem snF_eq {b : Int → Int} {n n2 : Int} {N : Int → Int} {a a' : Int} (h : snF b n N a) (e : n = n2) (h' : snF b n2 N a') : a = a' := by
  subst e
  obtain ⟨r, h1, h2⟩ := h
  obtain ⟨r', h1', h2'⟩ := h'
  have e := g_uni h1 h1'
  subst e
  omega
theorem snF_o {b : Int → Int} {n m : Int} {N : Int → Int} {a v : Int} (hm : m = 200) (h : snO b n m N a) (e : v = 0) : snF b n N v := by
  subst hm
  obtain ⟨P, h1, h2⟩ := h
  exact ⟨_, h1, Or.inr (Or.inr ⟨rfl, h2, e⟩)⟩
theorem snF_b {b : Int → Int} {n m : Int} {N : Int → Int} {f fp v : Int} (hm : m = 200) (h : snB b n m N f fp) (e : v = f) : snF b n N v := by
  subst hm
  rcases h with ⟨h1, h2⟩ | ⟨h0, P, o2, h1, h2, h3⟩
  · exact ⟨_, h2, Or.inl ⟨h1, e⟩⟩
  · exact ⟨_, h1, Or.inr (Or.inl ⟨rfl, h2, by rw [e, h0]⟩)⟩
