theorem bp_b (x : Int32) : x.toInt8.toInt32 &&& 255 = x &&& 255 := by
  apply Int32.toBitVec_inj.mp
  rw [Int32.toBitVec_and, Int32.toBitVec_and, Int8.toBitVec_toInt32, Int32.toBitVec_toInt8]
  apply BitVec.eq_of_getLsbD_eq
  intro i hi
  rw [BitVec.getLsbD_and, BitVec.getLsbD_and]
  have hm : ∀ i < 32, 8 ≤ i → (255 : Int32).toBitVec.getLsbD i = false := by decide
  rcases Nat.lt_or_ge i 8 with z | z
  · rw [BitVec.getLsbD_signExtend, BitVec.getLsbD_signExtend, if_pos z, if_pos hi]
    simp only [z, hi, decide_true, Bool.true_and]
  · rw [hm i hi z]; simp
/-! bytes fed: as both sides have them; a SESSION's answer -/
def byU (v s : Int32) : Int32 := (v.toUInt32 >>> (s.toUInt32 &&& Int32.toUInt32 31)).toInt32
def byV (v : Int32) (j : Int) : Int := (byU v (if j = 0 then 24 else if j = 1 then 16 else if j = 2 then 8 else 0) &&& 255).toInt
def cC (f : Nat → Int32) (i : Int) : Int := ((f i.toNat) &&& 255).toInt
def cR (f : Nat → Int32) (i : Int) : Int := (f i.toNat).toInt
def eqN (A B : Int → Int) (m : Int) : Prop := ∀ i, 0 ≤ i → i < m → A i = B i
def bx (A : Int → Int) (n : Int) (v : Int32) : Int → Int := fun i => if i < n then A i else byV v (i - n)
theorem cC_upd {f f' : Nat → Int32} {n w u v sh : Int32} (e : upd f n.toNatClampNeg (vp_nar .byte w) = f') (hw : w = u.toInt8.toInt32) (hu : u = byU v sh) (h0 : 0 ≤ n.toInt) : ∀ i : Int, 0 ≤ i → cC f' i = if i = n.toInt then (byU v sh &&& 255).toInt else cC f i := by
  intro i hi
  unfold cC
  rw [← e]
  by_cases h : i = n.toInt
  · rw [if_pos h, show i.toNat = n.toNatClampNeg by rw [i_cn]; omega, ud_eq, hw, pk_vb, bp_b, hu]
  · rw [if_neg h, ud_ne (by rw [i_cn]; omega)]
theorem cR_upd {f f' : Nat → Int32} {n x u v sh : Int32} (e : upd f n.toNatClampNeg x = f') (hx : (0 ≤ x.toInt ∧ x.toInt ≤ 255) ∧ x = u &&& 255) (hu : u = byU v sh) (h0 : 0 ≤ n.toInt) : ∀ i : Int, 0 ≤ i → cR f' i = if i = n.toInt then (byU v sh &&& 255).toInt else cR f i := by
  intro i hi
  unfold cR
  rw [← e]
  by_cases h : i = n.toInt
  · rw [if_pos h, show i.toNat = n.toNatClampNeg by rw [i_cn]; omega, ud_eq, hx.2, hu]
  · rw [if_neg h, ud_ne (by rw [i_cn]; omega)]
theorem put4 {A A1 A2 A3 A4 : Int → Int} {n0 n1 n2 n3 : Int} {v : Int32} (h1 : ∀ i, 0 ≤ i → A1 i = if i = n0 then (byU v 24 &&& 255).toInt else A i) (h2 : ∀ i, 0 ≤ i → A2 i = if i = n1 then (byU v 16 &&& 255).toInt else A1 i) (h3 : ∀ i, 0 ≤ i → A3 i = if i = n2 then (byU v 8 &&& 255).toInt else A2 i) (h4 : ∀ i, 0 ≤ i → A4 i = if i = n3 then (byU v 0 &&& 255).toInt else A3 i) (e1 : n1 = n0 + 1) (e2 : n2 = n0 + 2) (e3 : n3 = n0 + 3) : eqN A4 (bx A n0 v) (n0 + 4) := by
  intro i h0 hi
  rw [h4 i h0, h3 i h0, h2 i h0, h1 i h0]
  unfold bx byV
  by_cases c : i < n0
  · rw [if_neg (by omega), if_neg (by omega), if_neg (by omega), if_neg (by omega), if_pos c]
  · rw [if_neg c]
    rcases (show i = n0 ∨ i = n0 + 1 ∨ i = n0 + 2 ∨ i = n0 + 3 by omega) with h | h | h | h
    · rw [if_neg (by omega), if_neg (by omega), if_neg (by omega), if_pos (by omega), if_pos (by omega)]
    · rw [if_neg (by omega), if_neg (by omega), if_pos (by omega), if_neg (by omega), if_pos (by omega)]
    · rw [if_neg (by omega), if_pos (by omega), if_neg (by omega), if_neg (by omega), if_pos (by omega)]
    · rw [if_pos (by omega), if_neg (by omega), if_neg (by omega), if_neg (by omega)]
theorem bx_step {A B C : Int → Int} {m : Int} {v : Int32} (h1 : eqN A B m) (h2 : eqN C (bx A m v) (m + 4)) : eqN C (bx B m v) (m + 4) := by
  intro i h0 hi
  rw [h2 i h0 hi]
  unfold bx
  by_cases c : i < m
  · rw [if_pos c, if_pos c, h1 i h0 c]
  · rw [if_neg c, if_neg c]
theorem bx_con {A B : Int → Int} {n : Int} {v : Int32} (h : eqN A B n) : ∀ i, 0 ≤ i → bx A n v i = bx B n v i := by
  intro i h0
  unfold bx
  by_cases c : i < n
  · rw [if_pos c, if_pos c, h i h0 c]
  · rw [if_neg c, if_neg c]
def bx5 (A : Int → Int) (n : Int) (v1 v2 v3 v4 v5 : Int32) : Int → Int := bx (bx (bx (bx (bx A n v1) (n + 4) v2) (n + 4 + 4) v3) (n + 4 + 4 + 4) v4) (n + 4 + 4 + 4 + 4) v5
theorem bx5_of {A A1 A2 A3 A4 A5 : Int → Int} {n n1 n2 n3 n4 : Int} {v1 v2 v3 v4 v5 : Int32} (h1 : eqN A1 (bx A n v1) (n + 4)) (h2 : eqN A2 (bx A1 n1 v2) (n1 + 4)) (h3 : eqN A3 (bx A2 n2 v3) (n2 + 4)) (h4 : eqN A4 (bx A3 n3 v4) (n3 + 4)) (h5 : eqN A5 (bx A4 n4 v5) (n4 + 4)) (e1 : n1 = n + 4) (e2 : n2 = n1 + 4) (e3 : n3 = n2 + 4) (e4 : n4 = n3 + 4) : eqN A5 (bx5 A n v1 v2 v3 v4 v5) (n + 20) := by
  subst e1
  subst e2
  subst e3
  subst e4
  have g5 := bx_step (bx_step (bx_step (bx_step h1 h2) h3) h4) h5
  intro i h0 hi
  exact g5 i h0 (by omega)
theorem bx5_con {A B : Int → Int} {n : Int} {v1 v2 v3 v4 v5 : Int32} (h : eqN A B n) : ∀ i, 0 ≤ i → bx5 A n v1 v2 v3 v4 v5 i = bx5 B n v1 v2 v3 v4 v5 i := by
  have g1 : eqN (bx A n v1) (bx B n v1) (n + 4) := fun i h0 _ => bx_con h i h0
  have g2 : eqN (bx (bx A n v1) (n + 4) v2) (bx (bx B n v1) (n + 4) v2) (n + 4 + 4) := fun i h0 _ => bx_con g1 i h0
  have g3 : eqN (bx (bx (bx A n v1) (n + 4) v2) (n + 4 + 4) v3) (bx (bx (bx B n v1) (n + 4) v2) (n + 4 + 4) v3) (n + 4 + 4 + 4) := fun i h0 _ => bx_con g2 i h0
  have g4 : eqN (bx (bx (bx (bx A n v1) (n + 4) v2) (n + 4 + 4) v3) (n + 4 + 4 + 4) v4) (bx (bx (bx (bx B n v1) (n + 4) v2) (n + 4 + 4) v3) (n + 4 + 4 + 4) v4) (n + 4 + 4 + 4 + 4) := fun i h0 _ => bx_con g3 i h0
  intro i h0
  exact bx_con g4 i h0
def fdI (A A' : Int → Int) (n : Int) (v1 v2 v3 v4 v5 : Int32) : Prop := (n ≤ 920 ∧ eqN A' (bx5 A n v1 v2 v3 v4 v5) (n + 20)) ∨ (920 < n ∧ A' = A)
theorem fd_rel {A A' B B' : Int → Int} {n n2 k : Int} {v1 v2 v3 v4 v5 : Int32} (h : eqN A B n) (e : n = n2) (hA : fdI A A' n v1 v2 v3 v4 v5) (hB : fdI B B' n2 v1 v2 v3 v4 v5) (hk1 : n ≤ 920 → k = n + 20) (hk2 : 920 < n → k = n) : eqN A' B' k := by
  subst e
  rcases hA with ⟨h1, h2⟩ | ⟨h1, h2⟩
  · rcases hB with ⟨g1, g2⟩ | ⟨g1, g2⟩
    · intro i h0 hi
      have h3 := hk1 h1
      rw [h2 i h0 (by omega), g2 i h0 (by omega)]
      exact bx5_con h i h0
    · exfalso; omega
  · rcases hB with ⟨g1, g2⟩ | ⟨g1, g2⟩
    · exfalso; omega
    · rw [h2, g2, hk2 h1]; exact h
theorem eqN_le {A B : Int → Int} {n k : Int} (h : eqN A B n) (hk : k ≤ n) : eqN A B k := fun i h0 hi => h i h0 (Int.lt_of_lt_of_le hi hk)
theorem eqN_C {f g : Nat → Int32} {n : Int32} (h : eqN (cC f) (cR g) n.toInt) : tbC (fun i => (g i.toNat).toInt) f n := fun i h0 hi => (h i h0 hi).symm
def sesR (b : Int → Int) (n : Int) : Int := if (ss b n 900).1 = 0 then (ss b n 900).2.2.1 else -1 - (ss b n 900).2.1
/-- the LINES read so far, as the reference has them -/
def rsI (b : Int → Int) (n m to fr kd l : Int) (nu sn : Int32) (w : Int64) (R : (Nat → Int) → Prop) : Prop := ∃ (P : Int) (s : Nat → Int), (to = tkX b n m P ∧ fr = tkP b n m P ∧ kd = tkK b n m P ∧ tkV b n m P nu sn w) ∧ R s ∧ sgI s ∧ ssF b n m (941 - l).toNat s P l = ss b n m ∧ (0 ≤ l ∧ 2 * l ≤ P ∧ P ≤ 940)
theorem ses_ok {b : Int → Int} {n m r : Int} {s : Nat → Int} (hm : m = 900) (hE : ss b n m = (0, 0, r, s)) : r = sesR b n := by
  subst hm
  unfold sesR
  rw [hE]
  exact (if_pos rfl).symm
theorem ses_bad {b : Int → Int} {n m f p r : Int} {s : Nat → Int} (hm : m = 900) (hE : ss b n m = (f, p, 0, s)) (hf : f ≠ 0) (hr : r = -1 - p) : r = sesR b n := by
  subst hm
  unfold sesR
  rw [hE, hr]
  exact (if_neg hf).symm
theorem kcI_kcF : kcI kcF := by
  have h : ∀ k, k < 27 → (kcF k).toInt = cv (kN k) := by decide +kernel
  exact h
/-! what both have of the scene -/
def loW (f g : Nat → Int32) : Prop := ∀ j, j < 64 → g j = f j
theorem loW_rfl (f : Nat → Int32) : loW f f := fun _ _ => rfl
theorem loW_upd {f g : Nat → Int32} {k : Nat} {x : Int32} (h : loW f g) (hk : 64 ≤ k) : loW f (upd g k x) := fun j hj => (ud_ne (by omega)).trans (h j hj)
theorem loW_tr {f g h : Nat → Int32} (h1 : loW f g) (h2 : loW g h) : loW f h := fun j hj => (h2 j hj).trans (h1 j hj)
def cpE (n : Nat) (f g : Nat → Int32) : Prop := ∀ j, j < n → g j = f j
theorem cpE_of {f d g : Nat → Int32} {n : Nat} (e : va_cpy f d 0 0 n = g) : cpE n f g := fun j hj => by rw [← e]; exact va_cpy_at hj
def scR (sl he ne pa sp la : Int32) (li ha nr nw : Nat → Int32) : Prop := (sl.toInt = (nw 0).toInt ∧ he.toInt = (nw 1).toInt ∧ ne.toInt = (nw 2).toInt ∧ pa.toInt = (nw 3).toInt ∧ sp.toInt = (nw 4).toInt ∧ la.toInt = (nw 5).toInt) ∧ ∀ j : Nat, j < 8 → (j : Int) < he.toInt → (li j).toInt = (nw (40 + j)).toInt ∧ (ha j).toInt = (nw (48 + j)).toInt ∧ (nr j).toInt = (nw (56 + j)).toInt
theorem scR_cp {sl he ne pa sp la : Int32} {li ha nr nw li' ha' nr' nw' : Nat → Int32} (h : scR sl he ne pa sp la li ha nr nw) (c1 : cpE 8 li li') (c2 : cpE 8 ha ha') (c3 : cpE 8 nr nr') (hl : loW nw nw') : scR sl he ne pa sp la li' ha' nr' nw' := by
  obtain ⟨a, b⟩ := h
  refine ⟨?_, fun j hj hj2 => ?_⟩
  · rw [hl 0 (by omega), hl 1 (by omega), hl 2 (by omega), hl 3 (by omega), hl 4 (by omega), hl 5 (by omega)]
    exact a
  · rw [hl (40 + j) (by omega), hl (48 + j) (by omega), hl (56 + j) (by omega), c1 j hj, c2 j hj, c3 j hj]
    exact b j hj hj2
theorem cpE_rfl (n : Nat) (f : Nat → Int32) : cpE n f f := fun _ _ => rfl
theorem scR_lo {sl he ne pa sp la : Int32} {li ha nr nw nw' : Nat → Int32} (h : scR sl he ne pa sp la li ha nr nw) (hl : loW nw nw') : scR sl he ne pa sp la li ha nr nw' := scR_cp h (cpE_rfl _ _) (cpE_rfl _ _) (cpE_rfl _ _) hl
/-- what is told -/
def sgN (s : Nat → Int) (sl he ne pa sp la : Int32) (li ha nr : Nat → Int32) : Prop := (sl.toInt = s 0 ∧ he.toInt = s 1 ∧ ne.toInt = s 2 ∧ pa.toInt = s 3 ∧ sp.toInt = s 4 ∧ la.toInt = s 5) ∧ ∀ j : Nat, j < 8 → (j : Int) < he.toInt → (li j).toInt = s (40 + j) ∧ (ha j).toInt = s (48 + j) ∧ (nr j).toInt = s (56 + j)
theorem sgN_of {s : Nat → Int} {sl he ne pa sp la st : Int32} {sn : Nat → Int64} {af : Nat → Int32} {hn : Nat → Int64} {li ha nr li' ha' nr' : Nat → Int32} (h : rlC s sl he ne pa sp la st sn af hn li ha nr) (c1 : cpE 8 li li') (c2 : cpE 8 ha ha') (c3 : cpE 8 nr nr') : sgN s sl he ne pa sp la li' ha' nr' := by
  obtain ⟨⟨a0, a1, a2, a3, a4, a5, a6⟩, b1, b2⟩ := h
  refine ⟨⟨a0, a1, a2, a3, a4, a5⟩, fun j hj hj2 => ?_⟩
  rw [c1 j hj, c2 j hj, c3 j hj]
  exact (b2 j (by omega)).2
def seC (b : Int → Int) (n : Int) (sl he ne pa sp la : Int32) (li ha nr : Nat → Int32) (sl' he' ne' pa' sp' la' : Int32) (li' ha' nr' : Nat → Int32) : Prop := ((ss b n 900).1 = 0 ∧ sgN (ss b n 900).2.2.2 sl' he' ne' pa' sp' la' li' ha' nr') ∨ ((ss b n 900).1 ≠ 0 ∧ (sl' = sl ∧ he' = he ∧ ne' = ne ∧ pa' = pa ∧ sp' = sp ∧ la' = la) ∧ li' = li ∧ ha' = ha ∧ nr' = nr)
def seR (b : Int → Int) (n : Int) (nw nw' : Nat → Int32) : Prop := ((ss b n 900).1 = 0 ∧ ∀ k, (k ≤ 5 ∨ (40 ≤ k ∧ k ≤ 63)) → (nw' k).toInt = (ss b n 900).2.2.2 k) ∨ ((ss b n 900).1 ≠ 0 ∧ loW nw nw')
theorem se_rel {b : Int → Int} {n n2 : Int} {sl he ne pa sp la sl' he' ne' pa' sp' la' : Int32} {li ha nr nw li' ha' nr' nw' : Nat → Int32} (h : scR sl he ne pa sp la li ha nr nw) (e : n = n2) (hC : seC b n sl he ne pa sp la li ha nr sl' he' ne' pa' sp' la' li' ha' nr') (hR : seR b n2 nw nw') : scR sl' he' ne' pa' sp' la' li' ha' nr' nw' := by
  subst e
  rcases hC with ⟨h1, h2⟩ | ⟨h1, ⟨rfl, rfl, rfl, rfl, rfl, rfl⟩, rfl, rfl, rfl⟩
  · rcases hR with ⟨g1, g2⟩ | ⟨g1, g2⟩
    · obtain ⟨⟨a0, a1, a2, a3, a4, a5⟩, b1⟩ := h2
      refine ⟨⟨?_, ?_, ?_, ?_, ?_, ?_⟩, fun j hj hj2 => ?_⟩
      · rw [a0, g2 0 (by omega)]
      · rw [a1, g2 1 (by omega)]
      · rw [a2, g2 2 (by omega)]
      · rw [a3, g2 3 (by omega)]
      · rw [a4, g2 4 (by omega)]
      · rw [a5, g2 5 (by omega)]
      · rw [g2 (40 + j) (by omega), g2 (48 + j) (by omega), g2 (56 + j) (by omega)]
        exact b1 j hj hj2
    · exact absurd h1 g1
  · rcases hR with ⟨g1, g2⟩ | ⟨g1, g2⟩
    · exact absurd g1 h1
    · exact scR_lo h g2
theorem seR_of {b : Int → Int} {n m r : Int} {s : Nat → Int} {rd nw g nw' : Nat → Int32} {nm : Nat → Int64} {on : Nat → Int32} {i : Int32} (hm : m = 900) (hE : ss b n m = (0, 0, r, s)) (hR : rlR s rd nm on) (hc : cpJ 0 0 rd nw i g) (hi : i.toInt = 64) (hl : loW g nw') : seR b n nw nw' := by
  subst hm
  refine Or.inl ⟨by rw [hE], fun k hk => ?_⟩
  have h1 := hc.1 k (by omega)
  rw [show 0 + k = k by omega] at h1
  rw [hE, hl k (by omega), h1]
  exact hR.1 k (by omega)
theorem seR_no {b : Int → Int} {n m f p r : Int} {s : Nat → Int} {nw : Nat → Int32} (hm : m = 900) (hE : ss b n m = (f, p, r, s)) (hf : f ≠ 0) : seR b n nw nw := by
  subst hm
  exact Or.inr ⟨by rw [hE]; exact hf, loW_rfl _⟩
/-- a copy of n from a place to another -/
def cpF (so d : Nat) (n : Int) (f g0 g : Nat → Int32) : Prop := ∃ i : Int32, i.toInt = n ∧ cpI f g0 so d i g
/-- an image kept at a place -/
def imR (kf sl he ne pa sp la : Int32) (li ha nr kp : Nat → Int32) (base : Nat) : Prop := kf.toInt ≠ 0 → scR sl he ne pa sp la li ha nr (fun j => kp (base + j))
theorem im_new {kf sl he ne pa sp la : Int32} {li ha nr nw li' ha' nr' kp kp' : Nat → Int32} {base : Nat} (h : scR sl he ne pa sp la li ha nr nw) (c1 : cpE 8 li li') (c2 : cpE 8 ha ha') (c3 : cpE 8 nr nr') (hc : cpF 0 base 339 nw kp kp') : imR kf sl he ne pa sp la li' ha' nr' kp' base := fun _ => scR_cp h c1 c2 c3 (fun j hj => by
  obtain ⟨i, hi, hc⟩ := hc
  have h1 := hc.1 j (by omega)
  rw [show 0 + j = j by omega] at h1
  exact h1)
theorem im_old {kf kf' sl he ne pa sp la : Int32} {li ha nr nw kp kp' : Nat → Int32} {base d : Nat} (h : imR kf sl he ne pa sp la li ha nr kp base) (e : kf' = kf) (hc : cpF 0 d 339 nw kp kp') (hd : base + 339 ≤ d ∨ d + 339 ≤ base) : imR kf' sl he ne pa sp la li ha nr kp' base := by
  subst e
  obtain ⟨i, hi, hc⟩ := hc
  exact fun hk => scR_lo (h hk) (fun j hj => hc.2 (base + j) (by omega))
theorem im_back {kf sl he ne pa sp la : Int32} {li ha nr li' ha' nr' kp nw nw' : Nat → Int32} {base : Nat} (h : imR kf sl he ne pa sp la li ha nr kp base) (hk : kf.toInt ≠ 0) (c1 : cpE 8 li li') (c2 : cpE 8 ha ha') (c3 : cpE 8 nr nr') (hc : cpF base 0 339 kp nw nw') : scR sl he ne pa sp la li' ha' nr' nw' := scR_cp (h hk) c1 c2 c3 (fun j hj => by
  obtain ⟨i, hi, hc⟩ := hc
  have h1 := hc.1 j (by omega)
  rw [show 0 + j = j by omega] at h1
  exact h1)
/-! count, thinks -/
def cntF (w sl he ne pa sp la sz : Int) : Int := if w = 0 then sl else if w = 1 then he else if w = 2 then ne else if w = 3 then pa else if w = 4 then sp else if w = 5 then la else if w = 6 then sz else -1
theorem cnt_eq {w sl he ne pa sp la : Int32} {li ha nr nw : Nat → Int32} {sz sz' : Int} (h : scR sl he ne pa sp la li ha nr nw) (e : sz = sz') : cntF w.toInt sl.toInt he.toInt ne.toInt pa.toInt sp.toInt la.toInt sz = cntF w.toInt (nw 0).toInt (nw 1).toInt (nw 2).toInt (nw 3).toInt (nw 4).toInt (nw 5).toInt sz' := by
  obtain ⟨⟨a0, a1, a2, a3, a4, a5⟩, _⟩ := h
  rw [a0, a1, a2, a3, a4, a5, e]
def thF (h x y he li ha : Int) : Int := if ¬ (0 ≤ h ∧ h < he ∧ 0 ≤ x ∧ x ≤ 3 ∧ 0 ≤ y ∧ y ≤ 3) then -1 else if bitI li (x + 4 * y) then 1 else if bitI ha (x + 4 * y) then 2 else 0
theorem th_eq {a1 a2 a3 sl he ne pa sp la : Int32} {li ha nr nw : Nat → Int32} (h : scR sl he ne pa sp la li ha nr nw) (hh : he.toInt ≤ 8) : thF a1.toInt a2.toInt a3.toInt he.toInt (li a1.toInt.toNat).toInt (ha a1.toInt.toNat).toInt = thF a1.toInt a2.toInt a3.toInt (nw 1).toInt (nw (40 + a1.toInt.toNat)).toInt (nw (48 + a1.toInt.toNat)).toInt := by
  obtain ⟨⟨a0, e1, a2', a3', a4, a5⟩, b1⟩ := h
  unfold thF
  rw [← e1]
  by_cases c : ¬ (0 ≤ a1.toInt ∧ a1.toInt < he.toInt ∧ 0 ≤ a2.toInt ∧ a2.toInt ≤ 3 ∧ 0 ≤ a3.toInt ∧ a3.toInt ≤ 3)
  · rw [if_pos c, if_pos c]
  · have h1 := b1 a1.toInt.toNat (by omega) (by omega)
    rw [if_neg c, if_neg c, h1.1, h1.2.1]
theorem cb_iff {l r v k : Int32} {X K : Int} (hl : l.toInt = X) (hk : k.toInt = K) (h0 : 0 ≤ K) (h1 : K < 16) (er : r = (1 : Int32) <<< (k &&& 31)) (ev : v = l &&& r) : v.toInt = 0 ↔ ¬ bitI X K := by
  unfold bitI
  rw [i_of hl, ← cellB_iff hk h0 h1, ← er, ← ev]
  exact ⟨fun h9 => Int32.toInt_inj.mp h9, fun h9 => by rw [h9]; rfl⟩
theorem hB_iff {x k : Int32} {X K : Int} (hx : x.toInt = X) (hk : k.toInt = K) (h0 : 0 ≤ K) (h1 : K < 16) : hasB x k ↔ bitI X K := by
  unfold bitI
  rw [i_of hx]
  exact hasB_iff hk h0 h1
