/-! what is told, as the class has it -/
theorem fC_s {s : Nat → Int} {sl he ne pa sp la st : Int32} {sn : Nat → Int64} {af : Nat → Int32} {hn : Nat → Int64} {li ha nr : Nat → Int32} (h : rlC s sl he ne pa sp la st sn af hn li ha nr) (hg : sgI s) {n c W : Int} (hn0 : n = s 0) (hc : c = cv W) (h0 : 0 ≤ W) (h1 : W < 10460353203) : fd (fun k => (sn k).toInt) n.toNat c = sF s W := by
  unfold sF
  rw [hn0]
  refine fd_congr (fun j hj => ?_)
  have g0 := hg.1
  have e := (h.2.1 j (by omega)).1
  have gb := hg.2.2.2.1 j (by omega)
  show (sn j).toInt = c ↔ s (70 + j) = W
  rw [e, hc]
  exact ⟨fun q => cv_inj gb.1 gb.2 h0 h1 q, fun q => by rw [q]⟩
theorem fC_h {s : Nat → Int} {sl he ne pa sp la st : Int32} {sn : Nat → Int64} {af : Nat → Int32} {hn : Nat → Int64} {li ha nr : Nat → Int32} (h : rlC s sl he ne pa sp la st sn af hn li ha nr) (hg : sgI s) {n c W : Int} (hn0 : n = s 1) (hc : c = cv W) (h0 : 0 ≤ W) (h1 : W < 10460353203) : fd (fun k => (hn k).toInt) n.toNat c = hF s W := by
  unfold hF
  rw [hn0]
  refine fd_congr (fun j hj => ?_)
  have g1 := hg.2.1
  have e := (h.2.2 j (by omega)).1
  have gb := hg.2.2.2.1 (6 + j) (by omega)
  rw [show 70 + (6 + j) = 76 + j by omega] at gb
  show (hn j).toInt = c ↔ s (76 + j) = W
  rw [e, hc]
  exact ⟨fun q => cv_inj gb.1 gb.2 h0 h1 q, fun q => by rw [q]⟩
theorem rlC_slide {s : Nat → Int} {sl he ne pa sp la st : Int32} {sn : Nat → Int64} {af : Nat → Int32} {hn : Nat → Int64} {li ha nr : Nat → Int32} {sl' x : Int32} {w : Int64} {i0 i1 : Nat} {W : Int} (h : rlC s sl he ne pa sp la st sn af hn li ha nr) (hg : sgI s) (h6 : s 0 ≠ 6) (hi0 : i0 = (s 0).toNat) (hi1 : i1 = (s 0).toNat) (hx : x.toInt = -1) (hs : sl'.toInt = s 0 + 1) (hw : w.toInt = cv W) : rlC (upI (upI s (70 + (s 0).toNat) W) 0 (s 0 + 1)) sl' he ne pa sp la st (vp_updL sn i0 w) (upd af i1 x) hn li ha nr := by
  obtain ⟨⟨a0, a1, a2, a3, a4, a5, a6⟩, b1, b2⟩ := h
  have g0 := hg.1
  have g1 := hg.2.1
  subst hi0 hi1
  refine ⟨⟨by rw [upI_eq, hs], ?_, ?_, ?_, ?_, ?_, ?_⟩, fun j hj => ?_, fun j hj => ?_⟩
  · rw [upI_ne (by omega), upI_ne (by omega)]; exact a1
  · rw [upI_ne (by omega), upI_ne (by omega)]; exact a2
  · rw [upI_ne (by omega), upI_ne (by omega)]; exact a3
  · rw [upI_ne (by omega), upI_ne (by omega)]; exact a4
  · rw [upI_ne (by omega), upI_ne (by omega)]; exact a5
  · rw [upI_ne (j := 64) (by omega), upI_ne (j := 64) (by omega), upI_ne (j := 65) (by omega), upI_ne (j := 65) (by omega), upI_ne (j := 66) (by omega), upI_ne (j := 66) (by omega)]; exact a6
  · rw [upI_eq] at hj
    rw [upI_ne (j := 70 + j) (i := 0) (by omega), upI_ne (j := 18 + j) (i := 0) (by omega), upI_ne (j := 18 + j) (by omega)]
    by_cases e : j = (s 0).toNat
    · rw [e, upI_eq, ul_eq, ud_eq]
      exact ⟨hw, hx.trans (hg.2.2.2.2.2.1 (s 0).toNat (by omega) (by omega)).symm⟩
    · rw [upI_ne (j := 70 + j) (by omega), ul_ne e, ud_ne e]
      exact b1 j (by omega)
  · rw [upI_ne (by omega), upI_ne (by omega)] at hj
    rw [upI_ne (j := 76 + j) (by omega), upI_ne (j := 76 + j) (by omega), upI_ne (j := 40 + j) (by omega), upI_ne (j := 40 + j) (by omega), upI_ne (j := 48 + j) (by omega), upI_ne (j := 48 + j) (by omega), upI_ne (j := 56 + j) (by omega), upI_ne (j := 56 + j) (by omega)]
    exact b2 j hj
theorem rlC_hearer {s : Nat → Int} {sl he ne pa sp la st : Int32} {sn : Nat → Int64} {af : Nat → Int32} {hn : Nat → Int64} {li ha nr : Nat → Int32} {he' x1 x2 x3 : Int32} {w : Int64} {i0 i1 i2 i3 : Nat} {W : Int} (h : rlC s sl he ne pa sp la st sn af hn li ha nr) (hg : sgI s) (h8 : s 1 ≠ 8) (hi0 : i0 = (s 1).toNat) (hi1 : i1 = (s 1).toNat) (hi2 : i2 = (s 1).toNat) (hi3 : i3 = (s 1).toNat) (hx1 : x1.toInt = 0) (hx2 : x2.toInt = 0) (hx3 : x3.toInt = 0) (hs : he'.toInt = s 1 + 1) (hw : w.toInt = cv W) : rlC (upI (upI s (76 + (s 1).toNat) W) 1 (s 1 + 1)) sl he' ne pa sp la st sn af (vp_updL hn i0 w) (upd li i1 x1) (upd ha i2 x2) (upd nr i3 x3) := by
  obtain ⟨⟨a0, a1, a2, a3, a4, a5, a6⟩, b1, b2⟩ := h
  have g0 := hg.1
  have g1 := hg.2.1
  subst hi0 hi1 hi2 hi3
  refine ⟨⟨?_, by rw [upI_eq, hs], ?_, ?_, ?_, ?_, ?_⟩, fun j hj => ?_, fun j hj => ?_⟩
  · rw [upI_ne (by omega), upI_ne (by omega)]; exact a0
  · rw [upI_ne (by omega), upI_ne (by omega)]; exact a2
  · rw [upI_ne (by omega), upI_ne (by omega)]; exact a3
  · rw [upI_ne (by omega), upI_ne (by omega)]; exact a4
  · rw [upI_ne (by omega), upI_ne (by omega)]; exact a5
  · rw [upI_ne (j := 64) (by omega), upI_ne (j := 64) (by omega), upI_ne (j := 65) (by omega), upI_ne (j := 65) (by omega), upI_ne (j := 66) (by omega), upI_ne (j := 66) (by omega)]; exact a6
  · rw [upI_ne (by omega), upI_ne (by omega)] at hj
    rw [upI_ne (j := 70 + j) (by omega), upI_ne (j := 70 + j) (by omega), upI_ne (j := 18 + j) (by omega), upI_ne (j := 18 + j) (by omega)]
    exact b1 j hj
  · rw [upI_eq] at hj
    rw [upI_ne (j := 76 + j) (i := 1) (by omega), upI_ne (j := 40 + j) (by omega), upI_ne (j := 40 + j) (by omega), upI_ne (j := 48 + j) (by omega), upI_ne (j := 48 + j) (by omega), upI_ne (j := 56 + j) (by omega), upI_ne (j := 56 + j) (by omega)]
    by_cases e : j = (s 1).toNat
    · have hz := hg.2.2.2.2.2.2.1 (s 1).toNat (by omega) (by omega)
      rw [e, upI_eq, ul_eq, ud_eq, ud_eq, ud_eq, hx1, hx2, hx3, hz.1, hz.2.1, hz.2.2]
      exact ⟨hw, rfl, rfl, rfl⟩
    · rw [upI_ne (j := 76 + j) (by omega), ul_ne e, ud_ne e, ud_ne e, ud_ne e]
      exact b2 j (by omega)
theorem rlC_li {s : Nat → Int} {sl he ne pa sp la st : Int32} {sn : Nat → Int64} {af : Nat → Int32} {hn : Nat → Int64} {li ha nr : Nat → Int32} {x : Int32} {i j : Nat} {v : Int} (h : rlC s sl he ne pa sp la st sn af hn li ha nr) (hg0 : s 0 ≤ 6) (hg1 : s 1 ≤ 8) (hi : i < 8) (e : j = i) (hx : x.toInt = v) : rlC (upI s (40 + i) v) sl he ne pa sp la st sn af hn (upd li j x) ha nr := by
  obtain ⟨⟨a0, a1, a2, a3, a4, a5, a6⟩, b1, b2⟩ := h
  subst e hx
  refine ⟨⟨?_, ?_, ?_, ?_, ?_, ?_, ?_⟩, fun q hq => ?_, fun q hq => ?_⟩
  · rw [upI_ne (by omega)]; exact a0
  · rw [upI_ne (by omega)]; exact a1
  · rw [upI_ne (by omega)]; exact a2
  · rw [upI_ne (by omega)]; exact a3
  · rw [upI_ne (by omega)]; exact a4
  · rw [upI_ne (by omega)]; exact a5
  · rw [upI_ne (j := 64) (by omega), upI_ne (j := 65) (by omega), upI_ne (j := 66) (by omega)]; exact a6
  · rw [upI_ne (by omega)] at hq
    rw [upI_ne (j := 70 + q) (by omega), upI_ne (j := 18 + q) (by omega)]
    exact b1 q hq
  · rw [upI_ne (by omega)] at hq
    obtain ⟨c0, c1, c2, c3⟩ := b2 q hq
    by_cases e : q = j
    · subst e
      rw [upI_ne (j := 76 + q) (by omega), upI_ne (j := 48 + q) (by omega), upI_ne (j := 56 + q) (by omega), upI_eq, ud_eq]
      exact ⟨c0, rfl, c2, c3⟩
    · rw [upI_ne (j := 76 + q) (by omega), upI_ne (j := 40 + q) (by omega), upI_ne (j := 48 + q) (by omega), upI_ne (j := 56 + q) (by omega), ud_ne e]
      exact ⟨c0, c1, c2, c3⟩
theorem rlC_ha {s : Nat → Int} {sl he ne pa sp la st : Int32} {sn : Nat → Int64} {af : Nat → Int32} {hn : Nat → Int64} {li ha nr : Nat → Int32} {x : Int32} {i j : Nat} {v : Int} (h : rlC s sl he ne pa sp la st sn af hn li ha nr) (hg0 : s 0 ≤ 6) (hg1 : s 1 ≤ 8) (hi : i < 8) (e : j = i) (hx : x.toInt = v) : rlC (upI s (48 + i) v) sl he ne pa sp la st sn af hn li (upd ha j x) nr := by
  obtain ⟨⟨a0, a1, a2, a3, a4, a5, a6⟩, b1, b2⟩ := h
  subst e hx
  refine ⟨⟨?_, ?_, ?_, ?_, ?_, ?_, ?_⟩, fun q hq => ?_, fun q hq => ?_⟩
  · rw [upI_ne (by omega)]; exact a0
  · rw [upI_ne (by omega)]; exact a1
  · rw [upI_ne (by omega)]; exact a2
  · rw [upI_ne (by omega)]; exact a3
  · rw [upI_ne (by omega)]; exact a4
  · rw [upI_ne (by omega)]; exact a5
  · rw [upI_ne (j := 64) (by omega), upI_ne (j := 65) (by omega), upI_ne (j := 66) (by omega)]; exact a6
  · rw [upI_ne (by omega)] at hq
    rw [upI_ne (j := 70 + q) (by omega), upI_ne (j := 18 + q) (by omega)]
    exact b1 q hq
  · rw [upI_ne (by omega)] at hq
    obtain ⟨c0, c1, c2, c3⟩ := b2 q hq
    by_cases e : q = j
    · subst e
      rw [upI_ne (j := 76 + q) (by omega), upI_ne (j := 40 + q) (by omega), upI_ne (j := 56 + q) (by omega), upI_eq, ud_eq]
      exact ⟨c0, c1, rfl, c3⟩
    · rw [upI_ne (j := 76 + q) (by omega), upI_ne (j := 40 + q) (by omega), upI_ne (j := 48 + q) (by omega), upI_ne (j := 56 + q) (by omega), ud_ne e]
      exact ⟨c0, c1, c2, c3⟩
theorem rlC_nr {s : Nat → Int} {sl he ne pa sp la st : Int32} {sn : Nat → Int64} {af : Nat → Int32} {hn : Nat → Int64} {li ha nr : Nat → Int32} {x : Int32} {i j : Nat} {v : Int} (h : rlC s sl he ne pa sp la st sn af hn li ha nr) (hg0 : s 0 ≤ 6) (hg1 : s 1 ≤ 8) (hi : i < 8) (e : j = i) (hx : x.toInt = v) : rlC (upI s (56 + i) v) sl he ne pa sp la st sn af hn li ha (upd nr j x) := by
  obtain ⟨⟨a0, a1, a2, a3, a4, a5, a6⟩, b1, b2⟩ := h
  subst e hx
  refine ⟨⟨?_, ?_, ?_, ?_, ?_, ?_, ?_⟩, fun q hq => ?_, fun q hq => ?_⟩
  · rw [upI_ne (by omega)]; exact a0
  · rw [upI_ne (by omega)]; exact a1
  · rw [upI_ne (by omega)]; exact a2
  · rw [upI_ne (by omega)]; exact a3
  · rw [upI_ne (by omega)]; exact a4
  · rw [upI_ne (by omega)]; exact a5
  · rw [upI_ne (j := 64) (by omega), upI_ne (j := 65) (by omega), upI_ne (j := 66) (by omega)]; exact a6
  · rw [upI_ne (by omega)] at hq
    rw [upI_ne (j := 70 + q) (by omega), upI_ne (j := 18 + q) (by omega)]
    exact b1 q hq
  · rw [upI_ne (by omega)] at hq
    obtain ⟨c0, c1, c2, c3⟩ := b2 q hq
    by_cases e : q = j
    · subst e
      rw [upI_ne (j := 76 + q) (by omega), upI_ne (j := 40 + q) (by omega), upI_ne (j := 48 + q) (by omega), upI_eq, ud_eq]
      exact ⟨c0, c1, c2, rfl⟩
    · rw [upI_ne (j := 76 + q) (by omega), upI_ne (j := 40 + q) (by omega), upI_ne (j := 48 + q) (by omega), upI_ne (j := 56 + q) (by omega), ud_ne e]
      exact ⟨c0, c1, c2, c3⟩
theorem rlC_af {s : Nat → Int} {sl he ne pa sp la st : Int32} {sn : Nat → Int64} {af : Nat → Int32} {hn : Nat → Int64} {li ha nr : Nat → Int32} {x : Int32} {i j : Nat} {v : Int} (h : rlC s sl he ne pa sp la st sn af hn li ha nr) (hg0 : s 0 ≤ 6) (hg1 : s 1 ≤ 8) (hi : i < 6) (e : j = i) (hx : x.toInt = v) : rlC (upI s (18 + i) v) sl he ne pa sp la st sn (upd af j x) hn li ha nr := by
  obtain ⟨⟨a0, a1, a2, a3, a4, a5, a6⟩, b1, b2⟩ := h
  subst e hx
  refine ⟨⟨?_, ?_, ?_, ?_, ?_, ?_, ?_⟩, fun q hq => ?_, fun q hq => ?_⟩
  · rw [upI_ne (by omega)]; exact a0
  · rw [upI_ne (by omega)]; exact a1
  · rw [upI_ne (by omega)]; exact a2
  · rw [upI_ne (by omega)]; exact a3
  · rw [upI_ne (by omega)]; exact a4
  · rw [upI_ne (by omega)]; exact a5
  · rw [upI_ne (j := 64) (by omega), upI_ne (j := 65) (by omega), upI_ne (j := 66) (by omega)]; exact a6
  · rw [upI_ne (by omega)] at hq
    obtain ⟨c0, c1⟩ := b1 q hq
    by_cases e : q = j
    · subst e
      rw [upI_ne (j := 70 + q) (by omega), upI_eq, ud_eq]
      exact ⟨c0, rfl⟩
    · rw [upI_ne (j := 70 + q) (by omega), upI_ne (j := 18 + q) (by omega), ud_ne e]
      exact ⟨c0, c1⟩
  · rw [upI_ne (by omega)] at hq
    rw [upI_ne (j := 76 + q) (by omega), upI_ne (j := 40 + q) (by omega), upI_ne (j := 48 + q) (by omega), upI_ne (j := 56 + q) (by omega)]
    exact b2 q hq
theorem rlC_ne {s : Nat → Int} {sl he ne pa sp la st : Int32} {sn : Nat → Int64} {af : Nat → Int32} {hn : Nat → Int64} {li ha nr : Nat → Int32} {x : Int32} {v : Int} (h : rlC s sl he ne pa sp la st sn af hn li ha nr) (hg0 : s 0 ≤ 6) (hg1 : s 1 ≤ 8) (hx : x.toInt = v) : rlC (upI s 2 v) sl he x pa sp la st sn af hn li ha nr := by
  obtain ⟨⟨a0, a1, a2, a3, a4, a5, a6⟩, b1, b2⟩ := h
  subst hx
  refine ⟨⟨?_, ?_, by rw [upI_eq], ?_, ?_, ?_, ?_⟩, fun q hq => ?_, fun q hq => ?_⟩
  · rw [upI_ne (by omega)]; exact a0
  · rw [upI_ne (by omega)]; exact a1
  · rw [upI_ne (by omega)]; exact a3
  · rw [upI_ne (by omega)]; exact a4
  · rw [upI_ne (by omega)]; exact a5
  · rw [upI_ne (j := 64) (by omega), upI_ne (j := 65) (by omega), upI_ne (j := 66) (by omega)]; exact a6
  · rw [upI_ne (by omega)] at hq
    rw [upI_ne (j := 70 + q) (by omega), upI_ne (j := 18 + q) (by omega)]
    exact b1 q hq
  · rw [upI_ne (by omega)] at hq
    rw [upI_ne (j := 76 + q) (by omega), upI_ne (j := 40 + q) (by omega), upI_ne (j := 48 + q) (by omega), upI_ne (j := 56 + q) (by omega)]
    exact b2 q hq
theorem st_bit0 {st : Int32} {a b c : Int} (ha : a = 0 ∨ a = 1) (hb : b = 0 ∨ b = 1) (hc : c = 0 ∨ c = 1) (h : st.toInt = 64 * a + 128 * b + 256 * c) : (hasB st 6 ↔ a ≠ 0) ∧ (a = 0 → (st ||| ((1 : Int32) <<< ((6 : Int32) &&& 31))).toInt = 64 * 1 + 128 * b + 256 * c) := by
  rcases ha with rfl | rfl <;> rcases hb with rfl | rfl <;> rcases hc with rfl | rfl
  · rw [Int32.toInt_inj.mp (show st.toInt = (0 : Int32).toInt from h)]
    exact ⟨by unfold hasB; decide, by decide⟩
  · rw [Int32.toInt_inj.mp (show st.toInt = (256 : Int32).toInt from h)]
    exact ⟨by unfold hasB; decide, by decide⟩
  · rw [Int32.toInt_inj.mp (show st.toInt = (128 : Int32).toInt from h)]
    exact ⟨by unfold hasB; decide, by decide⟩
  · rw [Int32.toInt_inj.mp (show st.toInt = (384 : Int32).toInt from h)]
    exact ⟨by unfold hasB; decide, by decide⟩
  · rw [Int32.toInt_inj.mp (show st.toInt = (64 : Int32).toInt from h)]
    exact ⟨by unfold hasB; decide, by decide⟩
  · rw [Int32.toInt_inj.mp (show st.toInt = (320 : Int32).toInt from h)]
    exact ⟨by unfold hasB; decide, by decide⟩
  · rw [Int32.toInt_inj.mp (show st.toInt = (192 : Int32).toInt from h)]
    exact ⟨by unfold hasB; decide, by decide⟩
  · rw [Int32.toInt_inj.mp (show st.toInt = (448 : Int32).toInt from h)]
    exact ⟨by unfold hasB; decide, by decide⟩
theorem rlC_set0 {s : Nat → Int} {sl he ne pa sp la st : Int32} {sn : Nat → Int64} {af : Nat → Int32} {hn : Nat → Int64} {li ha nr : Nat → Int32} {x st' : Int32} {v : Int} (h : rlC s sl he ne pa sp la st sn af hn li ha nr) (hg0 : s 0 ≤ 6) (hg1 : s 1 ≤ 8) (hx : x.toInt = v) (hs : st'.toInt = 64 * 1 + 128 * s 65 + 256 * s 66) : rlC (upI (upI s (64 + 0) 1) (3 + 0) v) sl he ne x sp la st' sn af hn li ha nr := by
  obtain ⟨⟨a0, a1, a2, a3, a4, a5, a6⟩, b1, b2⟩ := h
  subst hx
  refine ⟨⟨?_, ?_, ?_, ?_, ?_, ?_, ?_⟩, fun q hq => ?_, fun q hq => ?_⟩
  · rw [upI_ne (by omega), upI_ne (by omega)]; exact a0
  · rw [upI_ne (by omega), upI_ne (by omega)]; exact a1
  · rw [upI_ne (by omega), upI_ne (by omega)]; exact a2
  · exact (upI_eq _ 3 _).symm
  · rw [upI_ne (by omega), upI_ne (by omega)]; exact a4
  · rw [upI_ne (by omega), upI_ne (by omega)]; exact a5
  · rw [upI_ne (j := 64) (by omega), upI_eq _ 64 _, upI_ne (j := 65) (by omega), upI_ne (j := 65) (by omega), upI_ne (j := 66) (by omega), upI_ne (j := 66) (by omega)]; exact hs
  · rw [upI_ne (by omega), upI_ne (by omega)] at hq
    rw [upI_ne (j := 70 + q) (by omega), upI_ne (j := 70 + q) (by omega), upI_ne (j := 18 + q) (by omega), upI_ne (j := 18 + q) (by omega)]
    exact b1 q hq
  · rw [upI_ne (by omega), upI_ne (by omega)] at hq
    rw [upI_ne (j := 76 + q) (by omega), upI_ne (j := 76 + q) (by omega), upI_ne (j := 40 + q) (by omega), upI_ne (j := 40 + q) (by omega), upI_ne (j := 48 + q) (by omega), upI_ne (j := 48 + q) (by omega), upI_ne (j := 56 + q) (by omega), upI_ne (j := 56 + q) (by omega)]
    exact b2 q hq
theorem st_bit1 {st : Int32} {a b c : Int} (ha : a = 0 ∨ a = 1) (hb : b = 0 ∨ b = 1) (hc : c = 0 ∨ c = 1) (h : st.toInt = 64 * a + 128 * b + 256 * c) : (hasB st 7 ↔ b ≠ 0) ∧ (b = 0 → (st ||| ((1 : Int32) <<< ((7 : Int32) &&& 31))).toInt = 64 * a + 128 * 1 + 256 * c) := by
  rcases ha with rfl | rfl <;> rcases hb with rfl | rfl <;> rcases hc with rfl | rfl
  · rw [Int32.toInt_inj.mp (show st.toInt = (0 : Int32).toInt from h)]
    exact ⟨by unfold hasB; decide, by decide⟩
  · rw [Int32.toInt_inj.mp (show st.toInt = (256 : Int32).toInt from h)]
    exact ⟨by unfold hasB; decide, by decide⟩
  · rw [Int32.toInt_inj.mp (show st.toInt = (128 : Int32).toInt from h)]
    exact ⟨by unfold hasB; decide, by decide⟩
  · rw [Int32.toInt_inj.mp (show st.toInt = (384 : Int32).toInt from h)]
    exact ⟨by unfold hasB; decide, by decide⟩
  · rw [Int32.toInt_inj.mp (show st.toInt = (64 : Int32).toInt from h)]
    exact ⟨by unfold hasB; decide, by decide⟩
  · rw [Int32.toInt_inj.mp (show st.toInt = (320 : Int32).toInt from h)]
    exact ⟨by unfold hasB; decide, by decide⟩
  · rw [Int32.toInt_inj.mp (show st.toInt = (192 : Int32).toInt from h)]
    exact ⟨by unfold hasB; decide, by decide⟩
  · rw [Int32.toInt_inj.mp (show st.toInt = (448 : Int32).toInt from h)]
    exact ⟨by unfold hasB; decide, by decide⟩
theorem rlC_set1 {s : Nat → Int} {sl he ne pa sp la st : Int32} {sn : Nat → Int64} {af : Nat → Int32} {hn : Nat → Int64} {li ha nr : Nat → Int32} {x st' : Int32} {v : Int} (h : rlC s sl he ne pa sp la st sn af hn li ha nr) (hg0 : s 0 ≤ 6) (hg1 : s 1 ≤ 8) (hx : x.toInt = v) (hs : st'.toInt = 64 * s 64 + 128 * 1 + 256 * s 66) : rlC (upI (upI s (64 + 1) 1) (3 + 1) v) sl he ne pa x la st' sn af hn li ha nr := by
  obtain ⟨⟨a0, a1, a2, a3, a4, a5, a6⟩, b1, b2⟩ := h
  subst hx
  refine ⟨⟨?_, ?_, ?_, ?_, ?_, ?_, ?_⟩, fun q hq => ?_, fun q hq => ?_⟩
  · rw [upI_ne (by omega), upI_ne (by omega)]; exact a0
  · rw [upI_ne (by omega), upI_ne (by omega)]; exact a1
  · rw [upI_ne (by omega), upI_ne (by omega)]; exact a2
  · rw [upI_ne (by omega), upI_ne (by omega)]; exact a3
  · exact (upI_eq _ 4 _).symm
  · rw [upI_ne (by omega), upI_ne (by omega)]; exact a5
  · rw [upI_ne (j := 64) (by omega), upI_ne (j := 64) (by omega), upI_ne (j := 65) (by omega), upI_eq _ 65 _, upI_ne (j := 66) (by omega), upI_ne (j := 66) (by omega)]; exact hs
  · rw [upI_ne (by omega), upI_ne (by omega)] at hq
    rw [upI_ne (j := 70 + q) (by omega), upI_ne (j := 70 + q) (by omega), upI_ne (j := 18 + q) (by omega), upI_ne (j := 18 + q) (by omega)]
    exact b1 q hq
  · rw [upI_ne (by omega), upI_ne (by omega)] at hq
    rw [upI_ne (j := 76 + q) (by omega), upI_ne (j := 76 + q) (by omega), upI_ne (j := 40 + q) (by omega), upI_ne (j := 40 + q) (by omega), upI_ne (j := 48 + q) (by omega), upI_ne (j := 48 + q) (by omega), upI_ne (j := 56 + q) (by omega), upI_ne (j := 56 + q) (by omega)]
    exact b2 q hq
theorem st_bit2 {st : Int32} {a b c : Int} (ha : a = 0 ∨ a = 1) (hb : b = 0 ∨ b = 1) (hc : c = 0 ∨ c = 1) (h : st.toInt = 64 * a + 128 * b + 256 * c) : (hasB st 8 ↔ c ≠ 0) ∧ (c = 0 → (st ||| ((1 : Int32) <<< ((8 : Int32) &&& 31))).toInt = 64 * a + 128 * b + 256 * 1) := by
  rcases ha with rfl | rfl <;> rcases hb with rfl | rfl <;> rcases hc with rfl | rfl
  · rw [Int32.toInt_inj.mp (show st.toInt = (0 : Int32).toInt from h)]
    exact ⟨by unfold hasB; decide, by decide⟩
  · rw [Int32.toInt_inj.mp (show st.toInt = (256 : Int32).toInt from h)]
    exact ⟨by unfold hasB; decide, by decide⟩
  · rw [Int32.toInt_inj.mp (show st.toInt = (128 : Int32).toInt from h)]
    exact ⟨by unfold hasB; decide, by decide⟩
  · rw [Int32.toInt_inj.mp (show st.toInt = (384 : Int32).toInt from h)]
    exact ⟨by unfold hasB; decide, by decide⟩
  · rw [Int32.toInt_inj.mp (show st.toInt = (64 : Int32).toInt from h)]
    exact ⟨by unfold hasB; decide, by decide⟩
  · rw [Int32.toInt_inj.mp (show st.toInt = (320 : Int32).toInt from h)]
    exact ⟨by unfold hasB; decide, by decide⟩
  · rw [Int32.toInt_inj.mp (show st.toInt = (192 : Int32).toInt from h)]
    exact ⟨by unfold hasB; decide, by decide⟩
  · rw [Int32.toInt_inj.mp (show st.toInt = (448 : Int32).toInt from h)]
    exact ⟨by unfold hasB; decide, by decide⟩
theorem rlC_set2 {s : Nat → Int} {sl he ne pa sp la st : Int32} {sn : Nat → Int64} {af : Nat → Int32} {hn : Nat → Int64} {li ha nr : Nat → Int32} {x st' : Int32} {v : Int} (h : rlC s sl he ne pa sp la st sn af hn li ha nr) (hg0 : s 0 ≤ 6) (hg1 : s 1 ≤ 8) (hx : x.toInt = v) (hs : st'.toInt = 64 * s 64 + 128 * s 65 + 256 * 1) : rlC (upI (upI s (64 + 2) 1) (3 + 2) v) sl he ne pa sp x st' sn af hn li ha nr := by
  obtain ⟨⟨a0, a1, a2, a3, a4, a5, a6⟩, b1, b2⟩ := h
  subst hx
  refine ⟨⟨?_, ?_, ?_, ?_, ?_, ?_, ?_⟩, fun q hq => ?_, fun q hq => ?_⟩
  · rw [upI_ne (by omega), upI_ne (by omega)]; exact a0
  · rw [upI_ne (by omega), upI_ne (by omega)]; exact a1
  · rw [upI_ne (by omega), upI_ne (by omega)]; exact a2
  · rw [upI_ne (by omega), upI_ne (by omega)]; exact a3
  · rw [upI_ne (by omega), upI_ne (by omega)]; exact a4
  · exact (upI_eq _ 5 _).symm
  · rw [upI_ne (j := 64) (by omega), upI_ne (j := 64) (by omega), upI_ne (j := 65) (by omega), upI_ne (j := 65) (by omega), upI_ne (j := 66) (by omega), upI_eq _ 66 _]; exact hs
  · rw [upI_ne (by omega), upI_ne (by omega)] at hq
    rw [upI_ne (j := 70 + q) (by omega), upI_ne (j := 70 + q) (by omega), upI_ne (j := 18 + q) (by omega), upI_ne (j := 18 + q) (by omega)]
    exact b1 q hq
  · rw [upI_ne (by omega), upI_ne (by omega)] at hq
    rw [upI_ne (j := 76 + q) (by omega), upI_ne (j := 76 + q) (by omega), upI_ne (j := 40 + q) (by omega), upI_ne (j := 40 + q) (by omega), upI_ne (j := 48 + q) (by omega), upI_ne (j := 48 + q) (by omega), upI_ne (j := 56 + q) (by omega), upI_ne (j := 56 + q) (by omega)]
    exact b2 q hq
