/-! a SENTENCE read, as a plain function with fuel; N: which SLIDE has a NAME. 0 one, 1 all, 2 the whole, 3 what follows an all, 4 what follows a whole. FAULT, place, where the next token begins, ones -/
abbrev GR : Type := Int × Int × Int × Int
def grF (b : Int → Int) (n m : Int) (N : Int → Int) : Nat → Nat → Int → Int → Int → GR
  | 0, _, _, _, _ => (9, 0, 0, 0)
  | f + 1, 0, w, p, o =>
    if ¬ (tkK b n m p = 4 ∧ tkG b n p = 40) ∧ ¬ (tkK b n m p = 2 ∧ 18 ≤ kyN (tkW b n p)) then (1, tkP b n m p, 0, 0)
    else if o = 20 ∨ w = 8 then (4, tkP b n m p, 0, 0)
    else if tkK b n m p = 4 then (if (grF b n m N f 2 (w + 1) (tkX b n m p) (o + 1)).1 ≠ 0 then (grF b n m N f 2 (w + 1) (tkX b n m p) (o + 1)) else if tkK b n m (grF b n m N f 2 (w + 1) (tkX b n m p) (o + 1)).2.2.1 = 4 ∧ tkG b n (grF b n m N f 2 (w + 1) (tkX b n m p) (o + 1)).2.2.1 = 41 then (0, 0, tkX b n m (grF b n m N f 2 (w + 1) (tkX b n m p) (o + 1)).2.2.1, (grF b n m N f 2 (w + 1) (tkX b n m p) (o + 1)).2.2.2) else (1, tkP b n m (grF b n m N f 2 (w + 1) (tkX b n m p) (o + 1)).2.2.1, 0, 0))
    else if kyN (tkW b n p) = 18 then (grF b n m N f 0 (w + 1) (tkX b n m p) (o + 1))
    else if kyN (tkW b n p) ≤ 21 then (0, 0, (tkX b n m p), o + 1)
    else if kyN (tkW b n p) = 22 then (if ¬ (tkK b n m (tkX b n m p) = 2 ∧ kyN (tkW b n (tkX b n m p)) = -1) then (1, tkP b n m (tkX b n m p), 0, 0) else if N (tkW b n (tkX b n m p)) = -1 then (3, tkP b n m (tkX b n m p), 0, 0) else (0, 0, (tkX b n m (tkX b n m p)), o + 1))
    else (if ¬ (tkK b n m (tkX b n m p) = 4 ∧ 60 ≤ tkG b n (tkX b n m p) ∧ tkG b n (tkX b n m p) ≤ 62) then (1, tkP b n m (tkX b n m p), 0, 0) else if ¬ (tkK b n m (tkX b n m (tkX b n m p)) = 3) then (1, tkP b n m (tkX b n m (tkX b n m p)), 0, 0) else (0, 0, tkX b n m (tkX b n m (tkX b n m p)), o + 1))
  | f + 1, 1, w, p, o =>
    (if (grF b n m N f 0 w p o).1 ≠ 0 then (grF b n m N f 0 w p o) else grF b n m N f 3 w (grF b n m N f 0 w p o).2.2.1 (grF b n m N f 0 w p o).2.2.2)
  | f + 1, 2, w, p, o =>
    (if (grF b n m N f 1 w p o).1 ≠ 0 then (grF b n m N f 1 w p o) else grF b n m N f 4 w (grF b n m N f 1 w p o).2.2.1 (grF b n m N f 1 w p o).2.2.2)
  | f + 1, 3, w, p, o =>
    if (tkK b n m p = 2 ∧ kyN (tkW b n p) = 17) then (if (grF b n m N f 0 w (tkX b n m p) o).1 ≠ 0 then (grF b n m N f 0 w (tkX b n m p) o) else grF b n m N f 3 w (grF b n m N f 0 w (tkX b n m p) o).2.2.1 (grF b n m N f 0 w (tkX b n m p) o).2.2.2) else (0, 0, p, o)
  | f + 1, _ + 4, w, p, o =>
    if (tkK b n m p = 2 ∧ kyN (tkW b n p) = 16) then (if (grF b n m N f 1 w (tkX b n m p) o).1 ≠ 0 then (grF b n m N f 1 w (tkX b n m p) o) else grF b n m N f 4 w (grF b n m N f 1 w (tkX b n m p) o).2.2.1 (grF b n m N f 1 w (tkX b n m p) o).2.2.2) else (0, 0, p, o)
theorem grF_0 (b : Int → Int) (n m : Int) (N : Int → Int) (f : Nat) (w p o : Int) : grF b n m N (f + 1) 0 w p o = if ¬ (tkK b n m p = 4 ∧ tkG b n p = 40) ∧ ¬ (tkK b n m p = 2 ∧ 18 ≤ kyN (tkW b n p)) then (1, tkP b n m p, 0, 0)
    else if o = 20 ∨ w = 8 then (4, tkP b n m p, 0, 0)
    else if tkK b n m p = 4 then (if (grF b n m N f 2 (w + 1) (tkX b n m p) (o + 1)).1 ≠ 0 then (grF b n m N f 2 (w + 1) (tkX b n m p) (o + 1)) else if tkK b n m (grF b n m N f 2 (w + 1) (tkX b n m p) (o + 1)).2.2.1 = 4 ∧ tkG b n (grF b n m N f 2 (w + 1) (tkX b n m p) (o + 1)).2.2.1 = 41 then (0, 0, tkX b n m (grF b n m N f 2 (w + 1) (tkX b n m p) (o + 1)).2.2.1, (grF b n m N f 2 (w + 1) (tkX b n m p) (o + 1)).2.2.2) else (1, tkP b n m (grF b n m N f 2 (w + 1) (tkX b n m p) (o + 1)).2.2.1, 0, 0))
    else if kyN (tkW b n p) = 18 then (grF b n m N f 0 (w + 1) (tkX b n m p) (o + 1))
    else if kyN (tkW b n p) ≤ 21 then (0, 0, (tkX b n m p), o + 1)
    else if kyN (tkW b n p) = 22 then (if ¬ (tkK b n m (tkX b n m p) = 2 ∧ kyN (tkW b n (tkX b n m p)) = -1) then (1, tkP b n m (tkX b n m p), 0, 0) else if N (tkW b n (tkX b n m p)) = -1 then (3, tkP b n m (tkX b n m p), 0, 0) else (0, 0, (tkX b n m (tkX b n m p)), o + 1))
    else (if ¬ (tkK b n m (tkX b n m p) = 4 ∧ 60 ≤ tkG b n (tkX b n m p) ∧ tkG b n (tkX b n m p) ≤ 62) then (1, tkP b n m (tkX b n m p), 0, 0) else if ¬ (tkK b n m (tkX b n m (tkX b n m p)) = 3) then (1, tkP b n m (tkX b n m (tkX b n m p)), 0, 0) else (0, 0, tkX b n m (tkX b n m (tkX b n m p)), o + 1)) := rfl
theorem grF_1 (b : Int → Int) (n m : Int) (N : Int → Int) (f : Nat) (w p o : Int) : grF b n m N (f + 1) 1 w p o = (if (grF b n m N f 0 w p o).1 ≠ 0 then (grF b n m N f 0 w p o) else grF b n m N f 3 w (grF b n m N f 0 w p o).2.2.1 (grF b n m N f 0 w p o).2.2.2) := rfl
theorem grF_2 (b : Int → Int) (n m : Int) (N : Int → Int) (f : Nat) (w p o : Int) : grF b n m N (f + 1) 2 w p o = (if (grF b n m N f 1 w p o).1 ≠ 0 then (grF b n m N f 1 w p o) else grF b n m N f 4 w (grF b n m N f 1 w p o).2.2.1 (grF b n m N f 1 w p o).2.2.2) := rfl
theorem grF_3 (b : Int → Int) (n m : Int) (N : Int → Int) (f : Nat) (w p o : Int) : grF b n m N (f + 1) 3 w p o = if (tkK b n m p = 2 ∧ kyN (tkW b n p) = 17) then (if (grF b n m N f 0 w (tkX b n m p) o).1 ≠ 0 then (grF b n m N f 0 w (tkX b n m p) o) else grF b n m N f 3 w (grF b n m N f 0 w (tkX b n m p) o).2.2.1 (grF b n m N f 0 w (tkX b n m p) o).2.2.2) else (0, 0, p, o) := rfl
theorem grF_4 (b : Int → Int) (n m : Int) (N : Int → Int) (f : Nat) (w p o : Int) : grF b n m N (f + 1) 4 w p o = if (tkK b n m p = 2 ∧ kyN (tkW b n p) = 16) then (if (grF b n m N f 1 w (tkX b n m p) o).1 ≠ 0 then (grF b n m N f 1 w (tkX b n m p) o) else grF b n m N f 4 w (grF b n m N f 1 w (tkX b n m p) o).2.2.1 (grF b n m N f 1 w (tkX b n m p) o).2.2.2) else (0, 0, p, o) := rfl
def grR (b : Int → Int) (n m : Int) (N : Int → Int) (md : Nat) (w p o : Int) (r : GR) : Prop := ∃ f, ∀ g, f ≤ g → grF b n m N g md w p o = r
theorem g_uni {b : Int → Int} {n m : Int} {N : Int → Int} {md : Nat} {w p o : Int} {r r' : GR} (h : grR b n m N md w p o r) (h' : grR b n m N md w p o r') : r = r' := by
  obtain ⟨f, hf⟩ := h
  obtain ⟨f', hf'⟩ := h'
  rw [← hf (f + f') (by omega), ← hf' (f + f') (by omega)]
theorem g_bad1 {b : Int → Int} {n m : Int} {N : Int → Int} {w p o : Int} (h1 : ¬ (tkK b n m p = 4 ∧ tkG b n p = 40) ∧ ¬ (tkK b n m p = 2 ∧ 18 ≤ kyN (tkW b n p))) : grR b n m N 0 w p o (1, tkP b n m p, 0, 0) := ⟨1, fun g hg => by
  obtain ⟨f, rfl⟩ : ∃ f, g = f + 1 := ⟨g - 1, by omega⟩
  rw [grF_0, if_pos h1]⟩
theorem g_bad4 {b : Int → Int} {n m : Int} {N : Int → Int} {w p o : Int} (h1 : (tkK b n m p = 4 ∧ tkG b n p = 40) ∨ (tkK b n m p = 2 ∧ 18 ≤ kyN (tkW b n p))) (h4 : o = 20 ∨ w = 8) : grR b n m N 0 w p o (4, tkP b n m p, 0, 0) := ⟨1, fun g hg => by
  obtain ⟨f, rfl⟩ : ∃ f, g = f + 1 := ⟨g - 1, by omega⟩
  rw [grF_0, if_neg (fun h => h1.elim h.1 h.2), if_pos h4]⟩
theorem g_brf {b : Int → Int} {n m : Int} {N : Int → Int} {w p o : Int} {r : GR} (h1 : (tkK b n m p = 4 ∧ tkG b n p = 40) ∨ (tkK b n m p = 2 ∧ 18 ≤ kyN (tkW b n p))) (h4 : ¬ (o = 20 ∨ w = 8)) (hk : tkK b n m p = 4)  (h : grR b n m N 2 (w + 1) (tkX b n m p) (o + 1) r) (hr : r.1 ≠ 0) : grR b n m N 0 w p o r := by
  obtain ⟨f0, h9⟩ := h
  refine ⟨f0 + 1, fun g hg => ?_⟩
  obtain ⟨f, rfl⟩ : ∃ f, g = f + 1 := ⟨g - 1, by omega⟩
  rw [grF_0, if_neg (fun h => h1.elim h.1 h.2), if_neg h4, if_pos hk, h9 f (by omega), if_pos hr]
theorem g_brn {b : Int → Int} {n m : Int} {N : Int → Int} {w p o : Int} {r : GR} (h1 : (tkK b n m p = 4 ∧ tkG b n p = 40) ∨ (tkK b n m p = 2 ∧ 18 ≤ kyN (tkW b n p))) (h4 : ¬ (o = 20 ∨ w = 8)) (hk : tkK b n m p = 4)  (h : grR b n m N 2 (w + 1) (tkX b n m p) (o + 1) r) (hr : r.1 = 0) (hc : ¬ (tkK b n m r.2.2.1 = 4 ∧ tkG b n r.2.2.1 = 41)) : grR b n m N 0 w p o (1, tkP b n m r.2.2.1, 0, 0) := by
  obtain ⟨f0, h9⟩ := h
  refine ⟨f0 + 1, fun g hg => ?_⟩
  obtain ⟨f, rfl⟩ : ∃ f, g = f + 1 := ⟨g - 1, by omega⟩
  rw [grF_0, if_neg (fun h => h1.elim h.1 h.2), if_neg h4, if_pos hk, h9 f (by omega), if_neg (fun h => h hr), if_neg hc]
theorem g_bry {b : Int → Int} {n m : Int} {N : Int → Int} {w p o : Int} {r : GR} (h1 : (tkK b n m p = 4 ∧ tkG b n p = 40) ∨ (tkK b n m p = 2 ∧ 18 ≤ kyN (tkW b n p))) (h4 : ¬ (o = 20 ∨ w = 8)) (hk : tkK b n m p = 4)  (h : grR b n m N 2 (w + 1) (tkX b n m p) (o + 1) r) (hr : r.1 = 0) (hc : (tkK b n m r.2.2.1 = 4 ∧ tkG b n r.2.2.1 = 41)) : grR b n m N 0 w p o (0, 0, tkX b n m r.2.2.1, r.2.2.2) := by
  obtain ⟨f0, h9⟩ := h
  refine ⟨f0 + 1, fun g hg => ?_⟩
  obtain ⟨f, rfl⟩ : ∃ f, g = f + 1 := ⟨g - 1, by omega⟩
  rw [grF_0, if_neg (fun h => h1.elim h.1 h.2), if_neg h4, if_pos hk, h9 f (by omega), if_neg (fun h => h hr), if_pos hc]
theorem g_not {b : Int → Int} {n m : Int} {N : Int → Int} {w p o : Int} {r : GR} (h1 : (tkK b n m p = 4 ∧ tkG b n p = 40) ∨ (tkK b n m p = 2 ∧ 18 ≤ kyN (tkW b n p))) (h4 : ¬ (o = 20 ∨ w = 8)) (hk : tkK b n m p = 2) (hy : kyN (tkW b n p) = 18)  (h : grR b n m N 0 (w + 1) (tkX b n m p) (o + 1) r) : grR b n m N 0 w p o r := by
  obtain ⟨f0, h9⟩ := h
  refine ⟨f0 + 1, fun g hg => ?_⟩
  obtain ⟨f, rfl⟩ : ∃ f, g = f + 1 := ⟨g - 1, by omega⟩
  rw [grF_0, if_neg (fun h => h1.elim h.1 h.2), if_neg h4, if_neg (show ¬ tkK b n m p = 4 by omega), if_pos hy, h9 f (by omega)]
theorem g_leaf {b : Int → Int} {n m : Int} {N : Int → Int} {w p o : Int} (h1 : (tkK b n m p = 4 ∧ tkG b n p = 40) ∨ (tkK b n m p = 2 ∧ 18 ≤ kyN (tkW b n p))) (h4 : ¬ (o = 20 ∨ w = 8)) (hk : tkK b n m p = 2) (hy : 19 ≤ kyN (tkW b n p)) (hz : kyN (tkW b n p) ≤ 21) : grR b n m N 0 w p o (0, 0, tkX b n m p, o + 1) := ⟨1, fun g hg => by
  obtain ⟨f, rfl⟩ : ∃ f, g = f + 1 := ⟨g - 1, by omega⟩
  rw [grF_0, if_neg (fun h => h1.elim h.1 h.2), if_neg h4, if_neg (show ¬ tkK b n m p = 4 by omega), if_neg (show ¬ kyN (tkW b n p) = 18 by omega), if_pos hz]⟩
theorem g_like1 {b : Int → Int} {n m : Int} {N : Int → Int} {w p o : Int} (h1 : (tkK b n m p = 4 ∧ tkG b n p = 40) ∨ (tkK b n m p = 2 ∧ 18 ≤ kyN (tkW b n p))) (h4 : ¬ (o = 20 ∨ w = 8)) (hk : tkK b n m p = 2) (hy : kyN (tkW b n p) = 22) (hn : ¬ (tkK b n m (tkX b n m p) = 2 ∧ kyN (tkW b n (tkX b n m p)) = -1)) : grR b n m N 0 w p o (1, tkP b n m (tkX b n m p), 0, 0) := ⟨1, fun g hg => by
  obtain ⟨f, rfl⟩ : ∃ f, g = f + 1 := ⟨g - 1, by omega⟩
  rw [grF_0, if_neg (fun h => h1.elim h.1 h.2), if_neg h4, if_neg (show ¬ tkK b n m p = 4 by omega), if_neg (show ¬ kyN (tkW b n p) = 18 by omega), if_neg (show ¬ kyN (tkW b n p) ≤ 21 by omega), if_pos hy, if_pos hn]⟩
theorem g_like3 {b : Int → Int} {n m : Int} {N : Int → Int} {w p o : Int} (h1 : (tkK b n m p = 4 ∧ tkG b n p = 40) ∨ (tkK b n m p = 2 ∧ 18 ≤ kyN (tkW b n p))) (h4 : ¬ (o = 20 ∨ w = 8)) (hk : tkK b n m p = 2) (hy : kyN (tkW b n p) = 22) (hn : (tkK b n m (tkX b n m p) = 2 ∧ kyN (tkW b n (tkX b n m p)) = -1)) (hN : N (tkW b n (tkX b n m p)) = -1) : grR b n m N 0 w p o (3, tkP b n m (tkX b n m p), 0, 0) := ⟨1, fun g hg => by
  obtain ⟨f, rfl⟩ : ∃ f, g = f + 1 := ⟨g - 1, by omega⟩
  rw [grF_0, if_neg (fun h => h1.elim h.1 h.2), if_neg h4, if_neg (show ¬ tkK b n m p = 4 by omega), if_neg (show ¬ kyN (tkW b n p) = 18 by omega), if_neg (show ¬ kyN (tkW b n p) ≤ 21 by omega), if_pos hy, if_neg (fun h => h hn), if_pos hN]⟩
theorem g_like {b : Int → Int} {n m : Int} {N : Int → Int} {w p o : Int} (h1 : (tkK b n m p = 4 ∧ tkG b n p = 40) ∨ (tkK b n m p = 2 ∧ 18 ≤ kyN (tkW b n p))) (h4 : ¬ (o = 20 ∨ w = 8)) (hk : tkK b n m p = 2) (hy : kyN (tkW b n p) = 22) (hn : (tkK b n m (tkX b n m p) = 2 ∧ kyN (tkW b n (tkX b n m p)) = -1)) (hN : ¬ N (tkW b n (tkX b n m p)) = -1) : grR b n m N 0 w p o (0, 0, (tkX b n m (tkX b n m p)), o + 1) := ⟨1, fun g hg => by
  obtain ⟨f, rfl⟩ : ∃ f, g = f + 1 := ⟨g - 1, by omega⟩
  rw [grF_0, if_neg (fun h => h1.elim h.1 h.2), if_neg h4, if_neg (show ¬ tkK b n m p = 4 by omega), if_neg (show ¬ kyN (tkW b n p) = 18 by omega), if_neg (show ¬ kyN (tkW b n p) ≤ 21 by omega), if_pos hy, if_neg (fun h => h hn), if_neg hN]⟩
theorem g_cmp1 {b : Int → Int} {n m : Int} {N : Int → Int} {w p o : Int} (h1 : (tkK b n m p = 4 ∧ tkG b n p = 40) ∨ (tkK b n m p = 2 ∧ 18 ≤ kyN (tkW b n p))) (h4 : ¬ (o = 20 ∨ w = 8)) (hk : tkK b n m p = 2) (hy : 23 ≤ kyN (tkW b n p)) (hc : ¬ (tkK b n m (tkX b n m p) = 4 ∧ 60 ≤ tkG b n (tkX b n m p) ∧ tkG b n (tkX b n m p) ≤ 62)) : grR b n m N 0 w p o (1, tkP b n m (tkX b n m p), 0, 0) := ⟨1, fun g hg => by
  obtain ⟨f, rfl⟩ : ∃ f, g = f + 1 := ⟨g - 1, by omega⟩
  rw [grF_0, if_neg (fun h => h1.elim h.1 h.2), if_neg h4, if_neg (show ¬ tkK b n m p = 4 by omega), if_neg (show ¬ kyN (tkW b n p) = 18 by omega), if_neg (show ¬ kyN (tkW b n p) ≤ 21 by omega), if_neg (show ¬ kyN (tkW b n p) = 22 by omega), if_pos hc]⟩
theorem g_cmp2 {b : Int → Int} {n m : Int} {N : Int → Int} {w p o : Int} (h1 : (tkK b n m p = 4 ∧ tkG b n p = 40) ∨ (tkK b n m p = 2 ∧ 18 ≤ kyN (tkW b n p))) (h4 : ¬ (o = 20 ∨ w = 8)) (hk : tkK b n m p = 2) (hy : 23 ≤ kyN (tkW b n p)) (hc : (tkK b n m (tkX b n m p) = 4 ∧ 60 ≤ tkG b n (tkX b n m p) ∧ tkG b n (tkX b n m p) ≤ 62)) (hn : ¬ tkK b n m (tkX b n m (tkX b n m p)) = 3) : grR b n m N 0 w p o (1, tkP b n m (tkX b n m (tkX b n m p)), 0, 0) := ⟨1, fun g hg => by
  obtain ⟨f, rfl⟩ : ∃ f, g = f + 1 := ⟨g - 1, by omega⟩
  rw [grF_0, if_neg (fun h => h1.elim h.1 h.2), if_neg h4, if_neg (show ¬ tkK b n m p = 4 by omega), if_neg (show ¬ kyN (tkW b n p) = 18 by omega), if_neg (show ¬ kyN (tkW b n p) ≤ 21 by omega), if_neg (show ¬ kyN (tkW b n p) = 22 by omega), if_neg (fun h => h hc), if_pos hn]⟩
theorem g_cmp {b : Int → Int} {n m : Int} {N : Int → Int} {w p o : Int} (h1 : (tkK b n m p = 4 ∧ tkG b n p = 40) ∨ (tkK b n m p = 2 ∧ 18 ≤ kyN (tkW b n p))) (h4 : ¬ (o = 20 ∨ w = 8)) (hk : tkK b n m p = 2) (hy : 23 ≤ kyN (tkW b n p)) (hc : (tkK b n m (tkX b n m p) = 4 ∧ 60 ≤ tkG b n (tkX b n m p) ∧ tkG b n (tkX b n m p) ≤ 62)) (hn : tkK b n m (tkX b n m (tkX b n m p)) = 3) : grR b n m N 0 w p o (0, 0, tkX b n m (tkX b n m (tkX b n m p)), o + 1) := ⟨1, fun g hg => by
  obtain ⟨f, rfl⟩ : ∃ f, g = f + 1 := ⟨g - 1, by omega⟩
  rw [grF_0, if_neg (fun h => h1.elim h.1 h.2), if_neg h4, if_neg (show ¬ tkK b n m p = 4 by omega), if_neg (show ¬ kyN (tkW b n p) = 18 by omega), if_neg (show ¬ kyN (tkW b n p) ≤ 21 by omega), if_neg (show ¬ kyN (tkW b n p) = 22 by omega), if_neg (fun h => h hc), if_neg (fun h => h hn)]⟩
theorem g_allf {b : Int → Int} {n m : Int} {N : Int → Int} {w p o : Int} {r : GR}  (h : grR b n m N 0 w p o r) (hr : r.1 ≠ 0) : grR b n m N 1 w p o r := by
  obtain ⟨f0, h9⟩ := h
  refine ⟨f0 + 1, fun g hg => ?_⟩
  obtain ⟨f, rfl⟩ : ∃ f, g = f + 1 := ⟨g - 1, by omega⟩
  rw [grF_1, h9 f (by omega), if_pos hr]
theorem g_all {b : Int → Int} {n m : Int} {N : Int → Int} {w p o : Int} {r : GR}  (h : grR b n m N 0 w p o r) (hr : r.1 = 0) : ∀ r' : GR, grR b n m N 3 w r.2.2.1 r.2.2.2 r' → grR b n m N 1 w p o r' := by
  intro r' h'
  obtain ⟨f0, h9⟩ := h
  obtain ⟨f1, h8⟩ := h'
  refine ⟨f0 + f1 + 1, fun g hg => ?_⟩
  obtain ⟨f, rfl⟩ : ∃ f, g = f + 1 := ⟨g - 1, by omega⟩
  rw [grF_1, h9 f (by omega), if_neg (fun h => h hr), h8 f (by omega)]
theorem g_condf {b : Int → Int} {n m : Int} {N : Int → Int} {w p o : Int} {r : GR}  (h : grR b n m N 1 w p o r) (hr : r.1 ≠ 0) : grR b n m N 2 w p o r := by
  obtain ⟨f0, h9⟩ := h
  refine ⟨f0 + 1, fun g hg => ?_⟩
  obtain ⟨f, rfl⟩ : ∃ f, g = f + 1 := ⟨g - 1, by omega⟩
  rw [grF_2, h9 f (by omega), if_pos hr]
theorem g_cond {b : Int → Int} {n m : Int} {N : Int → Int} {w p o : Int} {r : GR}  (h : grR b n m N 1 w p o r) (hr : r.1 = 0) : ∀ r' : GR, grR b n m N 4 w r.2.2.1 r.2.2.2 r' → grR b n m N 2 w p o r' := by
  intro r' h'
  obtain ⟨f0, h9⟩ := h
  obtain ⟨f1, h8⟩ := h'
  refine ⟨f0 + f1 + 1, fun g hg => ?_⟩
  obtain ⟨f, rfl⟩ : ∃ f, g = f + 1 := ⟨g - 1, by omega⟩
  rw [grF_2, h9 f (by omega), if_neg (fun h => h hr), h8 f (by omega)]
theorem g_andf {b : Int → Int} {n m : Int} {N : Int → Int} {w p o : Int} {r : GR} (hk : (tkK b n m p = 2 ∧ kyN (tkW b n p) = 17))  (h : grR b n m N 0 w (tkX b n m p) o r) (hr : r.1 ≠ 0) : grR b n m N 3 w p o r := by
  obtain ⟨f0, h9⟩ := h
  refine ⟨f0 + 1, fun g hg => ?_⟩
  obtain ⟨f, rfl⟩ : ∃ f, g = f + 1 := ⟨g - 1, by omega⟩
  rw [grF_3, if_pos hk, h9 f (by omega), if_pos hr]
theorem g_and {b : Int → Int} {n m : Int} {N : Int → Int} {w p o : Int} {r : GR} (hk : (tkK b n m p = 2 ∧ kyN (tkW b n p) = 17))  (h : grR b n m N 0 w (tkX b n m p) o r) (hr : r.1 = 0) : ∀ r' : GR, grR b n m N 3 w r.2.2.1 r.2.2.2 r' → grR b n m N 3 w p o r' := by
  intro r' h'
  obtain ⟨f0, h9⟩ := h
  obtain ⟨f1, h8⟩ := h'
  refine ⟨f0 + f1 + 1, fun g hg => ?_⟩
  obtain ⟨f, rfl⟩ : ∃ f, g = f + 1 := ⟨g - 1, by omega⟩
  rw [grF_3, if_pos hk, h9 f (by omega), if_neg (fun h => h hr), h8 f (by omega)]
theorem g_orf {b : Int → Int} {n m : Int} {N : Int → Int} {w p o : Int} {r : GR} (hk : (tkK b n m p = 2 ∧ kyN (tkW b n p) = 16))  (h : grR b n m N 1 w (tkX b n m p) o r) (hr : r.1 ≠ 0) : grR b n m N 4 w p o r := by
  obtain ⟨f0, h9⟩ := h
  refine ⟨f0 + 1, fun g hg => ?_⟩
  obtain ⟨f, rfl⟩ : ∃ f, g = f + 1 := ⟨g - 1, by omega⟩
  rw [grF_4, if_pos hk, h9 f (by omega), if_pos hr]
theorem g_or {b : Int → Int} {n m : Int} {N : Int → Int} {w p o : Int} {r : GR} (hk : (tkK b n m p = 2 ∧ kyN (tkW b n p) = 16))  (h : grR b n m N 1 w (tkX b n m p) o r) (hr : r.1 = 0) : ∀ r' : GR, grR b n m N 4 w r.2.2.1 r.2.2.2 r' → grR b n m N 4 w p o r' := by
  intro r' h'
  obtain ⟨f0, h9⟩ := h
  obtain ⟨f1, h8⟩ := h'
  refine ⟨f0 + f1 + 1, fun g hg => ?_⟩
  obtain ⟨f, rfl⟩ : ∃ f, g = f + 1 := ⟨g - 1, by omega⟩
  rw [grF_4, if_pos hk, h9 f (by omega), if_neg (fun h => h hr), h8 f (by omega)]
theorem g_ande {b : Int → Int} {n m : Int} {N : Int → Int} {w p o : Int} (hk : ¬ (tkK b n m p = 2 ∧ kyN (tkW b n p) = 17)) : grR b n m N 3 w p o (0, 0, p, o) := ⟨1, fun g hg => by
  obtain ⟨f, rfl⟩ : ∃ f, g = f + 1 := ⟨g - 1, by omega⟩
  rw [grF_3, if_neg hk]⟩
theorem g_ore {b : Int → Int} {n m : Int} {N : Int → Int} {w p o : Int} (hk : ¬ (tkK b n m p = 2 ∧ kyN (tkW b n p) = 16)) : grR b n m N 4 w p o (0, 0, p, o) := ⟨1, fun g hg => by
  obtain ⟨f, rfl⟩ : ∃ f, g = f + 1 := ⟨g - 1, by omega⟩
  rw [grF_4, if_neg hk]⟩
/-- a SENTENCE's answer -/
def snA (b : Int → Int) (n : Int) (N : Int → Int) (a : Int) : Prop := ∃ r : GR, grR b n 200 N 2 0 0 0 r ∧ ((r.1 ≠ 0 ∧ a = -1 - r.2.1) ∨ (r.1 = 0 ∧ tkK b n 200 r.2.2.1 ≠ 0 ∧ a = -1 - tkP b n 200 r.2.2.1) ∨ (r.1 = 0 ∧ tkK b n 200 r.2.2.1 = 0 ∧ a = r.2.2.2))
theorem snA_eq {b : Int → Int} {n n2 : Int} {N : Int → Int} {a a' : Int} (h : snA b n N a) (e : n = n2) (h' : snA b n2 N a') : a = a' := by
  subst e
  obtain ⟨r, h1, h2⟩ := h
  obtain ⟨r', h1', h2'⟩ := h'
  have e := g_uni h1 h1'
  subst e
  omega
/-- the class's token now: the one that begins at P -/
def tkU (b : Int → Int) (n m P : Int) (fr pl kd ke va : Int32) : Prop := (fr.toInt = tkX b n m P ∧ pl.toInt = tkP b n m P) ∧ ((tkK b n m P = 0 ∧ kd.toInt = 0) ∨ (tkK b n m P = 1 ∧ kd.toInt = 1) ∨ (tkK b n m P = 2 ∧ kyN (tkW b n P) = -1 ∧ kd.toInt = 2) ∨ (tkK b n m P = 2 ∧ 0 ≤ kyN (tkW b n P) ∧ kd.toInt = 3) ∨ (tkK b n m P = 3 ∧ kd.toInt = 4) ∨ (tkK b n m P = 4 ∧ kd.toInt = 5)) ∧ ((tkK b n m P = 2 ∧ ke.toInt = kyN (tkW b n P)) ∨ (¬ tkK b n m P = 2 ∧ ke.toInt = -1)) ∧ (tkK b n m P = 3 → va.toInt = tkN b n P) ∧ (tkK b n m P = 4 → va.toInt = tkG b n P)
theorem tkU_sg {b : Int → Int} {n m P : Int} {fr pl kd ke va : Int32} (h : tkU b n m P fr pl kd ke va) (c : Int) : (kd.toInt = 5 ∧ va.toInt = c) ↔ (tkK b n m P = 4 ∧ tkG b n P = c) := by
  obtain ⟨_, h1, _, _, h4⟩ := h
  constructor
  · intro h9
    have h8 : tkK b n m P = 4 := by omega
    exact ⟨h8, by have := h4 h8; omega⟩
  · intro h9
    have := h4 h9.1
    exact ⟨by omega, by omega⟩
theorem tkU_ky {b : Int → Int} {n m P : Int} {fr pl kd ke va : Int32} (h : tkU b n m P fr pl kd ke va) {k : Int} (hk : 0 ≤ k) : ke.toInt = k ↔ (tkK b n m P = 2 ∧ kyN (tkW b n P) = k) := by
  have h1 := h.2.2.1
  omega
theorem tkU_w {b : Int → Int} {n m P : Int} {fr pl kd ke va : Int32} (h : tkU b n m P fr pl kd ke va) : 18 ≤ ke.toInt ↔ (tkK b n m P = 2 ∧ 18 ≤ kyN (tkW b n P)) := by
  have h1 := h.2.2.1
  omega
theorem tkU_0 {b : Int → Int} {n m P : Int} {fr pl kd ke va : Int32} (h : tkU b n m P fr pl kd ke va) : kd.toInt = 0 ↔ tkK b n m P = 0 := by
  have h1 := h.2.1
  omega
theorem tkU_3 {b : Int → Int} {n m P : Int} {fr pl kd ke va : Int32} (h : tkU b n m P fr pl kd ke va) : kd.toInt = 4 ↔ tkK b n m P = 3 := by
  have h1 := h.2.1
  omega
def gpC (b : Int → Int) (n m : Int) (N : Int → Int) (md : Nat) (w p o : Int) (fr pl kd ke va : Int32) (o2 : Int) : Prop := ∃ P : Int, tkU b n m P fr pl kd ke va ∧ grR b n m N md w p o (0, 0, P, o2)
def lpC (b : Int → Int) (n m : Int) (N : Int → Int) (ml md : Nat) (w p o : Int) (fr pl kd ke va : Int32) (o2 : Int) : Prop := ∃ P : Int, tkU b n m P fr pl kd ke va ∧ ∀ r : GR, grR b n m N ml w P o2 r → grR b n m N md w p o r
/-- the reference's -/
def tkT (b : Int → Int) (n m P : Int) (to fr kd nu sn : Int32) (wd : Int64) : Prop := to.toInt = tkX b n m P ∧ fr.toInt = tkP b n m P ∧ kd.toInt = tkK b n m P ∧ tkV b n m P nu sn wd
def gpV (b : Int → Int) (n m : Int) (N : Int → Int) (md : Nat) (w p o : Int) (to fr kd nu sn : Int32) (wd : Int64) (o2 : Int) : Prop := ∃ P : Int, tkT b n m P to fr kd nu sn wd ∧ grR b n m N md w p o (0, 0, P, o2)
def lpV (b : Int → Int) (n m : Int) (N : Int → Int) (ml md : Nat) (w p o : Int) (to fr kd nu sn : Int32) (wd : Int64) (o2 : Int) : Prop := ∃ P : Int, tkT b n m P to fr kd nu sn wd ∧ ∀ r : GR, grR b n m N ml w P o2 r → grR b n m N md w p o r
def brV (b : Int → Int) (n m : Int) (N : Int → Int) (w p o : Int) (to fr kd nu sn : Int32) (wd : Int64) (o2 : Int) : Prop := ∃ P Q : Int, grR b n m N 2 w p o (0, 0, P, o2) ∧ (tkK b n m P = 4 ∧ tkG b n P = 41) ∧ Q = tkX b n m P ∧ tkT b n m Q to fr kd nu sn wd
def brX (b : Int → Int) (n m : Int) (N : Int → Int) (w p o f fp : Int) : Prop := (f ≠ 0 ∧ grR b n m N 2 w p o (f, fp, 0, 0)) ∨ (f = 1 ∧ ∃ P o2 : Int, grR b n m N 2 w p o (0, 0, P, o2) ∧ ¬ (tkK b n m P = 4 ∧ tkG b n P = 41) ∧ fp = tkP b n m P)
def nmV (N : Int → Int) (nm : Nat → Int64) (nw : Nat → Int32) : Prop := ∀ W, fd (fun k => (nm (0 + k)).toInt) (nw 0).toInt.toNat W = N W
theorem bry_x {b : Int → Int} {n m : Int} {N : Int → Int} {w p o q o1 w1 f fp : Int} (h : brX b n m N w1 q o1 f fp) (h1 : (tkK b n m p = 4 ∧ tkG b n p = 40) ∨ (tkK b n m p = 2 ∧ 18 ≤ kyN (tkW b n p))) (h4 : ¬ (o = 20 ∨ w = 8)) (hk : tkK b n m p = 4) (ew : w1 = w + 1) (eq : q = tkX b n m p) (eo : o1 = o + 1) : grR b n m N 0 w p o (f, fp, 0, 0) := by
  subst ew
  subst eq
  subst eo
  rcases h with ⟨hf, hg⟩ | ⟨hf, P, o2, hg, hc, hp⟩
  · exact g_brf h1 h4 hk hg hf
  · rw [hf, hp]
    exact g_brn h1 h4 hk hg rfl hc
theorem gr_c {b : Int → Int} {n m : Int} {N : Int → Int} {md : Nat} {w w' p p' o o' : Int} {r : GR} (h : grR b n m N md w p o r) (ew : w = w') (ep : p = p') (eo : o = o') : grR b n m N md w' p' o' r := by
  subst ew
  subst ep
  subst eo
  exact h
/-- what a SENTENCE's reading comes to: its ones, or its FAULT and the place -/
def snO (b : Int → Int) (n m : Int) (N : Int → Int) (o2 : Int) : Prop := ∃ P : Int, grR b n m N 2 0 0 0 (0, 0, P, o2) ∧ tkK b n m P = 0
def snB (b : Int → Int) (n m : Int) (N : Int → Int) (f fp : Int) : Prop := (f ≠ 0 ∧ grR b n m N 2 0 0 0 (f, fp, 0, 0)) ∨ (f = 1 ∧ ∃ P o2 : Int, grR b n m N 2 0 0 0 (0, 0, P, o2) ∧ tkK b n m P ≠ 0 ∧ fp = tkP b n m P)
theorem snA_o {b : Int → Int} {n : Int} {N : Int → Int} {a : Int} (h : snO b n 200 N a) : snA b n N a := by
  obtain ⟨P, h1, h2⟩ := h
  exact ⟨_, h1, Or.inr (Or.inr ⟨rfl, h2, rfl⟩)⟩
theorem snA_b {b : Int → Int} {n : Int} {N : Int → Int} {f fp a : Int} (h : snB b n 200 N f fp) (e : a = -1 - fp) : snA b n N a := by
  rcases h with ⟨h1, h2⟩ | ⟨_, P, o2, h1, h2, h3⟩
  · exact ⟨_, h2, Or.inl ⟨h1, e⟩⟩
  · exact ⟨_, h1, Or.inr (Or.inl ⟨rfl, h2, by rw [e, h3]⟩)⟩
theorem snA_o2 {b : Int → Int} {n m : Int} {N : Int → Int} {a : Int} (hm : m = 200) (h : snO b n m N a) : snA b n N a := by
  subst hm
  exact snA_o h
theorem snA_b2 {b : Int → Int} {n m : Int} {N : Int → Int} {f fp a : Int} (hm : m = 200) (h : snB b n m N f fp) (e : a = -1 - fp) : snA b n N a := by
  subst hm
  exact snA_b h e
