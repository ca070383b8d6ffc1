-- needs: 08 09
abbrev cpJ (so d : Nat) (f g0 : Nat → Int32) (i : Int32) (g : Nat → Int32) : Prop := cpI f g0 so d i g
theorem trI_cp {node f g : Nat → Int32} {i : Int32} (h : cpJ 0 99 node f i g) (hi : i.toInt = 240) (hn : ndI node) (ht : trI f) : trI g := by
  refine ⟨?_, ?_⟩
  · rw [h.2 98 (Or.inl (by omega))]; exact ht.1
  · refine ndI_congr hn (fun k hk => ?_)
    have := h.1 k (by omega)
    rw [Nat.zero_add] at this
    exact this
theorem kpI_cp0 {f k g : Nat → Int32} {i : Int32} (h : cpJ 0 0 f k i g) (hi : i.toInt = 339) (hk : kpI k) (hs : slI f) (ht : trI f) : kpI g := by
  have e : ∀ j, j < 339 → g j = f j := fun j hj => by
    have := h.1 j (by omega)
    rw [Nat.zero_add] at this
    exact this
  have e2 : ∀ j, j < 339 → g (339 + j) = k (339 + j) := fun j hj => h.2 _ (Or.inr (by omega))
  exact ⟨⟨slI_congr hs e, trI_congr ht e⟩, slI_congr hk.2.1 e2, trI_congr hk.2.2 e2⟩
theorem kpI_cp1 {f k g : Nat → Int32} {i : Int32} (h : cpJ 0 339 f k i g) (hi : i.toInt = 339) (hk : kpI k) (hs : slI f) (ht : trI f) : kpI g := by
  have e : ∀ j, j < 339 → g (339 + j) = f j := fun j hj => by
    have := h.1 j (by omega)
    rw [Nat.zero_add] at this
    exact this
  have e2 : ∀ j, j < 339 → g j = k j := fun j hj => h.2 _ (Or.inl hj)
  exact ⟨⟨slI_congr hk.1.1 e2, trI_congr hk.1.2 e2⟩, slI_congr hs e, trI_congr ht e⟩
theorem slI_rs0 {k f g : Nat → Int32} {i : Int32} (h : cpJ 0 0 k f i g) (hi : i.toInt = 339) (hk : kpI k) : slI g ∧ trI g := by
  have e : ∀ j, j < 339 → g j = k j := fun j hj => by
    have := h.1 j (by omega)
    rw [Nat.zero_add] at this
    exact this
  exact ⟨slI_congr hk.1.1 e, trI_congr hk.1.2 e⟩
theorem slI_rs1 {k f g : Nat → Int32} {i : Int32} (h : cpJ 339 0 k f i g) (hi : i.toInt = 339) (hk : kpI k) : slI g ∧ trI g := by
  have e : ∀ j, j < 339 → g j = k (339 + j) := fun j hj => by
    have := h.1 j (by omega)
    rw [Nat.zero_add] at this
    exact this
  exact ⟨slI_congr hk.2.1 e, trI_congr hk.2.2 e⟩
def z01 (w : Int32) : Nat := if w.toInt = 0 then 1 else 0
theorem z01_0 {w : Int32} (h : w.toInt = 0) : z01 w = 1 := by unfold z01; rw [if_pos h]
theorem z01_n {w : Int32} (h : w.toInt ≠ 0) : z01 w = 0 := by unfold z01; rw [if_neg h]
theorem trI_at {f : Nat → Int32} (h : trI f) {K : Nat} (hk : K < 60) : ndOk (f (99 + 4 * K)).toInt (f (99 + (4 * K + 1))).toInt (f (99 + (4 * K + 2))).toInt K := h.2 K hk
theorem upd_an (f : Nat → Int32) (i k : Nat) (v : Int32) (h : k ≠ i) : (upd f i v k).toInt = (f k).toInt := by rw [upd_ne h]
