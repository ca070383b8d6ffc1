theorem x_in {i : Int32} {n : Nat} (h : decide (¬ (i < 0 ∨ n ≤ i.toNatClampNeg)) = true) : vp_in i n := (of_decide_eq_true h : ¬ (i < 0 ∨ n ≤ i.toNatClampNeg))
theorem x_ne {x y : Int32} {z : Int} (h : ¬ x = y) (hz : y.toInt = z) : x.toInt ≠ z := fun e => h (Int32.toInt_inj.mp (e.trans hz.symm))
theorem x_cpy0 {α : Type} {v : α} {sp dp n : Nat} : va_cpy (fun _ => v) (fun _ => v) sp dp n = fun _ => v := by
  funext j; simp [va_cpy]
theorem x_cpyS {α : Type} (f g : Nat → α) (sp dp k : Nat) : (fun j => if j = dp + k then f (sp + k) else va_cpy f g sp dp k j) = va_cpy f g sp dp (k + 1) := by
  funext j
  simp only [va_cpy]
  by_cases h : j = dp + k
  · subst h
    rw [if_pos rfl, if_pos (by omega), show dp + k - dp = k by omega]
  · rw [if_neg h]
    by_cases h2 : dp ≤ j ∧ j < dp + k
    · rw [if_pos h2, if_pos (by omega)]
    · rw [if_neg h2, if_neg (by omega)]
theorem x_cpyI (f g : Nat → Int32) (sp dp k : Nat) : upd (va_cpy f g sp dp k) (dp + k) (f (sp + k)) = va_cpy f g sp dp (k + 1) := x_cpyS f g sp dp k
theorem x_cpyJ (f g : Nat → Int64) (sp dp k : Nat) : vp_updL (va_cpy f g sp dp k) (dp + k) (f (sp + k)) = va_cpy f g sp dp (k + 1) := x_cpyS f g sp dp k
theorem x_cpyZ {α : Type} (f g : Nat → α) (sp dp : Nat) : va_cpy f g sp dp 0 = g := by
  funext j; simp only [va_cpy]; rw [if_neg (by omega)]
theorem x_updC (v : Int32) (k : Nat) : upd (fun _ => v) k v = fun _ => v := by
  funext j; simp only [upd]; split <;> rfl
theorem x_ltN {k N : Nat} {h : Int32} (hi : k ≤ N) (c : ¬ h ≤ nI k) (hN : h = nI N) : k < N :=
  Nat.lt_of_le_of_ne hi (fun e => c (by rw [hN, e]; exact Int32.le_refl _))
