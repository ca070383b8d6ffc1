theorem x_in {i : Int32} {n : Nat} (h : decide (¬ (i < 0 ∨ n ≤ i.toNatClampNeg)) = true) : vp_in i n := (of_decide_eq_true h : ¬ (i < 0 ∨ n ≤ i.toNatClampNeg))
theorem x_ne {x y : Int32} {z : Int} (h : ¬ x = y) (hz : y.toInt = z) : x.toInt ≠ z := fun e => h (Int32.toInt_inj.mp (e.trans hz.symm))
theorem x_cpy0 {α : Type} {v : α} {sp dp n : Nat} : va_cpy (fun _ => v) (fun _ => v) sp dp n = fun _ => v := by
  funext j; simp [va_cpy]
theorem x_cpyS {α : Type} (f g : Nat → α) (sp dp k : Nat) : (fun j => if j = dp + k then f (sp + k) else va_cpy f g sp dp k j) = va_cpy f g sp dp (k + 1) := by
  funext j
  simp only [va_cpy]
  by_cases h : j = dp + k
  · subst h
    rw [if_pos rfl, if_pos (by omega), show dp + k - dp = k by omega]
  · rw [if_neg h]
    by_cases h2 : dp ≤ j ∧ j < dp + k
    · rw [if_pos h2, if_pos (by omega)]
    · rw [if_neg h2, if_neg (by omega)]
theorem x_cpyI (f g : Nat → Int32) (sp dp k : Nat) : upd (va_cpy f g sp dp k) (dp + k) (f (sp + k)) = va_cpy f g sp dp (k + 1) := x_cpyS f g sp dp k
theorem x_cpyJ (f g : Nat → Int64) (sp dp k : Nat) : vp_updL (va_cpy f g sp dp k) (dp + k) (f (sp + k)) = va_cpy f g sp dp (k + 1) := x_cpyS f g sp dp k
theorem x_cpyZ {α : Type} (f g : Nat → α) (sp dp : Nat) : va_cpy f g sp dp 0 = g := by
  funext j; simp only [va_cpy]; rw [if_neg (by omega)]
theorem x_updC (v : Int32) (k : Nat) : upd (fun _ => v) k v = fun _ => v := by
  funext j; simp only [upd]; split <;> rfl
theorem x_ltN {k N : Nat} {h : Int32} (hi : k ≤ N) (c : ¬ h ≤ nI k) (hN : h = nI N) : k < N :=
  Nat.lt_of_le_of_ne hi (fun e => c (by rw [hN, e]; exact Int32.le_refl _))
theorem x_calliVR {p : Program} {l : Launch} {e : Env} {R : Room} {s : State} {m : MethodId} {args : Array Value} {below : List Frame} {meth : Method} {c : Code} {H : Heap} {locs : List Loc} {cells slots : Nat} {Q : State → Prop} {cc : ByteArray} {pc : Nat} {ls : Array Slot} {rest : List Value} {A : Nat → Prop} {w wc wr : va_W} {G : Gc} {nL : Nat} {own : String} {y : MethodName} {cd : ByteArray} {mL d mc ms n index b : Nat} {rt : Option FieldType} {As st0 : List Value} {post : Int32 → va_W → Prop} (C : CallFix p m c cc nL s args gw own) (h : Wd G s A w H locs) (hM : Ci l y cd mL rt d mc ms G (.ref b :: As) wc post) (hm : MwV y cd mL rt n) (hl : Cond.methodLink own index y ∈ gw) (isC isR : List Nat) (hC : isC.map (fun i => w[i]?) = wc.map some) (hR : isR.map (fun i => w[i]?) = wr.map some) (hnC : va_nd isC = true) (hnR : va_nd isR = true) (hdis : ∀ i ∈ isR, i ∉ isC) (hrv : ∃ cell : Cell, H[b]? = some cell ∧ cell.vm.isStatics = false ∧ s.vm.findClass y.cls = some cell.cls) (hn : As.length = n) (hsz : ls.size = nL) (hst : st0 = As.reverse ++ .ref b :: rest) (hcat : (rest.map fun v => v.category).sum ≤ 8) (hroom : d + 1 ≤ R.frames ∧ 8 + (mL + 11) + 40 * d ≤ R.locals) (hf : cells + mc ≤ R.cells ∧ slots + ms ≤ R.slots) (hdg : decode cc pc = .ok (.invokevirtual index, 3))
    (kk : ∀ (r : Int32) (u : va_W) (H1 : Heap) (locs1 : List Loc), post r u → Wd G s A (wr ++ u) H1 locs1 → W p l e R s m args below meth c H1 locs1 (cells + mc) (slots + ms) Q (F0 m (pc + 3) ls (.int r :: rest))) : W p l e R s m args below meth c H locs cells slots Q (F0 m pc ls st0) :=
  va_calli (va_runV C (hM H.size) ⟨cb_gw C hm.1 hl hroom, C.2.2.2.2 _ hm.2.1, C.2.2.2.2 _ hm.2.2⟩ ⟨(pre_of h isC hnC hC).1, hrv, (pre_of h isC hnC hC).2⟩ rfl hn hsz hst (lv_room hcat) hdg hf) h.2.2.2.1 (fun q _ h9 => free_of h isC hC q h9) (free_of h isC hC) (fun r u t H1 L1 ht _ hp hB _ hk hS => kk r u H1 L1 hp (back_wd h isC isR hC hR hnR hdis ht hB hk hS))
theorem x_callvS {p : Program} {l : Launch} {e : Env} {R : Room} {s : State} {m : MethodId} {args : Array Value} {below : List Frame} {meth : Method} {c : Code} {H : Heap} {locs : List Loc} {cells slots : Nat} {Q : State → Prop} {cc : ByteArray} {pc : Nat} {ls : Array Slot} {rest : List Value} {A : Nat → Prop} {w wc wr : va_W} {G : Gc} {nL : Nat} {own : String} {y : MethodName} {cd : ByteArray} {mL d mc ms n index : Nat} {As st0 : List Value} {post : va_W → Prop} (C : CallFix p m c cc nL s args gw own) (h : Wd G s A w H locs) (hM : Cv l y cd mL d mc ms G As wc post) (hm : MwS y cd mL none n) (hl : Cond.methodLink own index y ∈ gw) (isC isR : List Nat) (hC : isC.map (fun i => w[i]?) = wc.map some) (hR : isR.map (fun i => w[i]?) = wr.map some) (hnC : va_nd isC = true) (hnR : va_nd isR = true) (hdis : ∀ i ∈ isR, i ∉ isC) (hn : As.length = n) (hsz : ls.size = nL) (hst : st0 = As.reverse ++ rest) (hcat : (rest.map fun v => v.category).sum ≤ 8) (hroom : d + 1 ≤ R.frames ∧ 8 + (mL + 11) + 40 * d ≤ R.locals) (hf : cells + mc ≤ R.cells ∧ slots + ms ≤ R.slots) (hdg : decode cc pc = .ok (.invokestatic index, 3))
    (kk : ∀ (u : va_W) (H1 : Heap) (locs1 : List Loc), post u → Wd G s A (wr ++ u) H1 locs1 → W p l e R s m args below meth c H1 locs1 (cells + mc) (slots + ms) Q (F0 m (pc + 3) ls rest)) : W p l e R s m args below meth c H locs cells slots Q (F0 m pc ls st0) :=
  va_callv (va_runS C (hM H.size) ⟨cb_gw C hm.1 hl hroom, C.2.2.2.2 _ hm.2⟩ (pre_of h isC hnC hC) rfl hn hsz hst (lv_room hcat) hdg hf) h.2.2.2.1 (fun q _ h9 => free_of h isC hC q h9) (free_of h isC hC) (fun u t H1 L1 ht _ hp hB _ hk hS => kk u H1 L1 hp (back_wd h isC isR hC hR hnR hdis ht hB hk hS))
