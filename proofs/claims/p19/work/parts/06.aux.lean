theorem x_in {i : Int32} {n : Nat} (h : decide (¬ (i < 0 ∨ n ≤ i.toNatClampNeg)) = true) : vp_in i n := (of_decide_eq_true h : ¬ (i < 0 ∨ n ≤ i.toNatClampNeg))
theorem x_ne {x y : Int32} {z : Int} (h : ¬ x = y) (hz : y.toInt = z) : x.toInt ≠ z := fun e => h (Int32.toInt_inj.mp (e.trans hz.symm))
theorem x_cpy0 {α : Type} {v : α} {sp dp n : Nat} : va_cpy (fun _ => v) (fun _ => v) sp dp n = fun _ => v := by
  funext j; simp [va_cpy]
theorem x_cpyS {α : Type} (f g : Nat → α) (sp dp k : Nat) : (fun j => if j = dp + k then f (sp + k) else va_cpy f g sp dp k j) = va_cpy f g sp dp (k + 1) := by
  funext j
  simp only [va_cpy]
  by_cases h : j = dp + k
  · subst h
    rw [if_pos rfl, if_pos (by omega), show dp + k - dp = k by omega]
  · rw [if_neg h]
    by_cases h2 : dp ≤ j ∧ j < dp + k
    · rw [if_pos h2, if_pos (by omega)]
    · rw [if_neg h2, if_neg (by omega)]
theorem x_cpyI (f g : Nat → Int32) (sp dp k : Nat) : upd (va_cpy f g sp dp k) (dp + k) (f (sp + k)) = va_cpy f g sp dp (k + 1) := x_cpyS f g sp dp k
theorem x_cpyJ (f g : Nat → Int64) (sp dp k : Nat) : vp_updL (va_cpy f g sp dp k) (dp + k) (f (sp + k)) = va_cpy f g sp dp (k + 1) := x_cpyS f g sp dp k
theorem x_cpyZ {α : Type} (f g : Nat → α) (sp dp : Nat) : va_cpy f g sp dp 0 = g := by
  funext j; simp only [va_cpy]; rw [if_neg (by omega)]
theorem x_updC (v : Int32) (k : Nat) : upd (fun _ => v) k v = fun _ => v := by
  funext j; simp only [upd]; split <;> rfl
theorem x_ltN {k N : Nat} {h : Int32} (hi : k ≤ N) (c : ¬ h ≤ nI k) (hN : h = nI N) : k < N :=
  Nat.lt_of_le_of_ne hi (fun e => c (by rw [hN, e]; exact Int32.le_refl _))
theorem x_calliVR {p : Program} {l : Launch} {e : Env} {R : Room} {s : State} {m : MethodId} {args : Array Value} {below : List Frame} {meth : Method} {c : Code} {H : Heap} {locs : List Loc} {cells slots : Nat} {Q : State → Prop} {cc : ByteArray} {pc : Nat} {ls : Array Slot} {rest : List Value} {A : Nat → Prop} {w wc wr : va_W} {G : Gc} {nL : Nat} {own : String} {y : MethodName} {cd : ByteArray} {mL d mc ms n index b : Nat} {rt : Option FieldType} {As st0 : List Value} {post : Int32 → va_W → Prop} (C : CallFix p m c cc nL s args gw own) (h : Wd G s A w H locs) (hM : Ci l y cd mL rt d mc ms G (.ref b :: As) wc post) (hm : MwV y cd mL rt n) (hl : Cond.methodLink own index y ∈ gw) (isC isR : List Nat) (hC : isC.map (fun i => w[i]?) = wc.map some) (hR : isR.map (fun i => w[i]?) = wr.map some) (hnC : va_nd isC = true) (hnR : va_nd isR = true) (hdis : ∀ i ∈ isR, i ∉ isC) (hrv : ∃ cell : Cell, H[b]? = some cell ∧ cell.vm.isStatics = false ∧ s.vm.findClass y.cls = some cell.cls) (hn : As.length = n) (hsz : ls.size = nL) (hst : st0 = As.reverse ++ .ref b :: rest) (hcat : (rest.map fun v => v.category).sum ≤ 8) (hroom : d + 1 ≤ R.frames ∧ 8 + (mL + 11) + 40 * d ≤ R.locals) (hf : cells + mc ≤ R.cells ∧ slots + ms ≤ R.slots) (hdg : decode cc pc = .ok (.invokevirtual index, 3))
    (kk : ∀ (r : Int32) (u : va_W) (H1 : Heap) (locs1 : List Loc), post r u → Wd G s A (wr ++ u) H1 locs1 → W p l e R s m args below meth c H1 locs1 (cells + mc) (slots + ms) Q (F0 m (pc + 3) ls (.int r :: rest))) : W p l e R s m args below meth c H locs cells slots Q (F0 m pc ls st0) :=
  va_calli (va_runV C (hM H.size) ⟨cb_gw C hm.1 hl hroom, C.2.2.2.2 _ hm.2.1, C.2.2.2.2 _ hm.2.2⟩ ⟨(pre_of h isC hnC hC).1, hrv, (pre_of h isC hnC hC).2⟩ rfl hn hsz hst (lv_room hcat) hdg hf) h.2.2.2.1 (fun q _ h9 => free_of h isC hC q h9) (free_of h isC hC) (fun r u t H1 L1 ht _ hp hB _ hk hS => kk r u H1 L1 hp (back_wd h isC isR hC hR hnR hdis ht hB hk hS))
theorem x_callvS {p : Program} {l : Launch} {e : Env} {R : Room} {s : State} {m : MethodId} {args : Array Value} {below : List Frame} {meth : Method} {c : Code} {H : Heap} {locs : List Loc} {cells slots : Nat} {Q : State → Prop} {cc : ByteArray} {pc : Nat} {ls : Array Slot} {rest : List Value} {A : Nat → Prop} {w wc wr : va_W} {G : Gc} {nL : Nat} {own : String} {y : MethodName} {cd : ByteArray} {mL d mc ms n index : Nat} {As st0 : List Value} {post : va_W → Prop} (C : CallFix p m c cc nL s args gw own) (h : Wd G s A w H locs) (hM : Cv l y cd mL d mc ms G As wc post) (hm : MwS y cd mL none n) (hl : Cond.methodLink own index y ∈ gw) (isC isR : List Nat) (hC : isC.map (fun i => w[i]?) = wc.map some) (hR : isR.map (fun i => w[i]?) = wr.map some) (hnC : va_nd isC = true) (hnR : va_nd isR = true) (hdis : ∀ i ∈ isR, i ∉ isC) (hn : As.length = n) (hsz : ls.size = nL) (hst : st0 = As.reverse ++ rest) (hcat : (rest.map fun v => v.category).sum ≤ 8) (hroom : d + 1 ≤ R.frames ∧ 8 + (mL + 11) + 40 * d ≤ R.locals) (hf : cells + mc ≤ R.cells ∧ slots + ms ≤ R.slots) (hdg : decode cc pc = .ok (.invokestatic index, 3))
    (kk : ∀ (u : va_W) (H1 : Heap) (locs1 : List Loc), post u → Wd G s A (wr ++ u) H1 locs1 → W p l e R s m args below meth c H1 locs1 (cells + mc) (slots + ms) Q (F0 m (pc + 3) ls rest)) : W p l e R s m args below meth c H locs cells slots Q (F0 m pc ls st0) :=
  va_callv (va_runS C (hM H.size) ⟨cb_gw C hm.1 hl hroom, C.2.2.2.2 _ hm.2⟩ (pre_of h isC hnC hC) rfl hn hsz hst (lv_room hcat) hdg hf) h.2.2.2.1 (fun q _ h9 => free_of h isC hC q h9) (free_of h isC hC) (fun u t H1 L1 ht _ hp hB _ hk hS => kk u H1 L1 hp (back_wd h isC isR hC hR hnR hdis ht hB hk hS))
theorem nst0 {G : Gc} {s : State} (h : mK G s) : va_Nw (.methodLinkNest "LanternState" 18 ⟨"LanternState$Scene", "<init>", "()V"⟩ "LanternState") s := h.2.1 ("LanternState", 18, ⟨"LanternState$Scene", "<init>", "()V"⟩, "LanternState") (List.mem_of_getElem? (i := 0) rfl)
theorem nst1 {G : Gc} {s : State} (h : mK G s) : va_Nw (.methodLinkNest "LanternState" 28 ⟨"LanternState$State", "<init>", "()V"⟩ "LanternState") s := h.2.1 ("LanternState", 28, ⟨"LanternState$State", "<init>", "()V"⟩, "LanternState") (List.mem_of_getElem? (i := 1) rfl)
theorem nst2 {G : Gc} {s : State} (h : mK G s) : va_Nw (.methodLinkNest "LanternState$History" 17 ⟨"LanternState$State", "<init>", "()V"⟩ "LanternState") s := h.2.1 ("LanternState$History", 17, ⟨"LanternState$State", "<init>", "()V"⟩, "LanternState") (List.mem_of_getElem? (i := 2) rfl)
theorem nst3 {G : Gc} {s : State} (h : mK G s) : va_Nw (.methodLinkNest "LanternState" 45 ⟨"LanternState$Sentence", "<init>", "()V"⟩ "LanternState") s := h.2.1 ("LanternState", 45, ⟨"LanternState$Sentence", "<init>", "()V"⟩, "LanternState") (List.mem_of_getElem? (i := 3) rfl)
theorem nst4 {G : Gc} {s : State} (h : mK G s) : va_Nw (.methodLinkNest "LanternState" 55 ⟨"LanternState$Book", "<init>", "()V"⟩ "LanternState") s := h.2.1 ("LanternState", 55, ⟨"LanternState$Book", "<init>", "()V"⟩, "LanternState") (List.mem_of_getElem? (i := 4) rfl)
theorem nst5 {G : Gc} {s : State} (h : mK G s) : va_Nw (.methodLinkNest "LanternState" 62 ⟨"LanternState$Search", "<init>", "()V"⟩ "LanternState") s := h.2.1 ("LanternState", 62, ⟨"LanternState$Search", "<init>", "()V"⟩, "LanternState") (List.mem_of_getElem? (i := 5) rfl)
theorem nst6 {G : Gc} {s : State} (h : mK G s) : va_Nw (.methodLinkNest "LanternState" 69 ⟨"LanternState$Bill", "<init>", "()V"⟩ "LanternState") s := h.2.1 ("LanternState", 69, ⟨"LanternState$Bill", "<init>", "()V"⟩, "LanternState") (List.mem_of_getElem? (i := 6) rfl)
theorem nst7 {G : Gc} {s : State} (h : mK G s) : va_Nw (.methodLinkNest "LanternState" 91 ⟨"LanternState$Image", "<init>", "()V"⟩ "LanternState") s := h.2.1 ("LanternState", 91, ⟨"LanternState$Image", "<init>", "()V"⟩, "LanternState") (List.mem_of_getElem? (i := 7) rfl)
theorem nst8 {G : Gc} {s : State} (h : mK G s) : va_Nw (.methodLinkNest "LanternState$Image" 9 ⟨"LanternState$Scene", "<init>", "()V"⟩ "LanternState") s := h.2.1 ("LanternState$Image", 9, ⟨"LanternState$Scene", "<init>", "()V"⟩, "LanternState") (List.mem_of_getElem? (i := 8) rfl)
theorem nst9 {G : Gc} {s : State} (h : mK G s) : va_Nw (.methodLinkNest "LanternState$Image" 18 ⟨"LanternState$State", "<init>", "()V"⟩ "LanternState") s := h.2.1 ("LanternState$Image", 18, ⟨"LanternState$State", "<init>", "()V"⟩, "LanternState") (List.mem_of_getElem? (i := 9) rfl)
theorem nst10 {G : Gc} {s : State} (h : mK G s) : va_Nw (.methodLinkNest "LanternState$Image" 25 ⟨"LanternState$Sentence", "<init>", "()V"⟩ "LanternState") s := h.2.1 ("LanternState$Image", 25, ⟨"LanternState$Sentence", "<init>", "()V"⟩, "LanternState") (List.mem_of_getElem? (i := 10) rfl)
theorem strk0 {G : Gc} {s : State} (h : mK G s) : vk_R "LanternState$Tape" 19 "slide hearer likes hates near after pass spread lamp front behind shown over scratch sits hour or and not so cracked even like light heat sighs number " (G.2.2.1 0) s := h.2.2.2.2.1 ("LanternState$Tape", 19, "slide hearer likes hates near after pass spread lamp front behind shown over scratch sits hour or and not so cracked even like light heat sighs number ", 0) (List.mem_of_getElem? (i := 0) rfl)
theorem strk1 {G : Gc} {s : State} (h : mK G s) : vk_R "LanternState$Bill" 34 " is so" (G.2.2.1 1) s := h.2.2.2.2.1 ("LanternState$Bill", 34, " is so", 1) (List.mem_of_getElem? (i := 1) rfl)
theorem strk2 {G : Gc} {s : State} (h : mK G s) : vk_R "LanternState$Bill" 43 " is cracked" (G.2.2.1 2) s := h.2.2.2.2.1 ("LanternState$Bill", 43, " is cracked", 2) (List.mem_of_getElem? (i := 2) rfl)
theorem strk3 {G : Gc} {s : State} (h : mK G s) : vk_R "LanternState$Bill" 45 " is not so" (G.2.2.1 3) s := h.2.2.2.2.1 ("LanternState$Bill", 45, " is not so", 3) (List.mem_of_getElem? (i := 3) rfl)
theorem strk4 {G : Gc} {s : State} (h : mK G s) : vk_R "LanternState$Bill" 51 " for " (G.2.2.1 4) s := h.2.2.2.2.1 ("LanternState$Bill", 51, " for ", 4) (List.mem_of_getElem? (i := 4) rfl)
theorem strk5 {G : Gc} {s : State} (h : mK G s) : vk_R "LanternState" 138 "no such slide or what" (G.2.2.1 5) s := h.2.2.2.2.1 ("LanternState", 138, "no such slide or what", 5) (List.mem_of_getElem? (i := 5) rfl)
theorem strk6 {G : Gc} {s : State} (h : mK G s) : vk_R "LanternState" 191 "no such hearer or what" (G.2.2.1 6) s := h.2.2.2.2.1 ("LanternState", 191, "no such hearer or what", 6) (List.mem_of_getElem? (i := 6) rfl)
theorem x_geN {k N : Nat} {h : Int32} (hi : k ≤ N) (c : h ≤ nI k) (hN : h = nI N) (h31 : N < 2 ^ 31) : k = N := by
  rcases Nat.lt_or_eq_of_le hi with q | q
  · rw [hN] at c
    exact absurd c (nI_ge q h31)
  · exact q
theorem x_cpyN {f g : Nat → Int32} {k : Nat} (h : k < 2 ^ 31) : upd (va_cpy f g 0 0 k) (nI k).toNatClampNeg (f (nI k).toNatClampNeg) = va_cpy f g 0 0 (k + 1) := by
  rw [nI_clamp h]
  have := x_cpyI f g 0 0 k
  rw [Nat.zero_add] at this
  exact this
def isB (v : Int32) : Prop := narrow .boolean (.int v) = .int v ∧ fits .boolean (.int v) = true
theorem isB0 : isB 0 := ⟨rfl, rfl⟩
theorem isB1 : isB 1 := ⟨rfl, rfl⟩
theorem x_nle {x : Int32} (h1 : ¬ x < 0) (h2 : ¬ x = 0) : ¬ x ≤ 0 := fun h => h2 (Int32.le_antisymm h (Int32.not_lt.mp h1))
theorem x_shr0n {x : Int32} (h : ¬ x = 0) : ¬ x >>> ((0 : Int32) &&& 31) = 0 := fun e => h (by rw [sb_shr0] at e; exact e)
