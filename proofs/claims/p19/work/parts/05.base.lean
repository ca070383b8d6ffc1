/-! base: the world's facts in one word, contracts in one form, rows in one form -/
abbrev Gc : Type := va_G × (Nat → ClassId) × (Nat → Nat) × (Nat → Nat)
abbrev tysG (G : Gc) : List (ClassId × FieldType) := [(G.2.1 0, .byte), (G.2.1 1, .char), (G.2.1 2, .int), (G.2.1 3, .long), (G.2.1 4, .boolean), (G.2.1 5, .object "LanternState$Image"), (G.2.1 6, .object "LanternState$State")]
abbrev eB (G : Gc) (n : Nat) (f : Nat → Int32) : va_E := .inl (G.2.1 0, n, .inl f)
abbrev eC (G : Gc) (n : Nat) (f : Nat → Int32) : va_E := .inl (G.2.1 1, n, .inl f)
abbrev eI (G : Gc) (n : Nat) (f : Nat → Int32) : va_E := .inl (G.2.1 2, n, .inl f)
abbrev eJ (G : Gc) (n : Nat) (f : Nat → Int64) : va_E := .inl (G.2.1 3, n, .inr (.inl f))
abbrev eZ (G : Gc) (n : Nat) (f : Nat → Int32) : va_E := .inl (G.2.1 4, n, .inl f)
abbrev eIm (G : Gc) (n : Nat) (f : Nat → Option Nat) : va_E := .inl (G.2.1 5, n, .inr (.inr (.inr (.inr f))))
abbrev eSt (G : Gc) (n : Nat) (f : Nat → Option Nat) : va_E := .inl (G.2.1 6, n, .inr (.inr (.inr (.inr f))))
abbrev nestL : List (String × Nat × MethodName × String) := [("LanternState", 18, ⟨"LanternState$Scene", "<init>", "()V"⟩, "LanternState"), ("LanternState", 28, ⟨"LanternState$State", "<init>", "()V"⟩, "LanternState"), ("LanternState$History", 17, ⟨"LanternState$State", "<init>", "()V"⟩, "LanternState"), ("LanternState", 45, ⟨"LanternState$Sentence", "<init>", "()V"⟩, "LanternState"), ("LanternState", 55, ⟨"LanternState$Book", "<init>", "()V"⟩, "LanternState"), ("LanternState", 62, ⟨"LanternState$Search", "<init>", "()V"⟩, "LanternState"), ("LanternState", 69, ⟨"LanternState$Bill", "<init>", "()V"⟩, "LanternState"), ("LanternState", 91, ⟨"LanternState$Image", "<init>", "()V"⟩, "LanternState"), ("LanternState$Image", 9, ⟨"LanternState$Scene", "<init>", "()V"⟩, "LanternState"), ("LanternState$Image", 18, ⟨"LanternState$State", "<init>", "()V"⟩, "LanternState"), ("LanternState$Image", 25, ⟨"LanternState$Sentence", "<init>", "()V"⟩, "LanternState")]
abbrev strL : List (String × Nat × String × Nat) := [("LanternState$Tape", 19, "slide hearer likes hates near after pass spread lamp front behind shown over scratch sits hour or and not so cracked even like light heat sighs number ", 0), ("LanternState$Bill", 34, " is so", 1), ("LanternState$Bill", 43, " is cracked", 2), ("LanternState$Bill", 45, " is not so", 3), ("LanternState$Bill", 51, " for ", 4), ("LanternState", 138, "no such slide or what", 5), ("LanternState", 191, "no such hearer or what", 6)]
abbrev lenJS : List Nat := [151, 6, 11, 10, 5, 21, 22]
abbrev bytJS : List (List Int32) := [[115, 108, 105, 100, 101, 32, 104, 101, 97, 114, 101, 114, 32, 108, 105, 107, 101, 115, 32, 104, 97, 116, 101, 115, 32, 110, 101, 97, 114, 32, 97, 102, 116, 101, 114, 32, 112, 97, 115, 115, 32, 115, 112, 114, 101, 97, 100, 32, 108, 97, 109, 112, 32, 102, 114, 111, 110, 116, 32, 98, 101, 104, 105, 110, 100, 32, 115, 104, 111, 119, 110, 32, 111, 118, 101, 114, 32, 115, 99, 114, 97, 116, 99, 104, 32, 115, 105, 116, 115, 32, 104, 111, 117, 114, 32, 111, 114, 32, 97, 110, 100, 32, 110, 111, 116, 32, 115, 111, 32, 99, 114, 97, 99, 107, 101, 100, 32, 101, 118, 101, 110, 32, 108, 105, 107, 101, 32, 108, 105, 103, 104, 116, 32, 104, 101, 97, 116, 32, 115, 105, 103, 104, 115, 32, 110, 117, 109, 98, 101, 114, 32], [32, 105, 115, 32, 115, 111], [32, 105, 115, 32, 99, 114, 97, 99, 107, 101, 100], [32, 105, 115, 32, 110, 111, 116, 32, 115, 111], [32, 102, 111, 114, 32], [110, 111, 32, 115, 117, 99, 104, 32, 115, 108, 105, 100, 101, 32, 111, 114, 32, 119, 104, 97, 116], [110, 111, 32, 115, 117, 99, 104, 32, 104, 101, 97, 114, 101, 114, 32, 111, 114, 32, 119, 104, 97, 116]]
abbrev decL : List MethodName := [⟨"java/lang/RuntimeException", "<init>", "()V"⟩, ⟨"java/lang/RuntimeException", "<init>", "(Ljava/lang/String;)V"⟩, ⟨"java/lang/Exception", "<init>", "()V"⟩, ⟨"java/lang/Exception", "<init>", "(Ljava/lang/String;)V"⟩, ⟨"java/lang/Throwable", "<init>", "()V"⟩, ⟨"java/lang/Throwable", "<init>", "(Ljava/lang/String;)V"⟩]
abbrev cstL : List (String × String) := [("java/util/NoSuchElementException", "java/util/NoSuchElementException")]
/-- what the tables say, at U -/
def mK (G : Gc) (U : State) : Prop := va_K G.1 vwCl (tysG G) U ∧ (∀ q ∈ nestL, va_Nw (.methodLinkNest q.1 q.2.1 q.2.2.1 q.2.2.2) U) ∧ va_AO "LanternState$Image" U ∧ va_AO "LanternState$State" U ∧ (∀ q ∈ strL, vk_R q.1 q.2.1 q.2.2.1 (G.2.2.1 q.2.2.2) U) ∧ (∀ q ∈ decL, va_Nw (.declares q) U) ∧ ∀ q ∈ cstL, va_Nw (.castable q.1 q.2) U
theorem mK.warm {G : Gc} {s U : State} (hW : s.WarmedH U.vm) (h : mK G s) : mK G U :=
  ⟨va_K.moved hW.alike h.1, fun q hq => va_Nw.warmM hW (h.2.1 q hq), va_AO.moved hW.alike h.2.2.1, va_AO.moved hW.alike h.2.2.2.1, fun q hq => vk_R.warm hW (h.2.2.2.2.1 q hq), fun q hq => va_Nw.warmD hW (h.2.2.2.2.2.1 q hq), fun q hq => va_Nw.warmC hW (h.2.2.2.2.2.2 q hq)⟩
theorem mK.same {G : Gc} {s U : State} (hv : U.vm = s.vm) (h : mK G s) : mK G U := h.warm (by rw [hv]; exact State.WarmedH.refl s)
/-- what the heap holds outside A: texts, statics -/
def mE (G : Gc) (A : Nat → Prop) (U : State) (H : Heap) : Prop := vk_S 7 lenJS bytJS G.2.2.1 G.2.2.2 A U H ∧ va_Z "java/lang/String" "COMPACT_STRINGS" "Z" (.int 1) A U H ∧ va_Zq "jdk/internal/util/Preconditions" "SIOOBE_FORMATTER" "Ljava/util/function/BiFunction;" A U H ∧ vx_Zq Bundle.tN "UNASSIGNED_STACK" Bundle.steD A U H ∧ vx_Zq Bundle.tN "SUPPRESSED_SENTINEL" Bundle.listD A U H
theorem mE.moved {G : Gc} {A : Nat → Prop} {u U : State} {H : Heap} (hvm : u.vm.Alike U.vm) (h : mE G A u H) : mE G A U H := ⟨vk_S.moved hvm h.1, va_Z.moved hvm h.2.1, va_Zq.moved hvm h.2.2.1, vx_Zq.moved hvm h.2.2.2.1, vx_Zq.moved hvm h.2.2.2.2⟩
theorem mE.kept {G : Gc} {A : Nat → Prop} {U : State} {H H1 : Heap} (h : mE G A U H) (hq : ∀ a : Nat, a < H.size → ¬ A a → H1[a]? = H[a]?) : mE G A U H1 := ⟨h.1.kept hq, h.2.1.kept hq, h.2.2.1.kept hq, h.2.2.2.1.kept hq, h.2.2.2.2.kept hq⟩
theorem mE.narrow {G : Gc} {A B : Nat → Prop} {U : State} {H : Heap} (h : mE G A U H) (hAB : ∀ q, B q → A q) : mE G B U H := ⟨h.1.narrow hAB, h.2.1.narrow hAB, h.2.2.1.narrow hAB, h.2.2.2.1.narrow hAB, h.2.2.2.2.narrow hAB⟩
/-- the world of a method's body -/
def Wd (G : Gc) (s : State) (A : Nat → Prop) (w : va_W) (H : Heap) (locs : List Loc) : Prop :=
  mK G s ∧ va_P G.1 vwCl w H ∧ va_D A w ∧ va_S A s.heap H locs ∧ (∀ q, s.heap.size ≤ q → A q) ∧ mE G A s s.heap
theorem Wd.sub {G : Gc} {s : State} {A : Nat → Prop} {w : va_W} {H : Heap} {locs : List Loc} (h : Wd G s A w H locs) (is : List Nat) {w' : va_W} (hn : va_nd is = true) (hs : is.map (fun i => w[i]?) = w'.map some) : Wd G s A w' H locs := by
  refine ⟨h.1, ?_, h.2.2.1.sub is hn hs, h.2.2.2⟩
  refine h.2.1.sub is ?_
  have : ∀ (l : List Nat) (v : va_W), l.map (fun i => w[i]?) = v.map some → l.filterMap (fun i => w[i]?) = v := by
    intro l
    induction l with
    | nil => intro v hv; cases v with
      | nil => rfl
      | cons a b => simp at hv
    | cons i l ih => intro v hv; cases v with
      | nil => simp at hv
      | cons a b =>
        simp only [List.map_cons, List.cons.injEq] at hv
        rw [List.filterMap_cons, hv.1]
        simp only [ih b hv.2]
  exact this is w' hs
abbrev rmD (d mc ms : Nat) : Room := { frames := d, cells := mc, slots := ms, locals := 40 * d }
def mPre (G : Gc) (av : List Value) (w : va_W) (sz : Nat) : Array Value → State → Prop := va_Pc av (fun U => U.heap.size = sz ∧ va_P G.1 vwCl w U.heap ∧ mK G U ∧ va_D (fun _ => True) w ∧ mE G (va_A w sz) U U.heap)
def mB (G : Gc) (A : Nat → Prop) (u : va_W) (t : State) : Prop := va_P G.1 vwCl u t.heap ∧ va_D A u
theorem mPre_blind (G : Gc) (av : List Value) (w : va_W) (sz : Nat) : FrameBlind (mPre G av w sz) := fun a U g mk q => by
  obtain ⟨q0, q1, q2, q3, q4, q5⟩ := q
  exact ⟨q0, q1, q2, mK.same (s := U) rfl q3, q4, mE.moved (u := U) (U := U.calling g mk a) (Vm.Alike.refl U.vm) q5⟩
/-- contracts: an int (or boolean ..), nothing, a long comes back -/
def Ci (l : Launch) (y : MethodName) (cc : ByteArray) (mL : Nat) (rt : Option FieldType) (d mc ms : Nat) (G : Gc) (av : List Value) (w : va_W) (post : Int32 → va_W → Prop) : Prop :=
  ∀ sz : Nat, Met l y (Cond.code y cc mL rt :: gw) (rmD d mc ms) (mPre G av w sz) (va_Qi post (mB G (va_A w sz)) (va_A w sz)) mc ms (va_A w sz)
def Cv (l : Launch) (y : MethodName) (cc : ByteArray) (mL : Nat) (d mc ms : Nat) (G : Gc) (av : List Value) (w : va_W) (post : va_W → Prop) : Prop :=
  ∀ sz : Nat, Met l y (Cond.code y cc mL none :: gw) (rmD d mc ms) (mPre G av w sz) (va_Qv post (mB G (va_A w sz)) (va_A w sz)) mc ms (va_A w sz)
def Cl (l : Launch) (y : MethodName) (cc : ByteArray) (mL : Nat) (d mc ms : Nat) (G : Gc) (av : List Value) (w : va_W) (post : Int64 → va_W → Prop) : Prop :=
  ∀ sz : Nat, Met l y (Cond.code y cc mL (some .long) :: gw) (rmD d mc ms) (mPre G av w sz) (va_Ql post (mB G (va_A w sz)) (va_A w sz)) mc ms (va_A w sz)
/-- what stands at a body's entry -/
def Bd (p : Program) (s : State) (m : MethodId) (args : Array Value) (meth : Method) (c : Code) (y : MethodName) (cc : ByteArray) (mL : Nat) (rt : Option FieldType) : Prop :=
  CallFix p m c cc mL s args gw y.cls ∧ meth.sig.returnType = rt ∧ meth.locks = false ∧ meth.name = y.name
theorem entry_of {l : Launch} {y : MethodName} {cc : ByteArray} {mL : Nat} {rt : Option FieldType} {d mc ms : Nat} {G : Gc} {av : List Value} {w : va_W} {Qc : Nat → Array Value → State → Outcome → State → Prop} (hy : plainName y.cls = true) (hL : (lg_sl av).length ≤ mL)
    (body : ∀ (p : Program) (e : Env) (s : State) (m : MethodId) (below : List Frame) (meth : Method) (c : Code) (ls : Array Slot), Bd p s m av.toArray meth c y cc mL rt → Wd G s (va_A w s.heap.size) w s.heap [] → lv_has ls mL (lv_args 0 av) →
      W p l e (rmD d mc ms) s m av.toArray below meth c s.heap [] 0 0 (MQ below (Qc s.heap.size) av.toArray s mc ms (va_A w s.heap.size)) (F0 m 0 ls [])) (sz : Nat) :
    Met l y (Cond.code y cc mL rt :: gw) (rmD d mc ms) (mPre G av w sz) (Qc sz) mc ms (va_A w sz) := by
  refine Met.ofW (cc := cc) (maxL := mL) (ret := rt) hy rfl ?_
  intro p e s m args below meth c s₁ B hml hv
  obtain ⟨rfl, hsz, hP, hK, hD0, hE⟩ := hv
  subst hsz
  have hts := atoms_spec (ws := Cond.code y cc mL rt :: gw) B.pre
  rw [lg_entry_eq]
  exact body p e s m below meth c _ ⟨⟨B.exec, B.bytes, hml, findClass_of_methodNamed B.named, fun w h => hts w (List.mem_cons_of_mem _ h)⟩, B.returns, B.notSynchronized, (name_of_methodNamed B.named B.method).1⟩ ⟨hK, hP, hD0.self, va_S.rf, fun q h => Or.inr h, hE⟩ (lv_entry av hL)
theorem Ci.of {l : Launch} {y : MethodName} {cc : ByteArray} {mL : Nat} {rt : Option FieldType} {d mc ms : Nat} {G : Gc} {av : List Value} {w : va_W} {post : Int32 → va_W → Prop} (hy : plainName y.cls = true) (hL : (lg_sl av).length ≤ mL)
    (body : ∀ (p : Program) (e : Env) (s : State) (m : MethodId) (below : List Frame) (meth : Method) (c : Code) (ls : Array Slot) (A : Nat → Prop), Bd p s m av.toArray meth c y cc mL rt → Wd G s A w s.heap [] → lv_has ls mL (lv_args 0 av) →
      W p l e (rmD d mc ms) s m av.toArray below meth c s.heap [] 0 0 (MQ below (va_Qi post (mB G A) A) av.toArray s mc ms A) (F0 m 0 ls [])) : Ci l y cc mL rt d mc ms G av w post :=
  fun sz => entry_of (Qc := fun z => va_Qi post (mB G (va_A w z)) (va_A w z)) hy hL (fun p e s m below meth c ls B hw hl => body p e s m below meth c ls _ B hw hl) sz
theorem Cv.of {l : Launch} {y : MethodName} {cc : ByteArray} {mL : Nat} {d mc ms : Nat} {G : Gc} {av : List Value} {w : va_W} {post : va_W → Prop} (hy : plainName y.cls = true) (hL : (lg_sl av).length ≤ mL)
    (body : ∀ (p : Program) (e : Env) (s : State) (m : MethodId) (below : List Frame) (meth : Method) (c : Code) (ls : Array Slot) (A : Nat → Prop), Bd p s m av.toArray meth c y cc mL none → Wd G s A w s.heap [] → lv_has ls mL (lv_args 0 av) →
      W p l e (rmD d mc ms) s m av.toArray below meth c s.heap [] 0 0 (MQ below (va_Qv post (mB G A) A) av.toArray s mc ms A) (F0 m 0 ls [])) : Cv l y cc mL d mc ms G av w post :=
  fun sz => entry_of (Qc := fun z => va_Qv post (mB G (va_A w z)) (va_A w z)) hy hL (fun p e s m below meth c ls B hw hl => body p e s m below meth c ls _ B hw hl) sz
theorem Cl.of {l : Launch} {y : MethodName} {cc : ByteArray} {mL : Nat} {d mc ms : Nat} {G : Gc} {av : List Value} {w : va_W} {post : Int64 → va_W → Prop} (hy : plainName y.cls = true) (hL : (lg_sl av).length ≤ mL)
    (body : ∀ (p : Program) (e : Env) (s : State) (m : MethodId) (below : List Frame) (meth : Method) (c : Code) (ls : Array Slot) (A : Nat → Prop), Bd p s m av.toArray meth c y cc mL (some .long) → Wd G s A w s.heap [] → lv_has ls mL (lv_args 0 av) →
      W p l e (rmD d mc ms) s m av.toArray below meth c s.heap [] 0 0 (MQ below (va_Ql post (mB G A) A) av.toArray s mc ms A) (F0 m 0 ls [])) : Cl l y cc mL d mc ms G av w post :=
  fun sz => entry_of (Qc := fun z => va_Ql post (mB G (va_A w z)) (va_A w z)) hy hL (fun p e s m below meth c ls B hw hl => body p e s m below meth c ls _ B hw hl) sz
section XR
variable {p : Program} {l : Launch} {e : Env} {R : Room} {s : State} {m : MethodId} {args : Array Value} {below : List Frame} {meth : Method} {c : Code} {H : Heap} {locs : List Loc} {cells slots : Nat} {Q : State → Prop}
variable {cc : ByteArray} {pc : Nat} {ls : Array Slot} {rest : List Value} {A : Nat → Prop} {a : Nat} {w w' : va_W} {G : Gc} {nL mc ms : Nat} {own : String} {y : MethodName} {rt : Option FieldType}
theorem x_reti {post : Int32 → va_W → Prop} {v : Int32} {u : va_W} (B : Bd p s m args meth c y cc nL (some .int)) (h : Wd G s A u H locs) (hp : post v u) (hc : cells ≤ mc) (hs : slots ≤ ms) (hdg : decode cc pc = .ok (.ireturn, 1)) :
    W p l e R s m args below meth c H locs cells slots (MQ below (va_Qi post (mB G A) A) args s mc ms A) (F0 m pc ls [.int v]) :=
  W.widen hc hs (W.iret B.1.1 B.1.2.1 B.2.1 (fun t ht hW => ⟨⟨v, u, rfl, hp, by rw [ht]; exact h.2.1, h.2.2.1⟩, h.2.2.2.1.F ht⟩) h.2.2.2.1.2.2 hdg B.2.2.1)
theorem x_retz {post : Int32 → va_W → Prop} {v : Int32} {u : va_W} {ty : FieldType} (B : Bd p s m args meth c y cc nL (some ty)) (h : Wd G s A u H locs) (hn : narrow ty (.int v) = .int v) (hp : post v u) (hc : cells ≤ mc) (hs : slots ≤ ms) (hdg : decode cc pc = .ok (.ireturn, 1)) :
    W p l e R s m args below meth c H locs cells slots (MQ below (va_Qi post (mB G A) A) args s mc ms A) (F0 m pc ls [.int v]) :=
  W.widen hc hs (W.zret B.1.1 B.1.2.1 B.2.1 hn (fun t ht hW => ⟨⟨v, u, rfl, hp, by rw [ht]; exact h.2.1, h.2.2.1⟩, h.2.2.2.1.F ht⟩) h.2.2.2.1.2.2 hdg B.2.2.1)
theorem x_retv {post : va_W → Prop} {u : va_W} (B : Bd p s m args meth c y cc nL none) (h : Wd G s A u H locs) (hp : post u) (hc : cells ≤ mc) (hs : slots ≤ ms) (hdg : decode cc pc = .ok (.return_, 1)) :
    W p l e R s m args below meth c H locs cells slots (MQ below (va_Qv post (mB G A) A) args s mc ms A) (F0 m pc ls []) :=
  W.widen hc hs (W.vret B.1.1 B.1.2.1 B.2.1 (fun t ht hW => ⟨⟨u, rfl, hp, by rw [ht]; exact h.2.1, h.2.2.1⟩, h.2.2.2.1.F ht⟩) h.2.2.2.1.2.2 hdg B.2.2.1)
theorem x_retl {post : Int64 → va_W → Prop} {v : Int64} {u : va_W} (B : Bd p s m args meth c y cc nL (some .long)) (h : Wd G s A u H locs) (hp : post v u) (hc : cells ≤ mc) (hs : slots ≤ ms) (hdg : decode cc pc = .ok (.lreturn, 1)) :
    W p l e R s m args below meth c H locs cells slots (MQ below (va_Ql post (mB G A) A) args s mc ms A) (F0 m pc ls [.long v]) :=
  W.widen hc hs (W.lret B.1.1 B.1.2.1 B.2.1 (fun t ht hW => ⟨⟨v, u, rfl, hp, by rw [ht]; exact h.2.1, h.2.2.1⟩, h.2.2.2.1.F ht⟩) h.2.2.2.1.2.2 hdg B.2.2.1)
theorem x_get (C : CallFix p m c cc nL s args gw own) (h : Wd G s A w H locs) {cn : String} {T : u_T} {N : Nat} {index : Nat} (hin : ∀ w ∈ u_ws cn T N, w ∈ gw) (ci : Nat) (hc : vwCl[ci]? = some (cn, T, N)) (q0 : Nat) {fs : List Value} (he : w[q0]? = some (a, .inr (ci, fs))) (k : Nat) (hk : k < N) (hlink : Cond.fieldLink own index (T k).1 (T k).2.1 (T k).2.2.1 ∈ gw) {v : Value} (hv : fs[k]? = some v) (hdg : decode cc pc = .ok (.getfield index, 3))
    (kk : W p l e R s m args below meth c H locs cells slots Q (F0 m (pc + 3) ls (v :: rest))) : W p l e R s m args below meth c H locs cells slots Q (F0 m pc ls (.ref a :: rest)) :=
  va_get C.1 C.2.1 C.2.2.2.2 hin C.2.2.2.1 h.1.1 h.2.1 q0 he hc k hk (C.2.2.2.2 _ hlink) (fun _ h9 => h9) hv hdg kk
theorem x_put (C : CallFix p m c cc nL s args gw own) (h : Wd G s A w H locs) {cn : String} {T : u_T} {N : Nat} {index : Nat} (hin : ∀ w ∈ u_ws cn T N, w ∈ gw) {ty0 : Nat → FieldType} (hty : ∀ k, k < N → parseFieldDescriptor (T k).2.2.1 = some (ty0 k)) (hnm : ∀ a, a < N → ∀ b, b < N → a ≠ b → (T a).2.1 ≠ (T b).2.1) (ci : Nat) (hc : vwCl[ci]? = some (cn, T, N)) (q0 : Nat) {fs : List Value} (he : w[q0]? = some (a, .inr (ci, fs))) (k : Nat) (hk : k < N) (hlink : Cond.fieldLink own index (T k).1 (T k).2.1 (T k).2.2.1 ∈ gw) (hfin : (T k).2.2.2 = false) {v : Value} (hn : narrow (ty0 k) v = v) (hfit : fits (ty0 k) v = true) (hl : k < fs.length) (hw : w.set q0 (a, .inr (ci, fs.set k v)) = w')
    (hdg : decode cc pc = .ok (.putfield index, 3)) (kk : ∀ (H1 : Heap) (locs1 : List Loc), Wd G s A w' H1 locs1 → W p l e R s m args below meth c H1 locs1 cells slots Q (F0 m (pc + 3) ls rest)) : W p l e R s m args below meth c H locs cells slots Q (F0 m pc ls (v :: .ref a :: rest)) :=
  va_put C.1 C.2.1 C.2.2.2.2 hin ty0 hty hnm C.2.2.2.1 h.1.1 h.2.1 h.2.2.1 h.2.2.2.1 q0 he hc k hk (C.2.2.2.2 _ hlink) (fun _ h9 => h9) hfin (hty k hk) hn hfit hl hdg (fun H1 L1 hP hD hS => kk H1 L1 ⟨h.1, hw ▸ hP, hw ▸ hD, hS, h.2.2.2.2⟩)
theorem x_putF (C : CallFix p m c cc nL s args gw own) (h : Wd G s A w H locs) {cn : String} {T : u_T} {N : Nat} {index : Nat} (hin : ∀ w ∈ u_ws cn T N, w ∈ gw) {ty0 : Nat → FieldType} (hty : ∀ k, k < N → parseFieldDescriptor (T k).2.2.1 = some (ty0 k)) (hnm : ∀ a, a < N → ∀ b, b < N → a ≠ b → (T a).2.1 ≠ (T b).2.1) (hin2 : meth.name = "<init>") (ci : Nat) (hc : vwCl[ci]? = some (cn, T, N)) (q0 : Nat) {fs : List Value} (he : w[q0]? = some (a, .inr (ci, fs))) (k : Nat) (hk : k < N) (hlink : Cond.fieldLink own index (T k).1 (T k).2.1 (T k).2.2.1 ∈ gw) (hfin : (T k).2.2.2 = true) (hdecl : (T k).1 = own) {v : Value} (hn : narrow (ty0 k) v = v) (hfit : fits (ty0 k) v = true) (hl : k < fs.length) (hw : w.set q0 (a, .inr (ci, fs.set k v)) = w')
    (hdg : decode cc pc = .ok (.putfield index, 3)) (kk : ∀ (H1 : Heap) (locs1 : List Loc), Wd G s A w' H1 locs1 → W p l e R s m args below meth c H1 locs1 cells slots Q (F0 m (pc + 3) ls rest)) : W p l e R s m args below meth c H locs cells slots Q (F0 m pc ls (v :: .ref a :: rest)) :=
  va_putF C.1 C.2.1 C.2.2.2.2 hin ty0 hty hnm C.2.2.2.1 h.1.1 h.2.1 h.2.2.1 h.2.2.2.1 q0 he hc k hk (C.2.2.2.2 _ hlink) (fun _ h9 => h9) hfin hin2 hdecl (hty k hk) hn hfit hl hdg (fun H1 L1 hP hD hS => kk H1 L1 ⟨h.1, hw ▸ hP, hw ▸ hD, hS, h.2.2.2.2⟩)
theorem x_iald (C : CallFix p m c cc nL s args gw own) (h : Wd G s A w H locs) (q0 : Nat) {n : Nat} {f : Nat → Int32} (he : w[q0]? = some (a, eI G n f)) {i v : Int32} (hin : vp_in i n) (hv : f i.toNatClampNeg = v) (hdg : decode cc pc = .ok (.iaload, 1))
    (kk : W p l e R s m args below meth c H locs cells slots Q (F0 m (pc + 1) ls (.int v :: rest))) : W p l e R s m args below meth c H locs cells slots Q (F0 m pc ls (.int i :: .ref a :: rest)) :=
  va_iald C.1 C.2.1 h.1.1 h.2.1 q0 2 he rfl hin hdg (hv ▸ kk)
theorem x_iast (C : CallFix p m c cc nL s args gw own) (h : Wd G s A w H locs) (q0 : Nat) {n : Nat} {f f' : Nat → Int32} (he : w[q0]? = some (a, eI G n f)) {i x : Int32} (hin : vp_in i n) (hf : upd f i.toNatClampNeg x = f') (hw : w.set q0 (a, eI G n f') = w') (hdg : decode cc pc = .ok (.iastore, 1))
    (kk : ∀ (H1 : Heap) (locs1 : List Loc), Wd G s A w' H1 locs1 → W p l e R s m args below meth c H1 locs1 cells slots Q (F0 m (pc + 1) ls rest)) : W p l e R s m args below meth c H locs cells slots Q (F0 m pc ls (.int x :: .int i :: .ref a :: rest)) :=
  va_iast C.1 C.2.1 h.1.1 h.2.1 h.2.2.1 h.2.2.2.1 q0 2 he rfl hin hdg (fun H1 L1 hP hD hS => kk H1 L1 ⟨h.1, by rw [← hw, ← hf]; exact hP, by rw [← hw, ← hf]; exact hD, hS, h.2.2.2.2⟩)
theorem x_lald (C : CallFix p m c cc nL s args gw own) (h : Wd G s A w H locs) (q0 : Nat) {n : Nat} {f : Nat → Int64} (he : w[q0]? = some (a, eJ G n f)) {i : Int32} {v : Int64} (hin : vp_in i n) (hv : f i.toNatClampNeg = v) (hdg : decode cc pc = .ok (.laload, 1))
    (kk : W p l e R s m args below meth c H locs cells slots Q (F0 m (pc + 1) ls (.long v :: rest))) : W p l e R s m args below meth c H locs cells slots Q (F0 m pc ls (.int i :: .ref a :: rest)) :=
  va_lald C.1 C.2.1 h.1.1 h.2.1 q0 3 he rfl hin hdg (hv ▸ kk)
theorem x_last (C : CallFix p m c cc nL s args gw own) (h : Wd G s A w H locs) (q0 : Nat) {n : Nat} {f f' : Nat → Int64} (he : w[q0]? = some (a, eJ G n f)) {i : Int32} {x : Int64} (hin : vp_in i n) (hf : vp_updL f i.toNatClampNeg x = f') (hw : w.set q0 (a, eJ G n f') = w') (hdg : decode cc pc = .ok (.lastore, 1))
    (kk : ∀ (H1 : Heap) (locs1 : List Loc), Wd G s A w' H1 locs1 → W p l e R s m args below meth c H1 locs1 cells slots Q (F0 m (pc + 1) ls rest)) : W p l e R s m args below meth c H locs cells slots Q (F0 m pc ls (.long x :: .int i :: .ref a :: rest)) :=
  va_last C.1 C.2.1 h.1.1 h.2.1 h.2.2.1 h.2.2.2.1 q0 3 he rfl hin hdg (fun H1 L1 hP hD hS => kk H1 L1 ⟨h.1, by rw [← hw, ← hf]; exact hP, by rw [← hw, ← hf]; exact hD, hS, h.2.2.2.2⟩)
theorem x_bald (C : CallFix p m c cc nL s args gw own) (h : Wd G s A w H locs) (q0 : Nat) {n : Nat} {f : Nat → Int32} (he : w[q0]? = some (a, eB G n f)) {i v : Int32} (hin : vp_in i n) (hv : f i.toNatClampNeg = v) (hdg : decode cc pc = .ok (.baload, 1))
    (kk : W p l e R s m args below meth c H locs cells slots Q (F0 m (pc + 1) ls (.int v :: rest))) : W p l e R s m args below meth c H locs cells slots Q (F0 m pc ls (.int i :: .ref a :: rest)) :=
  va_bald C.1 C.2.1 h.1.1 h.2.1 q0 0 he rfl hin hdg (hv ▸ kk)
theorem x_bast (C : CallFix p m c cc nL s args gw own) (h : Wd G s A w H locs) (q0 : Nat) {n : Nat} {f f' : Nat → Int32} (he : w[q0]? = some (a, eB G n f)) {i x : Int32} (hin : vp_in i n) (hf : upd f i.toNatClampNeg (vp_nar .byte x) = f') (hw : w.set q0 (a, eB G n f') = w') (hdg : decode cc pc = .ok (.bastore, 1))
    (kk : ∀ (H1 : Heap) (locs1 : List Loc), Wd G s A w' H1 locs1 → W p l e R s m args below meth c H1 locs1 cells slots Q (F0 m (pc + 1) ls rest)) : W p l e R s m args below meth c H locs cells slots Q (F0 m pc ls (.int x :: .int i :: .ref a :: rest)) :=
  va_bast C.1 C.2.1 h.1.1 h.2.1 h.2.2.1 h.2.2.2.1 q0 0 he rfl hin hdg (fun H1 L1 hP hD hS => kk H1 L1 ⟨h.1, by rw [← hw, ← hf]; exact hP, by rw [← hw, ← hf]; exact hD, hS, h.2.2.2.2⟩)
theorem x_zald (C : CallFix p m c cc nL s args gw own) (h : Wd G s A w H locs) (q0 : Nat) {n : Nat} {f : Nat → Int32} (he : w[q0]? = some (a, eZ G n f)) {i v : Int32} (hin : vp_in i n) (hv : f i.toNatClampNeg = v) (hdg : decode cc pc = .ok (.baload, 1))
    (kk : W p l e R s m args below meth c H locs cells slots Q (F0 m (pc + 1) ls (.int v :: rest))) : W p l e R s m args below meth c H locs cells slots Q (F0 m pc ls (.int i :: .ref a :: rest)) :=
  va_zald C.1 C.2.1 h.1.1 h.2.1 q0 4 he rfl hin hdg (hv ▸ kk)
theorem x_zast (C : CallFix p m c cc nL s args gw own) (h : Wd G s A w H locs) (q0 : Nat) {n : Nat} {f f' : Nat → Int32} (he : w[q0]? = some (a, eZ G n f)) {i x : Int32} (hin : vp_in i n) (hf : upd f i.toNatClampNeg (vp_nar .boolean x) = f') (hw : w.set q0 (a, eZ G n f') = w') (hdg : decode cc pc = .ok (.bastore, 1))
    (kk : ∀ (H1 : Heap) (locs1 : List Loc), Wd G s A w' H1 locs1 → W p l e R s m args below meth c H1 locs1 cells slots Q (F0 m (pc + 1) ls rest)) : W p l e R s m args below meth c H locs cells slots Q (F0 m pc ls (.int x :: .int i :: .ref a :: rest)) :=
  va_zast C.1 C.2.1 h.1.1 h.2.1 h.2.2.1 h.2.2.2.1 q0 4 he rfl hin hdg (fun H1 L1 hP hD hS => kk H1 L1 ⟨h.1, by rw [← hw, ← hf]; exact hP, by rw [← hw, ← hf]; exact hD, hS, h.2.2.2.2⟩)
theorem x_cald (C : CallFix p m c cc nL s args gw own) (h : Wd G s A w H locs) (q0 : Nat) {n : Nat} {f : Nat → Int32} (he : w[q0]? = some (a, eC G n f)) {i v : Int32} (hin : vp_in i n) (hv : f i.toNatClampNeg = v) (hdg : decode cc pc = .ok (.caload, 1))
    (kk : W p l e R s m args below meth c H locs cells slots Q (F0 m (pc + 1) ls (.int v :: rest))) : W p l e R s m args below meth c H locs cells slots Q (F0 m pc ls (.int i :: .ref a :: rest)) :=
  va_cald C.1 C.2.1 h.1.1 h.2.1 q0 1 he rfl hin hdg (hv ▸ kk)
theorem x_cast (C : CallFix p m c cc nL s args gw own) (h : Wd G s A w H locs) (q0 : Nat) {n : Nat} {f f' : Nat → Int32} (he : w[q0]? = some (a, eC G n f)) {i x : Int32} (hin : vp_in i n) (hf : upd f i.toNatClampNeg (vp_nar .char x) = f') (hw : w.set q0 (a, eC G n f') = w') (hdg : decode cc pc = .ok (.castore, 1))
    (kk : ∀ (H1 : Heap) (locs1 : List Loc), Wd G s A w' H1 locs1 → W p l e R s m args below meth c H1 locs1 cells slots Q (F0 m (pc + 1) ls rest)) : W p l e R s m args below meth c H locs cells slots Q (F0 m pc ls (.int x :: .int i :: .ref a :: rest)) :=
  va_cast C.1 C.2.1 h.1.1 h.2.1 h.2.2.1 h.2.2.2.1 q0 1 he rfl hin hdg (fun H1 L1 hP hD hS => kk H1 L1 ⟨h.1, by rw [← hw, ← hf]; exact hP, by rw [← hw, ← hf]; exact hD, hS, h.2.2.2.2⟩)
theorem x_aldSt (C : CallFix p m c cc nL s args gw own) (h : Wd G s A w H locs) (q0 : Nat) {n : Nat} {f : Nat → Option Nat} (he : w[q0]? = some (a, eSt G n f)) {i : Int32} {b : Nat} (hin : vp_in i n) (hv : f i.toNatClampNeg = some b) (hdg : decode cc pc = .ok (.aaload, 1))
    (kk : W p l e R s m args below meth c H locs cells slots Q (F0 m (pc + 1) ls (.ref b :: rest))) : W p l e R s m args below meth c H locs cells slots Q (F0 m pc ls (.int i :: .ref a :: rest)) :=
  va_aldq C.1 C.2.1 h.1.1 h.2.1 q0 6 he rfl hin hdg (by rw [hv]; exact kk)
theorem x_aldIm (C : CallFix p m c cc nL s args gw own) (h : Wd G s A w H locs) (q0 : Nat) {n : Nat} {f : Nat → Option Nat} (he : w[q0]? = some (a, eIm G n f)) {i : Int32} {b : Nat} (hin : vp_in i n) (hv : f i.toNatClampNeg = some b) (hdg : decode cc pc = .ok (.aaload, 1))
    (kk : W p l e R s m args below meth c H locs cells slots Q (F0 m (pc + 1) ls (.ref b :: rest))) : W p l e R s m args below meth c H locs cells slots Q (F0 m pc ls (.int i :: .ref a :: rest)) :=
  va_aldq C.1 C.2.1 h.1.1 h.2.1 q0 5 he rfl hin hdg (by rw [hv]; exact kk)
theorem x_astSt (C : CallFix p m c cc nL s args gw own) (h : Wd G s A w H locs) (q0 qk : Nat) {n v : Nat} {vs : List Value} {f f' : Nat → Option Nat} (he : w[q0]? = some (a, eSt G n f)) (hv : w[qk]? = some (v, .inr (7, vs))) {i : Int32} (hin : vp_in i n) (hf : va_up f i.toNatClampNeg (some v) = f') (hw : w.set q0 (a, eSt G n f') = w') (hdg : decode cc pc = .ok (.aastore, 1))
    (kk : ∀ (H1 : Heap) (locs1 : List Loc), Wd G s A w' H1 locs1 → W p l e R s m args below meth c H1 locs1 cells slots Q (F0 m (pc + 1) ls rest)) : W p l e R s m args below meth c H locs cells slots Q (F0 m pc ls (.ref v :: .int i :: .ref a :: rest)) :=
  va_astq (r := (RX8, TX8, 11)) C.1 C.2.1 h.1.1 h.2.1 h.2.2.1 h.2.2.2.1 q0 6 qk 7 he rfl hv rfl hin hdg (fun H1 L1 hP hD hS => kk H1 L1 ⟨h.1, by rw [← hw, ← hf]; exact hP, by rw [← hw, ← hf]; exact hD, hS, h.2.2.2.2⟩)
theorem x_astIm (C : CallFix p m c cc nL s args gw own) (h : Wd G s A w H locs) (q0 qk : Nat) {n v : Nat} {vs : List Value} {f f' : Nat → Option Nat} (he : w[q0]? = some (a, eIm G n f)) (hv : w[qk]? = some (v, .inr (3, vs))) {i : Int32} (hin : vp_in i n) (hf : va_up f i.toNatClampNeg (some v) = f') (hw : w.set q0 (a, eIm G n f') = w') (hdg : decode cc pc = .ok (.aastore, 1))
    (kk : ∀ (H1 : Heap) (locs1 : List Loc), Wd G s A w' H1 locs1 → W p l e R s m args below meth c H1 locs1 cells slots Q (F0 m (pc + 1) ls rest)) : W p l e R s m args below meth c H locs cells slots Q (F0 m pc ls (.ref v :: .int i :: .ref a :: rest)) :=
  va_astq (r := (RX3, TX3, 4)) C.1 C.2.1 h.1.1 h.2.1 h.2.2.1 h.2.2.2.1 q0 5 qk 3 he rfl hv rfl hin hdg (fun H1 L1 hP hD hS => kk H1 L1 ⟨h.1, by rw [← hw, ← hf]; exact hP, by rw [← hw, ← hf]; exact hD, hS, h.2.2.2.2⟩)
/-- arraylength: t0 is the array's kind -/
theorem x_alen (C : CallFix p m c cc nL s args gw own) (h : Wd G s A w H locs) (q0 t0 : Nat) {cA : ClassId} {x : vp_A} (he : w[q0]? = some (a, .inl (cA, x))) {ty : FieldType} (ht : (tysG G)[t0]? = some (cA, ty)) {v : Int32} (hv : Int32.ofNat x.1 = v) (hdg : decode cc pc = .ok (.arraylength, 1))
    (kk : W p l e R s m args below meth c H locs cells slots Q (F0 m (pc + 1) ls (.int v :: rest))) : W p l e R s m args below meth c H locs cells slots Q (F0 m pc ls (.ref a :: rest)) :=
  va_alen C.1 C.2.1 h.1.1 h.2.1 q0 t0 he ht hv hdg kk
theorem x_topi {x z : Int32} (hz : x = z) (k : W p l e R s m args below meth c H locs cells slots Q (F0 m pc ls (.int z :: rest))) : W p l e R s m args below meth c H locs cells slots Q (F0 m pc ls (.int x :: rest)) := hz ▸ k
theorem x_topl {x z : Int64} (hz : x = z) (k : W p l e R s m args below meth c H locs cells slots Q (F0 m pc ls (.long z :: rest))) : W p l e R s m args below meth c H locs cells slots Q (F0 m pc ls (.long x :: rest)) := hz ▸ k
theorem RA_inj {c1 c2 : ClassId} {ty : FieldType} (h1 : va_RA s c1 ty) (h2 : va_RA s c2 ty) : c1 = c2 := by
  cases ty with
  | object C =>
    obtain ⟨_, _, _, _, _, a⟩ := h1
    obtain ⟨_, _, _, _, _, b⟩ := h2
    exact Option.some.inj (a.symm.trans b)
  | _ =>
    first
      | exact Option.some.inj (Eq.trans (Eq.symm h1) h2)
theorem x_newa (C : CallFix p m c cc nL s args gw own) (h : Wd G s A w H locs) {atype : ArrayType} {ty : FieldType} (hty : newarray.typeOf atype = ty) (t0 : Nat) {cA : ClassId} (ht : (tysG G)[t0]? = some (cA, ty)) (hg : Cond.arrayClass ty ∈ gw) {n : Int32} {N : Nat} {a0 : vp_A} (ha : ∀ cA : ClassId, vp_cell cA a0 = arrV cA N (fun _ => defaultValue ty)) (hn : ¬ n < 0) (hN : n.toNatClampNeg = N) (hbytes : N * componentBytes ty ≤ 536870912) (hcells : cells + 1 ≤ R.cells) (hslots : slots + N ≤ R.slots) (hdg : decode cc pc = .ok (.newarray atype, 2))
    (kk : ∀ (q : Nat) (H1 : Heap), Wd G s A (w ++ [(q, .inl (cA, a0))]) H1 locs → W p l e R s m args below meth c H1 locs (cells + 1) (slots + N) Q (F0 m (pc + 2) ls (.ref q :: rest))) : W p l e R s m args below meth c H locs cells slots Q (F0 m pc ls (.int n :: rest)) := by
  subst hty
  refine va_newa C.1 C.2.1 (C.2.2.2.2 _ hg) rfl h.1.1 h.2.1 h.2.2.1 h.2.2.2.1 h.2.2.2.2.1 ha hn hN hbytes hcells hslots hdg (fun q cB H1 hK hP hD hS => ?_)
  have e1 : cB = cA := RA_inj (hK.2 7 _ rfl).2 (h.1.1.2 t0 _ ht).2
  subst e1
  exact kk q H1 ⟨h.1, hP, hD, hS, h.2.2.2.2⟩
theorem x_newq (C : CallFix p m c cc nL s args gw own) (h : Wd G s A w H locs) {Cn : String} {index : Nat} (t0 : Nat) {cA : ClassId} (ht : (tysG G)[t0]? = some (cA, .object Cn)) (hcl : Cond.classLink own index Cn ∈ gw) (hover : va_AO Cn s) {n : Int32} {N : Nat} (hn : ¬ n < 0) (hN : n.toNatClampNeg = N) (hbytes : N * 4 ≤ 536870912) (hcells : cells + 1 ≤ R.cells) (hslots : slots + N ≤ R.slots) (hdg : decode cc pc = .ok (.anewarray index, 3))
    (kk : ∀ (q : Nat) (H1 : Heap), Wd G s A (w ++ [(q, .inl (cA, N, .inr (.inr (.inr (.inr (fun _ => none))))))]) H1 locs → W p l e R s m args below meth c H1 locs (cells + 1) (slots + N) Q (F0 m (pc + 3) ls (.ref q :: rest))) : W p l e R s m args below meth c H locs cells slots Q (F0 m pc ls (.int n :: rest)) := by
  refine va_newq C.1 C.2.1 C.2.2.2.1 (C.2.2.2.2 _ hcl) hover h.1.1 h.2.1 h.2.2.1 h.2.2.2.1 h.2.2.2.2.1 hn hN hbytes hcells hslots hdg (fun q cB H1 hK hP hD hS => ?_)
  have e1 : cB = cA := RA_inj (hK.2 7 _ rfl).2 (h.1.1.2 t0 _ ht).2
  subst e1
  exact kk q H1 ⟨h.1, hP, hD, hS, h.2.2.2.2⟩
theorem x_new (C : CallFix p m c cc nL s args gw own) (h : Wd G s A w H locs) {cn : String} {T : u_T} {N : Nat} {index : Nat} (hin : ∀ w ∈ u_ws cn T N, w ∈ gw) {ty0 : Nat → FieldType} (hty : ∀ k, k < N → parseFieldDescriptor (T k).2.2.1 = some (ty0 k)) (ci : Nat) (hc : vwCl[ci]? = some (cn, T, N)) (hcl : Cond.classLink own index cn ∈ gw) (hinst : Cond.instantiable cn N ∈ gw) (hini : Cond.initialized cn ∈ gw) {fs : List Value} (hfs : ∀ j, j < N → defaultValue (ty0 j) = vp_V fs j) (hcells : cells + 1 ≤ R.cells) (hslots : slots + N ≤ R.slots) (hdg : decode cc pc = .ok (.new index, 3))
    (kk : ∀ (q : Nat) (H1 : Heap), Wd G s A (w ++ [(q, .inr (ci, fs))]) H1 locs → W p l e R s m args below meth c H1 locs (cells + 1) (slots + N) Q (F0 m (pc + 3) ls (.ref q :: rest))) : W p l e R s m args below meth c H locs cells slots Q (F0 m pc ls rest) :=
  va_new C.1 C.2.1 C.2.2.2.2 hin ty0 hty C.2.2.2.1 (C.2.2.2.2 _ hcl) (C.2.2.2.2 _ hinst) (C.2.2.2.2 _ hini) h.1.1 h.2.1 h.2.2.1 h.2.2.2.1 h.2.2.2.2.1 hc hfs hcells hslots hdg (fun q H1 hP hD hS => kk q H1 ⟨h.1, hP, hD, hS, h.2.2.2.2⟩)
theorem x_objInit (C : CallFix p m c cc nL s args gw own) {index : Nat} (hlink : Cond.methodLink own index Lib.objectInit ∈ gw) (hsz : ls.size = nL) (hframes : 1 ≤ R.frames) (hlocals : (rest.map fun v => v.category).sum + 12 ≤ R.locals) (hdg : decode cc pc = .ok (.invokespecial index, 3))
    (kk : W p l e R s m args below meth c H locs cells slots Q (F0 m (pc + 3) ls rest)) : W p l e R s m args below meth c H locs cells slots Q (F0 m pc ls (.ref a :: rest)) :=
  W.objInit C.1 C.2.1 C.2.2.2.1 (C.2.2.2.2 _ hlink) (C.2.2.2.2 _ kw30) (C.2.2.2.2 _ kw31) rfl (by rw [C.2.2.1]; exact hsz) rfl hdg hframes (by show 2 * 0 + _ + 12 ≤ _; omega) kk
theorem x_copyi (C : CallFix p m c cc nL s args gw own) (h : Wd G s A w H locs) {index : Nat} (hlink : Cond.methodLink own index arraycopyName ∈ gw) (hsz : ls.size = nL) (q0 q1 : Nat) {a0 n0 n1 : Nat} {f g g' : Nat → Int32} (ha0 : w[q0]? = some (a0, eI G n0 f)) (ha1 : w[q1]? = some (a, eI G n1 g))
    {sp dp n : Int32} (h1 : ¬ sp < 0) (h2 : ¬ dp < 0) (h3 : ¬ n < 0) (h4 : sp.toNatClampNeg + n.toNatClampNeg ≤ n0) (h5 : dp.toNatClampNeg + n.toNatClampNeg ≤ n1) (hg : va_cpy f g sp.toNatClampNeg dp.toNatClampNeg n.toNatClampNeg = g') (hw : w.set q1 (a, eI G n1 g') = w')
    (hframes : 1 ≤ R.frames) (hlocals : (rest.map fun v => v.category).sum + (nativeFrameWords "java/lang/System" "arraycopy" 5 + 11) ≤ R.locals) (hdg : decode cc pc = .ok (.invokestatic index, 3))
    (kk : ∀ (H1 : Heap) (locs1 : List Loc), Wd G s A w' H1 locs1 → W p l e R s m args below meth c H1 locs1 cells slots Q (F0 m (pc + 3) ls rest)) : W p l e R s m args below meth c H locs cells slots Q (F0 m pc ls (.int n :: .int dp :: .ref a :: .int sp :: .ref a0 :: rest)) :=
  va_copyi C.1 C.2.1 (C.2.2.1.trans hsz.symm) C.2.2.2.1 (C.2.2.2.2 _ hlink) (C.2.2.2.2 _ kw632) (C.2.2.2.2 _ kw631) (C.2.2.2.2 _ kw17) h.1.1 h.2.1 h.2.2.1 h.2.2.2.1 q0 q1 2 2 ha0 ha1 rfl rfl rfl h1 h2 h3 h4 h5 (fun _ _ => rfl) hframes hlocals hdg (fun H1 L1 hP hD hS => kk H1 L1 ⟨h.1, by rw [← hw, ← hg]; exact hP, by rw [← hw, ← hg]; exact hD, hS, h.2.2.2.2⟩)
theorem x_copyl (C : CallFix p m c cc nL s args gw own) (h : Wd G s A w H locs) {index : Nat} (hlink : Cond.methodLink own index arraycopyName ∈ gw) (hsz : ls.size = nL) (q0 q1 : Nat) {a0 n0 n1 : Nat} {f g g' : Nat → Int64} (ha0 : w[q0]? = some (a0, eJ G n0 f)) (ha1 : w[q1]? = some (a, eJ G n1 g))
    {sp dp n : Int32} (h1 : ¬ sp < 0) (h2 : ¬ dp < 0) (h3 : ¬ n < 0) (h4 : sp.toNatClampNeg + n.toNatClampNeg ≤ n0) (h5 : dp.toNatClampNeg + n.toNatClampNeg ≤ n1) (hg : va_cpy f g sp.toNatClampNeg dp.toNatClampNeg n.toNatClampNeg = g') (hw : w.set q1 (a, eJ G n1 g') = w')
    (hframes : 1 ≤ R.frames) (hlocals : (rest.map fun v => v.category).sum + (nativeFrameWords "java/lang/System" "arraycopy" 5 + 11) ≤ R.locals) (hdg : decode cc pc = .ok (.invokestatic index, 3))
    (kk : ∀ (H1 : Heap) (locs1 : List Loc), Wd G s A w' H1 locs1 → W p l e R s m args below meth c H1 locs1 cells slots Q (F0 m (pc + 3) ls rest)) : W p l e R s m args below meth c H locs cells slots Q (F0 m pc ls (.int n :: .int dp :: .ref a :: .int sp :: .ref a0 :: rest)) :=
  va_copyl C.1 C.2.1 (C.2.2.1.trans hsz.symm) C.2.2.2.1 (C.2.2.2.2 _ hlink) (C.2.2.2.2 _ kw632) (C.2.2.2.2 _ kw631) (C.2.2.2.2 _ kw17) h.1.1 h.2.1 h.2.2.1 h.2.2.2.1 q0 q1 3 3 ha0 ha1 rfl rfl rfl h1 h2 h3 h4 h5 (fun _ _ => rfl) hframes hlocals hdg (fun H1 L1 hP hD hS => kk H1 L1 ⟨h.1, by rw [← hw, ← hg]; exact hP, by rw [← hw, ← hg]; exact hD, hS, h.2.2.2.2⟩)
end XR
/-- a method's words -/
def Mw (y : MethodName) (cc : ByteArray) (mL : Nat) (rt : Option FieldType) (n : Nat) : Prop := Cond.code y cc mL rt ∈ gw ∧ Cond.initialized y.cls ∈ gw ∧ (y.cls ≠ "java/lang/invoke/MethodHandle" ∧ y.cls ≠ "java/lang/invoke/VarHandle" ∧ (parseMethodDescriptor y.desc).map (fun d => d.parameters.length) = some n)
def MwV (y : MethodName) (cc : ByteArray) (mL : Nat) (rt : Option FieldType) (n : Nat) : Prop := Mw y cc mL rt n ∧ Cond.instanceMethod y ∈ gw ∧ Cond.selects y.cls y y ∈ gw
def MwS (y : MethodName) (cc : ByteArray) (mL : Nat) (rt : Option FieldType) (n : Nat) : Prop := Mw y cc mL rt n ∧ Cond.static y ∈ gw
def MwI (y : MethodName) (cc : ByteArray) (mL : Nat) (n : Nat) : Prop := Mw y cc mL none n ∧ y.name = "<init>" ∧ Cond.instanceMethod y ∈ gw
section XC
variable {p : Program} {l : Launch} {e : Env} {R : Room} {s : State} {m : MethodId} {args : Array Value} {below : List Frame} {meth : Method} {c : Code} {H : Heap} {locs : List Loc} {cells slots : Nat} {Q : State → Prop}
variable {cc : ByteArray} {pc : Nat} {ls : Array Slot} {rest : List Value} {A : Nat → Prop} {a : Nat} {w wc wr : va_W} {G : Gc} {nL : Nat} {own : String}
variable {y : MethodName} {cd : ByteArray} {mL d mc ms n index b : Nat} {rt : Option FieldType} {As st0 av : List Value}
theorem cb_gw (C : CallFix p m c cc nL s args gw own) (hm : Mw y cd mL rt n) (hl : Cond.methodLink own index y ∈ gw) (hR : d + 1 ≤ R.frames ∧ 8 + (mL + 11) + 40 * d ≤ R.locals) : CallB R s args own index y cd mL rt (Cond.code y cd mL rt :: gw) (rmD d mc ms) mc ms n :=
  callB_of n C.2.2.2.2 (gw_in hm.1) rfl rfl rfl (C.2.2.2.2 _ hm.2.1) (C.2.2.2.2 _ hl) hm.2.2 hR
theorem free_of (h : Wd G s A w H locs) (isC : List Nat) (hC : isC.map (fun i => w[i]?) = wc.map some) : ∀ q, va_A wc H.size q → A q := va_free h.2.2.1 h.2.2.2.1 h.2.2.2.2.1 isC hC
theorem pre_of (h : Wd G s A w H locs) (isC : List Nat) (hnC : va_nd isC = true) (hC : isC.map (fun i => w[i]?) = wc.map some) : PreS s H (mPre G av wc H.size) av := by
  have h2 := h.sub isC hnC hC
  refine ⟨mPre_blind _ _ _ _, fun U hU hW => ⟨rfl, by rw [hU], by rw [hU]; exact h2.2.1, mK.warm hW h.1, h2.2.2.1.weaken (fun _ _ _ _ => trivial), ?_⟩⟩
  rw [hU]
  exact mE.moved hW.alike ((mE.kept h.2.2.2.2.2 h.2.2.2.1.2.1).narrow (free_of h isC hC))
theorem back_wd (h : Wd G s A w H locs) (isC isR : List Nat) (hC : isC.map (fun i => w[i]?) = wc.map some) (hR : isR.map (fun i => w[i]?) = wr.map some) (hnR : va_nd isR = true) (hdis : ∀ i ∈ isR, i ∉ isC) {u : va_W} {t : State} {H1 : Heap} {locs1 : List Loc} (ht : t.heap = H1) (hB : mB G (va_A wc H.size) u t) (hk : ∀ q : Nat, q < H.size → ¬ va_A wc H.size q → H1[q]? = H[q]?) (hS : va_S A s.heap H1 locs1) : Wd G s A (wr ++ u) H1 locs1 := by
  obtain ⟨b1, b2⟩ := hB
  rw [ht] at b1
  obtain ⟨j1, j2⟩ := va_join h.2.1 h.2.2.1 isC isR hC hR hnR hdis hk (free_of h isC hC) b1 b2
  exact ⟨h.1, j1, j2, hS, h.2.2.2.2⟩
theorem x_recv (h : Wd G s A w H locs) (isC : List Nat) (hnC : va_nd isC = true) (hC : isC.map (fun i => w[i]?) = wc.map some) (qb : Nat) {ci : Nat} {fs : List Value} {q : vw_C} (hb : wc[qb]? = some (b, .inr (ci, fs))) (hq : vwCl[ci]? = some q) (hqc : q.1 = y.cls) : ∃ cell : Cell, H[b]? = some cell ∧ cell.vm.isStatics = false ∧ s.vm.findClass y.cls = some cell.cls := by
  have h2 := h.sub isC hnC hC
  rw [← hqc]
  exact va_recv h2.1.1 h2.2.1 hq hb
theorem x_calliV {post : Int32 → va_W → Prop} (C : CallFix p m c cc nL s args gw own) (h : Wd G s A w H locs) (hM : Ci l y cd mL rt d mc ms G (.ref b :: As) wc post) (hm : MwV y cd mL rt n) (hl : Cond.methodLink own index y ∈ gw) (isC isR : List Nat) (hC : isC.map (fun i => w[i]?) = wc.map some) (hR : isR.map (fun i => w[i]?) = wr.map some) (hnC : va_nd isC = true) (hnR : va_nd isR = true) (hdis : ∀ i ∈ isR, i ∉ isC) (qb : Nat) {ci : Nat} {fs : List Value} {q : vw_C} (hb : wc[qb]? = some (b, .inr (ci, fs))) (hq : vwCl[ci]? = some q) (hqc : q.1 = y.cls) (hn : As.length = n) (hsz : ls.size = nL) (hst : st0 = As.reverse ++ .ref b :: rest) (hcat : (rest.map fun v => v.category).sum ≤ 8) (hroom : d + 1 ≤ R.frames ∧ 8 + (mL + 11) + 40 * d ≤ R.locals) (hf : cells + mc ≤ R.cells ∧ slots + ms ≤ R.slots) (hdg : decode cc pc = .ok (.invokevirtual index, 3))
    (kk : ∀ (r : Int32) (u : va_W) (H1 : Heap) (locs1 : List Loc), post r u → Wd G s A (wr ++ u) H1 locs1 → W p l e R s m args below meth c H1 locs1 (cells + mc) (slots + ms) Q (F0 m (pc + 3) ls (.int r :: rest))) : W p l e R s m args below meth c H locs cells slots Q (F0 m pc ls st0) :=
  va_calli (va_runV C (hM H.size) ⟨cb_gw C hm.1 hl hroom, C.2.2.2.2 _ hm.2.1, C.2.2.2.2 _ hm.2.2⟩ ⟨(pre_of h isC hnC hC).1, x_recv h isC hnC hC qb hb hq hqc, (pre_of h isC hnC hC).2⟩ rfl hn hsz hst (lv_room hcat) hdg hf) h.2.2.2.1 (fun q _ h9 => free_of h isC hC q h9) (free_of h isC hC) (fun r u t H1 L1 ht _ hp hB _ hk hS => kk r u H1 L1 hp (back_wd h isC isR hC hR hnR hdis ht hB hk hS))
theorem x_callvV {post : va_W → Prop} (C : CallFix p m c cc nL s args gw own) (h : Wd G s A w H locs) (hM : Cv l y cd mL d mc ms G (.ref b :: As) wc post) (hm : MwV y cd mL none n) (hl : Cond.methodLink own index y ∈ gw) (isC isR : List Nat) (hC : isC.map (fun i => w[i]?) = wc.map some) (hR : isR.map (fun i => w[i]?) = wr.map some) (hnC : va_nd isC = true) (hnR : va_nd isR = true) (hdis : ∀ i ∈ isR, i ∉ isC) (qb : Nat) {ci : Nat} {fs : List Value} {q : vw_C} (hb : wc[qb]? = some (b, .inr (ci, fs))) (hq : vwCl[ci]? = some q) (hqc : q.1 = y.cls) (hn : As.length = n) (hsz : ls.size = nL) (hst : st0 = As.reverse ++ .ref b :: rest) (hcat : (rest.map fun v => v.category).sum ≤ 8) (hroom : d + 1 ≤ R.frames ∧ 8 + (mL + 11) + 40 * d ≤ R.locals) (hf : cells + mc ≤ R.cells ∧ slots + ms ≤ R.slots) (hdg : decode cc pc = .ok (.invokevirtual index, 3))
    (kk : ∀ (u : va_W) (H1 : Heap) (locs1 : List Loc), post u → Wd G s A (wr ++ u) H1 locs1 → W p l e R s m args below meth c H1 locs1 (cells + mc) (slots + ms) Q (F0 m (pc + 3) ls rest)) : W p l e R s m args below meth c H locs cells slots Q (F0 m pc ls st0) :=
  va_callv (va_runV C (hM H.size) ⟨cb_gw C hm.1 hl hroom, C.2.2.2.2 _ hm.2.1, C.2.2.2.2 _ hm.2.2⟩ ⟨(pre_of h isC hnC hC).1, x_recv h isC hnC hC qb hb hq hqc, (pre_of h isC hnC hC).2⟩ rfl hn hsz hst (lv_room hcat) hdg hf) h.2.2.2.1 (fun q _ h9 => free_of h isC hC q h9) (free_of h isC hC) (fun u t H1 L1 ht _ hp hB _ hk hS => kk u H1 L1 hp (back_wd h isC isR hC hR hnR hdis ht hB hk hS))
theorem x_calliS {post : Int32 → va_W → Prop} (C : CallFix p m c cc nL s args gw own) (h : Wd G s A w H locs) (hM : Ci l y cd mL rt d mc ms G As wc post) (hm : MwS y cd mL rt n) (hl : Cond.methodLink own index y ∈ gw) (isC isR : List Nat) (hC : isC.map (fun i => w[i]?) = wc.map some) (hR : isR.map (fun i => w[i]?) = wr.map some) (hnC : va_nd isC = true) (hnR : va_nd isR = true) (hdis : ∀ i ∈ isR, i ∉ isC) (hn : As.length = n) (hsz : ls.size = nL) (hst : st0 = As.reverse ++ rest) (hcat : (rest.map fun v => v.category).sum ≤ 8) (hroom : d + 1 ≤ R.frames ∧ 8 + (mL + 11) + 40 * d ≤ R.locals) (hf : cells + mc ≤ R.cells ∧ slots + ms ≤ R.slots) (hdg : decode cc pc = .ok (.invokestatic index, 3))
    (kk : ∀ (r : Int32) (u : va_W) (H1 : Heap) (locs1 : List Loc), post r u → Wd G s A (wr ++ u) H1 locs1 → W p l e R s m args below meth c H1 locs1 (cells + mc) (slots + ms) Q (F0 m (pc + 3) ls (.int r :: rest))) : W p l e R s m args below meth c H locs cells slots Q (F0 m pc ls st0) :=
  va_calli (va_runS C (hM H.size) ⟨cb_gw C hm.1 hl hroom, C.2.2.2.2 _ hm.2⟩ (pre_of h isC hnC hC) rfl hn hsz hst (lv_room hcat) hdg hf) h.2.2.2.1 (fun q _ h9 => free_of h isC hC q h9) (free_of h isC hC) (fun r u t H1 L1 ht _ hp hB _ hk hS => kk r u H1 L1 hp (back_wd h isC isR hC hR hnR hdis ht hB hk hS))
theorem x_callvI {post : va_W → Prop} (C : CallFix p m c cc nL s args gw own) (h : Wd G s A w H locs) (hM : Cv l y cd mL d mc ms G (.ref b :: As) wc post) (hm : MwI y cd mL n) (hl : Cond.methodLink own index y ∈ gw) (isC isR : List Nat) (hC : isC.map (fun i => w[i]?) = wc.map some) (hR : isR.map (fun i => w[i]?) = wr.map some) (hnC : va_nd isC = true) (hnR : va_nd isR = true) (hdis : ∀ i ∈ isR, i ∉ isC) (hn : As.length = n) (hsz : ls.size = nL) (hst : st0 = As.reverse ++ .ref b :: rest) (hcat : (rest.map fun v => v.category).sum ≤ 8) (hroom : d + 1 ≤ R.frames ∧ 8 + (mL + 11) + 40 * d ≤ R.locals) (hf : cells + mc ≤ R.cells ∧ slots + ms ≤ R.slots) (hdg : decode cc pc = .ok (.invokespecial index, 3))
    (kk : ∀ (u : va_W) (H1 : Heap) (locs1 : List Loc), post u → Wd G s A (wr ++ u) H1 locs1 → W p l e R s m args below meth c H1 locs1 (cells + mc) (slots + ms) Q (F0 m (pc + 3) ls rest)) : W p l e R s m args below meth c H locs cells slots Q (F0 m pc ls st0) :=
  va_callv (va_runI C (hM H.size) ⟨cb_gw C hm.1 hl hroom, hm.2.1, C.2.2.2.2 _ hm.2.2⟩ (pre_of h isC hnC hC) rfl hn hsz hst (lv_room hcat) hdg hf) h.2.2.2.1 (fun q _ h9 => free_of h isC hC q h9) (free_of h isC hC) (fun u t H1 L1 ht _ hp hB _ hk hS => kk u H1 L1 hp (back_wd h isC isR hC hR hnR hdis ht hB hk hS))
theorem x_callvIN {post : va_W → Prop} {host : String} (C : CallFix p m c cc nL s args gw own) (h : Wd G s A w H locs) (hM : Cv l y cd mL d mc ms G (.ref b :: As) wc post) (hm : MwI y cd mL n) (hl : va_Nw (.methodLinkNest own index y host) s) (isC isR : List Nat) (hC : isC.map (fun i => w[i]?) = wc.map some) (hR : isR.map (fun i => w[i]?) = wr.map some) (hnC : va_nd isC = true) (hnR : va_nd isR = true) (hdis : ∀ i ∈ isR, i ∉ isC) (hn : As.length = n) (hsz : ls.size = nL) (hst : st0 = As.reverse ++ .ref b :: rest) (hcat : (rest.map fun v => v.category).sum ≤ 8) (hroom : d + 1 ≤ R.frames ∧ 8 + (mL + 11) + 40 * d ≤ R.locals) (hf : cells + mc ≤ R.cells ∧ slots + ms ≤ R.slots) (hdg : decode cc pc = .ok (.invokespecial index, 3))
    (kk : ∀ (u : va_W) (H1 : Heap) (locs1 : List Loc), post u → Wd G s A (wr ++ u) H1 locs1 → W p l e R s m args below meth c H1 locs1 (cells + mc) (slots + ms) Q (F0 m (pc + 3) ls rest)) : W p l e R s m args below meth c H locs cells slots Q (F0 m pc ls st0) :=
  va_callv (va_runIN C (hM H.size) ⟨va_cnB n C.2.2.2.2 (gw_in hm.1.1) rfl rfl rfl hl (C.2.2.2.2 _ hm.1.2.1) hm.1.2.2 hroom, hm.2.1, C.2.2.2.2 _ hm.2.2⟩ (pre_of h isC hnC hC) rfl hn hsz hst (lv_room hcat) hdg hf) h.2.2.2.1 (fun q _ h9 => free_of h isC hC q h9) (free_of h isC hC) (fun u t H1 L1 ht _ hp hB _ hk hS => kk u H1 L1 hp (back_wd h isC isR hC hR hnR hdis ht hB hk hS))
theorem x_calllS {post : Int64 → va_W → Prop} (C : CallFix p m c cc nL s args gw own) (h : Wd G s A w H locs) (hM : Cl l y cd mL d mc ms G As wc post) (hm : MwS y cd mL (some .long) n) (hl : Cond.methodLink own index y ∈ gw) (isC isR : List Nat) (hC : isC.map (fun i => w[i]?) = wc.map some) (hR : isR.map (fun i => w[i]?) = wr.map some) (hnC : va_nd isC = true) (hnR : va_nd isR = true) (hdis : ∀ i ∈ isR, i ∉ isC) (hn : As.length = n) (hsz : ls.size = nL) (hst : st0 = As.reverse ++ rest) (hcat : (rest.map fun v => v.category).sum ≤ 8) (hroom : d + 1 ≤ R.frames ∧ 8 + (mL + 11) + 40 * d ≤ R.locals) (hf : cells + mc ≤ R.cells ∧ slots + ms ≤ R.slots) (hdg : decode cc pc = .ok (.invokestatic index, 3))
    (kk : ∀ (r : Int64) (u : va_W) (H1 : Heap) (locs1 : List Loc), post r u → Wd G s A (wr ++ u) H1 locs1 → W p l e R s m args below meth c H1 locs1 (cells + mc) (slots + ms) Q (F0 m (pc + 3) ls (.long r :: rest))) : W p l e R s m args below meth c H locs cells slots Q (F0 m pc ls st0) :=
  va_calll (va_runS C (hM H.size) ⟨cb_gw C hm.1 hl hroom, C.2.2.2.2 _ hm.2⟩ (pre_of h isC hnC hC) rfl hn hsz hst (lv_room hcat) hdg hf) h.2.2.2.1 (fun q _ h9 => free_of h isC hC q h9) (free_of h isC hC) (fun r u t H1 L1 ht _ hp hB _ hk hS => kk r u H1 L1 hp (back_wd h isC isR hC hR hnR hdis ht hB hk hS))
end XC
theorem iwX0 : ∀ w ∈ u_ws RX0 TX0 2, w ∈ gw := fun w h => List.mem_filter.mpr ⟨(show ∀ w ∈ u_ws RX0 TX0 2, w ∈ lw_tbl by decide +kernel) w h, (show ∀ w ∈ u_ws RX0 TX0 2, goodWord w = true by decide +kernel) w h⟩
theorem iwX1 : ∀ w ∈ u_ws RX1 TX1 6, w ∈ gw := fun w h => List.mem_filter.mpr ⟨(show ∀ w ∈ u_ws RX1 TX1 6, w ∈ lw_tbl by decide +kernel) w h, (show ∀ w ∈ u_ws RX1 TX1 6, goodWord w = true by decide +kernel) w h⟩
theorem iwX2 : ∀ w ∈ u_ws RX2 TX2 3, w ∈ gw := fun w h => List.mem_filter.mpr ⟨(show ∀ w ∈ u_ws RX2 TX2 3, w ∈ lw_tbl by decide +kernel) w h, (show ∀ w ∈ u_ws RX2 TX2 3, goodWord w = true by decide +kernel) w h⟩
theorem iwX3 : ∀ w ∈ u_ws RX3 TX3 4, w ∈ gw := fun w h => List.mem_filter.mpr ⟨(show ∀ w ∈ u_ws RX3 TX3 4, w ∈ lw_tbl by decide +kernel) w h, (show ∀ w ∈ u_ws RX3 TX3 4, goodWord w = true by decide +kernel) w h⟩
theorem iwX5 : ∀ w ∈ u_ws RX5 TX5 18, w ∈ gw := fun w h => List.mem_filter.mpr ⟨(show ∀ w ∈ u_ws RX5 TX5 18, w ∈ lw_tbl by decide +kernel) w h, (show ∀ w ∈ u_ws RX5 TX5 18, goodWord w = true by decide +kernel) w h⟩
theorem iwX6 : ∀ w ∈ u_ws RX6 TX6 7, w ∈ gw := fun w h => List.mem_filter.mpr ⟨(show ∀ w ∈ u_ws RX6 TX6 7, w ∈ lw_tbl by decide +kernel) w h, (show ∀ w ∈ u_ws RX6 TX6 7, goodWord w = true by decide +kernel) w h⟩
theorem iwX7 : ∀ w ∈ u_ws RX7 TX7 7, w ∈ gw := fun w h => List.mem_filter.mpr ⟨(show ∀ w ∈ u_ws RX7 TX7 7, w ∈ lw_tbl by decide +kernel) w h, (show ∀ w ∈ u_ws RX7 TX7 7, goodWord w = true by decide +kernel) w h⟩
theorem iwX8 : ∀ w ∈ u_ws RX8 TX8 11, w ∈ gw := fun w h => List.mem_filter.mpr ⟨(show ∀ w ∈ u_ws RX8 TX8 11, w ∈ lw_tbl by decide +kernel) w h, (show ∀ w ∈ u_ws RX8 TX8 11, goodWord w = true by decide +kernel) w h⟩
theorem iwX9 : ∀ w ∈ u_ws RX9 TX9 12, w ∈ gw := fun w h => List.mem_filter.mpr ⟨(show ∀ w ∈ u_ws RX9 TX9 12, w ∈ lw_tbl by decide +kernel) w h, (show ∀ w ∈ u_ws RX9 TX9 12, goodWord w = true by decide +kernel) w h⟩
theorem iwX10 : ∀ w ∈ u_ws RX10 TX10 17, w ∈ gw := fun w h => List.mem_filter.mpr ⟨(show ∀ w ∈ u_ws RX10 TX10 17, w ∈ lw_tbl by decide +kernel) w h, (show ∀ w ∈ u_ws RX10 TX10 17, goodWord w = true by decide +kernel) w h⟩
theorem iwX11 : ∀ w ∈ u_ws RX11 TX11 44, w ∈ gw := fun w h => List.mem_filter.mpr ⟨(show ∀ w ∈ u_ws RX11 TX11 44, w ∈ lw_tbl by decide +kernel) w h, (show ∀ w ∈ u_ws RX11 TX11 44, goodWord w = true by decide +kernel) w h⟩
