theorem x_ofWH {l : Launch} {y : MethodName} {ws ws' : List Cond} {rm : Room} {Pc : Array Value → State → Prop} {Qc : Array Value → State → Outcome → State → Prop} {mc ms : Nat} {free : Addr → Prop} {cc : ByteArray} {maxL : Nat} {ret : Option FieldType} {hh : List (Nat × Nat × Nat × Nat)}
    (hy : plainName y.cls = true) (hw : ws = Cond.codeWith y cc maxL ret hh :: ws')
    (body : ∀ p e s m args below meth c s₁, BodyLoose p l y (headSpec ws rm) cc maxL ret e s m args below meth c s₁ → c.maxLocals = maxL → c.exceptionTable.toList = tableOf hh → Pc args s →
      W p l e (headSpec ws rm).room s m args below meth c s.heap [] 0 0 (MQ below Qc args s mc ms free) (entryFrame m args maxL)) : Met l y ws rm Pc Qc mc ms free := by
  refine MetFree.of_bodyS (code := cc) (maxLocals := maxL) (ret := ret) hy ?_ ?_
  · intro args s m h hn
    obtain ⟨m9, meth, c, hn9, h1, h2, h3, h4, -, h5, h6, -⟩ := Cond.codeWith_spec (atoms_spec (ws := ws) h _ (by rw [hw]; exact List.mem_cons_self))
    cases hn.symm.trans hn9
    exact ⟨meth, c, h1, h2, h3, h4, h5, h6⟩
  · intro p e s m args below meth c s₁ B hml hP _
    have hh0 : s₁.heap = s.heap := by rw [B.state]; rfl
    have htb := vx_table (x := y) B (atoms_spec (ws := ws) B.pre _ (by rw [hw]; exact List.mem_cons_self))
    obtain ⟨t, a1, o, b1, b2, b3⟩ := body p e s m args below meth c s₁ B hml htb hP s₁ hh0 (Stand.of_body B)
    exact ⟨t, o, a1, b1, b2, ⟨b3.1, b3.2⟩⟩
theorem x_catch {p : Program} {l : Launch} {e : Env} {R : Room} {s : State} {m : MethodId} {args : Array Value} {below : List Frame} {meth : Method} {c : Code} {H : Heap} {locs : List Loc} {cells slots : Nat} {Q : State → Prop} {pc : Nat} {ls : Array Slot} {rest : List Value}
    {own name E : String} {ce : Cell} {q : Addr} (hown : s.vm.findClass own = some m.cls) (x : ExceptionTableEntry) (hsplit : c.exceptionTable.toList = [x]) (hx : covers x pc = true) (h0 : x.catchType ≠ 0)
    (hlink : (Cond.classLink own x.catchType name).before args s = true) (hcast : (Cond.castable E name).before args s = true) (hcell : H[q]? = some ce) (hv : ce.vm = .none) (hcl : s.vm.findClass E = some ce.cls)
    (kk : W p l e R s m args below meth c H locs cells slots Q (F0 m x.handlerPc ls [.ref q])) : vx_W p l e R s m args below meth c H locs cells slots Q (F0 m pc ls rest) q := by
  intro T hT X
  have hpl : e.platform.magicAccessors = ({} : Platform).magicAccessors := by rw [X.admits.platform]
  obtain ⟨c3, cT, hc3, hcT, hasg⟩ := Cond.castable_spec hcast
  cases Option.some.inj (hc3.symm.trans hcl)
  obtain ⟨c', hc', hk⟩ := Cond.classLink_spec hown hlink e.platform hpl
  cases Option.some.inj (hcT.symm.trans hc')
  obtain ⟨dk, _, _, kt, hd, _, _, _, _, hkt, _, hopen⟩ := hk.here
  have hk₀ := X.warmed.classLinks hk
  have hW' : s.WarmedH (T.vm.noted m.cls x.catchType (.cls cT)) := X.warmed.noted hd hopen (State.rightAt_cls hk)
  have hal := X.warmed.alike
  obtain ⟨kt', hkt', -⟩ := hal.2.2 _ _ hkt
  have hfit' : T.vm.assignable ce.cls cT = true := by rw [hal.assignable]; exact hasg
  obtain ⟨k1, hk1⟩ := Vm.classAt_of_assignable hfit' ⟨kt', hkt'⟩
  have hal2 : T.vm.Alike (T.vm.noted m.cls x.catchType (.cls cT)) := (Vm.Alike.refl T.vm).noted _ _ _
  obtain ⟨k1', hk1', -⟩ := hal2.2.2 _ _ hk1
  obtain ⟨k2', hk2', -⟩ := hal2.2.2 _ _ hkt'
  have hfit2 : (T.vm.noted m.cls x.catchType (.cls cT)).assignable ce.cls cT = true := by rw [hal2.assignable]; exact hfit'
  have hobj : ∀ k, ce.vm ≠ .statics k := fun k h => by rw [hv] at h; cases h
  have hcT' : T.heap[q]? = some ce := by rw [hT]; exact hcell
  obtain ⟨ha, ht⟩ := (resolveClass_links e.toSetting hk₀).op (op := VmOp.resolveClass m.cls x.catchType) rfl
  generalize hg : F0 m pc ls rest = g
  have hgm : g.method = m := by rw [← hg]
  have hgp : g.pc = pc := by rw [← hg]
  have hx2 : covers x g.pc = true := by rw [hgp]; exact hx
  generalize hS : (T.setTop g).pushFrame (.throwing q) = S
  have hSv : S.vm = T.vm := by rw [← hS]; rfl
  have hSh : S.heap = T.heap := by rw [← hS]; rfl
  have hfind : ∀ (Q' : Handler → Pre) (E' : CtlPost) (d : Bool) (acts : List Action), wp (findHandler g q) Q' E' e d acts S ↔ Q' (.found x.handlerPc) d acts (S.setVm (T.vm.noted m.cls x.catchType (.cls cT))) := by
    intro Q' E' d acts
    rw [Jvm.W.findHandler_eq (meth := meth) (code := c) (by rw [hSv, hgm]; exact X.method') X.code, hsplit]
    simp only [covers] at hx2
    rw [← hSv] at ha ht hk1' hk2' hfit2 ⊢
    rw [← hgm] at ha ht hk1' hk2' hfit2 ⊢
    rw [← hSh] at hcT'
    simp [findHandler.go, hx2, h0, ha, ht, hcT', hobj, hk1', hk2', hfit2, VmOp.dirties, VmOp.acts]
  obtain ⟨t, a1, b1⟩ := kk (T.setVm (T.vm.noted m.cls x.catchType (.cls cT))) hT (X.noted hW')
  refine ⟨t, ?_, b1⟩
  have hAt : At T g.method c below := by rw [hgm]; exact X.here
  obtain ⟨hgo, hw⟩ := hAt.throwing (g := g) q
  rw [hS] at hgo hw
  refine Steps.head hgo hw ?_
  have hcatch : (stepThrowing e S q (.java g :: below)).Is ((S.setVm (T.vm.noted m.cls x.catchType (.cls cT))).setFrames (.java { g with pc := x.handlerPc, stack := [.ref q] } :: below)) [] := by
    simp only [stepThrowing, searchFrame, vmDo]
    generalize hr : Sem.go _ e false [] S = res
    obtain ⟨as, rfl, ha9⟩ := Sem.eq_ok_of hr (a := Handler.found x.handlerPc) (s' := S.setVm (T.vm.noted m.cls x.catchType (.cls cT))) (acts' := []) (by simp [hfind _ _ _ _])
    exact ⟨rfl, ha9⟩
  obtain ⟨g₁, hfr⟩ := X.frames_eq
  have hSf : S.frames = .throwing q :: .java g :: below := by
    rw [← hS, State.pushFrame, State.frames_setTop _ hfr, State.setTop_of_frames _ hfr, State.setFrames_setFrames]
    exact State.frames_setFrames _ (State.cur_lt_of_frames hfr)
  rw [stepThread_throwing hSf, hcatch.1]
  have e1 : (S.setVm (T.vm.noted m.cls x.catchType (.cls cT))).setFrames (.java { g with pc := x.handlerPc, stack := [.ref q] } :: below) = (T.setVm (T.vm.noted m.cls x.catchType (.cls cT))).setTop (F0 m x.handlerPc ls [.ref q]) := by
    have hfr2 : (T.setVm (T.vm.noted m.cls x.catchType (.cls cT))).frames = .java g₁ :: below := hfr
    rw [State.setTop_of_frames _ hfr2, ← hS, State.pushFrame, State.frames_setTop _ hfr, State.setTop_of_frames _ hfr, State.setFrames_setFrames, ← hg]
    have h1 : ((T.setFrames (.throwing q :: .java (F0 m pc ls rest) :: below)).setVm (T.vm.noted m.cls x.catchType (.cls cT))) = (T.setVm (T.vm.noted m.cls x.catchType (.cls cT))).setFrames (.throwing q :: .java (F0 m pc ls rest) :: below) := rfl
    rw [h1, State.setFrames_setFrames]
  rw [e1]
  exact a1
def six13 : ByteArray := ⟨#[0x2a, 0x2b, 0xb7, 0x00, 0x0d, 0xb1]⟩
def xOwn (own : String) (ic : Nat) (X Y : String) (names : List String) : List Cond :=
  Bundle.throwableAtoms ++ Bundle.throwableSAtoms ++ (Bundle.passSAtoms X Y 13 six13 ++ Bundle.chainSAtoms Y names) ++
  [.methodLink own ic (Bundle.initS X), .instantiable X 6, .castable X X, .selects X Bundle.tFill0 Bundle.tFill0, .selects X Bundle.tFill Bundle.tFill,
   .lays X Bundle.tN "cause" "Ljava/lang/Throwable;", .lays X Bundle.tN "stackTrace" Bundle.steD, .lays X Bundle.tN "suppressedExceptions" Bundle.listD, .lays X Bundle.tN "detailMessage" "Ljava/lang/String;",
   .isRef (.static Bundle.tN "UNASSIGNED_STACK" Bundle.steD), .isRef (.static Bundle.tN "SUPPRESSED_SENTINEL" Bundle.listD),
   .fieldLink Bundle.tN 198 Bundle.tN "backtrace" "Ljava/lang/Object;", .lays Bundle.tN Bundle.tN "backtrace" "Ljava/lang/Object;", .lays X Bundle.tN "backtrace" "Ljava/lang/Object;"]
def xatS (own : String) (ic : Nat) (X Y : String) (names : List String) : List Cond := (xOwn own ic X Y names).filter vx_no
set_option maxHeartbeats 4000000 in
theorem x_ctorThrow {p : Program} {l : Launch} {e : Env} {R : Room} {s : State} {m₀ : MethodId} {args : Array Value} {below : List Frame} {meth : Method} {c : Code} {W : State} {locs : List Loc} {cells slots : Nat} (X : Stand p l e R s m₀ args below meth c W locs cells slots) (hexec : p.tables.exec = Jvm.exec) (htr : e.platform.stackTraces = false) {own cls nY : String} {names : List String} {ic : Nat}
    (hown : s.vm.findClass own = some m₀.cls) (hcls : Bundle.fit cls = true) (hnY : Bundle.fit nY = true) (hnames : ∀ n ∈ names, Bundle.fit n = true)
    (h : ∀ a ∈ xOwn own ic cls nY names, a.before args s = true)
    (hlocs : ∀ x ∈ locs, ∀ cell, s.heap[x.base]? = some cell → cell.vm.isStatics = false)
    {a : Addr} {cX : ClassId} {kX : Class} (hfoundX : s.vm.findClass cls = some cX) (hkX : s.vm.classes[cX]? = some kX) (hcell : W.heap[a]? = some (freshCell cX kX)) (hnew : s.heap.size ≤ a)
    {msg : Value} (hmsg : msg.isRef = true)
    {g : JFrame} (hg : g.method = m₀) (hsize : g.locals.size = c.maxLocals) (hlocked : g.locked = none) (hentered : g.entered = []) {rest : List Value} (hstack : g.stack = msg :: .ref a :: .ref a :: rest)
    (hd6 : decode c.code g.pc = .ok (.invokespecial ic, 3)) (hd9 : decode c.code (g.pc + 3) = .ok (.athrow, 1)) (hout : ∀ x ∈ c.exceptionTable.toList, covers x (g.pc + 3) = false)
    (hRframes : names.length + 4 < R.frames) (hRlocals : 2 * g.monitorRoom + ((Value.ref a :: rest).map fun v => v.category).sum + (13 * (names.length + 2) + 42) ≤ R.locals) (hlocks : meth.locks = false) :
    ∃ U : State, Steps p.tables e below (W.setTop g) U ∧ U.status = .running ∧ Ended U below (.threw a) ∧ s.WarmedH U.vm ∧ s.sameButNew ({ U with vm := s.vm } : State) locs cells slots ∧
      ∃ ce, U.heap[a]? = some ce ∧ ce.vm = .none ∧ s.vm.findClass cls = some ce.cls := by
  have howns : e.platform.frameOwnsMonitors = true := by rw [X.admits.platform]
  have hfin : e.platform.finalization = false := by rw [X.admits.platform]
  have hpl : e.platform.magicAccessors = ({} : Platform).magicAccessors := by rw [X.admits.platform]
  have a' : ∀ x, x ∈ xOwn own ic cls nY names → x.holds args s none s [] = true := fun x hx => h x hx
  obtain ⟨T, Z0, L, -, Y⟩ := ThrowableC.of_atoms (args := args) howns hfin hpl (fun x hx => h x (by simp [xOwn, hx]))
  obtain ⟨Z, M, LZ, LM, hnZ⟩ := Init0T.ofS_atoms (args := args) hpl L Y (fun x hx => h x (by simp [xOwn, hx]))
  obtain ⟨P1, L1, hP1m, hs1⟩ := PassC.ofS_atoms (args := args) (s := s) hpl (X := cls) (Y := nY) (index := 13) (bytes := six13) (Bundle.fit_spec hcls).1 (Bundle.fit_spec hnY).2 (by decide +kernel) (by decide +kernel) (by decide +kernel) (by decide +kernel) (fun x hx => h x (by simp [xOwn, hx]))
  obtain ⟨P2, Ps2, hlen2, L2, hL2, hP2m, hlink2, hlinkR⟩ := Bundle.chainS (args := args) hpl hnZ names nY hnY hnames (fun x hx => h x (by simp [xOwn, hx]))
  obtain ⟨Ps, hPs⟩ : ∃ z, z = P2 :: Ps2 := ⟨_, rfl⟩
  have hlen : Ps.length = names.length + 1 := by rw [hPs]; simp [hlen2]
  have hL : ∀ P, P ∈ Ps → P.LinksS e.platform s := by
    intro P hP
    rw [hPs] at hP
    rcases List.mem_cons.mp hP with rfl | hP
    · exact L2
    · exact hL2 P hP
  have hlink1 : P1.sup = firstOf (Z.m T.toThrowableT) (Ps.map (·.toPassT)) := by rw [hPs]; exact Option.some.inj (hs1.symm.trans hP2m)
  have hlink : PassesOn (Z.m T.toThrowableT) (Ps.map (·.toPassT)) := by rw [hPs]; exact ⟨hlink2, hlinkR⟩
  have hfound : s.vm.findClass cls = some P1.m.cls := findClass_of_methodNamed hP1m
  cases Option.some.inj (hfoundX.symm.trans hfound)
  obtain ⟨c1, kX', hc1, hk, hord, -, -, hn6⟩ := Cond.instantiable_spec (a' (.instantiable cls 6) (by simp [xOwn]))
  cases Option.some.inj (hc1.symm.trans hfound)
  cases Option.some.inj (hkX.symm.trans hk)
  have hsel0 : selectMethod e.platform s.vm P1.m.cls T.fill0 = .method T.fill0 := by
    obtain ⟨c2, r2, m2, q1, q2, q3, q4, -⟩ := Cond.selects_spec (a' (.selects cls Bundle.tFill0 Bundle.tFill0) (by simp [xOwn]))
    cases Option.some.inj (q1.symm.trans hfound)
    cases Option.some.inj (q2.symm.trans (State.methodFound?_of_named Y.fill0 (by decide)))
    cases Option.some.inj (q3.symm.trans Y.fill0)
    rw [Launch.admits_selectMethod X.admits]; exact q4
  have hselF : selectMethod e.platform s.vm P1.m.cls T.fill = .method T.fill := by
    obtain ⟨c2, r2, m2, q1, q2, q3, q4, -⟩ := Cond.selects_spec (a' (.selects cls Bundle.tFill Bundle.tFill) (by simp [xOwn]))
    cases Option.some.inj (q1.symm.trans hfound)
    cases Option.some.inj (q2.symm.trans (State.methodFound?_of_named Y.fill (by decide)))
    cases Option.some.inj (q3.symm.trans Y.fill)
    rw [Launch.admits_selectMethod X.admits]; exact q4
  obtain ⟨cellS0, hcS0, hiss⟩ := Y.statics
  obtain ⟨u0, hu0⟩ := Cond.staticRefV Y.unassigned L.unassignedStatic L.statics hcS0 hiss (a' (.isRef (.static Bundle.tN "UNASSIGNED_STACK" Bundle.steD)) (by simp [xOwn]))
  obtain ⟨sen, hsen⟩ := Cond.staticRefV Y.sentinel L.sentinelStatic L.statics hcS0 hiss (a' (.isRef (.static Bundle.tN "SUPPRESSED_SENTINEL" Bundle.listD)) (by simp [xOwn]))
  obtain ⟨ci198, i198, fB, hk198, hg198, ha198, hsB, -, hnB, htB, hffB⟩ := Cond.ownField (t := .object "java/lang/Object") Y.found L.cls (by decide +kernel) (a' (.fieldLink Bundle.tN 198 Bundle.tN "backtrace" "Ljava/lang/Object;") (by simp [xOwn])) (a' (.lays Bundle.tN Bundle.tN "backtrace" "Ljava/lang/Object;") (by simp [xOwn])) e.platform hpl
  obtain ⟨cellS, hcS', heS, -, hkeep⟩ := X.same.2.2.2.2.2 T.aS cellS0 hcS0
  have hcellS : W.heap[T.aS]? = some cellS := hcS'
  have hout' : ∀ i, (⟨T.aS, i⟩ : Loc) ∉ locs := fun i hmem => by
    have := hlocs _ hmem cellS0 hcS0
    rw [hiss] at this; cases this
  have hknownS : cellS.vm ≠ .unknown := by
    rw [heS]; intro hu
    rw [show cellS0.vm = .unknown from hu] at hiss
    cases hiss
  have hneS : T.aS ≠ a := Nat.ne_of_lt (Nat.lt_of_lt_of_le (Array.getElem?_eq_some_iff.mp hcS0).1 hnew)
  obtain ⟨iM, hffM⟩ := Y.msg
  obtain ⟨tyC, dC, hdC, hdnC⟩ := Cond.laysAt hfound hk Y.cause (a' (.lays cls Bundle.tN "cause" "Ljava/lang/Throwable;") (by simp [xOwn]))
  obtain ⟨tyS, dS, hdS, hdnS⟩ := Cond.laysAt hfound hk Y.stack (a' (.lays cls Bundle.tN "stackTrace" Bundle.steD) (by simp [xOwn]))
  obtain ⟨tyP, dP, hdP, hdnP⟩ := Cond.laysAt hfound hk Y.supp (a' (.lays cls Bundle.tN "suppressedExceptions" Bundle.listD) (by simp [xOwn]))
  obtain ⟨tyM, dM, hdM, hdnM⟩ := Cond.laysAt hfound hk hffM (a' (.lays cls Bundle.tN "detailMessage" "Ljava/lang/String;") (by simp [xOwn]))
  obtain ⟨tyB, dB, hdB, hdnB⟩ := Cond.laysAt hfound hk hffB (a' (.lays cls Bundle.tN "backtrace" "Ljava/lang/Object;") (by simp [xOwn]))
  have bC := Cond.laysApart hdB hdC hdnB hdnC (by rw [hnB, Y.causeName]; decide)
  have bS := Cond.laysApart hdB hdS hdnB hdnS (by rw [hnB, Y.stackName]; decide)
  have bP := Cond.laysApart hdB hdP hdnB hdnP (by rw [hnB, Y.suppName]; decide)
  have hskip : SkipFacts T e.platform s (fun u => u) u0 ((preparedCellV T.toThrowableT (freshCell P1.m.cls kX) a u0 sen).withEntry W.cur) :=
    ⟨{ ci198 := ci198, i198 := i198, fBack := fB }, ⟨hk198, hg198, ha198, hsB⟩, by
      have := fresh_default (c := P1.m.cls) tyB
      rw [htB] at this
      simpa [preparedCellV, Cell.setSlot, Cell.withEntry, Array.getElem?_setIfInBounds, bC, bS, bP, bC.symm, bS.symm, bP.symm, defaultValue] using this, fun _ _ => rfl⟩
  obtain ⟨tm, methC, cdC, kC, vm₁, hnC, -, -, -, -, -, -, -, hW₁, st1⟩ := Steps.initColdS (tb := p.tables) (e := e) (below := below) (s := s) (U := W) X.here hexec X.warmed hpl hown (t := Bundle.initS cls) rfl rfl (Bundle.fit_spec hcls).2
    (a' (.methodLink own ic (Bundle.initS cls)) (by simp [xOwn])) (h (.instanceMethod (Bundle.initS cls)) (by simp [xOwn, Bundle.passSAtoms])) (bytes := six13) (maxL := 2) (h (.code (Bundle.initS cls) six13 2 none) (by simp [xOwn, Bundle.passSAtoms]))
    (f := g) hg (a := a) (msg := msg) (rest := .ref a :: rest) hstack hd6
  cases Option.some.inj (hnC.symm.trans hP1m)
  have X₁ := X.noted hW₁
  obtain ⟨vm₂, X₂, st2⟩ := X₁.ctorMessageOffV hexec (g := { g with stack := .ref a :: rest }) hg hsize T L Z LZ M LM (P1 :: Ps)
    (fun P hP => by rcases List.mem_cons.mp hP with rfl | hP; exact L1; exact hL P hP) ⟨hlink1, hlink⟩ (u0 := u0) (sen := sen) (self := a) hmsg (cell := freshCell P1.m.cls kX) (cellS := cellS)
    hcell (fun _ => by simp) (by simp) rfl rfl hsel0 hselF hcellS hneS hknownS (by rw [hkeep _ (hout' _)]; exact hu0) (by rw [hkeep _ (hout' _)]; exact hsen)
    (Takes.of_laid hk hord tyC (by rw [Y.causeType]; rfl)) (Takes.of_laid hk hord tyS (by rw [Y.stackType]; exact fits_refV_array _ u0)) (Takes.of_laid hk hord tyP (by rw [Y.suppType]; exact fits_refV_object _ sen))
    (Takes.of_laid hk hord tyM (by rw [Y.msgType]; exact fits_refV_object _ ⟨msg, hmsg⟩)) Y.objLocals hskip htr [] hd6
    (by simp only [List.length_cons, hlen]; omega) (by simp only [List.length_cons, hlen]; exact hRlocals)
  obtain ⟨hwalk, hrun, hended, hWU, hsame⟩ := X₂.athrowLeaves hexec (g := { g with stack := .ref a :: rest, pc := g.pc + 3 }) hg hlocked hentered hout (a := a) (rest := rest) rfl hd9
  have hlt : a < ((W.setVm vm₁).setVm vm₂).heap.size := (Array.getElem?_eq_some_iff.mp hcell).1
  have hU := heapAt_setCell_self (s := (W.setVm vm₁).setVm vm₂) (plainBareV T.toThrowableT (freshCell P1.m.cls kX) a u0 sen msg) hlt
  refine ⟨_, st1 _ (fun acts => ?_), hrun, hended, hWU, hsame.weaken (fun y hy hlt' => ?_) (Nat.le_refl _) (Nat.le_refl _), _, hU, rfl, hfound⟩
  · rw [doInvoke_state]
    exact st2 _ hwalk
  · rcases List.mem_append.mp hy with h1 | h1
    · exact h1
    · exfalso
      have hb : y.base = a := by
        simp only [List.mem_cons, List.not_mem_nil, or_false] at h1
        rcases h1 with rfl | rfl | rfl | rfl | rfl <;> rfl
      rw [hb] at hlt'
      exact Nat.not_lt.mpr hnew hlt'
theorem x_throwS {p : Program} {l : Launch} {e : Env} {R : Room} {s : State} {m : MethodId} {args : Array Value} {below : List Frame} {meth : Method} {c : Code} {H : Heap} {locs : List Loc} {cells slots : Nat} {free : Addr → Prop} {ls : Array Slot} {rest : List Value} {Qc : Array Value → State → Outcome → State → Prop} {XC : String → State → State → Prop} {cc : ByteArray} {pc : Nat} (hexec : p.tables.exec = Jvm.exec) (hb : c.code = cc) (hl : l.stackTraces = false) {own cls nY text : String} {names : List String} {ik is ic mc ms sa : Nat} {A : Nat → Prop}
    (hown : s.vm.findClass own = some m.cls) (hcls : Bundle.fit cls = true) (hnY : Bundle.fit nY = true) (hnames : ∀ n ∈ names, Bundle.fit n = true)
    (hk : (Cond.classLink own ik cls).before args s = true) (hini : (Cond.initialized cls).before args s = true) (hstr : vk_R own is text sa s) (hat : ∀ w ∈ xatS own ic cls nY names, w.before args s = true)
    (hgood : ∀ w ∈ Cond.classLink own ik cls :: Cond.initialized cls :: xatS own ic cls nY names, vx_ot w = true)
    (hU : vx_Zq Bundle.tN "UNASSIGNED_STACK" Bundle.steD A s s.heap) (hN : vx_Zq Bundle.tN "SUPPRESSED_SENTINEL" Bundle.listD A s s.heap) (hS : va_S A s.heap H locs) (hsize : ls.size = c.maxLocals)
    (d0 : decode cc pc = .ok (.new ik, 3)) (d3 : decode cc (pc + 3) = .ok (.dup, 1)) (d4 : decode cc (pc + 4) = .ok (.ldc is, 2)) (d6 : decode cc (pc + 6) = .ok (.invokespecial ic, 3)) (d9 : decode cc (pc + 9) = .ok (.athrow, 1))
    (hout : ∀ x ∈ c.exceptionTable.toList, covers x (pc + 9) = false)
    (hRframes : names.length + 4 < R.frames) (hRlocals : (rest.map fun v => v.category).sum + (13 * (names.length + 2) + 43) ≤ R.locals) (hRcells : cells + 1 ≤ R.cells) (hRslots : slots + 6 ≤ R.slots) (hlocks : meth.locks = false)
    (hx : ∀ t : State, s.vm.Alike t.vm → H.size ≤ t.heap.size → (∀ q : Nat, q < H.size → t.heap[q]? = H[q]?) → XC cls s t)
    (hf : ∀ z ∈ locs, free z.base) (hc : cells + 1 ≤ mc) (hs : slots + 6 ≤ ms) :
    W p l e R s m args below meth c H locs cells slots (vx_MQ below Qc XC args s mc ms free) (F0 m pc ls rest) := by
  intro T hT X
  have htr : e.platform.stackTraces = false := (show e.platform.stackTraces = l.stackTraces by rw [X.admits.platform]).trans hl
  have Y := vx_rebase X (R' := { frames := R.frames, locals := R.locals, cells := 1, slots := 6 }) (Nat.le_refl _) (Nat.le_refl _) hRcells hRslots
  obtain ⟨s', hA⟩ : ∃ z, z = (T.setVm s.vm).setFrames (.invoking m args :: below) := ⟨_, rfl⟩
  rw [← hA] at Y
  have hvm : s'.vm = s.vm := by rw [hA]; rfl
  have hhp : s'.heap = H := by rw [hA]; exact hT
  have hW0 : s.WarmedH s'.vm := by rw [hvm]; exact State.WarmedH.refl s
  have hat' : ∀ w ∈ xatS own ic cls nY names, w.before args s' = true := fun w hw => vx_ot_at hW0 hvm.symm (hgood w (List.mem_cons_of_mem _ (List.mem_cons_of_mem _ hw))) (hat w hw)
  have hk' : (Cond.classLink own ik cls).before args s' = true := vx_ot_at hW0 hvm.symm (hgood _ List.mem_cons_self) hk
  have hini' : (Cond.initialized cls).before args s' = true := vx_ot_at hW0 hvm.symm (hgood _ (List.mem_cons_of_mem _ List.mem_cons_self)) hini
  have hU' : vx_Zq Bundle.tN "UNASSIGNED_STACK" Bundle.steD A s' s'.heap := by rw [hhp]; exact vx_Zq.moved hW0.alike (hU.kept hS.2.1)
  have hN' : vx_Zq Bundle.tN "SUPPRESSED_SENTINEL" Bundle.listD A s' s'.heap := by rw [hhp]; exact vx_Zq.moved hW0.alike (hN.kept hS.2.1)
  have h : ∀ w ∈ xOwn own ic cls nY names, w.before args s' = true := vx_own hat' (vx_isRefq hU'.1) (vx_isRefq hN'.1) hU'.2.word hN'.2.word
  have hown' : s'.vm.findClass own = some m.cls := by rw [hvm]; exact hown
  have hins : (Cond.instantiable cls 6).before args s' = true := h _ (by simp [xOwn])
  obtain ⟨vm₁, cX, kX, hfX, hkX, -, -, X₁, st1⟩ := Y.newCold hexec (own := own) (C := cls) (index := ik) (n := 6) hown' hk' hins hini'
    (g := F0 m pc ls rest) rfl (by rw [hb]; exact d0) (Nat.le_refl _) (Nat.le_refl _)
  generalize hT1 : (T.setVm vm₁).pushCell { cls := cX, slots := kX.instanceTypes.map defaultValue, vm := .none } = T1 at X₁ st1
  have hcat : (Value.ref T.heap.size).category = 1 := rfl
  have hcellA : T1.heap[T.heap.size]? = some (freshCell cX kX) := by rw [← hT1]; exact State.heap_pushCell_size _ _
  have d3' : decode c.code (pc + 3) = .ok (.dup, 1) := by rw [hb]; exact d3
  have d4' : decode c.code (pc + 4) = .ok (.ldc is, 2) := by rw [hb]; exact d4
  have hstr' : vk_R own is text sa s' := vk_R.warm hW0 hstr
  obtain ⟨U, hsteps, hrun, hend, hW, hsame, ce, hce, hOv, hOc⟩ := x_ctorThrow X₁ hexec htr (own := own) (cls := cls) (nY := nY) (names := names) (ic := ic) hown' hcls hnY hnames h (fun x hx => nomatch hx) hfX hkX hcellA (by rw [hhp, hT]; exact Nat.le_refl _) (msg := .ref sa) rfl
    (g := { method := m, pc := pc + 6, locals := ls, stack := .ref sa :: .ref T.heap.size :: .ref T.heap.size :: rest, locked := none }) rfl hsize rfl rfl (rest := rest) rfl
    (by rw [hb]; exact d6) (by rw [hb]; exact d9) hout hRframes (by simp only [List.map_cons, List.sum_cons, hcat]; omega) hlocks
  obtain ⟨f1, f2⟩ := vx_frame hsame
  rw [hhp] at f1 f2
  have hWs : s.WarmedH U.vm := State.WarmedH.trans hW0 hW
  have hcl : s.vm.findClass cls = some ce.cls := by
    have h9 := hOc
    rw [hvm] at h9
    exact h9
  have hall : s.sameButNew ({ U with vm := s.vm } : State) locs mc ms := by
    subst hA
    obtain ⟨e1, e2⟩ := hsame
    rw [State.setFrames_setFrames] at e1
    have h2 : (T.setVm s.vm).sameButNew ({ U with vm := s.vm } : State) [] (0 + 1) (0 + 6) := ⟨e1, e2⟩
    have h3 := X.same.trans h2
    rw [List.append_nil] at h3
    exact h3.mono hc hs
  refine ⟨U, ?_, .threw T.heap.size, hrun, hend, Or.inr ⟨T.heap.size, rfl, cls, ce, locs, hx U hWs.alike f1 (fun q hq => f2 q hq (fun z hz => nomatch hz)), hce, hOv, hcl, hWs, hall, hf⟩⟩
  refine st1 _ ?_
  show Steps p.tables e below (T1.setTop { method := m, pc := pc + 3, locals := ls, stack := .ref T.heap.size :: rest, locked := none }) _
  jvm_step X₁.here [X₁.here.top, hexec, d3', Value.category]
  exact X₁.ldcString hexec (own := own) (text := text) (index := is) (a := sa) hown' hstr'.1 hstr'.2
    (g := { method := m, pc := pc + 4, locals := ls, stack := .ref T.heap.size :: .ref T.heap.size :: rest, locked := none }) rfl d4' _ hsteps

def xB : List Cond := Cond.castable "java/util/NoSuchElementException" "java/util/NoSuchElementException" :: decL.map (fun q => Cond.declares q)
theorem xB_ok {G : Gc} {s : State} {args : Array Value} (h : mK G s) : ∀ w ∈ xB, w.before args s = true := by
  intro w hw
  rcases List.mem_cons.mp hw with e | e
  · rw [e]; exact va_Nw.use rfl (h.2.2.2.2.2.2 ("java/util/NoSuchElementException", "java/util/NoSuchElementException") (List.mem_of_getElem? (i := 0) rfl))
  · obtain ⟨q, hq, rfl⟩ := List.mem_map.mp e
    exact va_Nw.use rfl (h.2.2.2.2.2.1 q hq)
theorem xat_slide {G : Gc} {s : State} {args : Array Value} (h : mK G s) (hts : ∀ w ∈ gw, w.before args s = true) : ∀ w ∈ xatS "LanternState" 140 "java/util/NoSuchElementException" "java/lang/RuntimeException" ["java/lang/Exception"], w.before args s = true :=
  vx_hat (B := xB) (fun w hw => hts w (List.mem_filter.mpr ⟨(show ∀ w ∈ (xatS "LanternState" 140 "java/util/NoSuchElementException" "java/lang/RuntimeException" ["java/lang/Exception"]).filter goodWord, w ∈ lw_tbl by decide +kernel) w hw, (List.mem_filter.mp hw).2⟩)) (by decide +kernel) (xB_ok h)
theorem xat_hearer {G : Gc} {s : State} {args : Array Value} (h : mK G s) (hts : ∀ w ∈ gw, w.before args s = true) : ∀ w ∈ xatS "LanternState" 140 "java/util/NoSuchElementException" "java/lang/RuntimeException" ["java/lang/Exception"], w.before args s = true :=
  vx_hat (B := xB) (fun w hw => hts w (List.mem_filter.mpr ⟨(show ∀ w ∈ (xatS "LanternState" 140 "java/util/NoSuchElementException" "java/lang/RuntimeException" ["java/lang/Exception"]).filter goodWord, w ∈ lw_tbl by decide +kernel) w hw, (List.mem_filter.mp hw).2⟩)) (by decide +kernel) (xB_ok h)
theorem dX10_slide_0 : decode cX10_slide 0 = .ok (.aload_n 0, 1) := by decide +kernel
theorem dX10_slide_1 : decode cX10_slide 1 = .ok (.iload_n 1, 1) := by decide +kernel
theorem dX10_slide_2 : decode cX10_slide 2 = .ok (.invokevirtual 132, 3) := by decide +kernel
theorem dX10_slide_5 : decode cX10_slide 5 = .ok (.ifCond .eq 13, 3) := by decide +kernel
theorem dX10_slide_18 : decode cX10_slide 18 = .ok (.new 136, 3) := by decide +kernel
theorem dX10_slide_21 : decode cX10_slide 21 = .ok (.dup, 1) := by decide +kernel
theorem dX10_slide_22 : decode cX10_slide 22 = .ok (.ldc 138, 2) := by decide +kernel
theorem dX10_slide_24 : decode cX10_slide 24 = .ok (.invokespecial 140, 3) := by decide +kernel
theorem dX10_slide_27 : decode cX10_slide 27 = .ok (.athrow, 1) := by decide +kernel
set_option maxHeartbeats 4000000 in
set_option maxRecDepth 100000 in
theorem c_X10_slide_x {l : Launch} {G : Gc} (hst : l.stackTraces = false) (qx : Nat) (qt : Nat) (qs : Nat) (qd : Nat) (qa : Nat) (qb : Nat) (qh : Nat) (qr : Nat) (qe : Nat) (qp : Nat) (qf : Nat) (qn : Nat) (qi : Nat) (qo : Nat) (sslideNames : Nat) (spictures : Nat) (sheats : Nat) (safter : Nat) (shearerNames : Nat) (sneeds : Nat) (slikes : Nat) (shates : Nat) (snear : Nat) (a1 : Int32) (a2 : Int32) (sz : Nat) : vx_Met l yX10_slide (Cond.code yX10_slide cX10_slide 3 (some .int) :: gw) (rmD 6 1 6) (mPre G [.ref qx, .int a1, .int a2] [(qx, .inr (9, [.ref qt, .ref qs, .ref qd, .ref qa, .ref qb, .ref qh, .ref qr, .ref qe, .ref qp, .ref qf, .ref qn, .ref qi, .ref qo, .int 0, .int 0, .int (-1), .int (-1)])), (qs, .inr (4, [.int 0, .int 0, .int 0, .int 0, .int 1, .int 0, .int 40, .int 0, .int 0, .ref sslideNames, .ref spictures, .ref sheats, .ref safter, .ref shearerNames, .ref sneeds, .ref slikes, .ref shates, .ref snear]))] sz) (va_Qi (fun (_ : Int32) (_ : va_W) => False) (mB G (va_A [(qx, .inr (9, [.ref qt, .ref qs, .ref qd, .ref qa, .ref qb, .ref qh, .ref qr, .ref qe, .ref qp, .ref qf, .ref qn, .ref qi, .ref qo, .int 0, .int 0, .int (-1), .int (-1)])), (qs, .inr (4, [.int 0, .int 0, .int 0, .int 0, .int 1, .int 0, .int 40, .int 0, .int 0, .ref sslideNames, .ref spictures, .ref sheats, .ref safter, .ref shearerNames, .ref sneeds, .ref slikes, .ref shates, .ref snear]))] sz)) (va_A [(qx, .inr (9, [.ref qt, .ref qs, .ref qd, .ref qa, .ref qb, .ref qh, .ref qr, .ref qe, .ref qp, .ref qf, .ref qn, .ref qi, .ref qo, .int 0, .int 0, .int (-1), .int (-1)])), (qs, .inr (4, [.int 0, .int 0, .int 0, .int 0, .int 1, .int 0, .int 40, .int 0, .int 0, .ref sslideNames, .ref spictures, .ref sheats, .ref safter, .ref shearerNames, .ref sneeds, .ref slikes, .ref shates, .ref snear]))] sz)) (vx_X (fun _ : Unit => True) (fun E _ _ => E = "java/util/NoSuchElementException") (va_A [(qx, .inr (9, [.ref qt, .ref qs, .ref qd, .ref qa, .ref qb, .ref qh, .ref qr, .ref qe, .ref qp, .ref qf, .ref qn, .ref qi, .ref qo, .int 0, .int 0, .int (-1), .int (-1)])), (qs, .inr (4, [.int 0, .int 0, .int 0, .int 0, .int 1, .int 0, .int 40, .int 0, .int 0, .ref sslideNames, .ref spictures, .ref sheats, .ref safter, .ref shearerNames, .ref sneeds, .ref slikes, .ref shates, .ref snear]))] sz)) 1 6 (va_A [(qx, .inr (9, [.ref qt, .ref qs, .ref qd, .ref qa, .ref qb, .ref qh, .ref qr, .ref qe, .ref qp, .ref qf, .ref qn, .ref qi, .ref qo, .int 0, .int 0, .int (-1), .int (-1)])), (qs, .inr (4, [.int 0, .int 0, .int 0, .int 0, .int 1, .int 0, .int 40, .int 0, .int 0, .ref sslideNames, .ref spictures, .ref sheats, .ref safter, .ref shearerNames, .ref sneeds, .ref slikes, .ref shates, .ref snear]))] sz) := by
  refine vx_ofW (by decide) rfl ?_
  intro p e s m args below meth c s₁ B0 hml htb hv
  obtain ⟨rfl, hsz, hP, hK, hD0, hE⟩ := hv
  subst hsz
  have hts := atoms_spec (ws := Cond.code yX10_slide cX10_slide 3 (some .int) :: gw) B0.pre
  have hl := lv_entry ([.ref qx, .int a1, .int a2]) (n := 3) (Nat.le_of_ble_eq_true rfl)
  rw [lg_entry_eq]
  have B : Bd p s m _ meth c yX10_slide cX10_slide 3 (some .int) := ⟨⟨B0.exec, B0.bytes, hml, findClass_of_methodNamed B0.named, fun w h => hts w (List.mem_cons_of_mem _ h)⟩, B0.returns, B0.notSynchronized, (name_of_methodNamed B0.named B0.method).1⟩
  have C : CallFix p m c cX10_slide 3 s _ gw "LanternState" := B.1
  have hw : Wd G s (va_A [(qx, .inr (9, [.ref qt, .ref qs, .ref qd, .ref qa, .ref qb, .ref qh, .ref qr, .ref qe, .ref qp, .ref qf, .ref qn, .ref qi, .ref qo, .int 0, .int 0, .int (-1), .int (-1)])), (qs, .inr (4, [.int 0, .int 0, .int 0, .int 0, .int 1, .int 0, .int 40, .int 0, .int 0, .ref sslideNames, .ref spictures, .ref sheats, .ref safter, .ref shearerNames, .ref sneeds, .ref slikes, .ref shates, .ref snear]))] s.heap.size) [(qx, .inr (9, [.ref qt, .ref qs, .ref qd, .ref qa, .ref qb, .ref qh, .ref qr, .ref qe, .ref qp, .ref qf, .ref qn, .ref qi, .ref qo, .int 0, .int 0, .int (-1), .int (-1)])), (qs, .inr (4, [.int 0, .int 0, .int 0, .int 0, .int 1, .int 0, .int 40, .int 0, .int 0, .ref sslideNames, .ref spictures, .ref sheats, .ref safter, .ref shearerNames, .ref sneeds, .ref slikes, .ref shates, .ref snear]))] s.heap [] := ⟨hK, hP, hD0.self, va_S.rf, fun q h => Or.inr h, hE⟩
  revert hw
  generalize va_A [(qx, .inr (9, [.ref qt, .ref qs, .ref qd, .ref qa, .ref qb, .ref qh, .ref qr, .ref qe, .ref qp, .ref qf, .ref qn, .ref qi, .ref qo, .int 0, .int 0, .int (-1), .int (-1)])), (qs, .inr (4, [.int 0, .int 0, .int 0, .int 0, .int 1, .int 0, .int 40, .int 0, .int 0, .ref sslideNames, .ref spictures, .ref sheats, .ref safter, .ref shearerNames, .ref sneeds, .ref slikes, .ref shates, .ref snear]))] s.heap.size = A
  intro hw
  generalize (lg_sl ([.ref qx, .int a1, .int a2]) ++ List.replicate (3 - (lg_sl ([.ref qx, .int a1, .int a2])).length) Slot.unset).toArray = ls at hl ⊢
  have hl : lv_has ls 3 [(0, .ref qx), (1, .int a1), (2, .int a2)] := hl
  refine lv_aload_n C.1 C.2.1 dX10_slide_0 rfl (lv_at hl 0 rfl) ?_
  refine lv_iload_n C.1 C.2.1 dX10_slide_1 rfl (lv_at hl 1 rfl) ?_
  refine x_calliV (As := [.int a1]) (rest := []) (wr := []) C hw (c_X10_isSlide qx a1 qt qs qd qa qb qh qr qe qp qf qn qi qo sslideNames spictures sheats safter shearerNames sneeds slikes shates snear) mwX10_isSlide kw649 [0, 1] [] rfl rfl rfl rfl (by decide) 0 rfl rfl rfl rfl hl.1 rfl (Nat.le_of_ble_eq_true rfl) ⟨(Nat.le_of_ble_eq_true rfl), (Nat.le_of_ble_eq_true rfl)⟩ ⟨(Nat.le_of_ble_eq_true rfl), (Nat.le_of_ble_eq_true rfl)⟩ dX10_slide_2 (fun r1 u9 H locs hp9 hw => ?_)
  obtain ⟨rfl, rfl⟩ := hp9
  have hw : Wd G s A [(qx, .inr (9, [.ref qt, .ref qs, .ref qd, .ref qa, .ref qb, .ref qh, .ref qr, .ref qe, .ref qp, .ref qf, .ref qn, .ref qi, .ref qo, .int 0, .int 0, .int (-1), .int (-1)])), (qs, .inr (4, [.int 0, .int 0, .int 0, .int 0, .int 1, .int 0, .int 40, .int 0, .int 0, .ref sslideNames, .ref spictures, .ref sheats, .ref safter, .ref shearerNames, .ref sneeds, .ref slikes, .ref shates, .ref snear]))] H _ := hw
  refine lv_if_eq (tgt := 18) C.1 C.2.1 dX10_slide_5 (by decide) (fun _ => ?_) (fun h9 => absurd (by decide) h9)
  exact x_throwS (own := "LanternState") (cls := "java/util/NoSuchElementException") (text := "no such slide or what") (nY := "java/lang/RuntimeException") (names := ["java/lang/Exception"]) (rest := []) C.1 C.2.1 hst C.2.2.2.1 (by decide +kernel) (by decide +kernel) (by decide +kernel) (C.2.2.2.2 _ kw1098) (C.2.2.2.2 _ kw21) (strk5 hw.1) (xat_slide hw.1 C.2.2.2.2) (by decide +kernel) hw.2.2.2.2.2.2.2.2.1 hw.2.2.2.2.2.2.2.2.2 hw.2.2.2.1 (hl.1.trans C.2.2.1.symm) dX10_slide_18 dX10_slide_21 dX10_slide_22 dX10_slide_24 dX10_slide_27 (fun x hx => (htb x hx).elim) (by decide) (Nat.le_of_ble_eq_true rfl) (Nat.le_of_ble_eq_true rfl) (Nat.le_of_ble_eq_true rfl) B.2.2.1 (fun t _ hz hk => ⟨(), trivial, rfl, ⟨Nat.le_trans hw.2.2.2.1.1 hz, fun q h1 h2 => (hk q (Nat.lt_of_lt_of_le h1 hw.2.2.2.1.1)).trans (hw.2.2.2.1.2.1 q h1 h2)⟩⟩) hw.2.2.2.1.2.2 (Nat.le_of_ble_eq_true rfl) (Nat.le_of_ble_eq_true rfl)
theorem mwX10_slide : MwV yX10_slide cX10_slide 3 (some .int) 2 := ⟨⟨kw1097, kw1, by decide +kernel⟩, kw1095, kw1096⟩
theorem dL_slide_0 : decode cL_slide 0 = .ok (.aload_n 3, 1) := by decide +kernel
theorem dL_slide_1 : decode cL_slide 1 = .ok (.iconst 0, 1) := by decide +kernel
theorem dL_slide_2 : decode cL_slide 2 = .ok (.aload_n 0, 1) := by decide +kernel
theorem dL_slide_3 : decode cL_slide 3 = .ok (.iload_n 1, 1) := by decide +kernel
theorem dL_slide_4 : decode cL_slide 4 = .ok (.iload_n 2, 1) := by decide +kernel
theorem dL_slide_5 : decode cL_slide 5 = .ok (.invokevirtual 7, 3) := by decide +kernel
theorem dL_slide_13 : decode cL_slide 13 = .ok (.astore 4, 2) := by decide +kernel
theorem dL_slide_15 : decode cL_slide 15 = .ok (.iconst 1, 1) := by decide +kernel
theorem dL_slide_16 : decode cL_slide 16 = .ok (.ireturn, 1) := by decide +kernel
set_option maxHeartbeats 4000000 in
set_option maxRecDepth 100000 in
theorem c_L_slide {l : Launch} {G : Gc} (hst : l.stackTraces = false) (qx : Nat) (qt : Nat) (qs : Nat) (qd : Nat) (qa : Nat) (qb : Nat) (qh : Nat) (qr : Nat) (qe : Nat) (qp : Nat) (qf : Nat) (qn : Nat) (qi : Nat) (qo : Nat) (sslideNames : Nat) (spictures : Nat) (sheats : Nat) (safter : Nat) (shearerNames : Nat) (sneeds : Nat) (slikes : Nat) (shates : Nat) (snear : Nat) (a1 : Int32) (a2 : Int32) (qz : Nat) (sz : Nat) : Met l yL_slide (Cond.codeWith yL_slide cL_slide 5 (some .int) [(0, 10, 13, 13)] :: gw) (rmD 7 1 6) (mPre G [.ref qx, .int a1, .int a2, .ref qz] [(qx, .inr (9, [.ref qt, .ref qs, .ref qd, .ref qa, .ref qb, .ref qh, .ref qr, .ref qe, .ref qp, .ref qf, .ref qn, .ref qi, .ref qo, .int 0, .int 0, .int (-1), .int (-1)])), (qs, .inr (4, [.int 0, .int 0, .int 0, .int 0, .int 1, .int 0, .int 40, .int 0, .int 0, .ref sslideNames, .ref spictures, .ref sheats, .ref safter, .ref shearerNames, .ref sneeds, .ref slikes, .ref shates, .ref snear]))] sz) (va_Qi (fun (r9 : Int32) (u9 : va_W) => r9 = 1 ∧ u9 = []) (mB G (va_A [(qx, .inr (9, [.ref qt, .ref qs, .ref qd, .ref qa, .ref qb, .ref qh, .ref qr, .ref qe, .ref qp, .ref qf, .ref qn, .ref qi, .ref qo, .int 0, .int 0, .int (-1), .int (-1)])), (qs, .inr (4, [.int 0, .int 0, .int 0, .int 0, .int 1, .int 0, .int 40, .int 0, .int 0, .ref sslideNames, .ref spictures, .ref sheats, .ref safter, .ref shearerNames, .ref sneeds, .ref slikes, .ref shates, .ref snear]))] sz)) (va_A [(qx, .inr (9, [.ref qt, .ref qs, .ref qd, .ref qa, .ref qb, .ref qh, .ref qr, .ref qe, .ref qp, .ref qf, .ref qn, .ref qi, .ref qo, .int 0, .int 0, .int (-1), .int (-1)])), (qs, .inr (4, [.int 0, .int 0, .int 0, .int 0, .int 1, .int 0, .int 40, .int 0, .int 0, .ref sslideNames, .ref spictures, .ref sheats, .ref safter, .ref shearerNames, .ref sneeds, .ref slikes, .ref shates, .ref snear]))] sz)) 1 6 (va_A [(qx, .inr (9, [.ref qt, .ref qs, .ref qd, .ref qa, .ref qb, .ref qh, .ref qr, .ref qe, .ref qp, .ref qf, .ref qn, .ref qi, .ref qo, .int 0, .int 0, .int (-1), .int (-1)])), (qs, .inr (4, [.int 0, .int 0, .int 0, .int 0, .int 1, .int 0, .int 40, .int 0, .int 0, .ref sslideNames, .ref spictures, .ref sheats, .ref safter, .ref shearerNames, .ref sneeds, .ref slikes, .ref shates, .ref snear]))] sz) := by
  refine x_ofWH (by decide) rfl ?_
  intro p e s m args below meth c s₁ B0 hml htb hv
  obtain ⟨rfl, hsz, hP, hK, hD0, hE⟩ := hv
  subst hsz
  have hts := atoms_spec (ws := Cond.codeWith yL_slide cL_slide 5 (some .int) [(0, 10, 13, 13)] :: gw) B0.pre
  have hl := lv_entry ([.ref qx, .int a1, .int a2, .ref qz]) (n := 5) (Nat.le_of_ble_eq_true rfl)
  rw [lg_entry_eq]
  have B : Bd p s m _ meth c yL_slide cL_slide 5 (some .int) := ⟨⟨B0.exec, B0.bytes, hml, findClass_of_methodNamed B0.named, fun w h => hts w (List.mem_cons_of_mem _ h)⟩, B0.returns, B0.notSynchronized, (name_of_methodNamed B0.named B0.method).1⟩
  have C : CallFix p m c cL_slide 5 s _ gw "LanternStateLaw" := B.1
  have hw : Wd G s (va_A [(qx, .inr (9, [.ref qt, .ref qs, .ref qd, .ref qa, .ref qb, .ref qh, .ref qr, .ref qe, .ref qp, .ref qf, .ref qn, .ref qi, .ref qo, .int 0, .int 0, .int (-1), .int (-1)])), (qs, .inr (4, [.int 0, .int 0, .int 0, .int 0, .int 1, .int 0, .int 40, .int 0, .int 0, .ref sslideNames, .ref spictures, .ref sheats, .ref safter, .ref shearerNames, .ref sneeds, .ref slikes, .ref shates, .ref snear]))] s.heap.size) [(qx, .inr (9, [.ref qt, .ref qs, .ref qd, .ref qa, .ref qb, .ref qh, .ref qr, .ref qe, .ref qp, .ref qf, .ref qn, .ref qi, .ref qo, .int 0, .int 0, .int (-1), .int (-1)])), (qs, .inr (4, [.int 0, .int 0, .int 0, .int 0, .int 1, .int 0, .int 40, .int 0, .int 0, .ref sslideNames, .ref spictures, .ref sheats, .ref safter, .ref shearerNames, .ref sneeds, .ref slikes, .ref shates, .ref snear]))] s.heap [] := ⟨hK, hP, hD0.self, va_S.rf, fun q h => Or.inr h, hE⟩
  revert hw
  generalize va_A [(qx, .inr (9, [.ref qt, .ref qs, .ref qd, .ref qa, .ref qb, .ref qh, .ref qr, .ref qe, .ref qp, .ref qf, .ref qn, .ref qi, .ref qo, .int 0, .int 0, .int (-1), .int (-1)])), (qs, .inr (4, [.int 0, .int 0, .int 0, .int 0, .int 1, .int 0, .int 40, .int 0, .int 0, .ref sslideNames, .ref spictures, .ref sheats, .ref safter, .ref shearerNames, .ref sneeds, .ref slikes, .ref shates, .ref snear]))] s.heap.size = A
  intro hw
  generalize (lg_sl ([.ref qx, .int a1, .int a2, .ref qz]) ++ List.replicate (5 - (lg_sl ([.ref qx, .int a1, .int a2, .ref qz])).length) Slot.unset).toArray = ls at hl ⊢
  have hl : lv_has ls 5 [(0, .ref qx), (1, .int a1), (2, .int a2), (3, .ref qz)] := hl
  refine lv_aload_n C.1 C.2.1 dL_slide_0 rfl (lv_at hl 3 rfl) ?_
  refine lv_iconst (v := 0) C.1 C.2.1 dL_slide_1 (by decide) ?_
  refine lv_aload_n C.1 C.2.1 dL_slide_2 rfl (lv_at hl 0 rfl) ?_
  refine lv_iload_n C.1 C.2.1 dL_slide_3 rfl (lv_at hl 1 rfl) ?_
  refine lv_iload_n C.1 C.2.1 dL_slide_4 rfl (lv_at hl 2 rfl) ?_
  have hC : [0, 1].map (fun i => ([(qx, .inr (9, [.ref qt, .ref qs, .ref qd, .ref qa, .ref qb, .ref qh, .ref qr, .ref qe, .ref qp, .ref qf, .ref qn, .ref qi, .ref qo, .int 0, .int 0, .int (-1), .int (-1)])), (qs, .inr (4, [.int 0, .int 0, .int 0, .int 0, .int 1, .int 0, .int 40, .int 0, .int 0, .ref sslideNames, .ref spictures, .ref sheats, .ref safter, .ref shearerNames, .ref sneeds, .ref slikes, .ref shates, .ref snear]))] : va_W)[i]?) = ([(qx, .inr (9, [.ref qt, .ref qs, .ref qd, .ref qa, .ref qb, .ref qh, .ref qr, .ref qe, .ref qp, .ref qf, .ref qn, .ref qi, .ref qo, .int 0, .int 0, .int (-1), .int (-1)])), (qs, .inr (4, [.int 0, .int 0, .int 0, .int 0, .int 1, .int 0, .int 40, .int 0, .int 0, .ref sslideNames, .ref spictures, .ref sheats, .ref safter, .ref shearerNames, .ref sneeds, .ref slikes, .ref shates, .ref snear]))] : va_W).map some := rfl
  refine vx_calli (vx_runV (As := [.int a1, .int a2]) (rest := [.int 0, .ref qz]) C (c_X10_slide_x (G := G) hst qx qt qs qd qa qb qh qr qe qp qf qn qi qo sslideNames spictures sheats safter shearerNames sneeds slikes shates snear a1 a2 s.heap.size) ⟨cb_gw C mwX10_slide.1 kw1094 ⟨Nat.le_of_ble_eq_true rfl, Nat.le_of_ble_eq_true rfl⟩, C.2.2.2.2 _ mwX10_slide.2.1, C.2.2.2.2 _ mwX10_slide.2.2⟩ ⟨(pre_of hw [0, 1] rfl hC).1, x_recv hw [0, 1] rfl hC 0 rfl rfl rfl, (pre_of hw [0, 1] rfl hC).2⟩ rfl rfl hl.1 rfl (lv_room (Nat.le_of_ble_eq_true rfl)) dL_slide_5 ⟨Nat.le_of_ble_eq_true rfl, Nat.le_of_ble_eq_true rfl⟩) hw.2.2.2.1 (fun q _ h9 => free_of hw [0, 1] hC q h9) (free_of hw [0, 1] hC) (fun q _ h9 => free_of hw [0, 1] hC q h9) (fun E ce q9 u t H1 locs1 ht hal hpx hBX hz hk hS hq hv hcl => ?_) (fun r u t H1 locs1 ht hal hp hB hz hk hS => hp.elim)
  subst hBX
  refine x_catch (own := "LanternStateLaw") (name := "java/util/NoSuchElementException") C.2.2.2.1 ⟨0, 10, 13, 13⟩ htb rfl (by decide) (C.2.2.2.2 _ kw1093) (xB_ok hw.1 _ List.mem_cons_self) hq hv hcl ?_
  refine lv_astore (lv' := [(4, .ref q9), (0, .ref qx), (1, .int a1), (2, .int a2), (3, .ref qz)]) C.1 C.2.1 dL_slide_13 hl (by decide) rfl (fun ls hl => ?_)
  refine lv_iconst (v := 1) C.1 C.2.1 dL_slide_15 (by decide) ?_
  have hw2 : Wd G s A [] H1 locs1 := ⟨hw.1, fun k q h => by simp at h, ⟨fun i j p q h => by simp at h, fun k q h => by simp at h⟩, hS, hw.2.2.2.2⟩
  exact x_reti B hw2 ⟨rfl, rfl⟩ (Nat.le_of_ble_eq_true rfl) (Nat.le_of_ble_eq_true rfl) dL_slide_16
theorem dX10_hearer_0 : decode cX10_hearer 0 = .ok (.aload_n 0, 1) := by decide +kernel
theorem dX10_hearer_1 : decode cX10_hearer 1 = .ok (.iload_n 1, 1) := by decide +kernel
theorem dX10_hearer_2 : decode cX10_hearer 2 = .ok (.invokevirtual 188, 3) := by decide +kernel
theorem dX10_hearer_5 : decode cX10_hearer 5 = .ok (.ifCond .eq 12, 3) := by decide +kernel
theorem dX10_hearer_17 : decode cX10_hearer 17 = .ok (.new 136, 3) := by decide +kernel
theorem dX10_hearer_20 : decode cX10_hearer 20 = .ok (.dup, 1) := by decide +kernel
theorem dX10_hearer_21 : decode cX10_hearer 21 = .ok (.ldc 191, 2) := by decide +kernel
theorem dX10_hearer_23 : decode cX10_hearer 23 = .ok (.invokespecial 140, 3) := by decide +kernel
theorem dX10_hearer_26 : decode cX10_hearer 26 = .ok (.athrow, 1) := by decide +kernel
set_option maxHeartbeats 4000000 in
set_option maxRecDepth 100000 in
theorem c_X10_hearer_x {l : Launch} {G : Gc} (hst : l.stackTraces = false) (qx : Nat) (qt : Nat) (qs : Nat) (qd : Nat) (qa : Nat) (qb : Nat) (qh : Nat) (qr : Nat) (qe : Nat) (qp : Nat) (qf : Nat) (qn : Nat) (qi : Nat) (qo : Nat) (sslideNames : Nat) (spictures : Nat) (sheats : Nat) (safter : Nat) (shearerNames : Nat) (sneeds : Nat) (slikes : Nat) (shates : Nat) (snear : Nat) (a1 : Int32) (a2 : Int32) (sz : Nat) : vx_Met l yX10_hearer (Cond.code yX10_hearer cX10_hearer 3 (some .int) :: gw) (rmD 6 1 6) (mPre G [.ref qx, .int a1, .int a2] [(qx, .inr (9, [.ref qt, .ref qs, .ref qd, .ref qa, .ref qb, .ref qh, .ref qr, .ref qe, .ref qp, .ref qf, .ref qn, .ref qi, .ref qo, .int 0, .int 0, .int (-1), .int (-1)])), (qs, .inr (4, [.int 0, .int 0, .int 0, .int 0, .int 1, .int 0, .int 40, .int 0, .int 0, .ref sslideNames, .ref spictures, .ref sheats, .ref safter, .ref shearerNames, .ref sneeds, .ref slikes, .ref shates, .ref snear]))] sz) (va_Qi (fun (_ : Int32) (_ : va_W) => False) (mB G (va_A [(qx, .inr (9, [.ref qt, .ref qs, .ref qd, .ref qa, .ref qb, .ref qh, .ref qr, .ref qe, .ref qp, .ref qf, .ref qn, .ref qi, .ref qo, .int 0, .int 0, .int (-1), .int (-1)])), (qs, .inr (4, [.int 0, .int 0, .int 0, .int 0, .int 1, .int 0, .int 40, .int 0, .int 0, .ref sslideNames, .ref spictures, .ref sheats, .ref safter, .ref shearerNames, .ref sneeds, .ref slikes, .ref shates, .ref snear]))] sz)) (va_A [(qx, .inr (9, [.ref qt, .ref qs, .ref qd, .ref qa, .ref qb, .ref qh, .ref qr, .ref qe, .ref qp, .ref qf, .ref qn, .ref qi, .ref qo, .int 0, .int 0, .int (-1), .int (-1)])), (qs, .inr (4, [.int 0, .int 0, .int 0, .int 0, .int 1, .int 0, .int 40, .int 0, .int 0, .ref sslideNames, .ref spictures, .ref sheats, .ref safter, .ref shearerNames, .ref sneeds, .ref slikes, .ref shates, .ref snear]))] sz)) (vx_X (fun _ : Unit => True) (fun E _ _ => E = "java/util/NoSuchElementException") (va_A [(qx, .inr (9, [.ref qt, .ref qs, .ref qd, .ref qa, .ref qb, .ref qh, .ref qr, .ref qe, .ref qp, .ref qf, .ref qn, .ref qi, .ref qo, .int 0, .int 0, .int (-1), .int (-1)])), (qs, .inr (4, [.int 0, .int 0, .int 0, .int 0, .int 1, .int 0, .int 40, .int 0, .int 0, .ref sslideNames, .ref spictures, .ref sheats, .ref safter, .ref shearerNames, .ref sneeds, .ref slikes, .ref shates, .ref snear]))] sz)) 1 6 (va_A [(qx, .inr (9, [.ref qt, .ref qs, .ref qd, .ref qa, .ref qb, .ref qh, .ref qr, .ref qe, .ref qp, .ref qf, .ref qn, .ref qi, .ref qo, .int 0, .int 0, .int (-1), .int (-1)])), (qs, .inr (4, [.int 0, .int 0, .int 0, .int 0, .int 1, .int 0, .int 40, .int 0, .int 0, .ref sslideNames, .ref spictures, .ref sheats, .ref safter, .ref shearerNames, .ref sneeds, .ref slikes, .ref shates, .ref snear]))] sz) := by
  refine vx_ofW (by decide) rfl ?_
  intro p e s m args below meth c s₁ B0 hml htb hv
  obtain ⟨rfl, hsz, hP, hK, hD0, hE⟩ := hv
  subst hsz
  have hts := atoms_spec (ws := Cond.code yX10_hearer cX10_hearer 3 (some .int) :: gw) B0.pre
  have hl := lv_entry ([.ref qx, .int a1, .int a2]) (n := 3) (Nat.le_of_ble_eq_true rfl)
  rw [lg_entry_eq]
  have B : Bd p s m _ meth c yX10_hearer cX10_hearer 3 (some .int) := ⟨⟨B0.exec, B0.bytes, hml, findClass_of_methodNamed B0.named, fun w h => hts w (List.mem_cons_of_mem _ h)⟩, B0.returns, B0.notSynchronized, (name_of_methodNamed B0.named B0.method).1⟩
  have C : CallFix p m c cX10_hearer 3 s _ gw "LanternState" := B.1
  have hw : Wd G s (va_A [(qx, .inr (9, [.ref qt, .ref qs, .ref qd, .ref qa, .ref qb, .ref qh, .ref qr, .ref qe, .ref qp, .ref qf, .ref qn, .ref qi, .ref qo, .int 0, .int 0, .int (-1), .int (-1)])), (qs, .inr (4, [.int 0, .int 0, .int 0, .int 0, .int 1, .int 0, .int 40, .int 0, .int 0, .ref sslideNames, .ref spictures, .ref sheats, .ref safter, .ref shearerNames, .ref sneeds, .ref slikes, .ref shates, .ref snear]))] s.heap.size) [(qx, .inr (9, [.ref qt, .ref qs, .ref qd, .ref qa, .ref qb, .ref qh, .ref qr, .ref qe, .ref qp, .ref qf, .ref qn, .ref qi, .ref qo, .int 0, .int 0, .int (-1), .int (-1)])), (qs, .inr (4, [.int 0, .int 0, .int 0, .int 0, .int 1, .int 0, .int 40, .int 0, .int 0, .ref sslideNames, .ref spictures, .ref sheats, .ref safter, .ref shearerNames, .ref sneeds, .ref slikes, .ref shates, .ref snear]))] s.heap [] := ⟨hK, hP, hD0.self, va_S.rf, fun q h => Or.inr h, hE⟩
  revert hw
  generalize va_A [(qx, .inr (9, [.ref qt, .ref qs, .ref qd, .ref qa, .ref qb, .ref qh, .ref qr, .ref qe, .ref qp, .ref qf, .ref qn, .ref qi, .ref qo, .int 0, .int 0, .int (-1), .int (-1)])), (qs, .inr (4, [.int 0, .int 0, .int 0, .int 0, .int 1, .int 0, .int 40, .int 0, .int 0, .ref sslideNames, .ref spictures, .ref sheats, .ref safter, .ref shearerNames, .ref sneeds, .ref slikes, .ref shates, .ref snear]))] s.heap.size = A
  intro hw
  generalize (lg_sl ([.ref qx, .int a1, .int a2]) ++ List.replicate (3 - (lg_sl ([.ref qx, .int a1, .int a2])).length) Slot.unset).toArray = ls at hl ⊢
  have hl : lv_has ls 3 [(0, .ref qx), (1, .int a1), (2, .int a2)] := hl
  refine lv_aload_n C.1 C.2.1 dX10_hearer_0 rfl (lv_at hl 0 rfl) ?_
  refine lv_iload_n C.1 C.2.1 dX10_hearer_1 rfl (lv_at hl 1 rfl) ?_
  refine x_calliV (As := [.int a1]) (rest := []) (wr := []) C hw (c_X10_isHearer qx a1 qt qs qd qa qb qh qr qe qp qf qn qi qo sslideNames spictures sheats safter shearerNames sneeds slikes shates snear) mwX10_isHearer kw677 [0, 1] [] rfl rfl rfl rfl (by decide) 0 rfl rfl rfl rfl hl.1 rfl (Nat.le_of_ble_eq_true rfl) ⟨(Nat.le_of_ble_eq_true rfl), (Nat.le_of_ble_eq_true rfl)⟩ ⟨(Nat.le_of_ble_eq_true rfl), (Nat.le_of_ble_eq_true rfl)⟩ dX10_hearer_2 (fun r1 u9 H locs hp9 hw => ?_)
  obtain ⟨rfl, rfl⟩ := hp9
  have hw : Wd G s A [(qx, .inr (9, [.ref qt, .ref qs, .ref qd, .ref qa, .ref qb, .ref qh, .ref qr, .ref qe, .ref qp, .ref qf, .ref qn, .ref qi, .ref qo, .int 0, .int 0, .int (-1), .int (-1)])), (qs, .inr (4, [.int 0, .int 0, .int 0, .int 0, .int 1, .int 0, .int 40, .int 0, .int 0, .ref sslideNames, .ref spictures, .ref sheats, .ref safter, .ref shearerNames, .ref sneeds, .ref slikes, .ref shates, .ref snear]))] H _ := hw
  refine lv_if_eq (tgt := 17) C.1 C.2.1 dX10_hearer_5 (by decide) (fun _ => ?_) (fun h9 => absurd (by decide) h9)
  exact x_throwS (own := "LanternState") (cls := "java/util/NoSuchElementException") (text := "no such hearer or what") (nY := "java/lang/RuntimeException") (names := ["java/lang/Exception"]) (rest := []) C.1 C.2.1 hst C.2.2.2.1 (by decide +kernel) (by decide +kernel) (by decide +kernel) (C.2.2.2.2 _ kw1098) (C.2.2.2.2 _ kw21) (strk6 hw.1) (xat_hearer hw.1 C.2.2.2.2) (by decide +kernel) hw.2.2.2.2.2.2.2.2.1 hw.2.2.2.2.2.2.2.2.2 hw.2.2.2.1 (hl.1.trans C.2.2.1.symm) dX10_hearer_17 dX10_hearer_20 dX10_hearer_21 dX10_hearer_23 dX10_hearer_26 (fun x hx => (htb x hx).elim) (by decide) (Nat.le_of_ble_eq_true rfl) (Nat.le_of_ble_eq_true rfl) (Nat.le_of_ble_eq_true rfl) B.2.2.1 (fun t _ hz hk => ⟨(), trivial, rfl, ⟨Nat.le_trans hw.2.2.2.1.1 hz, fun q h1 h2 => (hk q (Nat.lt_of_lt_of_le h1 hw.2.2.2.1.1)).trans (hw.2.2.2.1.2.1 q h1 h2)⟩⟩) hw.2.2.2.1.2.2 (Nat.le_of_ble_eq_true rfl) (Nat.le_of_ble_eq_true rfl)
theorem mwX10_hearer : MwV yX10_hearer cX10_hearer 3 (some .int) 2 := ⟨⟨kw1169, kw1, by decide +kernel⟩, kw1167, kw1168⟩
theorem dL_hearer_0 : decode cL_hearer 0 = .ok (.aload_n 3, 1) := by decide +kernel
theorem dL_hearer_1 : decode cL_hearer 1 = .ok (.iconst 0, 1) := by decide +kernel
theorem dL_hearer_2 : decode cL_hearer 2 = .ok (.aload_n 0, 1) := by decide +kernel
theorem dL_hearer_3 : decode cL_hearer 3 = .ok (.iload_n 1, 1) := by decide +kernel
theorem dL_hearer_4 : decode cL_hearer 4 = .ok (.iload_n 2, 1) := by decide +kernel
theorem dL_hearer_5 : decode cL_hearer 5 = .ok (.invokevirtual 15, 3) := by decide +kernel
theorem dL_hearer_13 : decode cL_hearer 13 = .ok (.astore 4, 2) := by decide +kernel
theorem dL_hearer_15 : decode cL_hearer 15 = .ok (.iconst 1, 1) := by decide +kernel
theorem dL_hearer_16 : decode cL_hearer 16 = .ok (.ireturn, 1) := by decide +kernel
set_option maxHeartbeats 4000000 in
set_option maxRecDepth 100000 in
theorem c_L_hearer {l : Launch} {G : Gc} (hst : l.stackTraces = false) (qx : Nat) (qt : Nat) (qs : Nat) (qd : Nat) (qa : Nat) (qb : Nat) (qh : Nat) (qr : Nat) (qe : Nat) (qp : Nat) (qf : Nat) (qn : Nat) (qi : Nat) (qo : Nat) (sslideNames : Nat) (spictures : Nat) (sheats : Nat) (safter : Nat) (shearerNames : Nat) (sneeds : Nat) (slikes : Nat) (shates : Nat) (snear : Nat) (a1 : Int32) (a2 : Int32) (qz : Nat) (sz : Nat) : Met l yL_hearer (Cond.codeWith yL_hearer cL_hearer 5 (some .int) [(0, 10, 13, 13)] :: gw) (rmD 7 1 6) (mPre G [.ref qx, .int a1, .int a2, .ref qz] [(qx, .inr (9, [.ref qt, .ref qs, .ref qd, .ref qa, .ref qb, .ref qh, .ref qr, .ref qe, .ref qp, .ref qf, .ref qn, .ref qi, .ref qo, .int 0, .int 0, .int (-1), .int (-1)])), (qs, .inr (4, [.int 0, .int 0, .int 0, .int 0, .int 1, .int 0, .int 40, .int 0, .int 0, .ref sslideNames, .ref spictures, .ref sheats, .ref safter, .ref shearerNames, .ref sneeds, .ref slikes, .ref shates, .ref snear]))] sz) (va_Qi (fun (r9 : Int32) (u9 : va_W) => r9 = 1 ∧ u9 = []) (mB G (va_A [(qx, .inr (9, [.ref qt, .ref qs, .ref qd, .ref qa, .ref qb, .ref qh, .ref qr, .ref qe, .ref qp, .ref qf, .ref qn, .ref qi, .ref qo, .int 0, .int 0, .int (-1), .int (-1)])), (qs, .inr (4, [.int 0, .int 0, .int 0, .int 0, .int 1, .int 0, .int 40, .int 0, .int 0, .ref sslideNames, .ref spictures, .ref sheats, .ref safter, .ref shearerNames, .ref sneeds, .ref slikes, .ref shates, .ref snear]))] sz)) (va_A [(qx, .inr (9, [.ref qt, .ref qs, .ref qd, .ref qa, .ref qb, .ref qh, .ref qr, .ref qe, .ref qp, .ref qf, .ref qn, .ref qi, .ref qo, .int 0, .int 0, .int (-1), .int (-1)])), (qs, .inr (4, [.int 0, .int 0, .int 0, .int 0, .int 1, .int 0, .int 40, .int 0, .int 0, .ref sslideNames, .ref spictures, .ref sheats, .ref safter, .ref shearerNames, .ref sneeds, .ref slikes, .ref shates, .ref snear]))] sz)) 1 6 (va_A [(qx, .inr (9, [.ref qt, .ref qs, .ref qd, .ref qa, .ref qb, .ref qh, .ref qr, .ref qe, .ref qp, .ref qf, .ref qn, .ref qi, .ref qo, .int 0, .int 0, .int (-1), .int (-1)])), (qs, .inr (4, [.int 0, .int 0, .int 0, .int 0, .int 1, .int 0, .int 40, .int 0, .int 0, .ref sslideNames, .ref spictures, .ref sheats, .ref safter, .ref shearerNames, .ref sneeds, .ref slikes, .ref shates, .ref snear]))] sz) := by
  refine x_ofWH (by decide) rfl ?_
  intro p e s m args below meth c s₁ B0 hml htb hv
  obtain ⟨rfl, hsz, hP, hK, hD0, hE⟩ := hv
  subst hsz
  have hts := atoms_spec (ws := Cond.codeWith yL_hearer cL_hearer 5 (some .int) [(0, 10, 13, 13)] :: gw) B0.pre
  have hl := lv_entry ([.ref qx, .int a1, .int a2, .ref qz]) (n := 5) (Nat.le_of_ble_eq_true rfl)
  rw [lg_entry_eq]
  have B : Bd p s m _ meth c yL_hearer cL_hearer 5 (some .int) := ⟨⟨B0.exec, B0.bytes, hml, findClass_of_methodNamed B0.named, fun w h => hts w (List.mem_cons_of_mem _ h)⟩, B0.returns, B0.notSynchronized, (name_of_methodNamed B0.named B0.method).1⟩
  have C : CallFix p m c cL_hearer 5 s _ gw "LanternStateLaw" := B.1
  have hw : Wd G s (va_A [(qx, .inr (9, [.ref qt, .ref qs, .ref qd, .ref qa, .ref qb, .ref qh, .ref qr, .ref qe, .ref qp, .ref qf, .ref qn, .ref qi, .ref qo, .int 0, .int 0, .int (-1), .int (-1)])), (qs, .inr (4, [.int 0, .int 0, .int 0, .int 0, .int 1, .int 0, .int 40, .int 0, .int 0, .ref sslideNames, .ref spictures, .ref sheats, .ref safter, .ref shearerNames, .ref sneeds, .ref slikes, .ref shates, .ref snear]))] s.heap.size) [(qx, .inr (9, [.ref qt, .ref qs, .ref qd, .ref qa, .ref qb, .ref qh, .ref qr, .ref qe, .ref qp, .ref qf, .ref qn, .ref qi, .ref qo, .int 0, .int 0, .int (-1), .int (-1)])), (qs, .inr (4, [.int 0, .int 0, .int 0, .int 0, .int 1, .int 0, .int 40, .int 0, .int 0, .ref sslideNames, .ref spictures, .ref sheats, .ref safter, .ref shearerNames, .ref sneeds, .ref slikes, .ref shates, .ref snear]))] s.heap [] := ⟨hK, hP, hD0.self, va_S.rf, fun q h => Or.inr h, hE⟩
  revert hw
  generalize va_A [(qx, .inr (9, [.ref qt, .ref qs, .ref qd, .ref qa, .ref qb, .ref qh, .ref qr, .ref qe, .ref qp, .ref qf, .ref qn, .ref qi, .ref qo, .int 0, .int 0, .int (-1), .int (-1)])), (qs, .inr (4, [.int 0, .int 0, .int 0, .int 0, .int 1, .int 0, .int 40, .int 0, .int 0, .ref sslideNames, .ref spictures, .ref sheats, .ref safter, .ref shearerNames, .ref sneeds, .ref slikes, .ref shates, .ref snear]))] s.heap.size = A
  intro hw
  generalize (lg_sl ([.ref qx, .int a1, .int a2, .ref qz]) ++ List.replicate (5 - (lg_sl ([.ref qx, .int a1, .int a2, .ref qz])).length) Slot.unset).toArray = ls at hl ⊢
  have hl : lv_has ls 5 [(0, .ref qx), (1, .int a1), (2, .int a2), (3, .ref qz)] := hl
  refine lv_aload_n C.1 C.2.1 dL_hearer_0 rfl (lv_at hl 3 rfl) ?_
  refine lv_iconst (v := 0) C.1 C.2.1 dL_hearer_1 (by decide) ?_
  refine lv_aload_n C.1 C.2.1 dL_hearer_2 rfl (lv_at hl 0 rfl) ?_
  refine lv_iload_n C.1 C.2.1 dL_hearer_3 rfl (lv_at hl 1 rfl) ?_
  refine lv_iload_n C.1 C.2.1 dL_hearer_4 rfl (lv_at hl 2 rfl) ?_
  have hC : [0, 1].map (fun i => ([(qx, .inr (9, [.ref qt, .ref qs, .ref qd, .ref qa, .ref qb, .ref qh, .ref qr, .ref qe, .ref qp, .ref qf, .ref qn, .ref qi, .ref qo, .int 0, .int 0, .int (-1), .int (-1)])), (qs, .inr (4, [.int 0, .int 0, .int 0, .int 0, .int 1, .int 0, .int 40, .int 0, .int 0, .ref sslideNames, .ref spictures, .ref sheats, .ref safter, .ref shearerNames, .ref sneeds, .ref slikes, .ref shates, .ref snear]))] : va_W)[i]?) = ([(qx, .inr (9, [.ref qt, .ref qs, .ref qd, .ref qa, .ref qb, .ref qh, .ref qr, .ref qe, .ref qp, .ref qf, .ref qn, .ref qi, .ref qo, .int 0, .int 0, .int (-1), .int (-1)])), (qs, .inr (4, [.int 0, .int 0, .int 0, .int 0, .int 1, .int 0, .int 40, .int 0, .int 0, .ref sslideNames, .ref spictures, .ref sheats, .ref safter, .ref shearerNames, .ref sneeds, .ref slikes, .ref shates, .ref snear]))] : va_W).map some := rfl
  refine vx_calli (vx_runV (As := [.int a1, .int a2]) (rest := [.int 0, .ref qz]) C (c_X10_hearer_x (G := G) hst qx qt qs qd qa qb qh qr qe qp qf qn qi qo sslideNames spictures sheats safter shearerNames sneeds slikes shates snear a1 a2 s.heap.size) ⟨cb_gw C mwX10_hearer.1 kw1166 ⟨Nat.le_of_ble_eq_true rfl, Nat.le_of_ble_eq_true rfl⟩, C.2.2.2.2 _ mwX10_hearer.2.1, C.2.2.2.2 _ mwX10_hearer.2.2⟩ ⟨(pre_of hw [0, 1] rfl hC).1, x_recv hw [0, 1] rfl hC 0 rfl rfl rfl, (pre_of hw [0, 1] rfl hC).2⟩ rfl rfl hl.1 rfl (lv_room (Nat.le_of_ble_eq_true rfl)) dL_hearer_5 ⟨Nat.le_of_ble_eq_true rfl, Nat.le_of_ble_eq_true rfl⟩) hw.2.2.2.1 (fun q _ h9 => free_of hw [0, 1] hC q h9) (free_of hw [0, 1] hC) (fun q _ h9 => free_of hw [0, 1] hC q h9) (fun E ce q9 u t H1 locs1 ht hal hpx hBX hz hk hS hq hv hcl => ?_) (fun r u t H1 locs1 ht hal hp hB hz hk hS => hp.elim)
  subst hBX
  refine x_catch (own := "LanternStateLaw") (name := "java/util/NoSuchElementException") C.2.2.2.1 ⟨0, 10, 13, 13⟩ htb rfl (by decide) (C.2.2.2.2 _ kw1093) (xB_ok hw.1 _ List.mem_cons_self) hq hv hcl ?_
  refine lv_astore (lv' := [(4, .ref q9), (0, .ref qx), (1, .int a1), (2, .int a2), (3, .ref qz)]) C.1 C.2.1 dL_hearer_13 hl (by decide) rfl (fun ls hl => ?_)
  refine lv_iconst (v := 1) C.1 C.2.1 dL_hearer_15 (by decide) ?_
  have hw2 : Wd G s A [] H1 locs1 := ⟨hw.1, fun k q h => by simp at h, ⟨fun i j p q h => by simp at h, fun k q h => by simp at h⟩, hS, hw.2.2.2.2⟩
  exact x_reti B hw2 ⟨rfl, rfl⟩ (Nat.le_of_ble_eq_true rfl) (Nat.le_of_ble_eq_true rfl) dL_hearer_16
