/-! THE CLAIM OUT OF ONE WALK OF THE LAW'S BODY. Your part is whole_start (and what it stands on); all else here is the same for every law, but numbers. -/
def R_law : String := "LanternStateLaw"
def lw_P (b : Addr) (xs : List Int32) (args : Array Value) (s : State) : Prop := args = #[.ref b] ∧ s.IntsAt b xs ∧ xs.length ≤ 6 ∧ (Jvm.Cond.and given_1 narrow_1).before args s = true
def lw_Q (_ : Array Value) (s : State) (o : Outcome) (t : State) : Prop := o = .returned (some (.int 1)) ∧ Framed s o t [] 600002 7302232
def lw_Z (below : List Frame) (a : Array Value) (s : State) : State → Prop := fun t => ∃ o, t.status = .running ∧ Ended t below o ∧ lw_Q a s o t
/-- the law's own end, with 1 on the stack, nothing written that was there before, its room as the claim has it -/
theorem lw_ret {p : Program} {l : Launch} {e : Env} {s : State} {m : MethodId} {below : List Frame} {meth : Method} {c : Code} {b : Nat} (hx : p.tables.exec = Jvm.exec) (hb : c.code = code) (hr : meth.sig.returnType = ret) (hlocks : meth.locks = false) {pc : Nat} {H : Heap} {ls : Array Slot} (hdg : decode code pc = .ok (.ireturn, 1)) : W p l e room_1 s m #[Value.ref b] below meth c H [] 600002 7302232 (lw_Z below #[Value.ref b] s) (F0 m pc ls [.int 1]) := by
  intro T hT X
  obtain ⟨fs, hret, hrun, hended, hW, hframe⟩ := X.leave (v := some (.int 1)) (hlocks := hlocks) (fun h => by rw [hr] at h; cases h)
  have hmeth' : T.vm.method? m = some meth := X.method'
  refine ⟨T.setFrames fs, ?_, .returned (some (.int 1)), hrun, hended, rfl, ⟨_, rfl⟩, hW, hframe⟩
  jvm_step X.here [X.here.top, hx, hb, hdg, hmeth', hr, ret, narrow_b1]
  (try refine ⟨rfl, ?_⟩); (try refine ⟨rfl, ?_⟩)
  first | (intro acts; rw [hret _ acts rfl rfl rfl]) | rw [hret _ _ rfl rfl rfl]
  exact Steps.refl _
/-- what holds at the law's entry: the machine, the code, the tables' words (any of lw_tbl by 'hts w (by decide +kernel)'), the script of L ints xs at the cell b, what the Statement gives of the start (any of its parts by flat_of_before) -/
def lw_At (p : Program) (s : State) (m : MethodId) (meth : Method) (c : Code) (b L : Nat) (xs : Nat → Int32) : Prop :=
  p.tables.exec = Jvm.exec ∧ c.code = code ∧ meth.sig.returnType = ret ∧ c.maxLocals = 7 ∧ s.vm.findClass R_law = some m.cls ∧ (∀ w ∈ lw_tbl, w.before #[Value.ref b] s = true) ∧ va_X b L xs s s.heap ∧ b < s.heap.size ∧ meth.locks = false ∧ (Jvm.Cond.and given_1 narrow_1).before #[Value.ref b] s = true
theorem sig_L_slide : ∀ sig, parseMethodDescriptor yL_slide.desc = some sig → 4 = sig.parameters.length := by
  intro sig h
  have h2 : (parseMethodDescriptor yL_slide.desc).map (fun d => d.parameters.length) = some 4 := by decide +kernel
  rw [h] at h2
  exact (Option.some.inj h2).symm
theorem sig_L_hearer : ∀ sig, parseMethodDescriptor yL_hearer.desc = some sig → 4 = sig.parameters.length := by
  intro sig h
  have h2 : (parseMethodDescriptor yL_hearer.desc).map (fun d => d.parameters.length) = some 4 := by decide +kernel
  rw [h] at h2
  exact (Option.some.inj h2).symm
theorem dL_law_23 : decode cL_law 23 = .ok (.iload 4, 2) := by decide +kernel
theorem dL_law_25 : decode cL_law 25 = .ok (.aload_n 0, 1) := by decide +kernel
theorem dL_law_26 : decode cL_law 26 = .ok (.arraylength, 1) := by decide +kernel
theorem dL_law_27 : decode cL_law 27 = .ok (.bipush 6, 2) := by decide +kernel
theorem dL_law_29 : decode cL_law 29 = .ok (.isub, 1) := by decide +kernel
theorem dL_law_30 : decode cL_law 30 = .ok (.if_icmp .gt 1381, 3) := by decide +kernel
theorem dL_law_1411 : decode cL_law 1411 = .ok (.iconst 1, 1) := by decide +kernel
theorem dL_law_1412 : decode cL_law 1412 = .ok (.ireturn, 1) := by decide +kernel
theorem law_tail {p : Program} {l : Launch} {e : Env} {s : State} {m : MethodId} {below : List Frame} {meth : Method} {c : Code} {G : Gc} {b : Nat} {xs : Nat → Int32} {w : va_W} {H : Heap} {locs : List Loc} {cells slots : Nat} {ls : Array Slot} (C0 : lw_At p s m meth c b 6 xs) (hw : Wd G s (fun q : Nat => s.heap.size ≤ q) w H locs) (h1 : cells ≤ 600002) (h2 : slots ≤ 7302232) (hl : lv_has ls 7 [(4, .int 6), (0, .ref b)]) : W p l e room_1 s m #[Value.ref b] below meth c H locs cells slots (lw_Z below #[Value.ref b] s) (F0 m 23 ls []) := by
  obtain ⟨hx, hb, hr, hml, hown, hts, hX, hbl, hlocks, hgv⟩ := id C0
  have hbA : ¬ (fun q : Nat => s.heap.size ≤ q) b := Nat.not_le.mpr hbl
  refine lv_iload hx hb dL_law_23 (lv_at hl 0 rfl) ?_
  refine lv_aload_n hx hb dL_law_25 rfl (lv_at hl 1 rfl) ?_
  refine va_slen hx hb hX hbl hbA hw.2.2.2.1 dL_law_26 ?_
  refine lv_bipush (v := 6) hx hb dL_law_27 (by decide) ?_
  refine lv_isub hx hb dL_law_29 ?_
  refine x_topi (z := 0) (by decide) ?_
  refine lv_icmp_gt (tgt := 1411) hx hb dL_law_30 (by decide) (fun _ => ?_) (fun h9 => absurd (by decide) h9)
  refine lv_iconst (v := 1) hx hb dL_law_1411 (by decide) ?_
  refine va_forget hw.2.2.2.1.2.2 ?_
  refine W.widen h1 h2 ?_
  exact lw_ret hx hb hr hlocks dL_law_1412
theorem dL_law_212 : decode cL_law 212 = .ok (.aload_n 1, 1) := by decide +kernel
theorem dL_law_213 : decode cL_law 213 = .ok (.aload_n 0, 1) := by decide +kernel
theorem dL_law_214 : decode cL_law 214 = .ok (.iload 4, 2) := by decide +kernel
theorem dL_law_216 : decode cL_law 216 = .ok (.iconst 1, 1) := by decide +kernel
theorem dL_law_217 : decode cL_law 217 = .ok (.iadd, 1) := by decide +kernel
theorem dL_law_218 : decode cL_law 218 = .ok (.iaload, 1) := by decide +kernel
theorem dL_law_219 : decode cL_law 219 = .ok (.aload_n 0, 1) := by decide +kernel
theorem dL_law_220 : decode cL_law 220 = .ok (.iload 4, 2) := by decide +kernel
theorem dL_law_222 : decode cL_law 222 = .ok (.iconst 2, 1) := by decide +kernel
theorem dL_law_223 : decode cL_law 223 = .ok (.iadd, 1) := by decide +kernel
theorem dL_law_224 : decode cL_law 224 = .ok (.iaload, 1) := by decide +kernel
theorem dL_law_225 : decode cL_law 225 = .ok (.aload_n 0, 1) := by decide +kernel
theorem dL_law_226 : decode cL_law 226 = .ok (.iload 4, 2) := by decide +kernel
theorem dL_law_228 : decode cL_law 228 = .ok (.iconst 3, 1) := by decide +kernel
theorem dL_law_229 : decode cL_law 229 = .ok (.iadd, 1) := by decide +kernel
theorem dL_law_230 : decode cL_law 230 = .ok (.iaload, 1) := by decide +kernel
theorem dL_law_231 : decode cL_law 231 = .ok (.aload_n 0, 1) := by decide +kernel
theorem dL_law_232 : decode cL_law 232 = .ok (.iload 4, 2) := by decide +kernel
theorem dL_law_234 : decode cL_law 234 = .ok (.iconst 4, 1) := by decide +kernel
theorem dL_law_235 : decode cL_law 235 = .ok (.iadd, 1) := by decide +kernel
theorem dL_law_236 : decode cL_law 236 = .ok (.iaload, 1) := by decide +kernel
theorem dL_law_237 : decode cL_law 237 = .ok (.aload_n 0, 1) := by decide +kernel
theorem dL_law_238 : decode cL_law 238 = .ok (.iload 4, 2) := by decide +kernel
theorem dL_law_240 : decode cL_law 240 = .ok (.iconst 5, 1) := by decide +kernel
theorem dL_law_241 : decode cL_law 241 = .ok (.iadd, 1) := by decide +kernel
theorem dL_law_242 : decode cL_law 242 = .ok (.iaload, 1) := by decide +kernel
theorem dL_law_243 : decode cL_law 243 = .ok (.invokevirtual 22, 3) := by decide +kernel
theorem mwX10_feed : MwV yX10_feed cX10_feed 6 (some .int) 5 := ⟨⟨kw501, kw1, by decide +kernel⟩, kw499, kw500⟩
theorem dL_law_246 : decode cL_law 246 = .ok (.aload_n 2, 1) := by decide +kernel
theorem dL_law_247 : decode cL_law 247 = .ok (.aload_n 0, 1) := by decide +kernel
theorem dL_law_248 : decode cL_law 248 = .ok (.iload 4, 2) := by decide +kernel
theorem dL_law_250 : decode cL_law 250 = .ok (.iconst 1, 1) := by decide +kernel
theorem dL_law_251 : decode cL_law 251 = .ok (.iadd, 1) := by decide +kernel
theorem dL_law_252 : decode cL_law 252 = .ok (.iaload, 1) := by decide +kernel
theorem dL_law_253 : decode cL_law 253 = .ok (.aload_n 0, 1) := by decide +kernel
theorem dL_law_254 : decode cL_law 254 = .ok (.iload 4, 2) := by decide +kernel
theorem dL_law_256 : decode cL_law 256 = .ok (.iconst 2, 1) := by decide +kernel
theorem dL_law_257 : decode cL_law 257 = .ok (.iadd, 1) := by decide +kernel
theorem dL_law_258 : decode cL_law 258 = .ok (.iaload, 1) := by decide +kernel
theorem dL_law_259 : decode cL_law 259 = .ok (.aload_n 0, 1) := by decide +kernel
theorem dL_law_260 : decode cL_law 260 = .ok (.iload 4, 2) := by decide +kernel
theorem dL_law_262 : decode cL_law 262 = .ok (.iconst 3, 1) := by decide +kernel
theorem dL_law_263 : decode cL_law 263 = .ok (.iadd, 1) := by decide +kernel
theorem dL_law_264 : decode cL_law 264 = .ok (.iaload, 1) := by decide +kernel
theorem dL_law_265 : decode cL_law 265 = .ok (.aload_n 0, 1) := by decide +kernel
theorem dL_law_266 : decode cL_law 266 = .ok (.iload 4, 2) := by decide +kernel
theorem dL_law_268 : decode cL_law 268 = .ok (.iconst 4, 1) := by decide +kernel
theorem dL_law_269 : decode cL_law 269 = .ok (.iadd, 1) := by decide +kernel
theorem dL_law_270 : decode cL_law 270 = .ok (.iaload, 1) := by decide +kernel
theorem dL_law_271 : decode cL_law 271 = .ok (.aload_n 0, 1) := by decide +kernel
theorem dL_law_272 : decode cL_law 272 = .ok (.iload 4, 2) := by decide +kernel
theorem dL_law_274 : decode cL_law 274 = .ok (.iconst 5, 1) := by decide +kernel
theorem dL_law_275 : decode cL_law 275 = .ok (.iadd, 1) := by decide +kernel
theorem dL_law_276 : decode cL_law 276 = .ok (.iaload, 1) := by decide +kernel
theorem dL_law_277 : decode cL_law 277 = .ok (.invokevirtual 26, 3) := by decide +kernel
theorem mwX11_feed : MwV yX11_feed cX11_feed 6 (some .int) 5 := ⟨⟨kw1178, kw15, by decide +kernel⟩, kw1176, kw1177⟩
theorem dL_law_280 : decode cL_law 280 = .ok (.if_icmp .eq 1125, 3) := by decide +kernel
theorem dL_law_1405 : decode cL_law 1405 = .ok (.iinc 4 6, 3) := by decide +kernel
theorem dL_law_1408 : decode cL_law 1408 = .ok (.goto (-1385), 3) := by decide +kernel
set_option maxHeartbeats 4000000 in
set_option maxRecDepth 100000 in
theorem law_feed {p : Program} {l : Launch} {e : Env} {s : State} {m : MethodId} {below : List Frame} {meth : Method} {c : Code} {G : Gc} {b : Nat} {xs : Nat → Int32} (hst : l.stackTraces = false) (qx : Nat) (qm : Nat) (qz : Nat) (qt : Nat) (qs : Nat) (qd : Nat) (qa : Nat) (qb : Nat) (qh : Nat) (qr : Nat) (qe : Nat) (qp : Nat) (qf : Nat) (qn : Nat) (qi : Nat) (qo : Nat) (kc : Nat) (bys : Nat) (mtape : Nat) (mnow : Nat) (mread : Nat) (mkept : Nat) (msnaps : Nat) (maside : Nat) (mname : Nat) (mreadName : Nat) (mkeptName : Nat) (misKept : Nat) (monces : Nat) (morder : Nat) (mordered : Nat) (mtext : Nat) (mline : Nat) (mwritten : Nat) (mnode : Nat) {A : Nat → Prop} (eA : A = fun q : Nat => s.heap.size ≤ q) {H : Heap} {locs : List Loc} {ls : Array Slot} (C0 : lw_At p s m meth c b 6 xs) (hw : Wd G s A [(qx, .inr (9, [.ref qt, .ref qs, .ref qd, .ref qa, .ref qb, .ref qh, .ref qr, .ref qe, .ref qp, .ref qf, .ref qn, .ref qi, .ref qo, .int 0, .int 0, .int (-1), .int (-1)])), (qt, .inr (8, [.ref kc, .ref bys, .int 0, .int 0, .int 0, .int 0, .int 0, .int 0, .long 0, .int 0, .int 0, .int 0])), (bys, eB G 940 (fun _ => 0)), (qm, .inr (10, [.int 0, .ref mtape, .int 0, .int 0, .int 0, .int 0, .int 0, .int 0, .int 0, .int 0, .int 0, .int 0, .long 0, .int 0, .ref mnow, .ref mread, .ref mkept, .ref msnaps, .ref maside, .ref mname, .ref mreadName, .ref mkeptName, .ref misKept, .ref monces, .int 0, .ref morder, .ref mordered, .int 0, .int 0, .int 0, .int (-1), .int (-1), .ref mtext, .int 0, .int 0, .ref mline, .ref mwritten, .int 0, .int 0, .ref mnode, .int 0, .int 0, .int 0, .int 0])), (mtape, eI G 940 (fun _ => 0))] H locs) (hl : lv_has ls 7 [(4, .int 0), (3, .ref qz), (2, .ref qm), (1, .ref qx), (0, .ref b)]) : W p l e room_1 s m #[Value.ref b] below meth c H locs 147 5480 (lw_Z below #[Value.ref b] s) (F0 m 212 ls []) := by
  subst eA
  obtain ⟨hx, hb, hr, hml, hown, hts, hX, hbl, hlocks, hgv⟩ := id C0
  have hbA : ¬ (fun q : Nat => s.heap.size ≤ q) b := Nat.not_le.mpr hbl
  have C : CallFix p m c code 7 s #[Value.ref b] gw "LanternStateLaw" := ⟨hx, hb, hml, hown, fun w h => hts w (gw_sub w h)⟩
  refine lv_aload_n C.1 C.2.1 dL_law_212 rfl (lv_at hl 3 rfl) ?_
  refine lv_aload_n C.1 C.2.1 dL_law_213 rfl (lv_at hl 4 rfl) ?_
  refine lv_iload C.1 C.2.1 dL_law_214 (lv_at hl 0 rfl) ?_
  refine lv_iconst (v := 1) C.1 C.2.1 dL_law_216 (by decide) ?_
  refine lv_iadd C.1 C.2.1 dL_law_217 ?_
  refine x_topi (z := 1) (by decide) ?_
  refine va_sld C.1 C.2.1 hX hbl hbA hw.2.2.2.1 (i := 1) (x_in rfl) dL_law_218 ?_
  refine x_topi (z := (xs 1)) rfl ?_
  refine lv_aload_n C.1 C.2.1 dL_law_219 rfl (lv_at hl 4 rfl) ?_
  refine lv_iload C.1 C.2.1 dL_law_220 (lv_at hl 0 rfl) ?_
  refine lv_iconst (v := 2) C.1 C.2.1 dL_law_222 (by decide) ?_
  refine lv_iadd C.1 C.2.1 dL_law_223 ?_
  refine x_topi (z := 2) (by decide) ?_
  refine va_sld C.1 C.2.1 hX hbl hbA hw.2.2.2.1 (i := 2) (x_in rfl) dL_law_224 ?_
  refine x_topi (z := (xs 2)) rfl ?_
  refine lv_aload_n C.1 C.2.1 dL_law_225 rfl (lv_at hl 4 rfl) ?_
  refine lv_iload C.1 C.2.1 dL_law_226 (lv_at hl 0 rfl) ?_
  refine lv_iconst (v := 3) C.1 C.2.1 dL_law_228 (by decide) ?_
  refine lv_iadd C.1 C.2.1 dL_law_229 ?_
  refine x_topi (z := 3) (by decide) ?_
  refine va_sld C.1 C.2.1 hX hbl hbA hw.2.2.2.1 (i := 3) (x_in rfl) dL_law_230 ?_
  refine x_topi (z := (xs 3)) rfl ?_
  refine lv_aload_n C.1 C.2.1 dL_law_231 rfl (lv_at hl 4 rfl) ?_
  refine lv_iload C.1 C.2.1 dL_law_232 (lv_at hl 0 rfl) ?_
  refine lv_iconst (v := 4) C.1 C.2.1 dL_law_234 (by decide) ?_
  refine lv_iadd C.1 C.2.1 dL_law_235 ?_
  refine x_topi (z := 4) (by decide) ?_
  refine va_sld C.1 C.2.1 hX hbl hbA hw.2.2.2.1 (i := 4) (x_in rfl) dL_law_236 ?_
  refine x_topi (z := (xs 4)) rfl ?_
  refine lv_aload_n C.1 C.2.1 dL_law_237 rfl (lv_at hl 4 rfl) ?_
  refine lv_iload C.1 C.2.1 dL_law_238 (lv_at hl 0 rfl) ?_
  refine lv_iconst (v := 5) C.1 C.2.1 dL_law_240 (by decide) ?_
  refine lv_iadd C.1 C.2.1 dL_law_241 ?_
  refine x_topi (z := 5) (by decide) ?_
  refine va_sld C.1 C.2.1 hX hbl hbA hw.2.2.2.1 (i := 5) (x_in rfl) dL_law_242 ?_
  refine x_topi (z := (xs 5)) rfl ?_
  refine x_calliV (As := [.int (xs 1), .int (xs 2), .int (xs 3), .int (xs 4), .int (xs 5)]) (rest := []) (wr := [(qm, .inr (10, [.int 0, .ref mtape, .int 0, .int 0, .int 0, .int 0, .int 0, .int 0, .int 0, .int 0, .int 0, .int 0, .long 0, .int 0, .ref mnow, .ref mread, .ref mkept, .ref msnaps, .ref maside, .ref mname, .ref mreadName, .ref mkeptName, .ref misKept, .ref monces, .int 0, .ref morder, .ref mordered, .int 0, .int 0, .int 0, .int (-1), .int (-1), .ref mtext, .int 0, .int 0, .ref mline, .ref mwritten, .int 0, .int 0, .ref mnode, .int 0, .int 0, .int 0, .int 0])), (mtape, eI G 940 (fun _ => 0))]) C hw (c_X10_feed qx (xs 1) (xs 2) (xs 3) (xs 4) (xs 5) qt qs qd qa qb qh qr qe qp qf qn qi qo kc bys) mwX10_feed kw498 [0, 1, 2] [3, 4] rfl rfl rfl rfl (by decide) 0 rfl rfl rfl rfl hl.1 rfl (Nat.le_of_ble_eq_true rfl) ⟨(Nat.le_of_ble_eq_true rfl), (Nat.le_of_ble_eq_true rfl)⟩ ⟨(Nat.le_of_ble_eq_true rfl), (Nat.le_of_ble_eq_true rfl)⟩ dL_law_243 (fun r1 u9 H locs hp9 hw => ?_)
  obtain ⟨gb_2, rfl, rfl⟩ := hp9
  have hw : Wd G s (fun q : Nat => s.heap.size ≤ q) [(qm, .inr (10, [.int 0, .ref mtape, .int 0, .int 0, .int 0, .int 0, .int 0, .int 0, .int 0, .int 0, .int 0, .int 0, .long 0, .int 0, .ref mnow, .ref mread, .ref mkept, .ref msnaps, .ref maside, .ref mname, .ref mreadName, .ref mkeptName, .ref misKept, .ref monces, .int 0, .ref morder, .ref mordered, .int 0, .int 0, .int 0, .int (-1), .int (-1), .ref mtext, .int 0, .int 0, .ref mline, .ref mwritten, .int 0, .int 0, .ref mnode, .int 0, .int 0, .int 0, .int 0])), (mtape, eI G 940 (fun _ => 0)), (qx, .inr (9, [.ref qt, .ref qs, .ref qd, .ref qa, .ref qb, .ref qh, .ref qr, .ref qe, .ref qp, .ref qf, .ref qn, .ref qi, .ref qo, .int 0, .int 0, .int (-1), .int (-1)])), (qt, .inr (8, [.ref kc, .ref bys, .int 20, .int 0, .int 0, .int 0, .int 0, .int 0, .long 0, .int 0, .int 0, .int 0])), (bys, eB G 940 gb_2)] H _ := hw
  refine lv_aload_n C.1 C.2.1 dL_law_246 rfl (lv_at hl 2 rfl) ?_
  refine lv_aload_n C.1 C.2.1 dL_law_247 rfl (lv_at hl 4 rfl) ?_
  refine lv_iload C.1 C.2.1 dL_law_248 (lv_at hl 0 rfl) ?_
  refine lv_iconst (v := 1) C.1 C.2.1 dL_law_250 (by decide) ?_
  refine lv_iadd C.1 C.2.1 dL_law_251 ?_
  refine x_topi (z := 1) (by decide) ?_
  refine va_sld C.1 C.2.1 hX hbl hbA hw.2.2.2.1 (i := 1) (x_in rfl) dL_law_252 ?_
  refine x_topi (z := (xs 1)) rfl ?_
  refine lv_aload_n C.1 C.2.1 dL_law_253 rfl (lv_at hl 4 rfl) ?_
  refine lv_iload C.1 C.2.1 dL_law_254 (lv_at hl 0 rfl) ?_
  refine lv_iconst (v := 2) C.1 C.2.1 dL_law_256 (by decide) ?_
  refine lv_iadd C.1 C.2.1 dL_law_257 ?_
  refine x_topi (z := 2) (by decide) ?_
  refine va_sld C.1 C.2.1 hX hbl hbA hw.2.2.2.1 (i := 2) (x_in rfl) dL_law_258 ?_
  refine x_topi (z := (xs 2)) rfl ?_
  refine lv_aload_n C.1 C.2.1 dL_law_259 rfl (lv_at hl 4 rfl) ?_
  refine lv_iload C.1 C.2.1 dL_law_260 (lv_at hl 0 rfl) ?_
  refine lv_iconst (v := 3) C.1 C.2.1 dL_law_262 (by decide) ?_
  refine lv_iadd C.1 C.2.1 dL_law_263 ?_
  refine x_topi (z := 3) (by decide) ?_
  refine va_sld C.1 C.2.1 hX hbl hbA hw.2.2.2.1 (i := 3) (x_in rfl) dL_law_264 ?_
  refine x_topi (z := (xs 3)) rfl ?_
  refine lv_aload_n C.1 C.2.1 dL_law_265 rfl (lv_at hl 4 rfl) ?_
  refine lv_iload C.1 C.2.1 dL_law_266 (lv_at hl 0 rfl) ?_
  refine lv_iconst (v := 4) C.1 C.2.1 dL_law_268 (by decide) ?_
  refine lv_iadd C.1 C.2.1 dL_law_269 ?_
  refine x_topi (z := 4) (by decide) ?_
  refine va_sld C.1 C.2.1 hX hbl hbA hw.2.2.2.1 (i := 4) (x_in rfl) dL_law_270 ?_
  refine x_topi (z := (xs 4)) rfl ?_
  refine lv_aload_n C.1 C.2.1 dL_law_271 rfl (lv_at hl 4 rfl) ?_
  refine lv_iload C.1 C.2.1 dL_law_272 (lv_at hl 0 rfl) ?_
  refine lv_iconst (v := 5) C.1 C.2.1 dL_law_274 (by decide) ?_
  refine lv_iadd C.1 C.2.1 dL_law_275 ?_
  refine x_topi (z := 5) (by decide) ?_
  refine va_sld C.1 C.2.1 hX hbl hbA hw.2.2.2.1 (i := 5) (x_in rfl) dL_law_276 ?_
  refine x_topi (z := (xs 5)) rfl ?_
  refine x_calliV (As := [.int (xs 1), .int (xs 2), .int (xs 3), .int (xs 4), .int (xs 5)]) (rest := [.int 20]) (wr := [(qx, .inr (9, [.ref qt, .ref qs, .ref qd, .ref qa, .ref qb, .ref qh, .ref qr, .ref qe, .ref qp, .ref qf, .ref qn, .ref qi, .ref qo, .int 0, .int 0, .int (-1), .int (-1)])), (qt, .inr (8, [.ref kc, .ref bys, .int 20, .int 0, .int 0, .int 0, .int 0, .int 0, .long 0, .int 0, .int 0, .int 0])), (bys, eB G 940 gb_2)]) C hw (c_X11_feed qm (xs 1) (xs 2) (xs 3) (xs 4) (xs 5) mtape mnow mread mkept msnaps maside mname mreadName mkeptName misKept monces morder mordered mtext mline mwritten mnode) mwX11_feed kw1175 [0, 1] [2, 3, 4] rfl rfl rfl rfl (by decide) 0 rfl rfl rfl rfl hl.1 rfl (Nat.le_of_ble_eq_true rfl) ⟨(Nat.le_of_ble_eq_true rfl), (Nat.le_of_ble_eq_true rfl)⟩ ⟨(Nat.le_of_ble_eq_true rfl), (Nat.le_of_ble_eq_true rfl)⟩ dL_law_277 (fun r3 u9 H locs hp9 hw => ?_)
  obtain ⟨rfl, rfl⟩ := hp9
  have hw : Wd G s (fun q : Nat => s.heap.size ≤ q) [(qx, .inr (9, [.ref qt, .ref qs, .ref qd, .ref qa, .ref qb, .ref qh, .ref qr, .ref qe, .ref qp, .ref qf, .ref qn, .ref qi, .ref qo, .int 0, .int 0, .int (-1), .int (-1)])), (qt, .inr (8, [.ref kc, .ref bys, .int 20, .int 0, .int 0, .int 0, .int 0, .int 0, .long 0, .int 0, .int 0, .int 0])), (bys, eB G 940 gb_2)] H _ := hw
  refine lv_icmp_eq (tgt := 1405) C.1 C.2.1 dL_law_280 (by decide) (fun _ => ?_) (fun h9 => absurd (by decide) h9)
  refine lv_iinc (v := 6) (lv' := [(4, .int 6), (3, .ref qz), (2, .ref qm), (1, .ref qx), (0, .ref b)]) C.1 C.2.1 dL_law_1405 hl (k := 0) rfl (by decide) (by decide) rfl (fun ls hl => ?_)
  refine lv_goto (tgt := 23) C.1 C.2.1 dL_law_1408 (by decide) ?_
  exact law_tail C0 hw (Nat.le_of_ble_eq_true rfl) (Nat.le_of_ble_eq_true rfl) (lv_sub hl [0, 4] rfl)
theorem dL_law_285 : decode cL_law 285 = .ok (.aload_n 1, 1) := by decide +kernel
theorem dL_law_286 : decode cL_law 286 = .ok (.aload_n 0, 1) := by decide +kernel
theorem dL_law_287 : decode cL_law 287 = .ok (.iload 4, 2) := by decide +kernel
theorem dL_law_289 : decode cL_law 289 = .ok (.iconst 1, 1) := by decide +kernel
theorem dL_law_290 : decode cL_law 290 = .ok (.iadd, 1) := by decide +kernel
theorem dL_law_291 : decode cL_law 291 = .ok (.iaload, 1) := by decide +kernel
theorem dL_law_292 : decode cL_law 292 = .ok (.invokevirtual 27, 3) := by decide +kernel
theorem mwX10_end : MwV yX10_end cX10_end 2 (some .boolean) 1 := ⟨⟨kw509, kw1, by decide +kernel⟩, kw507, kw508⟩
theorem dL_law_295 : decode cL_law 295 = .ok (.aload_n 2, 1) := by decide +kernel
theorem dL_law_296 : decode cL_law 296 = .ok (.aload_n 0, 1) := by decide +kernel
theorem dL_law_297 : decode cL_law 297 = .ok (.iload 4, 2) := by decide +kernel
theorem dL_law_299 : decode cL_law 299 = .ok (.iconst 1, 1) := by decide +kernel
theorem dL_law_300 : decode cL_law 300 = .ok (.iadd, 1) := by decide +kernel
theorem dL_law_301 : decode cL_law 301 = .ok (.iaload, 1) := by decide +kernel
theorem dL_law_302 : decode cL_law 302 = .ok (.invokevirtual 31, 3) := by decide +kernel
theorem mwX11_end : MwV yX11_end cX11_end 2 (some .boolean) 1 := ⟨⟨kw1187, kw15, by decide +kernel⟩, kw1185, kw1186⟩
theorem dL_law_305 : decode cL_law 305 = .ok (.if_icmp .eq 1100, 3) := by decide +kernel
set_option maxHeartbeats 4000000 in
set_option maxRecDepth 100000 in
theorem law_end {p : Program} {l : Launch} {e : Env} {s : State} {m : MethodId} {below : List Frame} {meth : Method} {c : Code} {G : Gc} {b : Nat} {xs : Nat → Int32} (hst : l.stackTraces = false) (qx : Nat) (qm : Nat) (qz : Nat) (qt : Nat) (qs : Nat) (qd : Nat) (qa : Nat) (qb : Nat) (qh : Nat) (qr : Nat) (qe : Nat) (qp : Nat) (qf : Nat) (qn : Nat) (qi : Nat) (qo : Nat) (kc : Nat) (bys : Nat) (mtape : Nat) (mnow : Nat) (mread : Nat) (mkept : Nat) (msnaps : Nat) (maside : Nat) (mname : Nat) (mreadName : Nat) (mkeptName : Nat) (misKept : Nat) (monces : Nat) (morder : Nat) (mordered : Nat) (mtext : Nat) (mline : Nat) (mwritten : Nat) (mnode : Nat) {A : Nat → Prop} (eA : A = fun q : Nat => s.heap.size ≤ q) {H : Heap} {locs : List Loc} {ls : Array Slot} (C0 : lw_At p s m meth c b 6 xs) (hw : Wd G s A [(qx, .inr (9, [.ref qt, .ref qs, .ref qd, .ref qa, .ref qb, .ref qh, .ref qr, .ref qe, .ref qp, .ref qf, .ref qn, .ref qi, .ref qo, .int 0, .int 0, .int (-1), .int (-1)])), (qt, .inr (8, [.ref kc, .ref bys, .int 0, .int 0, .int 0, .int 0, .int 0, .int 0, .long 0, .int 0, .int 0, .int 0])), (qm, .inr (10, [.int 0, .ref mtape, .int 0, .int 0, .int 0, .int 0, .int 0, .int 0, .int 0, .int 0, .int 0, .int 0, .long 0, .int 0, .ref mnow, .ref mread, .ref mkept, .ref msnaps, .ref maside, .ref mname, .ref mreadName, .ref mkeptName, .ref misKept, .ref monces, .int 0, .ref morder, .ref mordered, .int 0, .int 0, .int 0, .int (-1), .int (-1), .ref mtext, .int 0, .int 0, .ref mline, .ref mwritten, .int 0, .int 0, .ref mnode, .int 0, .int 0, .int 0, .int 0]))] H locs) (hl : lv_has ls 7 [(4, .int 0), (3, .ref qz), (2, .ref qm), (1, .ref qx), (0, .ref b)]) : W p l e room_1 s m #[Value.ref b] below meth c H locs 147 5480 (lw_Z below #[Value.ref b] s) (F0 m 285 ls []) := by
  subst eA
  obtain ⟨hx, hb, hr, hml, hown, hts, hX, hbl, hlocks, hgv⟩ := id C0
  have hbA : ¬ (fun q : Nat => s.heap.size ≤ q) b := Nat.not_le.mpr hbl
  have C : CallFix p m c code 7 s #[Value.ref b] gw "LanternStateLaw" := ⟨hx, hb, hml, hown, fun w h => hts w (gw_sub w h)⟩
  by_cases h0 : xs 1 = 0
  · skip
    refine lv_aload_n C.1 C.2.1 dL_law_285 rfl (lv_at hl 3 rfl) ?_
    refine lv_aload_n C.1 C.2.1 dL_law_286 rfl (lv_at hl 4 rfl) ?_
    refine lv_iload C.1 C.2.1 dL_law_287 (lv_at hl 0 rfl) ?_
    refine lv_iconst (v := 1) C.1 C.2.1 dL_law_289 (by decide) ?_
    refine lv_iadd C.1 C.2.1 dL_law_290 ?_
    refine x_topi (z := 1) (by decide) ?_
    refine va_sld C.1 C.2.1 hX hbl hbA hw.2.2.2.1 (i := 1) (x_in rfl) dL_law_291 ?_
    refine x_topi (z := 0) h0 ?_
    refine x_calliV (As := [.int 0]) (rest := []) (wr := [(qm, .inr (10, [.int 0, .ref mtape, .int 0, .int 0, .int 0, .int 0, .int 0, .int 0, .int 0, .int 0, .int 0, .int 0, .long 0, .int 0, .ref mnow, .ref mread, .ref mkept, .ref msnaps, .ref maside, .ref mname, .ref mreadName, .ref mkeptName, .ref misKept, .ref monces, .int 0, .ref morder, .ref mordered, .int 0, .int 0, .int 0, .int (-1), .int (-1), .ref mtext, .int 0, .int 0, .ref mline, .ref mwritten, .int 0, .int 0, .ref mnode, .int 0, .int 0, .int 0, .int 0]))]) C hw (c_X10_end__0 qx qt qs qd qa qb qh qr qe qp qf qn qi qo kc bys) mwX10_end kw506 [0, 1] [2] rfl rfl rfl rfl (by decide) 0 rfl rfl rfl rfl hl.1 rfl (Nat.le_of_ble_eq_true rfl) ⟨(Nat.le_of_ble_eq_true rfl), (Nat.le_of_ble_eq_true rfl)⟩ ⟨(Nat.le_of_ble_eq_true rfl), (Nat.le_of_ble_eq_true rfl)⟩ dL_law_292 (fun r1 u9 H locs hp9 hw => ?_)
    obtain ⟨rfl, rfl⟩ := hp9
    have hw : Wd G s (fun q : Nat => s.heap.size ≤ q) [(qm, .inr (10, [.int 0, .ref mtape, .int 0, .int 0, .int 0, .int 0, .int 0, .int 0, .int 0, .int 0, .int 0, .int 0, .long 0, .int 0, .ref mnow, .ref mread, .ref mkept, .ref msnaps, .ref maside, .ref mname, .ref mreadName, .ref mkeptName, .ref misKept, .ref monces, .int 0, .ref morder, .ref mordered, .int 0, .int 0, .int 0, .int (-1), .int (-1), .ref mtext, .int 0, .int 0, .ref mline, .ref mwritten, .int 0, .int 0, .ref mnode, .int 0, .int 0, .int 0, .int 0])), (qx, .inr (9, [.ref qt, .ref qs, .ref qd, .ref qa, .ref qb, .ref qh, .ref qr, .ref qe, .ref qp, .ref qf, .ref qn, .ref qi, .ref qo, .int 0, .int 0, .int (-1), .int (-1)])), (qt, .inr (8, [.ref kc, .ref bys, .int 0, .int 0, .int 0, .int 0, .int 0, .int 0, .long 0, .int 0, .int 0, .int 0]))] H _ := hw
    refine lv_aload_n C.1 C.2.1 dL_law_295 rfl (lv_at hl 2 rfl) ?_
    refine lv_aload_n C.1 C.2.1 dL_law_296 rfl (lv_at hl 4 rfl) ?_
    refine lv_iload C.1 C.2.1 dL_law_297 (lv_at hl 0 rfl) ?_
    refine lv_iconst (v := 1) C.1 C.2.1 dL_law_299 (by decide) ?_
    refine lv_iadd C.1 C.2.1 dL_law_300 ?_
    refine x_topi (z := 1) (by decide) ?_
    refine va_sld C.1 C.2.1 hX hbl hbA hw.2.2.2.1 (i := 1) (x_in rfl) dL_law_301 ?_
    refine x_topi (z := 0) h0 ?_
    refine x_calliV (As := [.int 0]) (rest := [.int 1]) (wr := [(qx, .inr (9, [.ref qt, .ref qs, .ref qd, .ref qa, .ref qb, .ref qh, .ref qr, .ref qe, .ref qp, .ref qf, .ref qn, .ref qi, .ref qo, .int 0, .int 0, .int (-1), .int (-1)])), (qt, .inr (8, [.ref kc, .ref bys, .int 0, .int 0, .int 0, .int 0, .int 0, .int 0, .long 0, .int 0, .int 0, .int 0]))]) C hw (c_X11_end__0 qm mtape mnow mread mkept msnaps maside mname mreadName mkeptName misKept monces morder mordered mtext mline mwritten mnode) mwX11_end kw1184 [0] [1, 2] rfl rfl rfl rfl (by decide) 0 rfl rfl rfl rfl hl.1 rfl (Nat.le_of_ble_eq_true rfl) ⟨(Nat.le_of_ble_eq_true rfl), (Nat.le_of_ble_eq_true rfl)⟩ ⟨(Nat.le_of_ble_eq_true rfl), (Nat.le_of_ble_eq_true rfl)⟩ dL_law_302 (fun r2 u9 H locs hp9 hw => ?_)
    obtain ⟨rfl, rfl⟩ := hp9
    have hw : Wd G s (fun q : Nat => s.heap.size ≤ q) [(qx, .inr (9, [.ref qt, .ref qs, .ref qd, .ref qa, .ref qb, .ref qh, .ref qr, .ref qe, .ref qp, .ref qf, .ref qn, .ref qi, .ref qo, .int 0, .int 0, .int (-1), .int (-1)])), (qt, .inr (8, [.ref kc, .ref bys, .int 0, .int 0, .int 0, .int 0, .int 0, .int 0, .long 0, .int 0, .int 0, .int 0]))] H _ := hw
    refine lv_icmp_eq (tgt := 1405) C.1 C.2.1 dL_law_305 (by decide) (fun _ => ?_) (fun h9 => absurd (by decide) h9)
    refine lv_iinc (v := 6) (lv' := [(4, .int 6), (3, .ref qz), (2, .ref qm), (1, .ref qx), (0, .ref b)]) C.1 C.2.1 dL_law_1405 hl (k := 0) rfl (by decide) (by decide) rfl (fun ls hl => ?_)
    refine lv_goto (tgt := 23) C.1 C.2.1 dL_law_1408 (by decide) ?_
    exact law_tail C0 hw (Nat.le_of_ble_eq_true rfl) (Nat.le_of_ble_eq_true rfl) (lv_sub hl [0, 4] rfl)
  · skip
    refine lv_aload_n C.1 C.2.1 dL_law_285 rfl (lv_at hl 3 rfl) ?_
    refine lv_aload_n C.1 C.2.1 dL_law_286 rfl (lv_at hl 4 rfl) ?_
    refine lv_iload C.1 C.2.1 dL_law_287 (lv_at hl 0 rfl) ?_
    refine lv_iconst (v := 1) C.1 C.2.1 dL_law_289 (by decide) ?_
    refine lv_iadd C.1 C.2.1 dL_law_290 ?_
    refine x_topi (z := 1) (by decide) ?_
    refine va_sld C.1 C.2.1 hX hbl hbA hw.2.2.2.1 (i := 1) (x_in rfl) dL_law_291 ?_
    refine x_topi (z := (xs 1)) rfl ?_
    refine x_calliV (As := [.int (xs 1)]) (rest := []) (wr := [(qm, .inr (10, [.int 0, .ref mtape, .int 0, .int 0, .int 0, .int 0, .int 0, .int 0, .int 0, .int 0, .int 0, .int 0, .long 0, .int 0, .ref mnow, .ref mread, .ref mkept, .ref msnaps, .ref maside, .ref mname, .ref mreadName, .ref mkeptName, .ref misKept, .ref monces, .int 0, .ref morder, .ref mordered, .int 0, .int 0, .int 0, .int (-1), .int (-1), .ref mtext, .int 0, .int 0, .ref mline, .ref mwritten, .int 0, .int 0, .ref mnode, .int 0, .int 0, .int 0, .int 0]))]) C hw (c_X10_end__N qx (xs 1) qt qs qd qa qb qh qr qe qp qf qn qi qo kc bys h0) mwX10_end kw506 [0, 1] [2] rfl rfl rfl rfl (by decide) 0 rfl rfl rfl rfl hl.1 rfl (Nat.le_of_ble_eq_true rfl) ⟨(Nat.le_of_ble_eq_true rfl), (Nat.le_of_ble_eq_true rfl)⟩ ⟨(Nat.le_of_ble_eq_true rfl), (Nat.le_of_ble_eq_true rfl)⟩ dL_law_292 (fun r1 u9 H locs hp9 hw => ?_)
    obtain ⟨rfl, rfl⟩ := hp9
    have hw : Wd G s (fun q : Nat => s.heap.size ≤ q) [(qm, .inr (10, [.int 0, .ref mtape, .int 0, .int 0, .int 0, .int 0, .int 0, .int 0, .int 0, .int 0, .int 0, .int 0, .long 0, .int 0, .ref mnow, .ref mread, .ref mkept, .ref msnaps, .ref maside, .ref mname, .ref mreadName, .ref mkeptName, .ref misKept, .ref monces, .int 0, .ref morder, .ref mordered, .int 0, .int 0, .int 0, .int (-1), .int (-1), .ref mtext, .int 0, .int 0, .ref mline, .ref mwritten, .int 0, .int 0, .ref mnode, .int 0, .int 0, .int 0, .int 0])), (qx, .inr (9, [.ref qt, .ref qs, .ref qd, .ref qa, .ref qb, .ref qh, .ref qr, .ref qe, .ref qp, .ref qf, .ref qn, .ref qi, .ref qo, .int 0, .int 0, .int (-1), .int (-1)])), (qt, .inr (8, [.ref kc, .ref bys, .int 0, .int 0, .int 0, .int 0, .int 0, .int 0, .long 0, .int 0, .int 0, .int 0]))] H _ := hw
    refine lv_aload_n C.1 C.2.1 dL_law_295 rfl (lv_at hl 2 rfl) ?_
    refine lv_aload_n C.1 C.2.1 dL_law_296 rfl (lv_at hl 4 rfl) ?_
    refine lv_iload C.1 C.2.1 dL_law_297 (lv_at hl 0 rfl) ?_
    refine lv_iconst (v := 1) C.1 C.2.1 dL_law_299 (by decide) ?_
    refine lv_iadd C.1 C.2.1 dL_law_300 ?_
    refine x_topi (z := 1) (by decide) ?_
    refine va_sld C.1 C.2.1 hX hbl hbA hw.2.2.2.1 (i := 1) (x_in rfl) dL_law_301 ?_
    refine x_topi (z := (xs 1)) rfl ?_
    refine x_calliV (As := [.int (xs 1)]) (rest := [.int 0]) (wr := [(qx, .inr (9, [.ref qt, .ref qs, .ref qd, .ref qa, .ref qb, .ref qh, .ref qr, .ref qe, .ref qp, .ref qf, .ref qn, .ref qi, .ref qo, .int 0, .int 0, .int (-1), .int (-1)])), (qt, .inr (8, [.ref kc, .ref bys, .int 0, .int 0, .int 0, .int 0, .int 0, .int 0, .long 0, .int 0, .int 0, .int 0]))]) C hw (c_X11_end__N qm (xs 1) mtape mnow mread mkept msnaps maside mname mreadName mkeptName misKept monces morder mordered mtext mline mwritten mnode h0) mwX11_end kw1184 [0] [1, 2] rfl rfl rfl rfl (by decide) 0 rfl rfl rfl rfl hl.1 rfl (Nat.le_of_ble_eq_true rfl) ⟨(Nat.le_of_ble_eq_true rfl), (Nat.le_of_ble_eq_true rfl)⟩ ⟨(Nat.le_of_ble_eq_true rfl), (Nat.le_of_ble_eq_true rfl)⟩ dL_law_302 (fun r2 u9 H locs hp9 hw => ?_)
    obtain ⟨rfl, rfl⟩ := hp9
    have hw : Wd G s (fun q : Nat => s.heap.size ≤ q) [(qx, .inr (9, [.ref qt, .ref qs, .ref qd, .ref qa, .ref qb, .ref qh, .ref qr, .ref qe, .ref qp, .ref qf, .ref qn, .ref qi, .ref qo, .int 0, .int 0, .int (-1), .int (-1)])), (qt, .inr (8, [.ref kc, .ref bys, .int 0, .int 0, .int 0, .int 0, .int 0, .int 0, .long 0, .int 0, .int 0, .int 0]))] H _ := hw
    refine lv_icmp_eq (tgt := 1405) C.1 C.2.1 dL_law_305 (by decide) (fun _ => ?_) (fun h9 => absurd (by decide) h9)
    refine lv_iinc (v := 6) (lv' := [(4, .int 6), (3, .ref qz), (2, .ref qm), (1, .ref qx), (0, .ref b)]) C.1 C.2.1 dL_law_1405 hl (k := 0) rfl (by decide) (by decide) rfl (fun ls hl => ?_)
    refine lv_goto (tgt := 23) C.1 C.2.1 dL_law_1408 (by decide) ?_
    exact law_tail C0 hw (Nat.le_of_ble_eq_true rfl) (Nat.le_of_ble_eq_true rfl) (lv_sub hl [0, 4] rfl)
theorem dL_law_310 : decode cL_law 310 = .ok (.aload_n 1, 1) := by decide +kernel
theorem dL_law_311 : decode cL_law 311 = .ok (.invokevirtual 32, 3) := by decide +kernel
theorem mwX10_session : MwV yX10_session cX10_session 2 (some .int) 0 := ⟨⟨kw513, kw1, by decide +kernel⟩, kw511, kw512⟩
theorem dL_law_314 : decode cL_law 314 = .ok (.aload_n 2, 1) := by decide +kernel
theorem dL_law_315 : decode cL_law 315 = .ok (.invokevirtual 36, 3) := by decide +kernel
theorem mwX11_session : MwV yX11_session cX11_session 3 (some .int) 0 := ⟨⟨kw1334, kw15, by decide +kernel⟩, kw1332, kw1333⟩
theorem dL_law_318 : decode cL_law 318 = .ok (.if_icmp .eq 1087, 3) := by decide +kernel
set_option maxHeartbeats 4000000 in
set_option maxRecDepth 100000 in
theorem law_session {p : Program} {l : Launch} {e : Env} {s : State} {m : MethodId} {below : List Frame} {meth : Method} {c : Code} {G : Gc} {b : Nat} {xs : Nat → Int32} (hst : l.stackTraces = false) (qx : Nat) (qm : Nat) (qz : Nat) (qt : Nat) (qs : Nat) (qd : Nat) (qa : Nat) (qb : Nat) (qh : Nat) (qr : Nat) (qe : Nat) (qp : Nat) (qf : Nat) (qn : Nat) (qi : Nat) (qo : Nat) (kc : Nat) (bys : Nat) (dslideNames : Nat) (dpictures : Nat) (dheats : Nat) (dafter : Nat) (dhearerNames : Nat) (dneeds : Nat) (dlikes : Nat) (dhates : Nat) (dnear : Nat) (sslideNames : Nat) (spictures : Nat) (sheats : Nat) (safter : Nat) (shearerNames : Nat) (sneeds : Nat) (slikes : Nat) (shates : Nat) (snear : Nat) (apictures : Nat) (ashown : Nat) (asighed : Nat) (rkeys : Nat) (rsigns : Nat) (rnumbers : Nat) (rstack : Nat) (hk : Nat) (mtape : Nat) (mnow : Nat) (mread : Nat) (mkept : Nat) (msnaps : Nat) (maside : Nat) (mname : Nat) (mreadName : Nat) (mkeptName : Nat) (misKept : Nat) (monces : Nat) (morder : Nat) (mordered : Nat) (mtext : Nat) (mline : Nat) (mwritten : Nat) (mnode : Nat) {A : Nat → Prop} (eA : A = fun q : Nat => s.heap.size ≤ q) {H : Heap} {locs : List Loc} {ls : Array Slot} (C0 : lw_At p s m meth c b 6 xs) (hw : Wd G s A [(qx, .inr (9, [.ref qt, .ref qs, .ref qd, .ref qa, .ref qb, .ref qh, .ref qr, .ref qe, .ref qp, .ref qf, .ref qn, .ref qi, .ref qo, .int 0, .int 0, .int (-1), .int (-1)])), (qt, .inr (8, [.ref kc, .ref bys, .int 0, .int 0, .int 0, .int 0, .int 0, .int 0, .long 0, .int 0, .int 0, .int 0])), (qd, .inr (4, [.int 0, .int 0, .int 0, .int 0, .int 1, .int 0, .int 40, .int 0, .int 0, .ref dslideNames, .ref dpictures, .ref dheats, .ref dafter, .ref dhearerNames, .ref dneeds, .ref dlikes, .ref dhates, .ref dnear])), (dslideNames, eJ G 6 (fun _ => 0)), (dpictures, eI G 6 (fun _ => 0)), (dheats, eI G 6 (fun _ => 0)), (dafter, eI G 6 (fun _ => 0)), (dhearerNames, eJ G 8 (fun _ => 0)), (dneeds, eI G 8 (fun _ => 0)), (dlikes, eI G 8 (fun _ => 0)), (dhates, eI G 8 (fun _ => 0)), (dnear, eI G 8 (fun _ => 0)), (qs, .inr (4, [.int 0, .int 0, .int 0, .int 0, .int 1, .int 0, .int 40, .int 0, .int 0, .ref sslideNames, .ref spictures, .ref sheats, .ref safter, .ref shearerNames, .ref sneeds, .ref slikes, .ref shates, .ref snear])), (sslideNames, eJ G 6 (fun _ => 0)), (spictures, eI G 6 (fun _ => 0)), (sheats, eI G 6 (fun _ => 0)), (safter, eI G 6 (fun _ => 0)), (shearerNames, eJ G 8 (fun _ => 0)), (sneeds, eI G 8 (fun _ => 0)), (slikes, eI G 8 (fun _ => 0)), (shates, eI G 8 (fun _ => 0)), (snear, eI G 8 (fun _ => 0)), (qa, .inr (7, [.int 0, .int 0, .int 0, .int 0, .int 0, .int 0, .int 0, .int 0, .ref apictures, .ref ashown, .ref asighed])), (apictures, eI G 6 (fun _ => 0)), (ashown, eI G 6 (fun _ => 0)), (asighed, eI G 8 (fun _ => 0)), (qr, .inr (6, [.int 0, .int 0, .int 0, .ref rkeys, .ref rsigns, .ref rnumbers, .ref rstack])), (qh, .inr (2, [.ref hk, .int 0, .int 0])), (qm, .inr (10, [.int 0, .ref mtape, .int 0, .int 0, .int 0, .int 0, .int 0, .int 0, .int 0, .int 0, .int 0, .int 0, .long 0, .int 0, .ref mnow, .ref mread, .ref mkept, .ref msnaps, .ref maside, .ref mname, .ref mreadName, .ref mkeptName, .ref misKept, .ref monces, .int 0, .ref morder, .ref mordered, .int 0, .int 0, .int 0, .int (-1), .int (-1), .ref mtext, .int 0, .int 0, .ref mline, .ref mwritten, .int 0, .int 0, .ref mnode, .int 0, .int 0, .int 0, .int 0])), (mnow, eI G 339 nw0), (mread, eI G 64 rd0), (monces, eZ G 3 (fun _ => 0)), (mname, eJ G 14 (fun _ => 0)), (mreadName, eJ G 14 (fun _ => 0))] H locs) (hl : lv_has ls 7 [(4, .int 0), (3, .ref qz), (2, .ref qm), (1, .ref qx), (0, .ref b)]) : W p l e room_1 s m #[Value.ref b] below meth c H locs 147 5480 (lw_Z below #[Value.ref b] s) (F0 m 310 ls []) := by
  subst eA
  obtain ⟨hx, hb, hr, hml, hown, hts, hX, hbl, hlocks, hgv⟩ := id C0
  have hbA : ¬ (fun q : Nat => s.heap.size ≤ q) b := Nat.not_le.mpr hbl
  have C : CallFix p m c code 7 s #[Value.ref b] gw "LanternStateLaw" := ⟨hx, hb, hml, hown, fun w h => hts w (gw_sub w h)⟩
  refine lv_aload_n C.1 C.2.1 dL_law_310 rfl (lv_at hl 3 rfl) ?_
  refine x_calliV (As := []) (rest := []) (wr := [(qm, .inr (10, [.int 0, .ref mtape, .int 0, .int 0, .int 0, .int 0, .int 0, .int 0, .int 0, .int 0, .int 0, .int 0, .long 0, .int 0, .ref mnow, .ref mread, .ref mkept, .ref msnaps, .ref maside, .ref mname, .ref mreadName, .ref mkeptName, .ref misKept, .ref monces, .int 0, .ref morder, .ref mordered, .int 0, .int 0, .int 0, .int (-1), .int (-1), .ref mtext, .int 0, .int 0, .ref mline, .ref mwritten, .int 0, .int 0, .ref mnode, .int 0, .int 0, .int 0, .int 0])), (mnow, eI G 339 nw0), (mread, eI G 64 rd0), (monces, eZ G 3 (fun _ => 0)), (mname, eJ G 14 (fun _ => 0)), (mreadName, eJ G 14 (fun _ => 0))]) C hw (c_X10_session qx qt qs qd qa qb qh qr qe qp qf qn qi qo kc bys dslideNames dpictures dheats dafter dhearerNames dneeds dlikes dhates dnear sslideNames spictures sheats safter shearerNames sneeds slikes shates snear apictures ashown asighed rkeys rsigns rnumbers rstack hk) mwX10_session kw510 [0, 1, 2, 3, 4, 5, 6, 7, 8, 9, 10, 11, 12, 13, 14, 15, 16, 17, 18, 19, 20, 21, 22, 23, 24, 25, 26, 27] [28, 29, 30, 31, 32, 33] rfl rfl rfl rfl (by decide) 0 rfl rfl rfl rfl hl.1 rfl (Nat.le_of_ble_eq_true rfl) ⟨(Nat.le_of_ble_eq_true rfl), (Nat.le_of_ble_eq_true rfl)⟩ ⟨(Nat.le_of_ble_eq_true rfl), (Nat.le_of_ble_eq_true rfl)⟩ dL_law_311 (fun r1 u9 H locs hp9 hw => ?_)
  obtain ⟨rfl, rfl⟩ := hp9
  have hw : Wd G s (fun q : Nat => s.heap.size ≤ q) [(qm, .inr (10, [.int 0, .ref mtape, .int 0, .int 0, .int 0, .int 0, .int 0, .int 0, .int 0, .int 0, .int 0, .int 0, .long 0, .int 0, .ref mnow, .ref mread, .ref mkept, .ref msnaps, .ref maside, .ref mname, .ref mreadName, .ref mkeptName, .ref misKept, .ref monces, .int 0, .ref morder, .ref mordered, .int 0, .int 0, .int 0, .int (-1), .int (-1), .ref mtext, .int 0, .int 0, .ref mline, .ref mwritten, .int 0, .int 0, .ref mnode, .int 0, .int 0, .int 0, .int 0])), (mnow, eI G 339 nw0), (mread, eI G 64 rd0), (monces, eZ G 3 (fun _ => 0)), (mname, eJ G 14 (fun _ => 0)), (mreadName, eJ G 14 (fun _ => 0))] H _ := hw
  refine lv_aload_n C.1 C.2.1 dL_law_314 rfl (lv_at hl 2 rfl) ?_
  refine x_calliV (As := []) (rest := [.int 0]) (wr := []) C hw (c_X11_session qm mtape mnow mread mkept msnaps maside mname mreadName mkeptName misKept monces morder mordered mtext mline mwritten mnode) mwX11_session kw1331 [0, 1, 2, 3, 4, 5] [] rfl rfl rfl rfl (by decide) 0 rfl rfl rfl rfl hl.1 rfl (Nat.le_of_ble_eq_true rfl) ⟨(Nat.le_of_ble_eq_true rfl), (Nat.le_of_ble_eq_true rfl)⟩ ⟨(Nat.le_of_ble_eq_true rfl), (Nat.le_of_ble_eq_true rfl)⟩ dL_law_315 (fun r2 u9 H locs hp9 hw => ?_)
  obtain ⟨rfl, rfl⟩ := hp9
  have hw : Wd G s (fun q : Nat => s.heap.size ≤ q) [] H _ := hw
  refine lv_icmp_eq (tgt := 1405) C.1 C.2.1 dL_law_318 (by decide) (fun _ => ?_) (fun h9 => absurd (by decide) h9)
  refine lv_iinc (v := 6) (lv' := [(4, .int 6), (3, .ref qz), (2, .ref qm), (1, .ref qx), (0, .ref b)]) C.1 C.2.1 dL_law_1405 hl (k := 0) rfl (by decide) (by decide) rfl (fun ls hl => ?_)
  refine lv_goto (tgt := 23) C.1 C.2.1 dL_law_1408 (by decide) ?_
  exact law_tail C0 hw (Nat.le_of_ble_eq_true rfl) (Nat.le_of_ble_eq_true rfl) (lv_sub hl [0, 4] rfl)
theorem dL_law_323 : decode cL_law 323 = .ok (.aload_n 1, 1) := by decide +kernel
theorem dL_law_324 : decode cL_law 324 = .ok (.invokevirtual 37, 3) := by decide +kernel
theorem mwX10_fault : MwV yX10_fault cX10_fault 1 (some .int) 0 := ⟨⟨kw644, kw1, by decide +kernel⟩, kw642, kw643⟩
theorem dL_law_327 : decode cL_law 327 = .ok (.aload_n 2, 1) := by decide +kernel
theorem dL_law_328 : decode cL_law 328 = .ok (.invokevirtual 40, 3) := by decide +kernel
theorem mwX11_fault : MwV yX11_fault cX11_fault 1 (some .int) 0 := ⟨⟨kw1464, kw15, by decide +kernel⟩, kw1462, kw1463⟩
theorem dL_law_331 : decode cL_law 331 = .ok (.if_icmp .eq 1074, 3) := by decide +kernel
set_option maxHeartbeats 4000000 in
set_option maxRecDepth 100000 in
theorem law_fault {p : Program} {l : Launch} {e : Env} {s : State} {m : MethodId} {below : List Frame} {meth : Method} {c : Code} {G : Gc} {b : Nat} {xs : Nat → Int32} (hst : l.stackTraces = false) (qx : Nat) (qm : Nat) (qz : Nat) (qt : Nat) (qs : Nat) (qd : Nat) (qa : Nat) (qb : Nat) (qh : Nat) (qr : Nat) (qe : Nat) (qp : Nat) (qf : Nat) (qn : Nat) (qi : Nat) (qo : Nat) (mtape : Nat) (mnow : Nat) (mread : Nat) (mkept : Nat) (msnaps : Nat) (maside : Nat) (mname : Nat) (mreadName : Nat) (mkeptName : Nat) (misKept : Nat) (monces : Nat) (morder : Nat) (mordered : Nat) (mtext : Nat) (mline : Nat) (mwritten : Nat) (mnode : Nat) {A : Nat → Prop} (eA : A = fun q : Nat => s.heap.size ≤ q) {H : Heap} {locs : List Loc} {ls : Array Slot} (C0 : lw_At p s m meth c b 6 xs) (hw : Wd G s A [(qx, .inr (9, [.ref qt, .ref qs, .ref qd, .ref qa, .ref qb, .ref qh, .ref qr, .ref qe, .ref qp, .ref qf, .ref qn, .ref qi, .ref qo, .int 0, .int 0, .int (-1), .int (-1)])), (qm, .inr (10, [.int 0, .ref mtape, .int 0, .int 0, .int 0, .int 0, .int 0, .int 0, .int 0, .int 0, .int 0, .int 0, .long 0, .int 0, .ref mnow, .ref mread, .ref mkept, .ref msnaps, .ref maside, .ref mname, .ref mreadName, .ref mkeptName, .ref misKept, .ref monces, .int 0, .ref morder, .ref mordered, .int 0, .int 0, .int 0, .int (-1), .int (-1), .ref mtext, .int 0, .int 0, .ref mline, .ref mwritten, .int 0, .int 0, .ref mnode, .int 0, .int 0, .int 0, .int 0]))] H locs) (hl : lv_has ls 7 [(4, .int 0), (3, .ref qz), (2, .ref qm), (1, .ref qx), (0, .ref b)]) : W p l e room_1 s m #[Value.ref b] below meth c H locs 147 5480 (lw_Z below #[Value.ref b] s) (F0 m 323 ls []) := by
  subst eA
  obtain ⟨hx, hb, hr, hml, hown, hts, hX, hbl, hlocks, hgv⟩ := id C0
  have hbA : ¬ (fun q : Nat => s.heap.size ≤ q) b := Nat.not_le.mpr hbl
  have C : CallFix p m c code 7 s #[Value.ref b] gw "LanternStateLaw" := ⟨hx, hb, hml, hown, fun w h => hts w (gw_sub w h)⟩
  refine lv_aload_n C.1 C.2.1 dL_law_323 rfl (lv_at hl 3 rfl) ?_
  refine x_calliV (As := []) (rest := []) (wr := [(qm, .inr (10, [.int 0, .ref mtape, .int 0, .int 0, .int 0, .int 0, .int 0, .int 0, .int 0, .int 0, .int 0, .int 0, .long 0, .int 0, .ref mnow, .ref mread, .ref mkept, .ref msnaps, .ref maside, .ref mname, .ref mreadName, .ref mkeptName, .ref misKept, .ref monces, .int 0, .ref morder, .ref mordered, .int 0, .int 0, .int 0, .int (-1), .int (-1), .ref mtext, .int 0, .int 0, .ref mline, .ref mwritten, .int 0, .int 0, .ref mnode, .int 0, .int 0, .int 0, .int 0]))]) C hw (c_X10_fault qx qt qs qd qa qb qh qr qe qp qf qn qi qo) mwX10_fault kw641 [0] [1] rfl rfl rfl rfl (by decide) 0 rfl rfl rfl rfl hl.1 rfl (Nat.le_of_ble_eq_true rfl) ⟨(Nat.le_of_ble_eq_true rfl), (Nat.le_of_ble_eq_true rfl)⟩ ⟨(Nat.le_of_ble_eq_true rfl), (Nat.le_of_ble_eq_true rfl)⟩ dL_law_324 (fun r1 u9 H locs hp9 hw => ?_)
  obtain ⟨rfl, rfl⟩ := hp9
  have hw : Wd G s (fun q : Nat => s.heap.size ≤ q) [(qm, .inr (10, [.int 0, .ref mtape, .int 0, .int 0, .int 0, .int 0, .int 0, .int 0, .int 0, .int 0, .int 0, .int 0, .long 0, .int 0, .ref mnow, .ref mread, .ref mkept, .ref msnaps, .ref maside, .ref mname, .ref mreadName, .ref mkeptName, .ref misKept, .ref monces, .int 0, .ref morder, .ref mordered, .int 0, .int 0, .int 0, .int (-1), .int (-1), .ref mtext, .int 0, .int 0, .ref mline, .ref mwritten, .int 0, .int 0, .ref mnode, .int 0, .int 0, .int 0, .int 0])), (qx, .inr (9, [.ref qt, .ref qs, .ref qd, .ref qa, .ref qb, .ref qh, .ref qr, .ref qe, .ref qp, .ref qf, .ref qn, .ref qi, .ref qo, .int 0, .int 0, .int (-1), .int (-1)]))] H _ := hw
  refine lv_aload_n C.1 C.2.1 dL_law_327 rfl (lv_at hl 2 rfl) ?_
  refine x_calliV (As := []) (rest := [.int 0]) (wr := [(qx, .inr (9, [.ref qt, .ref qs, .ref qd, .ref qa, .ref qb, .ref qh, .ref qr, .ref qe, .ref qp, .ref qf, .ref qn, .ref qi, .ref qo, .int 0, .int 0, .int (-1), .int (-1)]))]) C hw (c_X11_fault qm mtape mnow mread mkept msnaps maside mname mreadName mkeptName misKept monces morder mordered mtext mline mwritten mnode) mwX11_fault kw1461 [0] [1] rfl rfl rfl rfl (by decide) 0 rfl rfl rfl rfl hl.1 rfl (Nat.le_of_ble_eq_true rfl) ⟨(Nat.le_of_ble_eq_true rfl), (Nat.le_of_ble_eq_true rfl)⟩ ⟨(Nat.le_of_ble_eq_true rfl), (Nat.le_of_ble_eq_true rfl)⟩ dL_law_328 (fun r2 u9 H locs hp9 hw => ?_)
  obtain ⟨rfl, rfl⟩ := hp9
  have hw : Wd G s (fun q : Nat => s.heap.size ≤ q) [(qx, .inr (9, [.ref qt, .ref qs, .ref qd, .ref qa, .ref qb, .ref qh, .ref qr, .ref qe, .ref qp, .ref qf, .ref qn, .ref qi, .ref qo, .int 0, .int 0, .int (-1), .int (-1)]))] H _ := hw
  refine lv_icmp_eq (tgt := 1405) C.1 C.2.1 dL_law_331 (by decide) (fun _ => ?_) (fun h9 => absurd (by decide) h9)
  refine lv_iinc (v := 6) (lv' := [(4, .int 6), (3, .ref qz), (2, .ref qm), (1, .ref qx), (0, .ref b)]) C.1 C.2.1 dL_law_1405 hl (k := 0) rfl (by decide) (by decide) rfl (fun ls hl => ?_)
  refine lv_goto (tgt := 23) C.1 C.2.1 dL_law_1408 (by decide) ?_
  exact law_tail C0 hw (Nat.le_of_ble_eq_true rfl) (Nat.le_of_ble_eq_true rfl) (lv_sub hl [0, 4] rfl)
theorem dL_law_336 : decode cL_law 336 = .ok (.aload_n 1, 1) := by decide +kernel
theorem dL_law_337 : decode cL_law 337 = .ok (.aload_n 0, 1) := by decide +kernel
theorem dL_law_338 : decode cL_law 338 = .ok (.iload 4, 2) := by decide +kernel
theorem dL_law_340 : decode cL_law 340 = .ok (.iconst 1, 1) := by decide +kernel
theorem dL_law_341 : decode cL_law 341 = .ok (.iadd, 1) := by decide +kernel
theorem dL_law_342 : decode cL_law 342 = .ok (.iaload, 1) := by decide +kernel
theorem dL_law_343 : decode cL_law 343 = .ok (.aload_n 0, 1) := by decide +kernel
theorem dL_law_344 : decode cL_law 344 = .ok (.iload 4, 2) := by decide +kernel
theorem dL_law_346 : decode cL_law 346 = .ok (.iconst 2, 1) := by decide +kernel
theorem dL_law_347 : decode cL_law 347 = .ok (.iadd, 1) := by decide +kernel
theorem dL_law_348 : decode cL_law 348 = .ok (.iaload, 1) := by decide +kernel
theorem dL_law_349 : decode cL_law 349 = .ok (.aload_n 3, 1) := by decide +kernel
theorem dL_law_350 : decode cL_law 350 = .ok (.invokestatic 41, 3) := by decide +kernel
theorem dL_law_353 : decode cL_law 353 = .ok (.istore 5, 2) := by decide +kernel
theorem dL_law_355 : decode cL_law 355 = .ok (.aload_n 2, 1) := by decide +kernel
theorem dL_law_356 : decode cL_law 356 = .ok (.aload_n 0, 1) := by decide +kernel
theorem dL_law_357 : decode cL_law 357 = .ok (.iload 4, 2) := by decide +kernel
theorem dL_law_359 : decode cL_law 359 = .ok (.iconst 1, 1) := by decide +kernel
theorem dL_law_360 : decode cL_law 360 = .ok (.iadd, 1) := by decide +kernel
theorem dL_law_361 : decode cL_law 361 = .ok (.iaload, 1) := by decide +kernel
theorem dL_law_362 : decode cL_law 362 = .ok (.aload_n 0, 1) := by decide +kernel
theorem dL_law_363 : decode cL_law 363 = .ok (.iload 4, 2) := by decide +kernel
theorem dL_law_365 : decode cL_law 365 = .ok (.iconst 2, 1) := by decide +kernel
theorem dL_law_366 : decode cL_law 366 = .ok (.iadd, 1) := by decide +kernel
theorem dL_law_367 : decode cL_law 367 = .ok (.iaload, 1) := by decide +kernel
theorem dL_law_368 : decode cL_law 368 = .ok (.invokevirtual 46, 3) := by decide +kernel
theorem mwX11_slide : MwV yX11_slide cX11_slide 3 (some .int) 2 := ⟨⟨kw1468, kw15, by decide +kernel⟩, kw1466, kw1467⟩
theorem dL_law_371 : decode cL_law 371 = .ok (.istore 6, 2) := by decide +kernel
theorem dL_law_373 : decode cL_law 373 = .ok (.aload_n 2, 1) := by decide +kernel
theorem dL_law_374 : decode cL_law 374 = .ok (.invokevirtual 47, 3) := by decide +kernel
theorem mwX11_thrown : MwV yX11_thrown cX11_thrown 1 (some .int) 0 := ⟨⟨kw1174, kw15, by decide +kernel⟩, kw1172, kw1173⟩
theorem dL_law_377 : decode cL_law 377 = .ok (.iload 5, 2) := by decide +kernel
theorem dL_law_379 : decode cL_law 379 = .ok (.if_icmp .eq 5, 3) := by decide +kernel
theorem dL_law_384 : decode cL_law 384 = .ok (.iload 5, 2) := by decide +kernel
theorem dL_law_386 : decode cL_law 386 = .ok (.ifCond .ne 15, 3) := by decide +kernel
theorem dL_law_401 : decode cL_law 401 = .ok (.goto 1004, 3) := by decide +kernel
set_option maxHeartbeats 4000000 in
set_option maxRecDepth 100000 in
theorem law_slide {p : Program} {l : Launch} {e : Env} {s : State} {m : MethodId} {below : List Frame} {meth : Method} {c : Code} {G : Gc} {b : Nat} {xs : Nat → Int32} (hst : l.stackTraces = false) (qx : Nat) (qm : Nat) (qz : Nat) (qt : Nat) (qs : Nat) (qd : Nat) (qa : Nat) (qb : Nat) (qh : Nat) (qr : Nat) (qe : Nat) (qp : Nat) (qf : Nat) (qn : Nat) (qi : Nat) (qo : Nat) (sslideNames : Nat) (spictures : Nat) (sheats : Nat) (safter : Nat) (shearerNames : Nat) (sneeds : Nat) (slikes : Nat) (shates : Nat) (snear : Nat) (mtape : Nat) (mnow : Nat) (mread : Nat) (mkept : Nat) (msnaps : Nat) (maside : Nat) (mname : Nat) (mreadName : Nat) (mkeptName : Nat) (misKept : Nat) (monces : Nat) (morder : Nat) (mordered : Nat) (mtext : Nat) (mline : Nat) (mwritten : Nat) (mnode : Nat) {A : Nat → Prop} (eA : A = fun q : Nat => s.heap.size ≤ q) {H : Heap} {locs : List Loc} {ls : Array Slot} (C0 : lw_At p s m meth c b 6 xs) (hw : Wd G s A [(qx, .inr (9, [.ref qt, .ref qs, .ref qd, .ref qa, .ref qb, .ref qh, .ref qr, .ref qe, .ref qp, .ref qf, .ref qn, .ref qi, .ref qo, .int 0, .int 0, .int (-1), .int (-1)])), (qs, .inr (4, [.int 0, .int 0, .int 0, .int 0, .int 1, .int 0, .int 40, .int 0, .int 0, .ref sslideNames, .ref spictures, .ref sheats, .ref safter, .ref shearerNames, .ref sneeds, .ref slikes, .ref shates, .ref snear])), (qm, .inr (10, [.int 0, .ref mtape, .int 0, .int 0, .int 0, .int 0, .int 0, .int 0, .int 0, .int 0, .int 0, .int 0, .long 0, .int 0, .ref mnow, .ref mread, .ref mkept, .ref msnaps, .ref maside, .ref mname, .ref mreadName, .ref mkeptName, .ref misKept, .ref monces, .int 0, .ref morder, .ref mordered, .int 0, .int 0, .int 0, .int (-1), .int (-1), .ref mtext, .int 0, .int 0, .ref mline, .ref mwritten, .int 0, .int 0, .ref mnode, .int 0, .int 0, .int 0, .int 0])), (mnow, eI G 339 nw0)] H locs) (hl : lv_has ls 7 [(4, .int 0), (3, .ref qz), (2, .ref qm), (1, .ref qx), (0, .ref b)]) : W p l e room_1 s m #[Value.ref b] below meth c H locs 147 5480 (lw_Z below #[Value.ref b] s) (F0 m 336 ls []) := by
  subst eA
  obtain ⟨hx, hb, hr, hml, hown, hts, hX, hbl, hlocks, hgv⟩ := id C0
  have hbA : ¬ (fun q : Nat => s.heap.size ≤ q) b := Nat.not_le.mpr hbl
  have C : CallFix p m c code 7 s #[Value.ref b] gw "LanternStateLaw" := ⟨hx, hb, hml, hown, fun w h => hts w (gw_sub w h)⟩
  refine lv_aload_n C.1 C.2.1 dL_law_336 rfl (lv_at hl 3 rfl) ?_
  refine lv_aload_n C.1 C.2.1 dL_law_337 rfl (lv_at hl 4 rfl) ?_
  refine lv_iload C.1 C.2.1 dL_law_338 (lv_at hl 0 rfl) ?_
  refine lv_iconst (v := 1) C.1 C.2.1 dL_law_340 (by decide) ?_
  refine lv_iadd C.1 C.2.1 dL_law_341 ?_
  refine x_topi (z := 1) (by decide) ?_
  refine va_sld C.1 C.2.1 hX hbl hbA hw.2.2.2.1 (i := 1) (x_in rfl) dL_law_342 ?_
  refine x_topi (z := (xs 1)) rfl ?_
  refine lv_aload_n C.1 C.2.1 dL_law_343 rfl (lv_at hl 4 rfl) ?_
  refine lv_iload C.1 C.2.1 dL_law_344 (lv_at hl 0 rfl) ?_
  refine lv_iconst (v := 2) C.1 C.2.1 dL_law_346 (by decide) ?_
  refine lv_iadd C.1 C.2.1 dL_law_347 ?_
  refine x_topi (z := 2) (by decide) ?_
  refine va_sld C.1 C.2.1 hX hbl hbA hw.2.2.2.1 (i := 2) (x_in rfl) dL_law_348 ?_
  refine x_topi (z := (xs 2)) rfl ?_
  refine lv_aload_n C.1 C.2.1 dL_law_349 rfl (lv_at hl 1 rfl) ?_
  have hC : [0, 1].map (fun i => ([(qx, .inr (9, [.ref qt, .ref qs, .ref qd, .ref qa, .ref qb, .ref qh, .ref qr, .ref qe, .ref qp, .ref qf, .ref qn, .ref qi, .ref qo, .int 0, .int 0, .int (-1), .int (-1)])), (qs, .inr (4, [.int 0, .int 0, .int 0, .int 0, .int 1, .int 0, .int 40, .int 0, .int 0, .ref sslideNames, .ref spictures, .ref sheats, .ref safter, .ref shearerNames, .ref sneeds, .ref slikes, .ref shates, .ref snear])), (qm, .inr (10, [.int 0, .ref mtape, .int 0, .int 0, .int 0, .int 0, .int 0, .int 0, .int 0, .int 0, .int 0, .int 0, .long 0, .int 0, .ref mnow, .ref mread, .ref mkept, .ref msnaps, .ref maside, .ref mname, .ref mreadName, .ref mkeptName, .ref misKept, .ref monces, .int 0, .ref morder, .ref mordered, .int 0, .int 0, .int 0, .int (-1), .int (-1), .ref mtext, .int 0, .int 0, .ref mline, .ref mwritten, .int 0, .int 0, .ref mnode, .int 0, .int 0, .int 0, .int 0])), (mnow, eI G 339 nw0)] : va_W)[i]?) = ([(qx, .inr (9, [.ref qt, .ref qs, .ref qd, .ref qa, .ref qb, .ref qh, .ref qr, .ref qe, .ref qp, .ref qf, .ref qn, .ref qi, .ref qo, .int 0, .int 0, .int (-1), .int (-1)])), (qs, .inr (4, [.int 0, .int 0, .int 0, .int 0, .int 1, .int 0, .int 40, .int 0, .int 0, .ref sslideNames, .ref spictures, .ref sheats, .ref safter, .ref shearerNames, .ref sneeds, .ref slikes, .ref shates, .ref snear]))] : va_W).map some := rfl
  refine va_calli (vx_runSW (hh := [(0, 10, 13, 13)]) (bytes := cL_slide) (maxL := 5) (ret := some .int) (rm := rmD 7 1 6) (n := 4) (As := [.ref qx, .int (xs 1), .int (xs 2), .ref qz]) (rest := []) C (c_L_slide (G := G) hst qx qt qs qd qa qb qh qr qe qp qf qn qi qo sslideNames spictures sheats safter shearerNames sneeds slikes shates snear (xs 1) (xs 2) qz H.size) ⟨⟨rfl, rfl, (Nat.le_of_ble_eq_true rfl), (Nat.le_of_ble_eq_true rfl), pay_in C.2.2.2.2 (gw_in kw1092), List.mem_cons_self⟩, C.2.2.2.2 _ kw1092, C.2.2.2.2 _ kw0, ⟨by decide, by decide⟩, sig_L_slide, C.2.2.2.2 _ kw1090, C.2.2.2.2 _ kw1091⟩ (pre_of hw [0, 1] rfl hC) rfl rfl hl.1 rfl (lv_room (Nat.le_of_ble_eq_true rfl)) dL_law_350 ⟨(Nat.le_of_ble_eq_true rfl), (Nat.le_of_ble_eq_true rfl)⟩) hw.2.2.2.1 (fun q _ h9 => free_of hw [0, 1] hC q h9) (free_of hw [0, 1] hC) (fun r9 u9 t9 H locs ht _ hp9 hB _ hk hS => ?_)
  have hw := back_wd (wr := [(qm, .inr (10, [.int 0, .ref mtape, .int 0, .int 0, .int 0, .int 0, .int 0, .int 0, .int 0, .int 0, .int 0, .int 0, .long 0, .int 0, .ref mnow, .ref mread, .ref mkept, .ref msnaps, .ref maside, .ref mname, .ref mreadName, .ref mkeptName, .ref misKept, .ref monces, .int 0, .ref morder, .ref mordered, .int 0, .int 0, .int 0, .int (-1), .int (-1), .ref mtext, .int 0, .int 0, .ref mline, .ref mwritten, .int 0, .int 0, .ref mnode, .int 0, .int 0, .int 0, .int 0])), (mnow, eI G 339 nw0)]) hw [0, 1] [2, 3] hC rfl rfl (by decide) ht hB hk hS
  obtain ⟨rfl, rfl⟩ := hp9
  have hw : Wd G s (fun q : Nat => s.heap.size ≤ q) [(qm, .inr (10, [.int 0, .ref mtape, .int 0, .int 0, .int 0, .int 0, .int 0, .int 0, .int 0, .int 0, .int 0, .int 0, .long 0, .int 0, .ref mnow, .ref mread, .ref mkept, .ref msnaps, .ref maside, .ref mname, .ref mreadName, .ref mkeptName, .ref misKept, .ref monces, .int 0, .ref morder, .ref mordered, .int 0, .int 0, .int 0, .int (-1), .int (-1), .ref mtext, .int 0, .int 0, .ref mline, .ref mwritten, .int 0, .int 0, .ref mnode, .int 0, .int 0, .int 0, .int 0])), (mnow, eI G 339 nw0)] H _ := hw
  refine lv_istore (lv' := [(5, .int 1), (4, .int 0), (3, .ref qz), (2, .ref qm), (1, .ref qx), (0, .ref b)]) C.1 C.2.1 dL_law_353 hl (by decide) rfl (fun ls hl => ?_)
  refine lv_aload_n C.1 C.2.1 dL_law_355 rfl (lv_at hl 3 rfl) ?_
  refine lv_aload_n C.1 C.2.1 dL_law_356 rfl (lv_at hl 5 rfl) ?_
  refine lv_iload C.1 C.2.1 dL_law_357 (lv_at hl 1 rfl) ?_
  refine lv_iconst (v := 1) C.1 C.2.1 dL_law_359 (by decide) ?_
  refine lv_iadd C.1 C.2.1 dL_law_360 ?_
  refine x_topi (z := 1) (by decide) ?_
  refine va_sld C.1 C.2.1 hX hbl hbA hw.2.2.2.1 (i := 1) (x_in rfl) dL_law_361 ?_
  refine x_topi (z := (xs 1)) rfl ?_
  refine lv_aload_n C.1 C.2.1 dL_law_362 rfl (lv_at hl 5 rfl) ?_
  refine lv_iload C.1 C.2.1 dL_law_363 (lv_at hl 1 rfl) ?_
  refine lv_iconst (v := 2) C.1 C.2.1 dL_law_365 (by decide) ?_
  refine lv_iadd C.1 C.2.1 dL_law_366 ?_
  refine x_topi (z := 2) (by decide) ?_
  refine va_sld C.1 C.2.1 hX hbl hbA hw.2.2.2.1 (i := 2) (x_in rfl) dL_law_367 ?_
  refine x_topi (z := (xs 2)) rfl ?_
  refine x_calliV (As := [.int (xs 1), .int (xs 2)]) (rest := []) (wr := []) C hw (c_X11_slide qm (xs 1) (xs 2) mtape mnow mread mkept msnaps maside mname mreadName mkeptName misKept monces morder mordered mtext mline mwritten mnode) mwX11_slide kw1465 [0, 1] [] rfl rfl rfl rfl (by decide) 0 rfl rfl rfl rfl hl.1 rfl (Nat.le_of_ble_eq_true rfl) ⟨(Nat.le_of_ble_eq_true rfl), (Nat.le_of_ble_eq_true rfl)⟩ ⟨(Nat.le_of_ble_eq_true rfl), (Nat.le_of_ble_eq_true rfl)⟩ dL_law_368 (fun r1 u9 H locs hp9 hw => ?_)
  obtain ⟨rfl, rfl⟩ := hp9
  have hw : Wd G s (fun q : Nat => s.heap.size ≤ q) [(qm, .inr (10, [.int 1, .ref mtape, .int 0, .int 0, .int 0, .int 0, .int 0, .int 0, .int 0, .int 0, .int 0, .int 0, .long 0, .int 0, .ref mnow, .ref mread, .ref mkept, .ref msnaps, .ref maside, .ref mname, .ref mreadName, .ref mkeptName, .ref misKept, .ref monces, .int 0, .ref morder, .ref mordered, .int 0, .int 0, .int 0, .int (-1), .int (-1), .ref mtext, .int 0, .int 0, .ref mline, .ref mwritten, .int 0, .int 0, .ref mnode, .int 0, .int 0, .int 0, .int 0]))] H _ := hw
  refine lv_istore (lv' := [(6, .int 0), (5, .int 1), (4, .int 0), (3, .ref qz), (2, .ref qm), (1, .ref qx), (0, .ref b)]) C.1 C.2.1 dL_law_371 hl (by decide) rfl (fun ls hl => ?_)
  refine lv_aload_n C.1 C.2.1 dL_law_373 rfl (lv_at hl 4 rfl) ?_
  refine x_calliV (As := []) (rest := []) (wr := []) C hw (c_X11_thrown qm 1 mtape mnow mread mkept msnaps maside mname mreadName mkeptName misKept monces morder mordered mtext mline mwritten mnode) mwX11_thrown kw1171 [0] [] rfl rfl rfl rfl (by decide) 0 rfl rfl rfl rfl hl.1 rfl (Nat.le_of_ble_eq_true rfl) ⟨(Nat.le_of_ble_eq_true rfl), (Nat.le_of_ble_eq_true rfl)⟩ ⟨(Nat.le_of_ble_eq_true rfl), (Nat.le_of_ble_eq_true rfl)⟩ dL_law_374 (fun r2 u9 H locs hp9 hw => ?_)
  obtain ⟨rfl, rfl⟩ := hp9
  have hw : Wd G s (fun q : Nat => s.heap.size ≤ q) [(qm, .inr (10, [.int 1, .ref mtape, .int 0, .int 0, .int 0, .int 0, .int 0, .int 0, .int 0, .int 0, .int 0, .int 0, .long 0, .int 0, .ref mnow, .ref mread, .ref mkept, .ref msnaps, .ref maside, .ref mname, .ref mreadName, .ref mkeptName, .ref misKept, .ref monces, .int 0, .ref morder, .ref mordered, .int 0, .int 0, .int 0, .int (-1), .int (-1), .ref mtext, .int 0, .int 0, .ref mline, .ref mwritten, .int 0, .int 0, .ref mnode, .int 0, .int 0, .int 0, .int 0]))] H _ := hw
  refine lv_iload C.1 C.2.1 dL_law_377 (lv_at hl 1 rfl) ?_
  refine lv_icmp_eq (tgt := 384) C.1 C.2.1 dL_law_379 (by decide) (fun _ => ?_) (fun h9 => absurd (by decide) h9)
  refine lv_iload C.1 C.2.1 dL_law_384 (lv_at hl 1 rfl) ?_
  refine lv_if_ne (tgt := 401) C.1 C.2.1 dL_law_386 (by decide) (fun _ => ?_) (fun h9 => absurd h9 (by decide))
  refine lv_goto (tgt := 1405) C.1 C.2.1 dL_law_401 (by decide) ?_
  refine lv_iinc (v := 6) (lv' := [(4, .int 6), (6, .int 0), (5, .int 1), (3, .ref qz), (2, .ref qm), (1, .ref qx), (0, .ref b)]) C.1 C.2.1 dL_law_1405 hl (k := 2) rfl (by decide) (by decide) rfl (fun ls hl => ?_)
  refine lv_goto (tgt := 23) C.1 C.2.1 dL_law_1408 (by decide) ?_
  exact law_tail C0 hw (Nat.le_of_ble_eq_true rfl) (Nat.le_of_ble_eq_true rfl) (lv_sub hl [0, 6] rfl)
theorem dL_law_404 : decode cL_law 404 = .ok (.aload_n 1, 1) := by decide +kernel
theorem dL_law_405 : decode cL_law 405 = .ok (.aload_n 0, 1) := by decide +kernel
theorem dL_law_406 : decode cL_law 406 = .ok (.iload 4, 2) := by decide +kernel
theorem dL_law_408 : decode cL_law 408 = .ok (.iconst 1, 1) := by decide +kernel
theorem dL_law_409 : decode cL_law 409 = .ok (.iadd, 1) := by decide +kernel
theorem dL_law_410 : decode cL_law 410 = .ok (.iaload, 1) := by decide +kernel
theorem dL_law_411 : decode cL_law 411 = .ok (.aload_n 0, 1) := by decide +kernel
theorem dL_law_412 : decode cL_law 412 = .ok (.iload 4, 2) := by decide +kernel
theorem dL_law_414 : decode cL_law 414 = .ok (.iconst 2, 1) := by decide +kernel
theorem dL_law_415 : decode cL_law 415 = .ok (.iadd, 1) := by decide +kernel
theorem dL_law_416 : decode cL_law 416 = .ok (.iaload, 1) := by decide +kernel
theorem dL_law_417 : decode cL_law 417 = .ok (.aload_n 0, 1) := by decide +kernel
theorem dL_law_418 : decode cL_law 418 = .ok (.iload 4, 2) := by decide +kernel
theorem dL_law_420 : decode cL_law 420 = .ok (.iconst 3, 1) := by decide +kernel
theorem dL_law_421 : decode cL_law 421 = .ok (.iadd, 1) := by decide +kernel
theorem dL_law_422 : decode cL_law 422 = .ok (.iaload, 1) := by decide +kernel
theorem dL_law_423 : decode cL_law 423 = .ok (.aload_n 0, 1) := by decide +kernel
theorem dL_law_424 : decode cL_law 424 = .ok (.iload 4, 2) := by decide +kernel
theorem dL_law_426 : decode cL_law 426 = .ok (.iconst 4, 1) := by decide +kernel
theorem dL_law_427 : decode cL_law 427 = .ok (.iadd, 1) := by decide +kernel
theorem dL_law_428 : decode cL_law 428 = .ok (.iaload, 1) := by decide +kernel
theorem dL_law_429 : decode cL_law 429 = .ok (.invokevirtual 50, 3) := by decide +kernel
theorem mwX10_row : MwV yX10_row cX10_row 6 (some .int) 4 := ⟨⟨kw648, kw1, by decide +kernel⟩, kw646, kw647⟩
theorem dL_law_432 : decode cL_law 432 = .ok (.aload_n 2, 1) := by decide +kernel
theorem dL_law_433 : decode cL_law 433 = .ok (.aload_n 0, 1) := by decide +kernel
theorem dL_law_434 : decode cL_law 434 = .ok (.iload 4, 2) := by decide +kernel
theorem dL_law_436 : decode cL_law 436 = .ok (.iconst 1, 1) := by decide +kernel
theorem dL_law_437 : decode cL_law 437 = .ok (.iadd, 1) := by decide +kernel
theorem dL_law_438 : decode cL_law 438 = .ok (.iaload, 1) := by decide +kernel
theorem dL_law_439 : decode cL_law 439 = .ok (.aload_n 0, 1) := by decide +kernel
theorem dL_law_440 : decode cL_law 440 = .ok (.iload 4, 2) := by decide +kernel
theorem dL_law_442 : decode cL_law 442 = .ok (.iconst 2, 1) := by decide +kernel
theorem dL_law_443 : decode cL_law 443 = .ok (.iadd, 1) := by decide +kernel
theorem dL_law_444 : decode cL_law 444 = .ok (.iaload, 1) := by decide +kernel
theorem dL_law_445 : decode cL_law 445 = .ok (.aload_n 0, 1) := by decide +kernel
theorem dL_law_446 : decode cL_law 446 = .ok (.iload 4, 2) := by decide +kernel
theorem dL_law_448 : decode cL_law 448 = .ok (.iconst 3, 1) := by decide +kernel
theorem dL_law_449 : decode cL_law 449 = .ok (.iadd, 1) := by decide +kernel
theorem dL_law_450 : decode cL_law 450 = .ok (.iaload, 1) := by decide +kernel
theorem dL_law_451 : decode cL_law 451 = .ok (.aload_n 0, 1) := by decide +kernel
theorem dL_law_452 : decode cL_law 452 = .ok (.iload 4, 2) := by decide +kernel
theorem dL_law_454 : decode cL_law 454 = .ok (.iconst 4, 1) := by decide +kernel
theorem dL_law_455 : decode cL_law 455 = .ok (.iadd, 1) := by decide +kernel
theorem dL_law_456 : decode cL_law 456 = .ok (.iaload, 1) := by decide +kernel
theorem dL_law_457 : decode cL_law 457 = .ok (.invokevirtual 54, 3) := by decide +kernel
theorem mwX11_row : MwV yX11_row cX11_row 5 (some .int) 4 := ⟨⟨kw1494, kw15, by decide +kernel⟩, kw1492, kw1493⟩
theorem dL_law_460 : decode cL_law 460 = .ok (.if_icmp .eq 945, 3) := by decide +kernel
set_option maxHeartbeats 4000000 in
set_option maxRecDepth 100000 in
theorem law_row {p : Program} {l : Launch} {e : Env} {s : State} {m : MethodId} {below : List Frame} {meth : Method} {c : Code} {G : Gc} {b : Nat} {xs : Nat → Int32} (hst : l.stackTraces = false) (qx : Nat) (qm : Nat) (qz : Nat) (qt : Nat) (qs : Nat) (qd : Nat) (qa : Nat) (qb : Nat) (qh : Nat) (qr : Nat) (qe : Nat) (qp : Nat) (qf : Nat) (qn : Nat) (qi : Nat) (qo : Nat) (sslideNames : Nat) (spictures : Nat) (sheats : Nat) (safter : Nat) (shearerNames : Nat) (sneeds : Nat) (slikes : Nat) (shates : Nat) (snear : Nat) (mtape : Nat) (mnow : Nat) (mread : Nat) (mkept : Nat) (msnaps : Nat) (maside : Nat) (mname : Nat) (mreadName : Nat) (mkeptName : Nat) (misKept : Nat) (monces : Nat) (morder : Nat) (mordered : Nat) (mtext : Nat) (mline : Nat) (mwritten : Nat) (mnode : Nat) {A : Nat → Prop} (eA : A = fun q : Nat => s.heap.size ≤ q) {H : Heap} {locs : List Loc} {ls : Array Slot} (C0 : lw_At p s m meth c b 6 xs) (hw : Wd G s A [(qx, .inr (9, [.ref qt, .ref qs, .ref qd, .ref qa, .ref qb, .ref qh, .ref qr, .ref qe, .ref qp, .ref qf, .ref qn, .ref qi, .ref qo, .int 0, .int 0, .int (-1), .int (-1)])), (qs, .inr (4, [.int 0, .int 0, .int 0, .int 0, .int 1, .int 0, .int 40, .int 0, .int 0, .ref sslideNames, .ref spictures, .ref sheats, .ref safter, .ref shearerNames, .ref sneeds, .ref slikes, .ref shates, .ref snear])), (qm, .inr (10, [.int 0, .ref mtape, .int 0, .int 0, .int 0, .int 0, .int 0, .int 0, .int 0, .int 0, .int 0, .int 0, .long 0, .int 0, .ref mnow, .ref mread, .ref mkept, .ref msnaps, .ref maside, .ref mname, .ref mreadName, .ref mkeptName, .ref misKept, .ref monces, .int 0, .ref morder, .ref mordered, .int 0, .int 0, .int 0, .int (-1), .int (-1), .ref mtext, .int 0, .int 0, .ref mline, .ref mwritten, .int 0, .int 0, .ref mnode, .int 0, .int 0, .int 0, .int 0])), (mnow, eI G 339 nw0)] H locs) (hl : lv_has ls 7 [(4, .int 0), (3, .ref qz), (2, .ref qm), (1, .ref qx), (0, .ref b)]) : W p l e room_1 s m #[Value.ref b] below meth c H locs 147 5480 (lw_Z below #[Value.ref b] s) (F0 m 404 ls []) := by
  subst eA
  obtain ⟨hx, hb, hr, hml, hown, hts, hX, hbl, hlocks, hgv⟩ := id C0
  have hbA : ¬ (fun q : Nat => s.heap.size ≤ q) b := Nat.not_le.mpr hbl
  have C : CallFix p m c code 7 s #[Value.ref b] gw "LanternStateLaw" := ⟨hx, hb, hml, hown, fun w h => hts w (gw_sub w h)⟩
  refine lv_aload_n C.1 C.2.1 dL_law_404 rfl (lv_at hl 3 rfl) ?_
  refine lv_aload_n C.1 C.2.1 dL_law_405 rfl (lv_at hl 4 rfl) ?_
  refine lv_iload C.1 C.2.1 dL_law_406 (lv_at hl 0 rfl) ?_
  refine lv_iconst (v := 1) C.1 C.2.1 dL_law_408 (by decide) ?_
  refine lv_iadd C.1 C.2.1 dL_law_409 ?_
  refine x_topi (z := 1) (by decide) ?_
  refine va_sld C.1 C.2.1 hX hbl hbA hw.2.2.2.1 (i := 1) (x_in rfl) dL_law_410 ?_
  refine x_topi (z := (xs 1)) rfl ?_
  refine lv_aload_n C.1 C.2.1 dL_law_411 rfl (lv_at hl 4 rfl) ?_
  refine lv_iload C.1 C.2.1 dL_law_412 (lv_at hl 0 rfl) ?_
  refine lv_iconst (v := 2) C.1 C.2.1 dL_law_414 (by decide) ?_
  refine lv_iadd C.1 C.2.1 dL_law_415 ?_
  refine x_topi (z := 2) (by decide) ?_
  refine va_sld C.1 C.2.1 hX hbl hbA hw.2.2.2.1 (i := 2) (x_in rfl) dL_law_416 ?_
  refine x_topi (z := (xs 2)) rfl ?_
  refine lv_aload_n C.1 C.2.1 dL_law_417 rfl (lv_at hl 4 rfl) ?_
  refine lv_iload C.1 C.2.1 dL_law_418 (lv_at hl 0 rfl) ?_
  refine lv_iconst (v := 3) C.1 C.2.1 dL_law_420 (by decide) ?_
  refine lv_iadd C.1 C.2.1 dL_law_421 ?_
  refine x_topi (z := 3) (by decide) ?_
  refine va_sld C.1 C.2.1 hX hbl hbA hw.2.2.2.1 (i := 3) (x_in rfl) dL_law_422 ?_
  refine x_topi (z := (xs 3)) rfl ?_
  refine lv_aload_n C.1 C.2.1 dL_law_423 rfl (lv_at hl 4 rfl) ?_
  refine lv_iload C.1 C.2.1 dL_law_424 (lv_at hl 0 rfl) ?_
  refine lv_iconst (v := 4) C.1 C.2.1 dL_law_426 (by decide) ?_
  refine lv_iadd C.1 C.2.1 dL_law_427 ?_
  refine x_topi (z := 4) (by decide) ?_
  refine va_sld C.1 C.2.1 hX hbl hbA hw.2.2.2.1 (i := 4) (x_in rfl) dL_law_428 ?_
  refine x_topi (z := (xs 4)) rfl ?_
  refine x_calliV (As := [.int (xs 1), .int (xs 2), .int (xs 3), .int (xs 4)]) (rest := []) (wr := [(qm, .inr (10, [.int 0, .ref mtape, .int 0, .int 0, .int 0, .int 0, .int 0, .int 0, .int 0, .int 0, .int 0, .int 0, .long 0, .int 0, .ref mnow, .ref mread, .ref mkept, .ref msnaps, .ref maside, .ref mname, .ref mreadName, .ref mkeptName, .ref misKept, .ref monces, .int 0, .ref morder, .ref mordered, .int 0, .int 0, .int 0, .int (-1), .int (-1), .ref mtext, .int 0, .int 0, .ref mline, .ref mwritten, .int 0, .int 0, .ref mnode, .int 0, .int 0, .int 0, .int 0])), (mnow, eI G 339 nw0)]) C hw (c_X10_row qx (xs 1) (xs 2) (xs 3) (xs 4) qt qs qd qa qb qh qr qe qp qf qn qi qo sslideNames spictures sheats safter shearerNames sneeds slikes shates snear) mwX10_row kw645 [0, 1] [2, 3] rfl rfl rfl rfl (by decide) 0 rfl rfl rfl rfl hl.1 rfl (Nat.le_of_ble_eq_true rfl) ⟨(Nat.le_of_ble_eq_true rfl), (Nat.le_of_ble_eq_true rfl)⟩ ⟨(Nat.le_of_ble_eq_true rfl), (Nat.le_of_ble_eq_true rfl)⟩ dL_law_429 (fun r1 u9 H locs hp9 hw => ?_)
  obtain ⟨rfl, rfl⟩ := hp9
  have hw : Wd G s (fun q : Nat => s.heap.size ≤ q) [(qm, .inr (10, [.int 0, .ref mtape, .int 0, .int 0, .int 0, .int 0, .int 0, .int 0, .int 0, .int 0, .int 0, .int 0, .long 0, .int 0, .ref mnow, .ref mread, .ref mkept, .ref msnaps, .ref maside, .ref mname, .ref mreadName, .ref mkeptName, .ref misKept, .ref monces, .int 0, .ref morder, .ref mordered, .int 0, .int 0, .int 0, .int (-1), .int (-1), .ref mtext, .int 0, .int 0, .ref mline, .ref mwritten, .int 0, .int 0, .ref mnode, .int 0, .int 0, .int 0, .int 0])), (mnow, eI G 339 nw0), (qx, .inr (9, [.ref qt, .ref qs, .ref qd, .ref qa, .ref qb, .ref qh, .ref qr, .ref qe, .ref qp, .ref qf, .ref qn, .ref qi, .ref qo, .int 0, .int 0, .int (-1), .int (-1)])), (qs, .inr (4, [.int 0, .int 0, .int 0, .int 0, .int 1, .int 0, .int 40, .int 0, .int 0, .ref sslideNames, .ref spictures, .ref sheats, .ref safter, .ref shearerNames, .ref sneeds, .ref slikes, .ref shates, .ref snear]))] H _ := hw
  refine lv_aload_n C.1 C.2.1 dL_law_432 rfl (lv_at hl 2 rfl) ?_
  refine lv_aload_n C.1 C.2.1 dL_law_433 rfl (lv_at hl 4 rfl) ?_
  refine lv_iload C.1 C.2.1 dL_law_434 (lv_at hl 0 rfl) ?_
  refine lv_iconst (v := 1) C.1 C.2.1 dL_law_436 (by decide) ?_
  refine lv_iadd C.1 C.2.1 dL_law_437 ?_
  refine x_topi (z := 1) (by decide) ?_
  refine va_sld C.1 C.2.1 hX hbl hbA hw.2.2.2.1 (i := 1) (x_in rfl) dL_law_438 ?_
  refine x_topi (z := (xs 1)) rfl ?_
  refine lv_aload_n C.1 C.2.1 dL_law_439 rfl (lv_at hl 4 rfl) ?_
  refine lv_iload C.1 C.2.1 dL_law_440 (lv_at hl 0 rfl) ?_
  refine lv_iconst (v := 2) C.1 C.2.1 dL_law_442 (by decide) ?_
  refine lv_iadd C.1 C.2.1 dL_law_443 ?_
  refine x_topi (z := 2) (by decide) ?_
  refine va_sld C.1 C.2.1 hX hbl hbA hw.2.2.2.1 (i := 2) (x_in rfl) dL_law_444 ?_
  refine x_topi (z := (xs 2)) rfl ?_
  refine lv_aload_n C.1 C.2.1 dL_law_445 rfl (lv_at hl 4 rfl) ?_
  refine lv_iload C.1 C.2.1 dL_law_446 (lv_at hl 0 rfl) ?_
  refine lv_iconst (v := 3) C.1 C.2.1 dL_law_448 (by decide) ?_
  refine lv_iadd C.1 C.2.1 dL_law_449 ?_
  refine x_topi (z := 3) (by decide) ?_
  refine va_sld C.1 C.2.1 hX hbl hbA hw.2.2.2.1 (i := 3) (x_in rfl) dL_law_450 ?_
  refine x_topi (z := (xs 3)) rfl ?_
  refine lv_aload_n C.1 C.2.1 dL_law_451 rfl (lv_at hl 4 rfl) ?_
  refine lv_iload C.1 C.2.1 dL_law_452 (lv_at hl 0 rfl) ?_
  refine lv_iconst (v := 4) C.1 C.2.1 dL_law_454 (by decide) ?_
  refine lv_iadd C.1 C.2.1 dL_law_455 ?_
  refine x_topi (z := 4) (by decide) ?_
  refine va_sld C.1 C.2.1 hX hbl hbA hw.2.2.2.1 (i := 4) (x_in rfl) dL_law_456 ?_
  refine x_topi (z := (xs 4)) rfl ?_
  refine x_calliV (As := [.int (xs 1), .int (xs 2), .int (xs 3), .int (xs 4)]) (rest := [.int (-1)]) (wr := [(qx, .inr (9, [.ref qt, .ref qs, .ref qd, .ref qa, .ref qb, .ref qh, .ref qr, .ref qe, .ref qp, .ref qf, .ref qn, .ref qi, .ref qo, .int 0, .int 0, .int (-1), .int (-1)])), (qs, .inr (4, [.int 0, .int 0, .int 0, .int 0, .int 1, .int 0, .int 40, .int 0, .int 0, .ref sslideNames, .ref spictures, .ref sheats, .ref safter, .ref shearerNames, .ref sneeds, .ref slikes, .ref shates, .ref snear]))]) C hw (c_X11_row qm (xs 1) (xs 2) (xs 3) (xs 4) mtape mnow mread mkept msnaps maside mname mreadName mkeptName misKept monces morder mordered mtext mline mwritten mnode) mwX11_row kw1491 [0, 1] [2, 3] rfl rfl rfl rfl (by decide) 0 rfl rfl rfl rfl hl.1 rfl (Nat.le_of_ble_eq_true rfl) ⟨(Nat.le_of_ble_eq_true rfl), (Nat.le_of_ble_eq_true rfl)⟩ ⟨(Nat.le_of_ble_eq_true rfl), (Nat.le_of_ble_eq_true rfl)⟩ dL_law_457 (fun r2 u9 H locs hp9 hw => ?_)
  obtain ⟨rfl, rfl⟩ := hp9
  have hw : Wd G s (fun q : Nat => s.heap.size ≤ q) [(qx, .inr (9, [.ref qt, .ref qs, .ref qd, .ref qa, .ref qb, .ref qh, .ref qr, .ref qe, .ref qp, .ref qf, .ref qn, .ref qi, .ref qo, .int 0, .int 0, .int (-1), .int (-1)])), (qs, .inr (4, [.int 0, .int 0, .int 0, .int 0, .int 1, .int 0, .int 40, .int 0, .int 0, .ref sslideNames, .ref spictures, .ref sheats, .ref safter, .ref shearerNames, .ref sneeds, .ref slikes, .ref shates, .ref snear]))] H _ := hw
  refine lv_icmp_eq (tgt := 1405) C.1 C.2.1 dL_law_460 (by decide) (fun _ => ?_) (fun h9 => absurd (by decide) h9)
  refine lv_iinc (v := 6) (lv' := [(4, .int 6), (3, .ref qz), (2, .ref qm), (1, .ref qx), (0, .ref b)]) C.1 C.2.1 dL_law_1405 hl (k := 0) rfl (by decide) (by decide) rfl (fun ls hl => ?_)
  refine lv_goto (tgt := 23) C.1 C.2.1 dL_law_1408 (by decide) ?_
  exact law_tail C0 hw (Nat.le_of_ble_eq_true rfl) (Nat.le_of_ble_eq_true rfl) (lv_sub hl [0, 4] rfl)
theorem dL_law_465 : decode cL_law 465 = .ok (.aload_n 1, 1) := by decide +kernel
theorem dL_law_466 : decode cL_law 466 = .ok (.aload_n 0, 1) := by decide +kernel
theorem dL_law_467 : decode cL_law 467 = .ok (.iload 4, 2) := by decide +kernel
theorem dL_law_469 : decode cL_law 469 = .ok (.iconst 1, 1) := by decide +kernel
theorem dL_law_470 : decode cL_law 470 = .ok (.iadd, 1) := by decide +kernel
theorem dL_law_471 : decode cL_law 471 = .ok (.iaload, 1) := by decide +kernel
theorem dL_law_472 : decode cL_law 472 = .ok (.aload_n 0, 1) := by decide +kernel
theorem dL_law_473 : decode cL_law 473 = .ok (.iload 4, 2) := by decide +kernel
theorem dL_law_475 : decode cL_law 475 = .ok (.iconst 2, 1) := by decide +kernel
theorem dL_law_476 : decode cL_law 476 = .ok (.iadd, 1) := by decide +kernel
theorem dL_law_477 : decode cL_law 477 = .ok (.iaload, 1) := by decide +kernel
theorem dL_law_478 : decode cL_law 478 = .ok (.aload_n 3, 1) := by decide +kernel
theorem dL_law_479 : decode cL_law 479 = .ok (.invokestatic 55, 3) := by decide +kernel
theorem dL_law_482 : decode cL_law 482 = .ok (.istore 5, 2) := by decide +kernel
theorem dL_law_484 : decode cL_law 484 = .ok (.aload_n 2, 1) := by decide +kernel
theorem dL_law_485 : decode cL_law 485 = .ok (.aload_n 0, 1) := by decide +kernel
theorem dL_law_486 : decode cL_law 486 = .ok (.iload 4, 2) := by decide +kernel
theorem dL_law_488 : decode cL_law 488 = .ok (.iconst 1, 1) := by decide +kernel
theorem dL_law_489 : decode cL_law 489 = .ok (.iadd, 1) := by decide +kernel
theorem dL_law_490 : decode cL_law 490 = .ok (.iaload, 1) := by decide +kernel
theorem dL_law_491 : decode cL_law 491 = .ok (.aload_n 0, 1) := by decide +kernel
theorem dL_law_492 : decode cL_law 492 = .ok (.iload 4, 2) := by decide +kernel
theorem dL_law_494 : decode cL_law 494 = .ok (.iconst 2, 1) := by decide +kernel
theorem dL_law_495 : decode cL_law 495 = .ok (.iadd, 1) := by decide +kernel
theorem dL_law_496 : decode cL_law 496 = .ok (.iaload, 1) := by decide +kernel
theorem dL_law_497 : decode cL_law 497 = .ok (.invokevirtual 57, 3) := by decide +kernel
theorem mwX11_hearer : MwV yX11_hearer cX11_hearer 3 (some .int) 2 := ⟨⟨kw1504, kw15, by decide +kernel⟩, kw1502, kw1503⟩
theorem dL_law_500 : decode cL_law 500 = .ok (.istore 6, 2) := by decide +kernel
theorem dL_law_502 : decode cL_law 502 = .ok (.aload_n 2, 1) := by decide +kernel
theorem dL_law_503 : decode cL_law 503 = .ok (.invokevirtual 47, 3) := by decide +kernel
theorem dL_law_506 : decode cL_law 506 = .ok (.iload 5, 2) := by decide +kernel
theorem dL_law_508 : decode cL_law 508 = .ok (.if_icmp .eq 5, 3) := by decide +kernel
theorem dL_law_513 : decode cL_law 513 = .ok (.iload 5, 2) := by decide +kernel
theorem dL_law_515 : decode cL_law 515 = .ok (.ifCond .ne 15, 3) := by decide +kernel
theorem dL_law_530 : decode cL_law 530 = .ok (.goto 875, 3) := by decide +kernel
set_option maxHeartbeats 4000000 in
set_option maxRecDepth 100000 in
theorem law_hearer {p : Program} {l : Launch} {e : Env} {s : State} {m : MethodId} {below : List Frame} {meth : Method} {c : Code} {G : Gc} {b : Nat} {xs : Nat → Int32} (hst : l.stackTraces = false) (qx : Nat) (qm : Nat) (qz : Nat) (qt : Nat) (qs : Nat) (qd : Nat) (qa : Nat) (qb : Nat) (qh : Nat) (qr : Nat) (qe : Nat) (qp : Nat) (qf : Nat) (qn : Nat) (qi : Nat) (qo : Nat) (sslideNames : Nat) (spictures : Nat) (sheats : Nat) (safter : Nat) (shearerNames : Nat) (sneeds : Nat) (slikes : Nat) (shates : Nat) (snear : Nat) (mtape : Nat) (mnow : Nat) (mread : Nat) (mkept : Nat) (msnaps : Nat) (maside : Nat) (mname : Nat) (mreadName : Nat) (mkeptName : Nat) (misKept : Nat) (monces : Nat) (morder : Nat) (mordered : Nat) (mtext : Nat) (mline : Nat) (mwritten : Nat) (mnode : Nat) {A : Nat → Prop} (eA : A = fun q : Nat => s.heap.size ≤ q) {H : Heap} {locs : List Loc} {ls : Array Slot} (C0 : lw_At p s m meth c b 6 xs) (hw : Wd G s A [(qx, .inr (9, [.ref qt, .ref qs, .ref qd, .ref qa, .ref qb, .ref qh, .ref qr, .ref qe, .ref qp, .ref qf, .ref qn, .ref qi, .ref qo, .int 0, .int 0, .int (-1), .int (-1)])), (qs, .inr (4, [.int 0, .int 0, .int 0, .int 0, .int 1, .int 0, .int 40, .int 0, .int 0, .ref sslideNames, .ref spictures, .ref sheats, .ref safter, .ref shearerNames, .ref sneeds, .ref slikes, .ref shates, .ref snear])), (qm, .inr (10, [.int 0, .ref mtape, .int 0, .int 0, .int 0, .int 0, .int 0, .int 0, .int 0, .int 0, .int 0, .int 0, .long 0, .int 0, .ref mnow, .ref mread, .ref mkept, .ref msnaps, .ref maside, .ref mname, .ref mreadName, .ref mkeptName, .ref misKept, .ref monces, .int 0, .ref morder, .ref mordered, .int 0, .int 0, .int 0, .int (-1), .int (-1), .ref mtext, .int 0, .int 0, .ref mline, .ref mwritten, .int 0, .int 0, .ref mnode, .int 0, .int 0, .int 0, .int 0])), (mnow, eI G 339 nw0)] H locs) (hl : lv_has ls 7 [(4, .int 0), (3, .ref qz), (2, .ref qm), (1, .ref qx), (0, .ref b)]) : W p l e room_1 s m #[Value.ref b] below meth c H locs 147 5480 (lw_Z below #[Value.ref b] s) (F0 m 465 ls []) := by
  subst eA
  obtain ⟨hx, hb, hr, hml, hown, hts, hX, hbl, hlocks, hgv⟩ := id C0
  have hbA : ¬ (fun q : Nat => s.heap.size ≤ q) b := Nat.not_le.mpr hbl
  have C : CallFix p m c code 7 s #[Value.ref b] gw "LanternStateLaw" := ⟨hx, hb, hml, hown, fun w h => hts w (gw_sub w h)⟩
  refine lv_aload_n C.1 C.2.1 dL_law_465 rfl (lv_at hl 3 rfl) ?_
  refine lv_aload_n C.1 C.2.1 dL_law_466 rfl (lv_at hl 4 rfl) ?_
  refine lv_iload C.1 C.2.1 dL_law_467 (lv_at hl 0 rfl) ?_
  refine lv_iconst (v := 1) C.1 C.2.1 dL_law_469 (by decide) ?_
  refine lv_iadd C.1 C.2.1 dL_law_470 ?_
  refine x_topi (z := 1) (by decide) ?_
  refine va_sld C.1 C.2.1 hX hbl hbA hw.2.2.2.1 (i := 1) (x_in rfl) dL_law_471 ?_
  refine x_topi (z := (xs 1)) rfl ?_
  refine lv_aload_n C.1 C.2.1 dL_law_472 rfl (lv_at hl 4 rfl) ?_
  refine lv_iload C.1 C.2.1 dL_law_473 (lv_at hl 0 rfl) ?_
  refine lv_iconst (v := 2) C.1 C.2.1 dL_law_475 (by decide) ?_
  refine lv_iadd C.1 C.2.1 dL_law_476 ?_
  refine x_topi (z := 2) (by decide) ?_
  refine va_sld C.1 C.2.1 hX hbl hbA hw.2.2.2.1 (i := 2) (x_in rfl) dL_law_477 ?_
  refine x_topi (z := (xs 2)) rfl ?_
  refine lv_aload_n C.1 C.2.1 dL_law_478 rfl (lv_at hl 1 rfl) ?_
  have hC : [0, 1].map (fun i => ([(qx, .inr (9, [.ref qt, .ref qs, .ref qd, .ref qa, .ref qb, .ref qh, .ref qr, .ref qe, .ref qp, .ref qf, .ref qn, .ref qi, .ref qo, .int 0, .int 0, .int (-1), .int (-1)])), (qs, .inr (4, [.int 0, .int 0, .int 0, .int 0, .int 1, .int 0, .int 40, .int 0, .int 0, .ref sslideNames, .ref spictures, .ref sheats, .ref safter, .ref shearerNames, .ref sneeds, .ref slikes, .ref shates, .ref snear])), (qm, .inr (10, [.int 0, .ref mtape, .int 0, .int 0, .int 0, .int 0, .int 0, .int 0, .int 0, .int 0, .int 0, .int 0, .long 0, .int 0, .ref mnow, .ref mread, .ref mkept, .ref msnaps, .ref maside, .ref mname, .ref mreadName, .ref mkeptName, .ref misKept, .ref monces, .int 0, .ref morder, .ref mordered, .int 0, .int 0, .int 0, .int (-1), .int (-1), .ref mtext, .int 0, .int 0, .ref mline, .ref mwritten, .int 0, .int 0, .ref mnode, .int 0, .int 0, .int 0, .int 0])), (mnow, eI G 339 nw0)] : va_W)[i]?) = ([(qx, .inr (9, [.ref qt, .ref qs, .ref qd, .ref qa, .ref qb, .ref qh, .ref qr, .ref qe, .ref qp, .ref qf, .ref qn, .ref qi, .ref qo, .int 0, .int 0, .int (-1), .int (-1)])), (qs, .inr (4, [.int 0, .int 0, .int 0, .int 0, .int 1, .int 0, .int 40, .int 0, .int 0, .ref sslideNames, .ref spictures, .ref sheats, .ref safter, .ref shearerNames, .ref sneeds, .ref slikes, .ref shates, .ref snear]))] : va_W).map some := rfl
  refine va_calli (vx_runSW (hh := [(0, 10, 13, 13)]) (bytes := cL_hearer) (maxL := 5) (ret := some .int) (rm := rmD 7 1 6) (n := 4) (As := [.ref qx, .int (xs 1), .int (xs 2), .ref qz]) (rest := []) C (c_L_hearer (G := G) hst qx qt qs qd qa qb qh qr qe qp qf qn qi qo sslideNames spictures sheats safter shearerNames sneeds slikes shates snear (xs 1) (xs 2) qz H.size) ⟨⟨rfl, rfl, (Nat.le_of_ble_eq_true rfl), (Nat.le_of_ble_eq_true rfl), pay_in C.2.2.2.2 (gw_in kw1165), List.mem_cons_self⟩, C.2.2.2.2 _ kw1165, C.2.2.2.2 _ kw0, ⟨by decide, by decide⟩, sig_L_hearer, C.2.2.2.2 _ kw1163, C.2.2.2.2 _ kw1164⟩ (pre_of hw [0, 1] rfl hC) rfl rfl hl.1 rfl (lv_room (Nat.le_of_ble_eq_true rfl)) dL_law_479 ⟨(Nat.le_of_ble_eq_true rfl), (Nat.le_of_ble_eq_true rfl)⟩) hw.2.2.2.1 (fun q _ h9 => free_of hw [0, 1] hC q h9) (free_of hw [0, 1] hC) (fun r9 u9 t9 H locs ht _ hp9 hB _ hk hS => ?_)
  have hw := back_wd (wr := [(qm, .inr (10, [.int 0, .ref mtape, .int 0, .int 0, .int 0, .int 0, .int 0, .int 0, .int 0, .int 0, .int 0, .int 0, .long 0, .int 0, .ref mnow, .ref mread, .ref mkept, .ref msnaps, .ref maside, .ref mname, .ref mreadName, .ref mkeptName, .ref misKept, .ref monces, .int 0, .ref morder, .ref mordered, .int 0, .int 0, .int 0, .int (-1), .int (-1), .ref mtext, .int 0, .int 0, .ref mline, .ref mwritten, .int 0, .int 0, .ref mnode, .int 0, .int 0, .int 0, .int 0])), (mnow, eI G 339 nw0)]) hw [0, 1] [2, 3] hC rfl rfl (by decide) ht hB hk hS
  obtain ⟨rfl, rfl⟩ := hp9
  have hw : Wd G s (fun q : Nat => s.heap.size ≤ q) [(qm, .inr (10, [.int 0, .ref mtape, .int 0, .int 0, .int 0, .int 0, .int 0, .int 0, .int 0, .int 0, .int 0, .int 0, .long 0, .int 0, .ref mnow, .ref mread, .ref mkept, .ref msnaps, .ref maside, .ref mname, .ref mreadName, .ref mkeptName, .ref misKept, .ref monces, .int 0, .ref morder, .ref mordered, .int 0, .int 0, .int 0, .int (-1), .int (-1), .ref mtext, .int 0, .int 0, .ref mline, .ref mwritten, .int 0, .int 0, .ref mnode, .int 0, .int 0, .int 0, .int 0])), (mnow, eI G 339 nw0)] H _ := hw
  refine lv_istore (lv' := [(5, .int 1), (4, .int 0), (3, .ref qz), (2, .ref qm), (1, .ref qx), (0, .ref b)]) C.1 C.2.1 dL_law_482 hl (by decide) rfl (fun ls hl => ?_)
  refine lv_aload_n C.1 C.2.1 dL_law_484 rfl (lv_at hl 3 rfl) ?_
  refine lv_aload_n C.1 C.2.1 dL_law_485 rfl (lv_at hl 5 rfl) ?_
  refine lv_iload C.1 C.2.1 dL_law_486 (lv_at hl 1 rfl) ?_
  refine lv_iconst (v := 1) C.1 C.2.1 dL_law_488 (by decide) ?_
  refine lv_iadd C.1 C.2.1 dL_law_489 ?_
  refine x_topi (z := 1) (by decide) ?_
  refine va_sld C.1 C.2.1 hX hbl hbA hw.2.2.2.1 (i := 1) (x_in rfl) dL_law_490 ?_
  refine x_topi (z := (xs 1)) rfl ?_
  refine lv_aload_n C.1 C.2.1 dL_law_491 rfl (lv_at hl 5 rfl) ?_
  refine lv_iload C.1 C.2.1 dL_law_492 (lv_at hl 1 rfl) ?_
  refine lv_iconst (v := 2) C.1 C.2.1 dL_law_494 (by decide) ?_
  refine lv_iadd C.1 C.2.1 dL_law_495 ?_
  refine x_topi (z := 2) (by decide) ?_
  refine va_sld C.1 C.2.1 hX hbl hbA hw.2.2.2.1 (i := 2) (x_in rfl) dL_law_496 ?_
  refine x_topi (z := (xs 2)) rfl ?_
  refine x_calliV (As := [.int (xs 1), .int (xs 2)]) (rest := []) (wr := []) C hw (c_X11_hearer qm (xs 1) (xs 2) mtape mnow mread mkept msnaps maside mname mreadName mkeptName misKept monces morder mordered mtext mline mwritten mnode) mwX11_hearer kw1501 [0, 1] [] rfl rfl rfl rfl (by decide) 0 rfl rfl rfl rfl hl.1 rfl (Nat.le_of_ble_eq_true rfl) ⟨(Nat.le_of_ble_eq_true rfl), (Nat.le_of_ble_eq_true rfl)⟩ ⟨(Nat.le_of_ble_eq_true rfl), (Nat.le_of_ble_eq_true rfl)⟩ dL_law_497 (fun r1 u9 H locs hp9 hw => ?_)
  obtain ⟨rfl, rfl⟩ := hp9
  have hw : Wd G s (fun q : Nat => s.heap.size ≤ q) [(qm, .inr (10, [.int 1, .ref mtape, .int 0, .int 0, .int 0, .int 0, .int 0, .int 0, .int 0, .int 0, .int 0, .int 0, .long 0, .int 0, .ref mnow, .ref mread, .ref mkept, .ref msnaps, .ref maside, .ref mname, .ref mreadName, .ref mkeptName, .ref misKept, .ref monces, .int 0, .ref morder, .ref mordered, .int 0, .int 0, .int 0, .int (-1), .int (-1), .ref mtext, .int 0, .int 0, .ref mline, .ref mwritten, .int 0, .int 0, .ref mnode, .int 0, .int 0, .int 0, .int 0]))] H _ := hw
  refine lv_istore (lv' := [(6, .int 0), (5, .int 1), (4, .int 0), (3, .ref qz), (2, .ref qm), (1, .ref qx), (0, .ref b)]) C.1 C.2.1 dL_law_500 hl (by decide) rfl (fun ls hl => ?_)
  refine lv_aload_n C.1 C.2.1 dL_law_502 rfl (lv_at hl 4 rfl) ?_
  refine x_calliV (As := []) (rest := []) (wr := []) C hw (c_X11_thrown qm 1 mtape mnow mread mkept msnaps maside mname mreadName mkeptName misKept monces morder mordered mtext mline mwritten mnode) mwX11_thrown kw1171 [0] [] rfl rfl rfl rfl (by decide) 0 rfl rfl rfl rfl hl.1 rfl (Nat.le_of_ble_eq_true rfl) ⟨(Nat.le_of_ble_eq_true rfl), (Nat.le_of_ble_eq_true rfl)⟩ ⟨(Nat.le_of_ble_eq_true rfl), (Nat.le_of_ble_eq_true rfl)⟩ dL_law_503 (fun r2 u9 H locs hp9 hw => ?_)
  obtain ⟨rfl, rfl⟩ := hp9
  have hw : Wd G s (fun q : Nat => s.heap.size ≤ q) [(qm, .inr (10, [.int 1, .ref mtape, .int 0, .int 0, .int 0, .int 0, .int 0, .int 0, .int 0, .int 0, .int 0, .int 0, .long 0, .int 0, .ref mnow, .ref mread, .ref mkept, .ref msnaps, .ref maside, .ref mname, .ref mreadName, .ref mkeptName, .ref misKept, .ref monces, .int 0, .ref morder, .ref mordered, .int 0, .int 0, .int 0, .int (-1), .int (-1), .ref mtext, .int 0, .int 0, .ref mline, .ref mwritten, .int 0, .int 0, .ref mnode, .int 0, .int 0, .int 0, .int 0]))] H _ := hw
  refine lv_iload C.1 C.2.1 dL_law_506 (lv_at hl 1 rfl) ?_
  refine lv_icmp_eq (tgt := 513) C.1 C.2.1 dL_law_508 (by decide) (fun _ => ?_) (fun h9 => absurd (by decide) h9)
  refine lv_iload C.1 C.2.1 dL_law_513 (lv_at hl 1 rfl) ?_
  refine lv_if_ne (tgt := 530) C.1 C.2.1 dL_law_515 (by decide) (fun _ => ?_) (fun h9 => absurd h9 (by decide))
  refine lv_goto (tgt := 1405) C.1 C.2.1 dL_law_530 (by decide) ?_
  refine lv_iinc (v := 6) (lv' := [(4, .int 6), (6, .int 0), (5, .int 1), (3, .ref qz), (2, .ref qm), (1, .ref qx), (0, .ref b)]) C.1 C.2.1 dL_law_1405 hl (k := 2) rfl (by decide) (by decide) rfl (fun ls hl => ?_)
  refine lv_goto (tgt := 23) C.1 C.2.1 dL_law_1408 (by decide) ?_
  exact law_tail C0 hw (Nat.le_of_ble_eq_true rfl) (Nat.le_of_ble_eq_true rfl) (lv_sub hl [0, 6] rfl)
theorem dL_law_533 : decode cL_law 533 = .ok (.aload_n 1, 1) := by decide +kernel
theorem dL_law_534 : decode cL_law 534 = .ok (.aload_n 0, 1) := by decide +kernel
theorem dL_law_535 : decode cL_law 535 = .ok (.iload 4, 2) := by decide +kernel
theorem dL_law_537 : decode cL_law 537 = .ok (.iconst 1, 1) := by decide +kernel
theorem dL_law_538 : decode cL_law 538 = .ok (.iadd, 1) := by decide +kernel
theorem dL_law_539 : decode cL_law 539 = .ok (.iaload, 1) := by decide +kernel
theorem dL_law_540 : decode cL_law 540 = .ok (.aload_n 0, 1) := by decide +kernel
theorem dL_law_541 : decode cL_law 541 = .ok (.iload 4, 2) := by decide +kernel
theorem dL_law_543 : decode cL_law 543 = .ok (.iconst 2, 1) := by decide +kernel
theorem dL_law_544 : decode cL_law 544 = .ok (.iadd, 1) := by decide +kernel
theorem dL_law_545 : decode cL_law 545 = .ok (.iaload, 1) := by decide +kernel
theorem dL_law_546 : decode cL_law 546 = .ok (.aload_n 0, 1) := by decide +kernel
theorem dL_law_547 : decode cL_law 547 = .ok (.iload 4, 2) := by decide +kernel
theorem dL_law_549 : decode cL_law 549 = .ok (.iconst 3, 1) := by decide +kernel
theorem dL_law_550 : decode cL_law 550 = .ok (.iadd, 1) := by decide +kernel
theorem dL_law_551 : decode cL_law 551 = .ok (.iaload, 1) := by decide +kernel
theorem dL_law_552 : decode cL_law 552 = .ok (.invokevirtual 58, 3) := by decide +kernel
theorem mwX10_thinks : MwV yX10_thinks cX10_thinks 5 (some .int) 3 := ⟨⟨kw676, kw1, by decide +kernel⟩, kw674, kw675⟩
theorem dL_law_555 : decode cL_law 555 = .ok (.aload_n 2, 1) := by decide +kernel
theorem dL_law_556 : decode cL_law 556 = .ok (.aload_n 0, 1) := by decide +kernel
theorem dL_law_557 : decode cL_law 557 = .ok (.iload 4, 2) := by decide +kernel
theorem dL_law_559 : decode cL_law 559 = .ok (.iconst 1, 1) := by decide +kernel
theorem dL_law_560 : decode cL_law 560 = .ok (.iadd, 1) := by decide +kernel
theorem dL_law_561 : decode cL_law 561 = .ok (.iaload, 1) := by decide +kernel
theorem dL_law_562 : decode cL_law 562 = .ok (.aload_n 0, 1) := by decide +kernel
theorem dL_law_563 : decode cL_law 563 = .ok (.iload 4, 2) := by decide +kernel
theorem dL_law_565 : decode cL_law 565 = .ok (.iconst 2, 1) := by decide +kernel
theorem dL_law_566 : decode cL_law 566 = .ok (.iadd, 1) := by decide +kernel
theorem dL_law_567 : decode cL_law 567 = .ok (.iaload, 1) := by decide +kernel
theorem dL_law_568 : decode cL_law 568 = .ok (.aload_n 0, 1) := by decide +kernel
theorem dL_law_569 : decode cL_law 569 = .ok (.iload 4, 2) := by decide +kernel
theorem dL_law_571 : decode cL_law 571 = .ok (.iconst 3, 1) := by decide +kernel
theorem dL_law_572 : decode cL_law 572 = .ok (.iadd, 1) := by decide +kernel
theorem dL_law_573 : decode cL_law 573 = .ok (.iaload, 1) := by decide +kernel
theorem dL_law_574 : decode cL_law 574 = .ok (.invokevirtual 62, 3) := by decide +kernel
theorem mwX11_thinks : MwV yX11_thinks cX11_thinks 5 (some .int) 3 := ⟨⟨kw1512, kw15, by decide +kernel⟩, kw1510, kw1511⟩
theorem dL_law_577 : decode cL_law 577 = .ok (.if_icmp .eq 828, 3) := by decide +kernel
set_option maxHeartbeats 4000000 in
set_option maxRecDepth 100000 in
theorem law_thinks {p : Program} {l : Launch} {e : Env} {s : State} {m : MethodId} {below : List Frame} {meth : Method} {c : Code} {G : Gc} {b : Nat} {xs : Nat → Int32} (hst : l.stackTraces = false) (qx : Nat) (qm : Nat) (qz : Nat) (qt : Nat) (qs : Nat) (qd : Nat) (qa : Nat) (qb : Nat) (qh : Nat) (qr : Nat) (qe : Nat) (qp : Nat) (qf : Nat) (qn : Nat) (qi : Nat) (qo : Nat) (sslideNames : Nat) (spictures : Nat) (sheats : Nat) (safter : Nat) (shearerNames : Nat) (sneeds : Nat) (slikes : Nat) (shates : Nat) (snear : Nat) (mtape : Nat) (mnow : Nat) (mread : Nat) (mkept : Nat) (msnaps : Nat) (maside : Nat) (mname : Nat) (mreadName : Nat) (mkeptName : Nat) (misKept : Nat) (monces : Nat) (morder : Nat) (mordered : Nat) (mtext : Nat) (mline : Nat) (mwritten : Nat) (mnode : Nat) {A : Nat → Prop} (eA : A = fun q : Nat => s.heap.size ≤ q) {H : Heap} {locs : List Loc} {ls : Array Slot} (C0 : lw_At p s m meth c b 6 xs) (hw : Wd G s A [(qx, .inr (9, [.ref qt, .ref qs, .ref qd, .ref qa, .ref qb, .ref qh, .ref qr, .ref qe, .ref qp, .ref qf, .ref qn, .ref qi, .ref qo, .int 0, .int 0, .int (-1), .int (-1)])), (qs, .inr (4, [.int 0, .int 0, .int 0, .int 0, .int 1, .int 0, .int 40, .int 0, .int 0, .ref sslideNames, .ref spictures, .ref sheats, .ref safter, .ref shearerNames, .ref sneeds, .ref slikes, .ref shates, .ref snear])), (qm, .inr (10, [.int 0, .ref mtape, .int 0, .int 0, .int 0, .int 0, .int 0, .int 0, .int 0, .int 0, .int 0, .int 0, .long 0, .int 0, .ref mnow, .ref mread, .ref mkept, .ref msnaps, .ref maside, .ref mname, .ref mreadName, .ref mkeptName, .ref misKept, .ref monces, .int 0, .ref morder, .ref mordered, .int 0, .int 0, .int 0, .int (-1), .int (-1), .ref mtext, .int 0, .int 0, .ref mline, .ref mwritten, .int 0, .int 0, .ref mnode, .int 0, .int 0, .int 0, .int 0])), (mnow, eI G 339 nw0)] H locs) (hl : lv_has ls 7 [(4, .int 0), (3, .ref qz), (2, .ref qm), (1, .ref qx), (0, .ref b)]) : W p l e room_1 s m #[Value.ref b] below meth c H locs 147 5480 (lw_Z below #[Value.ref b] s) (F0 m 533 ls []) := by
  subst eA
  obtain ⟨hx, hb, hr, hml, hown, hts, hX, hbl, hlocks, hgv⟩ := id C0
  have hbA : ¬ (fun q : Nat => s.heap.size ≤ q) b := Nat.not_le.mpr hbl
  have C : CallFix p m c code 7 s #[Value.ref b] gw "LanternStateLaw" := ⟨hx, hb, hml, hown, fun w h => hts w (gw_sub w h)⟩
  refine lv_aload_n C.1 C.2.1 dL_law_533 rfl (lv_at hl 3 rfl) ?_
  refine lv_aload_n C.1 C.2.1 dL_law_534 rfl (lv_at hl 4 rfl) ?_
  refine lv_iload C.1 C.2.1 dL_law_535 (lv_at hl 0 rfl) ?_
  refine lv_iconst (v := 1) C.1 C.2.1 dL_law_537 (by decide) ?_
  refine lv_iadd C.1 C.2.1 dL_law_538 ?_
  refine x_topi (z := 1) (by decide) ?_
  refine va_sld C.1 C.2.1 hX hbl hbA hw.2.2.2.1 (i := 1) (x_in rfl) dL_law_539 ?_
  refine x_topi (z := (xs 1)) rfl ?_
  refine lv_aload_n C.1 C.2.1 dL_law_540 rfl (lv_at hl 4 rfl) ?_
  refine lv_iload C.1 C.2.1 dL_law_541 (lv_at hl 0 rfl) ?_
  refine lv_iconst (v := 2) C.1 C.2.1 dL_law_543 (by decide) ?_
  refine lv_iadd C.1 C.2.1 dL_law_544 ?_
  refine x_topi (z := 2) (by decide) ?_
  refine va_sld C.1 C.2.1 hX hbl hbA hw.2.2.2.1 (i := 2) (x_in rfl) dL_law_545 ?_
  refine x_topi (z := (xs 2)) rfl ?_
  refine lv_aload_n C.1 C.2.1 dL_law_546 rfl (lv_at hl 4 rfl) ?_
  refine lv_iload C.1 C.2.1 dL_law_547 (lv_at hl 0 rfl) ?_
  refine lv_iconst (v := 3) C.1 C.2.1 dL_law_549 (by decide) ?_
  refine lv_iadd C.1 C.2.1 dL_law_550 ?_
  refine x_topi (z := 3) (by decide) ?_
  refine va_sld C.1 C.2.1 hX hbl hbA hw.2.2.2.1 (i := 3) (x_in rfl) dL_law_551 ?_
  refine x_topi (z := (xs 3)) rfl ?_
  refine x_calliV (As := [.int (xs 1), .int (xs 2), .int (xs 3)]) (rest := []) (wr := [(qm, .inr (10, [.int 0, .ref mtape, .int 0, .int 0, .int 0, .int 0, .int 0, .int 0, .int 0, .int 0, .int 0, .int 0, .long 0, .int 0, .ref mnow, .ref mread, .ref mkept, .ref msnaps, .ref maside, .ref mname, .ref mreadName, .ref mkeptName, .ref misKept, .ref monces, .int 0, .ref morder, .ref mordered, .int 0, .int 0, .int 0, .int (-1), .int (-1), .ref mtext, .int 0, .int 0, .ref mline, .ref mwritten, .int 0, .int 0, .ref mnode, .int 0, .int 0, .int 0, .int 0])), (mnow, eI G 339 nw0)]) C hw (c_X10_thinks qx (xs 1) (xs 2) (xs 3) qt qs qd qa qb qh qr qe qp qf qn qi qo sslideNames spictures sheats safter shearerNames sneeds slikes shates snear) mwX10_thinks kw673 [0, 1] [2, 3] rfl rfl rfl rfl (by decide) 0 rfl rfl rfl rfl hl.1 rfl (Nat.le_of_ble_eq_true rfl) ⟨(Nat.le_of_ble_eq_true rfl), (Nat.le_of_ble_eq_true rfl)⟩ ⟨(Nat.le_of_ble_eq_true rfl), (Nat.le_of_ble_eq_true rfl)⟩ dL_law_552 (fun r1 u9 H locs hp9 hw => ?_)
  obtain ⟨rfl, rfl⟩ := hp9
  have hw : Wd G s (fun q : Nat => s.heap.size ≤ q) [(qm, .inr (10, [.int 0, .ref mtape, .int 0, .int 0, .int 0, .int 0, .int 0, .int 0, .int 0, .int 0, .int 0, .int 0, .long 0, .int 0, .ref mnow, .ref mread, .ref mkept, .ref msnaps, .ref maside, .ref mname, .ref mreadName, .ref mkeptName, .ref misKept, .ref monces, .int 0, .ref morder, .ref mordered, .int 0, .int 0, .int 0, .int (-1), .int (-1), .ref mtext, .int 0, .int 0, .ref mline, .ref mwritten, .int 0, .int 0, .ref mnode, .int 0, .int 0, .int 0, .int 0])), (mnow, eI G 339 nw0), (qx, .inr (9, [.ref qt, .ref qs, .ref qd, .ref qa, .ref qb, .ref qh, .ref qr, .ref qe, .ref qp, .ref qf, .ref qn, .ref qi, .ref qo, .int 0, .int 0, .int (-1), .int (-1)])), (qs, .inr (4, [.int 0, .int 0, .int 0, .int 0, .int 1, .int 0, .int 40, .int 0, .int 0, .ref sslideNames, .ref spictures, .ref sheats, .ref safter, .ref shearerNames, .ref sneeds, .ref slikes, .ref shates, .ref snear]))] H _ := hw
  refine lv_aload_n C.1 C.2.1 dL_law_555 rfl (lv_at hl 2 rfl) ?_
  refine lv_aload_n C.1 C.2.1 dL_law_556 rfl (lv_at hl 4 rfl) ?_
  refine lv_iload C.1 C.2.1 dL_law_557 (lv_at hl 0 rfl) ?_
  refine lv_iconst (v := 1) C.1 C.2.1 dL_law_559 (by decide) ?_
  refine lv_iadd C.1 C.2.1 dL_law_560 ?_
  refine x_topi (z := 1) (by decide) ?_
  refine va_sld C.1 C.2.1 hX hbl hbA hw.2.2.2.1 (i := 1) (x_in rfl) dL_law_561 ?_
  refine x_topi (z := (xs 1)) rfl ?_
  refine lv_aload_n C.1 C.2.1 dL_law_562 rfl (lv_at hl 4 rfl) ?_
  refine lv_iload C.1 C.2.1 dL_law_563 (lv_at hl 0 rfl) ?_
  refine lv_iconst (v := 2) C.1 C.2.1 dL_law_565 (by decide) ?_
  refine lv_iadd C.1 C.2.1 dL_law_566 ?_
  refine x_topi (z := 2) (by decide) ?_
  refine va_sld C.1 C.2.1 hX hbl hbA hw.2.2.2.1 (i := 2) (x_in rfl) dL_law_567 ?_
  refine x_topi (z := (xs 2)) rfl ?_
  refine lv_aload_n C.1 C.2.1 dL_law_568 rfl (lv_at hl 4 rfl) ?_
  refine lv_iload C.1 C.2.1 dL_law_569 (lv_at hl 0 rfl) ?_
  refine lv_iconst (v := 3) C.1 C.2.1 dL_law_571 (by decide) ?_
  refine lv_iadd C.1 C.2.1 dL_law_572 ?_
  refine x_topi (z := 3) (by decide) ?_
  refine va_sld C.1 C.2.1 hX hbl hbA hw.2.2.2.1 (i := 3) (x_in rfl) dL_law_573 ?_
  refine x_topi (z := (xs 3)) rfl ?_
  refine x_calliV (As := [.int (xs 1), .int (xs 2), .int (xs 3)]) (rest := [.int (-1)]) (wr := [(qx, .inr (9, [.ref qt, .ref qs, .ref qd, .ref qa, .ref qb, .ref qh, .ref qr, .ref qe, .ref qp, .ref qf, .ref qn, .ref qi, .ref qo, .int 0, .int 0, .int (-1), .int (-1)])), (qs, .inr (4, [.int 0, .int 0, .int 0, .int 0, .int 1, .int 0, .int 40, .int 0, .int 0, .ref sslideNames, .ref spictures, .ref sheats, .ref safter, .ref shearerNames, .ref sneeds, .ref slikes, .ref shates, .ref snear]))]) C hw (c_X11_thinks qm (xs 1) (xs 2) (xs 3) mtape mnow mread mkept msnaps maside mname mreadName mkeptName misKept monces morder mordered mtext mline mwritten mnode) mwX11_thinks kw1509 [0, 1] [2, 3] rfl rfl rfl rfl (by decide) 0 rfl rfl rfl rfl hl.1 rfl (Nat.le_of_ble_eq_true rfl) ⟨(Nat.le_of_ble_eq_true rfl), (Nat.le_of_ble_eq_true rfl)⟩ ⟨(Nat.le_of_ble_eq_true rfl), (Nat.le_of_ble_eq_true rfl)⟩ dL_law_574 (fun r2 u9 H locs hp9 hw => ?_)
  obtain ⟨rfl, rfl⟩ := hp9
  have hw : Wd G s (fun q : Nat => s.heap.size ≤ q) [(qx, .inr (9, [.ref qt, .ref qs, .ref qd, .ref qa, .ref qb, .ref qh, .ref qr, .ref qe, .ref qp, .ref qf, .ref qn, .ref qi, .ref qo, .int 0, .int 0, .int (-1), .int (-1)])), (qs, .inr (4, [.int 0, .int 0, .int 0, .int 0, .int 1, .int 0, .int 40, .int 0, .int 0, .ref sslideNames, .ref spictures, .ref sheats, .ref safter, .ref shearerNames, .ref sneeds, .ref slikes, .ref shates, .ref snear]))] H _ := hw
  refine lv_icmp_eq (tgt := 1405) C.1 C.2.1 dL_law_577 (by decide) (fun _ => ?_) (fun h9 => absurd (by decide) h9)
  refine lv_iinc (v := 6) (lv' := [(4, .int 6), (3, .ref qz), (2, .ref qm), (1, .ref qx), (0, .ref b)]) C.1 C.2.1 dL_law_1405 hl (k := 0) rfl (by decide) (by decide) rfl (fun ls hl => ?_)
  refine lv_goto (tgt := 23) C.1 C.2.1 dL_law_1408 (by decide) ?_
  exact law_tail C0 hw (Nat.le_of_ble_eq_true rfl) (Nat.le_of_ble_eq_true rfl) (lv_sub hl [0, 4] rfl)
theorem dL_law_582 : decode cL_law 582 = .ok (.aload_n 1, 1) := by decide +kernel
theorem dL_law_583 : decode cL_law 583 = .ok (.aload_n 0, 1) := by decide +kernel
theorem dL_law_584 : decode cL_law 584 = .ok (.iload 4, 2) := by decide +kernel
theorem dL_law_586 : decode cL_law 586 = .ok (.iconst 1, 1) := by decide +kernel
theorem dL_law_587 : decode cL_law 587 = .ok (.iadd, 1) := by decide +kernel
theorem dL_law_588 : decode cL_law 588 = .ok (.iaload, 1) := by decide +kernel
theorem dL_law_589 : decode cL_law 589 = .ok (.invokevirtual 63, 3) := by decide +kernel
theorem mwX10_now : MwV yX10_now cX10_now 2 (some .int) 1 := ⟨⟨kw685, kw1, by decide +kernel⟩, kw683, kw684⟩
theorem dL_law_592 : decode cL_law 592 = .ok (.aload_n 2, 1) := by decide +kernel
theorem dL_law_593 : decode cL_law 593 = .ok (.aload_n 0, 1) := by decide +kernel
theorem dL_law_594 : decode cL_law 594 = .ok (.iload 4, 2) := by decide +kernel
theorem dL_law_596 : decode cL_law 596 = .ok (.iconst 1, 1) := by decide +kernel
theorem dL_law_597 : decode cL_law 597 = .ok (.iadd, 1) := by decide +kernel
theorem dL_law_598 : decode cL_law 598 = .ok (.iaload, 1) := by decide +kernel
theorem dL_law_599 : decode cL_law 599 = .ok (.invokevirtual 67, 3) := by decide +kernel
theorem mwX11_now : MwV yX11_now cX11_now 2 (some .int) 1 := ⟨⟨kw1516, kw15, by decide +kernel⟩, kw1514, kw1515⟩
theorem dL_law_602 : decode cL_law 602 = .ok (.if_icmp .eq 803, 3) := by decide +kernel
set_option maxHeartbeats 4000000 in
set_option maxRecDepth 100000 in
theorem law_now {p : Program} {l : Launch} {e : Env} {s : State} {m : MethodId} {below : List Frame} {meth : Method} {c : Code} {G : Gc} {b : Nat} {xs : Nat → Int32} (hst : l.stackTraces = false) (qx : Nat) (qm : Nat) (qz : Nat) (qt : Nat) (qs : Nat) (qd : Nat) (qa : Nat) (qb : Nat) (qh : Nat) (qr : Nat) (qe : Nat) (qp : Nat) (qf : Nat) (qn : Nat) (qi : Nat) (qo : Nat) (apictures : Nat) (ashown : Nat) (asighed : Nat) (mtape : Nat) (mnow : Nat) (mread : Nat) (mkept : Nat) (msnaps : Nat) (maside : Nat) (mname : Nat) (mreadName : Nat) (mkeptName : Nat) (misKept : Nat) (monces : Nat) (morder : Nat) (mordered : Nat) (mtext : Nat) (mline : Nat) (mwritten : Nat) (mnode : Nat) {A : Nat → Prop} (eA : A = fun q : Nat => s.heap.size ≤ q) {H : Heap} {locs : List Loc} {ls : Array Slot} (C0 : lw_At p s m meth c b 6 xs) (hw : Wd G s A [(qx, .inr (9, [.ref qt, .ref qs, .ref qd, .ref qa, .ref qb, .ref qh, .ref qr, .ref qe, .ref qp, .ref qf, .ref qn, .ref qi, .ref qo, .int 0, .int 0, .int (-1), .int (-1)])), (qa, .inr (7, [.int 0, .int 0, .int 0, .int 0, .int 0, .int 0, .int 0, .int 0, .ref apictures, .ref ashown, .ref asighed])), (qm, .inr (10, [.int 0, .ref mtape, .int 0, .int 0, .int 0, .int 0, .int 0, .int 0, .int 0, .int 0, .int 0, .int 0, .long 0, .int 0, .ref mnow, .ref mread, .ref mkept, .ref msnaps, .ref maside, .ref mname, .ref mreadName, .ref mkeptName, .ref misKept, .ref monces, .int 0, .ref morder, .ref mordered, .int 0, .int 0, .int 0, .int (-1), .int (-1), .ref mtext, .int 0, .int 0, .ref mline, .ref mwritten, .int 0, .int 0, .ref mnode, .int 0, .int 0, .int 0, .int 0])), (mnow, eI G 339 nw0)] H locs) (hl : lv_has ls 7 [(4, .int 0), (3, .ref qz), (2, .ref qm), (1, .ref qx), (0, .ref b)]) : W p l e room_1 s m #[Value.ref b] below meth c H locs 147 5480 (lw_Z below #[Value.ref b] s) (F0 m 582 ls []) := by
  subst eA
  obtain ⟨hx, hb, hr, hml, hown, hts, hX, hbl, hlocks, hgv⟩ := id C0
  have hbA : ¬ (fun q : Nat => s.heap.size ≤ q) b := Nat.not_le.mpr hbl
  have C : CallFix p m c code 7 s #[Value.ref b] gw "LanternStateLaw" := ⟨hx, hb, hml, hown, fun w h => hts w (gw_sub w h)⟩
  refine lv_aload_n C.1 C.2.1 dL_law_582 rfl (lv_at hl 3 rfl) ?_
  refine lv_aload_n C.1 C.2.1 dL_law_583 rfl (lv_at hl 4 rfl) ?_
  refine lv_iload C.1 C.2.1 dL_law_584 (lv_at hl 0 rfl) ?_
  refine lv_iconst (v := 1) C.1 C.2.1 dL_law_586 (by decide) ?_
  refine lv_iadd C.1 C.2.1 dL_law_587 ?_
  refine x_topi (z := 1) (by decide) ?_
  refine va_sld C.1 C.2.1 hX hbl hbA hw.2.2.2.1 (i := 1) (x_in rfl) dL_law_588 ?_
  refine x_topi (z := (xs 1)) rfl ?_
  refine x_calliV (As := [.int (xs 1)]) (rest := []) (wr := [(qm, .inr (10, [.int 0, .ref mtape, .int 0, .int 0, .int 0, .int 0, .int 0, .int 0, .int 0, .int 0, .int 0, .int 0, .long 0, .int 0, .ref mnow, .ref mread, .ref mkept, .ref msnaps, .ref maside, .ref mname, .ref mreadName, .ref mkeptName, .ref misKept, .ref monces, .int 0, .ref morder, .ref mordered, .int 0, .int 0, .int 0, .int (-1), .int (-1), .ref mtext, .int 0, .int 0, .ref mline, .ref mwritten, .int 0, .int 0, .ref mnode, .int 0, .int 0, .int 0, .int 0])), (mnow, eI G 339 nw0)]) C hw (c_X10_now qx (xs 1) qt qs qd qa qb qh qr qe qp qf qn qi qo apictures ashown asighed) mwX10_now kw682 [0, 1] [2, 3] rfl rfl rfl rfl (by decide) 0 rfl rfl rfl rfl hl.1 rfl (Nat.le_of_ble_eq_true rfl) ⟨(Nat.le_of_ble_eq_true rfl), (Nat.le_of_ble_eq_true rfl)⟩ ⟨(Nat.le_of_ble_eq_true rfl), (Nat.le_of_ble_eq_true rfl)⟩ dL_law_589 (fun r1 u9 H locs hp9 hw => ?_)
  obtain ⟨rfl, rfl⟩ := hp9
  have hw : Wd G s (fun q : Nat => s.heap.size ≤ q) [(qm, .inr (10, [.int 0, .ref mtape, .int 0, .int 0, .int 0, .int 0, .int 0, .int 0, .int 0, .int 0, .int 0, .int 0, .long 0, .int 0, .ref mnow, .ref mread, .ref mkept, .ref msnaps, .ref maside, .ref mname, .ref mreadName, .ref mkeptName, .ref misKept, .ref monces, .int 0, .ref morder, .ref mordered, .int 0, .int 0, .int 0, .int (-1), .int (-1), .ref mtext, .int 0, .int 0, .ref mline, .ref mwritten, .int 0, .int 0, .ref mnode, .int 0, .int 0, .int 0, .int 0])), (mnow, eI G 339 nw0), (qx, .inr (9, [.ref qt, .ref qs, .ref qd, .ref qa, .ref qb, .ref qh, .ref qr, .ref qe, .ref qp, .ref qf, .ref qn, .ref qi, .ref qo, .int 0, .int 0, .int (-1), .int (-1)])), (qa, .inr (7, [.int 0, .int 0, .int 0, .int 0, .int 0, .int 0, .int 0, .int 0, .ref apictures, .ref ashown, .ref asighed]))] H _ := hw
  refine lv_aload_n C.1 C.2.1 dL_law_592 rfl (lv_at hl 2 rfl) ?_
  refine lv_aload_n C.1 C.2.1 dL_law_593 rfl (lv_at hl 4 rfl) ?_
  refine lv_iload C.1 C.2.1 dL_law_594 (lv_at hl 0 rfl) ?_
  refine lv_iconst (v := 1) C.1 C.2.1 dL_law_596 (by decide) ?_
  refine lv_iadd C.1 C.2.1 dL_law_597 ?_
  refine x_topi (z := 1) (by decide) ?_
  refine va_sld C.1 C.2.1 hX hbl hbA hw.2.2.2.1 (i := 1) (x_in rfl) dL_law_598 ?_
  refine x_topi (z := (xs 1)) rfl ?_
  refine x_calliV (As := [.int (xs 1)]) (rest := [.int (nowF (xs 1))]) (wr := [(qx, .inr (9, [.ref qt, .ref qs, .ref qd, .ref qa, .ref qb, .ref qh, .ref qr, .ref qe, .ref qp, .ref qf, .ref qn, .ref qi, .ref qo, .int 0, .int 0, .int (-1), .int (-1)])), (qa, .inr (7, [.int 0, .int 0, .int 0, .int 0, .int 0, .int 0, .int 0, .int 0, .ref apictures, .ref ashown, .ref asighed]))]) C hw (c_X11_now qm (xs 1) mtape mnow mread mkept msnaps maside mname mreadName mkeptName misKept monces morder mordered mtext mline mwritten mnode) mwX11_now kw1513 [0, 1] [2, 3] rfl rfl rfl rfl (by decide) 0 rfl rfl rfl rfl hl.1 rfl (Nat.le_of_ble_eq_true rfl) ⟨(Nat.le_of_ble_eq_true rfl), (Nat.le_of_ble_eq_true rfl)⟩ ⟨(Nat.le_of_ble_eq_true rfl), (Nat.le_of_ble_eq_true rfl)⟩ dL_law_599 (fun r2 u9 H locs hp9 hw => ?_)
  obtain ⟨rfl, rfl⟩ := hp9
  have hw : Wd G s (fun q : Nat => s.heap.size ≤ q) [(qx, .inr (9, [.ref qt, .ref qs, .ref qd, .ref qa, .ref qb, .ref qh, .ref qr, .ref qe, .ref qp, .ref qf, .ref qn, .ref qi, .ref qo, .int 0, .int 0, .int (-1), .int (-1)])), (qa, .inr (7, [.int 0, .int 0, .int 0, .int 0, .int 0, .int 0, .int 0, .int 0, .ref apictures, .ref ashown, .ref asighed]))] H _ := hw
  refine lv_icmp_eq (tgt := 1405) C.1 C.2.1 dL_law_602 (by decide) (fun _ => ?_) (fun h9 => absurd rfl h9)
  refine lv_iinc (v := 6) (lv' := [(4, .int 6), (3, .ref qz), (2, .ref qm), (1, .ref qx), (0, .ref b)]) C.1 C.2.1 dL_law_1405 hl (k := 0) rfl (by decide) (by decide) rfl (fun ls hl => ?_)
  refine lv_goto (tgt := 23) C.1 C.2.1 dL_law_1408 (by decide) ?_
  exact law_tail C0 hw (Nat.le_of_ble_eq_true rfl) (Nat.le_of_ble_eq_true rfl) (lv_sub hl [0, 4] rfl)
theorem dL_law_607 : decode cL_law 607 = .ok (.aload_n 1, 1) := by decide +kernel
theorem dL_law_608 : decode cL_law 608 = .ok (.aload_n 0, 1) := by decide +kernel
theorem dL_law_609 : decode cL_law 609 = .ok (.iload 4, 2) := by decide +kernel
theorem dL_law_611 : decode cL_law 611 = .ok (.iconst 1, 1) := by decide +kernel
theorem dL_law_612 : decode cL_law 612 = .ok (.iadd, 1) := by decide +kernel
theorem dL_law_613 : decode cL_law 613 = .ok (.iaload, 1) := by decide +kernel
theorem dL_law_614 : decode cL_law 614 = .ok (.aload_n 0, 1) := by decide +kernel
theorem dL_law_615 : decode cL_law 615 = .ok (.iload 4, 2) := by decide +kernel
theorem dL_law_617 : decode cL_law 617 = .ok (.iconst 2, 1) := by decide +kernel
theorem dL_law_618 : decode cL_law 618 = .ok (.iadd, 1) := by decide +kernel
theorem dL_law_619 : decode cL_law 619 = .ok (.iaload, 1) := by decide +kernel
theorem dL_law_620 : decode cL_law 620 = .ok (.invokevirtual 68, 3) := by decide +kernel
theorem mwX10_show : MwV yX10_show cX10_show 3 (some .int) 2 := ⟨⟨kw689, kw1, by decide +kernel⟩, kw687, kw688⟩
theorem dL_law_623 : decode cL_law 623 = .ok (.aload_n 2, 1) := by decide +kernel
theorem dL_law_624 : decode cL_law 624 = .ok (.aload_n 0, 1) := by decide +kernel
theorem dL_law_625 : decode cL_law 625 = .ok (.iload 4, 2) := by decide +kernel
theorem dL_law_627 : decode cL_law 627 = .ok (.iconst 1, 1) := by decide +kernel
theorem dL_law_628 : decode cL_law 628 = .ok (.iadd, 1) := by decide +kernel
theorem dL_law_629 : decode cL_law 629 = .ok (.iaload, 1) := by decide +kernel
theorem dL_law_630 : decode cL_law 630 = .ok (.aload_n 0, 1) := by decide +kernel
theorem dL_law_631 : decode cL_law 631 = .ok (.iload 4, 2) := by decide +kernel
theorem dL_law_633 : decode cL_law 633 = .ok (.iconst 2, 1) := by decide +kernel
theorem dL_law_634 : decode cL_law 634 = .ok (.iadd, 1) := by decide +kernel
theorem dL_law_635 : decode cL_law 635 = .ok (.iaload, 1) := by decide +kernel
theorem dL_law_636 : decode cL_law 636 = .ok (.invokevirtual 71, 3) := by decide +kernel
theorem mwX11_show : MwV yX11_show cX11_show 4 (some .int) 2 := ⟨⟨kw1556, kw15, by decide +kernel⟩, kw1554, kw1555⟩
theorem dL_law_639 : decode cL_law 639 = .ok (.if_icmp .eq 766, 3) := by decide +kernel
set_option maxHeartbeats 4000000 in
set_option maxRecDepth 100000 in
theorem law_show {p : Program} {l : Launch} {e : Env} {s : State} {m : MethodId} {below : List Frame} {meth : Method} {c : Code} {G : Gc} {b : Nat} {xs : Nat → Int32} (hst : l.stackTraces = false) (qx : Nat) (qm : Nat) (qz : Nat) (qt : Nat) (qs : Nat) (qd : Nat) (qa : Nat) (qb : Nat) (qh : Nat) (qr : Nat) (qe : Nat) (qp : Nat) (qf : Nat) (qn : Nat) (qi : Nat) (qo : Nat) (sslideNames : Nat) (spictures : Nat) (sheats : Nat) (safter : Nat) (shearerNames : Nat) (sneeds : Nat) (slikes : Nat) (shates : Nat) (snear : Nat) (mtape : Nat) (mnow : Nat) (mread : Nat) (mkept : Nat) (msnaps : Nat) (maside : Nat) (mname : Nat) (mreadName : Nat) (mkeptName : Nat) (misKept : Nat) (monces : Nat) (morder : Nat) (mordered : Nat) (mtext : Nat) (mline : Nat) (mwritten : Nat) (mnode : Nat) {A : Nat → Prop} (eA : A = fun q : Nat => s.heap.size ≤ q) {H : Heap} {locs : List Loc} {ls : Array Slot} (C0 : lw_At p s m meth c b 6 xs) (hw : Wd G s A [(qx, .inr (9, [.ref qt, .ref qs, .ref qd, .ref qa, .ref qb, .ref qh, .ref qr, .ref qe, .ref qp, .ref qf, .ref qn, .ref qi, .ref qo, .int 0, .int 0, .int (-1), .int (-1)])), (qs, .inr (4, [.int 0, .int 0, .int 0, .int 0, .int 1, .int 0, .int 40, .int 0, .int 0, .ref sslideNames, .ref spictures, .ref sheats, .ref safter, .ref shearerNames, .ref sneeds, .ref slikes, .ref shates, .ref snear])), (qm, .inr (10, [.int 0, .ref mtape, .int 0, .int 0, .int 0, .int 0, .int 0, .int 0, .int 0, .int 0, .int 0, .int 0, .long 0, .int 0, .ref mnow, .ref mread, .ref mkept, .ref msnaps, .ref maside, .ref mname, .ref mreadName, .ref mkeptName, .ref misKept, .ref monces, .int 0, .ref morder, .ref mordered, .int 0, .int 0, .int 0, .int (-1), .int (-1), .ref mtext, .int 0, .int 0, .ref mline, .ref mwritten, .int 0, .int 0, .ref mnode, .int 0, .int 0, .int 0, .int 0])), (mnow, eI G 339 nw0)] H locs) (hl : lv_has ls 7 [(4, .int 0), (3, .ref qz), (2, .ref qm), (1, .ref qx), (0, .ref b)]) : W p l e room_1 s m #[Value.ref b] below meth c H locs 147 5480 (lw_Z below #[Value.ref b] s) (F0 m 607 ls []) := by
  subst eA
  obtain ⟨hx, hb, hr, hml, hown, hts, hX, hbl, hlocks, hgv⟩ := id C0
  have hbA : ¬ (fun q : Nat => s.heap.size ≤ q) b := Nat.not_le.mpr hbl
  have C : CallFix p m c code 7 s #[Value.ref b] gw "LanternStateLaw" := ⟨hx, hb, hml, hown, fun w h => hts w (gw_sub w h)⟩
  refine lv_aload_n C.1 C.2.1 dL_law_607 rfl (lv_at hl 3 rfl) ?_
  refine lv_aload_n C.1 C.2.1 dL_law_608 rfl (lv_at hl 4 rfl) ?_
  refine lv_iload C.1 C.2.1 dL_law_609 (lv_at hl 0 rfl) ?_
  refine lv_iconst (v := 1) C.1 C.2.1 dL_law_611 (by decide) ?_
  refine lv_iadd C.1 C.2.1 dL_law_612 ?_
  refine x_topi (z := 1) (by decide) ?_
  refine va_sld C.1 C.2.1 hX hbl hbA hw.2.2.2.1 (i := 1) (x_in rfl) dL_law_613 ?_
  refine x_topi (z := (xs 1)) rfl ?_
  refine lv_aload_n C.1 C.2.1 dL_law_614 rfl (lv_at hl 4 rfl) ?_
  refine lv_iload C.1 C.2.1 dL_law_615 (lv_at hl 0 rfl) ?_
  refine lv_iconst (v := 2) C.1 C.2.1 dL_law_617 (by decide) ?_
  refine lv_iadd C.1 C.2.1 dL_law_618 ?_
  refine x_topi (z := 2) (by decide) ?_
  refine va_sld C.1 C.2.1 hX hbl hbA hw.2.2.2.1 (i := 2) (x_in rfl) dL_law_619 ?_
  refine x_topi (z := (xs 2)) rfl ?_
  refine x_calliV (As := [.int (xs 1), .int (xs 2)]) (rest := []) (wr := [(qm, .inr (10, [.int 0, .ref mtape, .int 0, .int 0, .int 0, .int 0, .int 0, .int 0, .int 0, .int 0, .int 0, .int 0, .long 0, .int 0, .ref mnow, .ref mread, .ref mkept, .ref msnaps, .ref maside, .ref mname, .ref mreadName, .ref mkeptName, .ref misKept, .ref monces, .int 0, .ref morder, .ref mordered, .int 0, .int 0, .int 0, .int (-1), .int (-1), .ref mtext, .int 0, .int 0, .ref mline, .ref mwritten, .int 0, .int 0, .ref mnode, .int 0, .int 0, .int 0, .int 0])), (mnow, eI G 339 nw0)]) C hw (c_X10_show qx (xs 1) (xs 2) qt qs qd qa qb qh qr qe qp qf qn qi qo sslideNames spictures sheats safter shearerNames sneeds slikes shates snear) mwX10_show kw686 [0, 1] [2, 3] rfl rfl rfl rfl (by decide) 0 rfl rfl rfl rfl hl.1 rfl (Nat.le_of_ble_eq_true rfl) ⟨(Nat.le_of_ble_eq_true rfl), (Nat.le_of_ble_eq_true rfl)⟩ ⟨(Nat.le_of_ble_eq_true rfl), (Nat.le_of_ble_eq_true rfl)⟩ dL_law_620 (fun r1 u9 H locs hp9 hw => ?_)
  obtain ⟨rfl, rfl⟩ := hp9
  have hw : Wd G s (fun q : Nat => s.heap.size ≤ q) [(qm, .inr (10, [.int 0, .ref mtape, .int 0, .int 0, .int 0, .int 0, .int 0, .int 0, .int 0, .int 0, .int 0, .int 0, .long 0, .int 0, .ref mnow, .ref mread, .ref mkept, .ref msnaps, .ref maside, .ref mname, .ref mreadName, .ref mkeptName, .ref misKept, .ref monces, .int 0, .ref morder, .ref mordered, .int 0, .int 0, .int 0, .int (-1), .int (-1), .ref mtext, .int 0, .int 0, .ref mline, .ref mwritten, .int 0, .int 0, .ref mnode, .int 0, .int 0, .int 0, .int 0])), (mnow, eI G 339 nw0), (qx, .inr (9, [.ref qt, .ref qs, .ref qd, .ref qa, .ref qb, .ref qh, .ref qr, .ref qe, .ref qp, .ref qf, .ref qn, .ref qi, .ref qo, .int 0, .int 0, .int (-1), .int (-1)])), (qs, .inr (4, [.int 0, .int 0, .int 0, .int 0, .int 1, .int 0, .int 40, .int 0, .int 0, .ref sslideNames, .ref spictures, .ref sheats, .ref safter, .ref shearerNames, .ref sneeds, .ref slikes, .ref shates, .ref snear]))] H _ := hw
  refine lv_aload_n C.1 C.2.1 dL_law_623 rfl (lv_at hl 2 rfl) ?_
  refine lv_aload_n C.1 C.2.1 dL_law_624 rfl (lv_at hl 4 rfl) ?_
  refine lv_iload C.1 C.2.1 dL_law_625 (lv_at hl 0 rfl) ?_
  refine lv_iconst (v := 1) C.1 C.2.1 dL_law_627 (by decide) ?_
  refine lv_iadd C.1 C.2.1 dL_law_628 ?_
  refine x_topi (z := 1) (by decide) ?_
  refine va_sld C.1 C.2.1 hX hbl hbA hw.2.2.2.1 (i := 1) (x_in rfl) dL_law_629 ?_
  refine x_topi (z := (xs 1)) rfl ?_
  refine lv_aload_n C.1 C.2.1 dL_law_630 rfl (lv_at hl 4 rfl) ?_
  refine lv_iload C.1 C.2.1 dL_law_631 (lv_at hl 0 rfl) ?_
  refine lv_iconst (v := 2) C.1 C.2.1 dL_law_633 (by decide) ?_
  refine lv_iadd C.1 C.2.1 dL_law_634 ?_
  refine x_topi (z := 2) (by decide) ?_
  refine va_sld C.1 C.2.1 hX hbl hbA hw.2.2.2.1 (i := 2) (x_in rfl) dL_law_635 ?_
  refine x_topi (z := (xs 2)) rfl ?_
  refine x_calliV (As := [.int (xs 1), .int (xs 2)]) (rest := [.int (-1)]) (wr := [(qx, .inr (9, [.ref qt, .ref qs, .ref qd, .ref qa, .ref qb, .ref qh, .ref qr, .ref qe, .ref qp, .ref qf, .ref qn, .ref qi, .ref qo, .int 0, .int 0, .int (-1), .int (-1)])), (qs, .inr (4, [.int 0, .int 0, .int 0, .int 0, .int 1, .int 0, .int 40, .int 0, .int 0, .ref sslideNames, .ref spictures, .ref sheats, .ref safter, .ref shearerNames, .ref sneeds, .ref slikes, .ref shates, .ref snear]))]) C hw (c_X11_show qm (xs 1) (xs 2) mtape mnow mread mkept msnaps maside mname mreadName mkeptName misKept monces morder mordered mtext mline mwritten mnode) mwX11_show kw1553 [0, 1] [2, 3] rfl rfl rfl rfl (by decide) 0 rfl rfl rfl rfl hl.1 rfl (Nat.le_of_ble_eq_true rfl) ⟨(Nat.le_of_ble_eq_true rfl), (Nat.le_of_ble_eq_true rfl)⟩ ⟨(Nat.le_of_ble_eq_true rfl), (Nat.le_of_ble_eq_true rfl)⟩ dL_law_636 (fun r2 u9 H locs hp9 hw => ?_)
  obtain ⟨rfl, rfl⟩ := hp9
  have hw : Wd G s (fun q : Nat => s.heap.size ≤ q) [(qx, .inr (9, [.ref qt, .ref qs, .ref qd, .ref qa, .ref qb, .ref qh, .ref qr, .ref qe, .ref qp, .ref qf, .ref qn, .ref qi, .ref qo, .int 0, .int 0, .int (-1), .int (-1)])), (qs, .inr (4, [.int 0, .int 0, .int 0, .int 0, .int 1, .int 0, .int 40, .int 0, .int 0, .ref sslideNames, .ref spictures, .ref sheats, .ref safter, .ref shearerNames, .ref sneeds, .ref slikes, .ref shates, .ref snear]))] H _ := hw
  refine lv_icmp_eq (tgt := 1405) C.1 C.2.1 dL_law_639 (by decide) (fun _ => ?_) (fun h9 => absurd (by decide) h9)
  refine lv_iinc (v := 6) (lv' := [(4, .int 6), (3, .ref qz), (2, .ref qm), (1, .ref qx), (0, .ref b)]) C.1 C.2.1 dL_law_1405 hl (k := 0) rfl (by decide) (by decide) rfl (fun ls hl => ?_)
  refine lv_goto (tgt := 23) C.1 C.2.1 dL_law_1408 (by decide) ?_
  exact law_tail C0 hw (Nat.le_of_ble_eq_true rfl) (Nat.le_of_ble_eq_true rfl) (lv_sub hl [0, 4] rfl)
theorem dL_law_644 : decode cL_law 644 = .ok (.aload_n 1, 1) := by decide +kernel
theorem dL_law_645 : decode cL_law 645 = .ok (.aload_n 0, 1) := by decide +kernel
theorem dL_law_646 : decode cL_law 646 = .ok (.iload 4, 2) := by decide +kernel
theorem dL_law_648 : decode cL_law 648 = .ok (.iconst 1, 1) := by decide +kernel
theorem dL_law_649 : decode cL_law 649 = .ok (.iadd, 1) := by decide +kernel
theorem dL_law_650 : decode cL_law 650 = .ok (.iaload, 1) := by decide +kernel
theorem dL_law_651 : decode cL_law 651 = .ok (.aload_n 0, 1) := by decide +kernel
theorem dL_law_652 : decode cL_law 652 = .ok (.iload 4, 2) := by decide +kernel
theorem dL_law_654 : decode cL_law 654 = .ok (.iconst 2, 1) := by decide +kernel
theorem dL_law_655 : decode cL_law 655 = .ok (.iadd, 1) := by decide +kernel
theorem dL_law_656 : decode cL_law 656 = .ok (.iaload, 1) := by decide +kernel
theorem dL_law_657 : decode cL_law 657 = .ok (.invokevirtual 72, 3) := by decide +kernel
theorem mwX10_over : MwV yX10_over cX10_over 3 (some .int) 2 := ⟨⟨kw748, kw1, by decide +kernel⟩, kw746, kw747⟩
theorem dL_law_660 : decode cL_law 660 = .ok (.aload_n 2, 1) := by decide +kernel
theorem dL_law_661 : decode cL_law 661 = .ok (.aload_n 0, 1) := by decide +kernel
theorem dL_law_662 : decode cL_law 662 = .ok (.iload 4, 2) := by decide +kernel
theorem dL_law_664 : decode cL_law 664 = .ok (.iconst 1, 1) := by decide +kernel
theorem dL_law_665 : decode cL_law 665 = .ok (.iadd, 1) := by decide +kernel
theorem dL_law_666 : decode cL_law 666 = .ok (.iaload, 1) := by decide +kernel
theorem dL_law_667 : decode cL_law 667 = .ok (.aload_n 0, 1) := by decide +kernel
theorem dL_law_668 : decode cL_law 668 = .ok (.iload 4, 2) := by decide +kernel
theorem dL_law_670 : decode cL_law 670 = .ok (.iconst 2, 1) := by decide +kernel
theorem dL_law_671 : decode cL_law 671 = .ok (.iadd, 1) := by decide +kernel
theorem dL_law_672 : decode cL_law 672 = .ok (.iaload, 1) := by decide +kernel
theorem dL_law_673 : decode cL_law 673 = .ok (.invokevirtual 75, 3) := by decide +kernel
theorem mwX11_over : MwV yX11_over cX11_over 4 (some .int) 2 := ⟨⟨kw1580, kw15, by decide +kernel⟩, kw1578, kw1579⟩
theorem dL_law_676 : decode cL_law 676 = .ok (.if_icmp .eq 729, 3) := by decide +kernel
set_option maxHeartbeats 4000000 in
set_option maxRecDepth 100000 in
theorem law_over {p : Program} {l : Launch} {e : Env} {s : State} {m : MethodId} {below : List Frame} {meth : Method} {c : Code} {G : Gc} {b : Nat} {xs : Nat → Int32} (hst : l.stackTraces = false) (qx : Nat) (qm : Nat) (qz : Nat) (qt : Nat) (qs : Nat) (qd : Nat) (qa : Nat) (qb : Nat) (qh : Nat) (qr : Nat) (qe : Nat) (qp : Nat) (qf : Nat) (qn : Nat) (qi : Nat) (qo : Nat) (sslideNames : Nat) (spictures : Nat) (sheats : Nat) (safter : Nat) (shearerNames : Nat) (sneeds : Nat) (slikes : Nat) (shates : Nat) (snear : Nat) (mtape : Nat) (mnow : Nat) (mread : Nat) (mkept : Nat) (msnaps : Nat) (maside : Nat) (mname : Nat) (mreadName : Nat) (mkeptName : Nat) (misKept : Nat) (monces : Nat) (morder : Nat) (mordered : Nat) (mtext : Nat) (mline : Nat) (mwritten : Nat) (mnode : Nat) {A : Nat → Prop} (eA : A = fun q : Nat => s.heap.size ≤ q) {H : Heap} {locs : List Loc} {ls : Array Slot} (C0 : lw_At p s m meth c b 6 xs) (hw : Wd G s A [(qx, .inr (9, [.ref qt, .ref qs, .ref qd, .ref qa, .ref qb, .ref qh, .ref qr, .ref qe, .ref qp, .ref qf, .ref qn, .ref qi, .ref qo, .int 0, .int 0, .int (-1), .int (-1)])), (qs, .inr (4, [.int 0, .int 0, .int 0, .int 0, .int 1, .int 0, .int 40, .int 0, .int 0, .ref sslideNames, .ref spictures, .ref sheats, .ref safter, .ref shearerNames, .ref sneeds, .ref slikes, .ref shates, .ref snear])), (qm, .inr (10, [.int 0, .ref mtape, .int 0, .int 0, .int 0, .int 0, .int 0, .int 0, .int 0, .int 0, .int 0, .int 0, .long 0, .int 0, .ref mnow, .ref mread, .ref mkept, .ref msnaps, .ref maside, .ref mname, .ref mreadName, .ref mkeptName, .ref misKept, .ref monces, .int 0, .ref morder, .ref mordered, .int 0, .int 0, .int 0, .int (-1), .int (-1), .ref mtext, .int 0, .int 0, .ref mline, .ref mwritten, .int 0, .int 0, .ref mnode, .int 0, .int 0, .int 0, .int 0])), (mnow, eI G 339 nw0)] H locs) (hl : lv_has ls 7 [(4, .int 0), (3, .ref qz), (2, .ref qm), (1, .ref qx), (0, .ref b)]) : W p l e room_1 s m #[Value.ref b] below meth c H locs 147 5480 (lw_Z below #[Value.ref b] s) (F0 m 644 ls []) := by
  subst eA
  obtain ⟨hx, hb, hr, hml, hown, hts, hX, hbl, hlocks, hgv⟩ := id C0
  have hbA : ¬ (fun q : Nat => s.heap.size ≤ q) b := Nat.not_le.mpr hbl
  have C : CallFix p m c code 7 s #[Value.ref b] gw "LanternStateLaw" := ⟨hx, hb, hml, hown, fun w h => hts w (gw_sub w h)⟩
  refine lv_aload_n C.1 C.2.1 dL_law_644 rfl (lv_at hl 3 rfl) ?_
  refine lv_aload_n C.1 C.2.1 dL_law_645 rfl (lv_at hl 4 rfl) ?_
  refine lv_iload C.1 C.2.1 dL_law_646 (lv_at hl 0 rfl) ?_
  refine lv_iconst (v := 1) C.1 C.2.1 dL_law_648 (by decide) ?_
  refine lv_iadd C.1 C.2.1 dL_law_649 ?_
  refine x_topi (z := 1) (by decide) ?_
  refine va_sld C.1 C.2.1 hX hbl hbA hw.2.2.2.1 (i := 1) (x_in rfl) dL_law_650 ?_
  refine x_topi (z := (xs 1)) rfl ?_
  refine lv_aload_n C.1 C.2.1 dL_law_651 rfl (lv_at hl 4 rfl) ?_
  refine lv_iload C.1 C.2.1 dL_law_652 (lv_at hl 0 rfl) ?_
  refine lv_iconst (v := 2) C.1 C.2.1 dL_law_654 (by decide) ?_
  refine lv_iadd C.1 C.2.1 dL_law_655 ?_
  refine x_topi (z := 2) (by decide) ?_
  refine va_sld C.1 C.2.1 hX hbl hbA hw.2.2.2.1 (i := 2) (x_in rfl) dL_law_656 ?_
  refine x_topi (z := (xs 2)) rfl ?_
  refine x_calliV (As := [.int (xs 1), .int (xs 2)]) (rest := []) (wr := [(qm, .inr (10, [.int 0, .ref mtape, .int 0, .int 0, .int 0, .int 0, .int 0, .int 0, .int 0, .int 0, .int 0, .int 0, .long 0, .int 0, .ref mnow, .ref mread, .ref mkept, .ref msnaps, .ref maside, .ref mname, .ref mreadName, .ref mkeptName, .ref misKept, .ref monces, .int 0, .ref morder, .ref mordered, .int 0, .int 0, .int 0, .int (-1), .int (-1), .ref mtext, .int 0, .int 0, .ref mline, .ref mwritten, .int 0, .int 0, .ref mnode, .int 0, .int 0, .int 0, .int 0])), (mnow, eI G 339 nw0)]) C hw (c_X10_over qx (xs 1) (xs 2) qt qs qd qa qb qh qr qe qp qf qn qi qo sslideNames spictures sheats safter shearerNames sneeds slikes shates snear) mwX10_over kw745 [0, 1] [2, 3] rfl rfl rfl rfl (by decide) 0 rfl rfl rfl rfl hl.1 rfl (Nat.le_of_ble_eq_true rfl) ⟨(Nat.le_of_ble_eq_true rfl), (Nat.le_of_ble_eq_true rfl)⟩ ⟨(Nat.le_of_ble_eq_true rfl), (Nat.le_of_ble_eq_true rfl)⟩ dL_law_657 (fun r1 u9 H locs hp9 hw => ?_)
  obtain ⟨rfl, rfl⟩ := hp9
  have hw : Wd G s (fun q : Nat => s.heap.size ≤ q) [(qm, .inr (10, [.int 0, .ref mtape, .int 0, .int 0, .int 0, .int 0, .int 0, .int 0, .int 0, .int 0, .int 0, .int 0, .long 0, .int 0, .ref mnow, .ref mread, .ref mkept, .ref msnaps, .ref maside, .ref mname, .ref mreadName, .ref mkeptName, .ref misKept, .ref monces, .int 0, .ref morder, .ref mordered, .int 0, .int 0, .int 0, .int (-1), .int (-1), .ref mtext, .int 0, .int 0, .ref mline, .ref mwritten, .int 0, .int 0, .ref mnode, .int 0, .int 0, .int 0, .int 0])), (mnow, eI G 339 nw0), (qx, .inr (9, [.ref qt, .ref qs, .ref qd, .ref qa, .ref qb, .ref qh, .ref qr, .ref qe, .ref qp, .ref qf, .ref qn, .ref qi, .ref qo, .int 0, .int 0, .int (-1), .int (-1)])), (qs, .inr (4, [.int 0, .int 0, .int 0, .int 0, .int 1, .int 0, .int 40, .int 0, .int 0, .ref sslideNames, .ref spictures, .ref sheats, .ref safter, .ref shearerNames, .ref sneeds, .ref slikes, .ref shates, .ref snear]))] H _ := hw
  refine lv_aload_n C.1 C.2.1 dL_law_660 rfl (lv_at hl 2 rfl) ?_
  refine lv_aload_n C.1 C.2.1 dL_law_661 rfl (lv_at hl 4 rfl) ?_
  refine lv_iload C.1 C.2.1 dL_law_662 (lv_at hl 0 rfl) ?_
  refine lv_iconst (v := 1) C.1 C.2.1 dL_law_664 (by decide) ?_
  refine lv_iadd C.1 C.2.1 dL_law_665 ?_
  refine x_topi (z := 1) (by decide) ?_
  refine va_sld C.1 C.2.1 hX hbl hbA hw.2.2.2.1 (i := 1) (x_in rfl) dL_law_666 ?_
  refine x_topi (z := (xs 1)) rfl ?_
  refine lv_aload_n C.1 C.2.1 dL_law_667 rfl (lv_at hl 4 rfl) ?_
  refine lv_iload C.1 C.2.1 dL_law_668 (lv_at hl 0 rfl) ?_
  refine lv_iconst (v := 2) C.1 C.2.1 dL_law_670 (by decide) ?_
  refine lv_iadd C.1 C.2.1 dL_law_671 ?_
  refine x_topi (z := 2) (by decide) ?_
  refine va_sld C.1 C.2.1 hX hbl hbA hw.2.2.2.1 (i := 2) (x_in rfl) dL_law_672 ?_
  refine x_topi (z := (xs 2)) rfl ?_
  refine x_calliV (As := [.int (xs 1), .int (xs 2)]) (rest := [.int (-1)]) (wr := [(qx, .inr (9, [.ref qt, .ref qs, .ref qd, .ref qa, .ref qb, .ref qh, .ref qr, .ref qe, .ref qp, .ref qf, .ref qn, .ref qi, .ref qo, .int 0, .int 0, .int (-1), .int (-1)])), (qs, .inr (4, [.int 0, .int 0, .int 0, .int 0, .int 1, .int 0, .int 40, .int 0, .int 0, .ref sslideNames, .ref spictures, .ref sheats, .ref safter, .ref shearerNames, .ref sneeds, .ref slikes, .ref shates, .ref snear]))]) C hw (c_X11_over qm (xs 1) (xs 2) mtape mnow mread mkept msnaps maside mname mreadName mkeptName misKept monces morder mordered mtext mline mwritten mnode) mwX11_over kw1577 [0, 1] [2, 3] rfl rfl rfl rfl (by decide) 0 rfl rfl rfl rfl hl.1 rfl (Nat.le_of_ble_eq_true rfl) ⟨(Nat.le_of_ble_eq_true rfl), (Nat.le_of_ble_eq_true rfl)⟩ ⟨(Nat.le_of_ble_eq_true rfl), (Nat.le_of_ble_eq_true rfl)⟩ dL_law_673 (fun r2 u9 H locs hp9 hw => ?_)
  obtain ⟨rfl, rfl⟩ := hp9
  have hw : Wd G s (fun q : Nat => s.heap.size ≤ q) [(qx, .inr (9, [.ref qt, .ref qs, .ref qd, .ref qa, .ref qb, .ref qh, .ref qr, .ref qe, .ref qp, .ref qf, .ref qn, .ref qi, .ref qo, .int 0, .int 0, .int (-1), .int (-1)])), (qs, .inr (4, [.int 0, .int 0, .int 0, .int 0, .int 1, .int 0, .int 40, .int 0, .int 0, .ref sslideNames, .ref spictures, .ref sheats, .ref safter, .ref shearerNames, .ref sneeds, .ref slikes, .ref shates, .ref snear]))] H _ := hw
  refine lv_icmp_eq (tgt := 1405) C.1 C.2.1 dL_law_676 (by decide) (fun _ => ?_) (fun h9 => absurd (by decide) h9)
  refine lv_iinc (v := 6) (lv' := [(4, .int 6), (3, .ref qz), (2, .ref qm), (1, .ref qx), (0, .ref b)]) C.1 C.2.1 dL_law_1405 hl (k := 0) rfl (by decide) (by decide) rfl (fun ls hl => ?_)
  refine lv_goto (tgt := 23) C.1 C.2.1 dL_law_1408 (by decide) ?_
  exact law_tail C0 hw (Nat.le_of_ble_eq_true rfl) (Nat.le_of_ble_eq_true rfl) (lv_sub hl [0, 4] rfl)
theorem dL_law_681 : decode cL_law 681 = .ok (.aload_n 1, 1) := by decide +kernel
theorem dL_law_682 : decode cL_law 682 = .ok (.aload_n 0, 1) := by decide +kernel
theorem dL_law_683 : decode cL_law 683 = .ok (.iload 4, 2) := by decide +kernel
theorem dL_law_685 : decode cL_law 685 = .ok (.iconst 1, 1) := by decide +kernel
theorem dL_law_686 : decode cL_law 686 = .ok (.iadd, 1) := by decide +kernel
theorem dL_law_687 : decode cL_law 687 = .ok (.iaload, 1) := by decide +kernel
theorem dL_law_688 : decode cL_law 688 = .ok (.aload_n 0, 1) := by decide +kernel
theorem dL_law_689 : decode cL_law 689 = .ok (.iload 4, 2) := by decide +kernel
theorem dL_law_691 : decode cL_law 691 = .ok (.iconst 2, 1) := by decide +kernel
theorem dL_law_692 : decode cL_law 692 = .ok (.iadd, 1) := by decide +kernel
theorem dL_law_693 : decode cL_law 693 = .ok (.iaload, 1) := by decide +kernel
theorem dL_law_694 : decode cL_law 694 = .ok (.aload_n 0, 1) := by decide +kernel
theorem dL_law_695 : decode cL_law 695 = .ok (.iload 4, 2) := by decide +kernel
theorem dL_law_697 : decode cL_law 697 = .ok (.iconst 3, 1) := by decide +kernel
theorem dL_law_698 : decode cL_law 698 = .ok (.iadd, 1) := by decide +kernel
theorem dL_law_699 : decode cL_law 699 = .ok (.iaload, 1) := by decide +kernel
theorem dL_law_700 : decode cL_law 700 = .ok (.invokevirtual 76, 3) := by decide +kernel
theorem mwX10_scratch : MwV yX10_scratch cX10_scratch 5 (some .int) 3 := ⟨⟨kw756, kw1, by decide +kernel⟩, kw754, kw755⟩
theorem dL_law_703 : decode cL_law 703 = .ok (.aload_n 2, 1) := by decide +kernel
theorem dL_law_704 : decode cL_law 704 = .ok (.aload_n 0, 1) := by decide +kernel
theorem dL_law_705 : decode cL_law 705 = .ok (.iload 4, 2) := by decide +kernel
theorem dL_law_707 : decode cL_law 707 = .ok (.iconst 1, 1) := by decide +kernel
theorem dL_law_708 : decode cL_law 708 = .ok (.iadd, 1) := by decide +kernel
theorem dL_law_709 : decode cL_law 709 = .ok (.iaload, 1) := by decide +kernel
theorem dL_law_710 : decode cL_law 710 = .ok (.aload_n 0, 1) := by decide +kernel
theorem dL_law_711 : decode cL_law 711 = .ok (.iload 4, 2) := by decide +kernel
theorem dL_law_713 : decode cL_law 713 = .ok (.iconst 2, 1) := by decide +kernel
theorem dL_law_714 : decode cL_law 714 = .ok (.iadd, 1) := by decide +kernel
theorem dL_law_715 : decode cL_law 715 = .ok (.iaload, 1) := by decide +kernel
theorem dL_law_716 : decode cL_law 716 = .ok (.aload_n 0, 1) := by decide +kernel
theorem dL_law_717 : decode cL_law 717 = .ok (.iload 4, 2) := by decide +kernel
theorem dL_law_719 : decode cL_law 719 = .ok (.iconst 3, 1) := by decide +kernel
theorem dL_law_720 : decode cL_law 720 = .ok (.iadd, 1) := by decide +kernel
theorem dL_law_721 : decode cL_law 721 = .ok (.iaload, 1) := by decide +kernel
theorem dL_law_722 : decode cL_law 722 = .ok (.invokevirtual 79, 3) := by decide +kernel
theorem mwX11_scratch : MwV yX11_scratch cX11_scratch 4 (some .int) 3 := ⟨⟨kw1584, kw15, by decide +kernel⟩, kw1582, kw1583⟩
theorem dL_law_725 : decode cL_law 725 = .ok (.if_icmp .eq 680, 3) := by decide +kernel
set_option maxHeartbeats 4000000 in
set_option maxRecDepth 100000 in
theorem law_scratch {p : Program} {l : Launch} {e : Env} {s : State} {m : MethodId} {below : List Frame} {meth : Method} {c : Code} {G : Gc} {b : Nat} {xs : Nat → Int32} (hst : l.stackTraces = false) (qx : Nat) (qm : Nat) (qz : Nat) (qt : Nat) (qs : Nat) (qd : Nat) (qa : Nat) (qb : Nat) (qh : Nat) (qr : Nat) (qe : Nat) (qp : Nat) (qf : Nat) (qn : Nat) (qi : Nat) (qo : Nat) (sslideNames : Nat) (spictures : Nat) (sheats : Nat) (safter : Nat) (shearerNames : Nat) (sneeds : Nat) (slikes : Nat) (shates : Nat) (snear : Nat) (mtape : Nat) (mnow : Nat) (mread : Nat) (mkept : Nat) (msnaps : Nat) (maside : Nat) (mname : Nat) (mreadName : Nat) (mkeptName : Nat) (misKept : Nat) (monces : Nat) (morder : Nat) (mordered : Nat) (mtext : Nat) (mline : Nat) (mwritten : Nat) (mnode : Nat) {A : Nat → Prop} (eA : A = fun q : Nat => s.heap.size ≤ q) {H : Heap} {locs : List Loc} {ls : Array Slot} (C0 : lw_At p s m meth c b 6 xs) (hw : Wd G s A [(qx, .inr (9, [.ref qt, .ref qs, .ref qd, .ref qa, .ref qb, .ref qh, .ref qr, .ref qe, .ref qp, .ref qf, .ref qn, .ref qi, .ref qo, .int 0, .int 0, .int (-1), .int (-1)])), (qs, .inr (4, [.int 0, .int 0, .int 0, .int 0, .int 1, .int 0, .int 40, .int 0, .int 0, .ref sslideNames, .ref spictures, .ref sheats, .ref safter, .ref shearerNames, .ref sneeds, .ref slikes, .ref shates, .ref snear])), (qm, .inr (10, [.int 0, .ref mtape, .int 0, .int 0, .int 0, .int 0, .int 0, .int 0, .int 0, .int 0, .int 0, .int 0, .long 0, .int 0, .ref mnow, .ref mread, .ref mkept, .ref msnaps, .ref maside, .ref mname, .ref mreadName, .ref mkeptName, .ref misKept, .ref monces, .int 0, .ref morder, .ref mordered, .int 0, .int 0, .int 0, .int (-1), .int (-1), .ref mtext, .int 0, .int 0, .ref mline, .ref mwritten, .int 0, .int 0, .ref mnode, .int 0, .int 0, .int 0, .int 0])), (mnow, eI G 339 nw0)] H locs) (hl : lv_has ls 7 [(4, .int 0), (3, .ref qz), (2, .ref qm), (1, .ref qx), (0, .ref b)]) : W p l e room_1 s m #[Value.ref b] below meth c H locs 147 5480 (lw_Z below #[Value.ref b] s) (F0 m 681 ls []) := by
  subst eA
  obtain ⟨hx, hb, hr, hml, hown, hts, hX, hbl, hlocks, hgv⟩ := id C0
  have hbA : ¬ (fun q : Nat => s.heap.size ≤ q) b := Nat.not_le.mpr hbl
  have C : CallFix p m c code 7 s #[Value.ref b] gw "LanternStateLaw" := ⟨hx, hb, hml, hown, fun w h => hts w (gw_sub w h)⟩
  refine lv_aload_n C.1 C.2.1 dL_law_681 rfl (lv_at hl 3 rfl) ?_
  refine lv_aload_n C.1 C.2.1 dL_law_682 rfl (lv_at hl 4 rfl) ?_
  refine lv_iload C.1 C.2.1 dL_law_683 (lv_at hl 0 rfl) ?_
  refine lv_iconst (v := 1) C.1 C.2.1 dL_law_685 (by decide) ?_
  refine lv_iadd C.1 C.2.1 dL_law_686 ?_
  refine x_topi (z := 1) (by decide) ?_
  refine va_sld C.1 C.2.1 hX hbl hbA hw.2.2.2.1 (i := 1) (x_in rfl) dL_law_687 ?_
  refine x_topi (z := (xs 1)) rfl ?_
  refine lv_aload_n C.1 C.2.1 dL_law_688 rfl (lv_at hl 4 rfl) ?_
  refine lv_iload C.1 C.2.1 dL_law_689 (lv_at hl 0 rfl) ?_
  refine lv_iconst (v := 2) C.1 C.2.1 dL_law_691 (by decide) ?_
  refine lv_iadd C.1 C.2.1 dL_law_692 ?_
  refine x_topi (z := 2) (by decide) ?_
  refine va_sld C.1 C.2.1 hX hbl hbA hw.2.2.2.1 (i := 2) (x_in rfl) dL_law_693 ?_
  refine x_topi (z := (xs 2)) rfl ?_
  refine lv_aload_n C.1 C.2.1 dL_law_694 rfl (lv_at hl 4 rfl) ?_
  refine lv_iload C.1 C.2.1 dL_law_695 (lv_at hl 0 rfl) ?_
  refine lv_iconst (v := 3) C.1 C.2.1 dL_law_697 (by decide) ?_
  refine lv_iadd C.1 C.2.1 dL_law_698 ?_
  refine x_topi (z := 3) (by decide) ?_
  refine va_sld C.1 C.2.1 hX hbl hbA hw.2.2.2.1 (i := 3) (x_in rfl) dL_law_699 ?_
  refine x_topi (z := (xs 3)) rfl ?_
  refine x_calliV (As := [.int (xs 1), .int (xs 2), .int (xs 3)]) (rest := []) (wr := [(qm, .inr (10, [.int 0, .ref mtape, .int 0, .int 0, .int 0, .int 0, .int 0, .int 0, .int 0, .int 0, .int 0, .int 0, .long 0, .int 0, .ref mnow, .ref mread, .ref mkept, .ref msnaps, .ref maside, .ref mname, .ref mreadName, .ref mkeptName, .ref misKept, .ref monces, .int 0, .ref morder, .ref mordered, .int 0, .int 0, .int 0, .int (-1), .int (-1), .ref mtext, .int 0, .int 0, .ref mline, .ref mwritten, .int 0, .int 0, .ref mnode, .int 0, .int 0, .int 0, .int 0])), (mnow, eI G 339 nw0)]) C hw (c_X10_scratch qx (xs 1) (xs 2) (xs 3) qt qs qd qa qb qh qr qe qp qf qn qi qo sslideNames spictures sheats safter shearerNames sneeds slikes shates snear) mwX10_scratch kw753 [0, 1] [2, 3] rfl rfl rfl rfl (by decide) 0 rfl rfl rfl rfl hl.1 rfl (Nat.le_of_ble_eq_true rfl) ⟨(Nat.le_of_ble_eq_true rfl), (Nat.le_of_ble_eq_true rfl)⟩ ⟨(Nat.le_of_ble_eq_true rfl), (Nat.le_of_ble_eq_true rfl)⟩ dL_law_700 (fun r1 u9 H locs hp9 hw => ?_)
  obtain ⟨rfl, rfl⟩ := hp9
  have hw : Wd G s (fun q : Nat => s.heap.size ≤ q) [(qm, .inr (10, [.int 0, .ref mtape, .int 0, .int 0, .int 0, .int 0, .int 0, .int 0, .int 0, .int 0, .int 0, .int 0, .long 0, .int 0, .ref mnow, .ref mread, .ref mkept, .ref msnaps, .ref maside, .ref mname, .ref mreadName, .ref mkeptName, .ref misKept, .ref monces, .int 0, .ref morder, .ref mordered, .int 0, .int 0, .int 0, .int (-1), .int (-1), .ref mtext, .int 0, .int 0, .ref mline, .ref mwritten, .int 0, .int 0, .ref mnode, .int 0, .int 0, .int 0, .int 0])), (mnow, eI G 339 nw0), (qx, .inr (9, [.ref qt, .ref qs, .ref qd, .ref qa, .ref qb, .ref qh, .ref qr, .ref qe, .ref qp, .ref qf, .ref qn, .ref qi, .ref qo, .int 0, .int 0, .int (-1), .int (-1)])), (qs, .inr (4, [.int 0, .int 0, .int 0, .int 0, .int 1, .int 0, .int 40, .int 0, .int 0, .ref sslideNames, .ref spictures, .ref sheats, .ref safter, .ref shearerNames, .ref sneeds, .ref slikes, .ref shates, .ref snear]))] H _ := hw
  refine lv_aload_n C.1 C.2.1 dL_law_703 rfl (lv_at hl 2 rfl) ?_
  refine lv_aload_n C.1 C.2.1 dL_law_704 rfl (lv_at hl 4 rfl) ?_
  refine lv_iload C.1 C.2.1 dL_law_705 (lv_at hl 0 rfl) ?_
  refine lv_iconst (v := 1) C.1 C.2.1 dL_law_707 (by decide) ?_
  refine lv_iadd C.1 C.2.1 dL_law_708 ?_
  refine x_topi (z := 1) (by decide) ?_
  refine va_sld C.1 C.2.1 hX hbl hbA hw.2.2.2.1 (i := 1) (x_in rfl) dL_law_709 ?_
  refine x_topi (z := (xs 1)) rfl ?_
  refine lv_aload_n C.1 C.2.1 dL_law_710 rfl (lv_at hl 4 rfl) ?_
  refine lv_iload C.1 C.2.1 dL_law_711 (lv_at hl 0 rfl) ?_
  refine lv_iconst (v := 2) C.1 C.2.1 dL_law_713 (by decide) ?_
  refine lv_iadd C.1 C.2.1 dL_law_714 ?_
  refine x_topi (z := 2) (by decide) ?_
  refine va_sld C.1 C.2.1 hX hbl hbA hw.2.2.2.1 (i := 2) (x_in rfl) dL_law_715 ?_
  refine x_topi (z := (xs 2)) rfl ?_
  refine lv_aload_n C.1 C.2.1 dL_law_716 rfl (lv_at hl 4 rfl) ?_
  refine lv_iload C.1 C.2.1 dL_law_717 (lv_at hl 0 rfl) ?_
  refine lv_iconst (v := 3) C.1 C.2.1 dL_law_719 (by decide) ?_
  refine lv_iadd C.1 C.2.1 dL_law_720 ?_
  refine x_topi (z := 3) (by decide) ?_
  refine va_sld C.1 C.2.1 hX hbl hbA hw.2.2.2.1 (i := 3) (x_in rfl) dL_law_721 ?_
  refine x_topi (z := (xs 3)) rfl ?_
  refine x_calliV (As := [.int (xs 1), .int (xs 2), .int (xs 3)]) (rest := [.int (-1)]) (wr := [(qx, .inr (9, [.ref qt, .ref qs, .ref qd, .ref qa, .ref qb, .ref qh, .ref qr, .ref qe, .ref qp, .ref qf, .ref qn, .ref qi, .ref qo, .int 0, .int 0, .int (-1), .int (-1)])), (qs, .inr (4, [.int 0, .int 0, .int 0, .int 0, .int 1, .int 0, .int 40, .int 0, .int 0, .ref sslideNames, .ref spictures, .ref sheats, .ref safter, .ref shearerNames, .ref sneeds, .ref slikes, .ref shates, .ref snear]))]) C hw (c_X11_scratch qm (xs 1) (xs 2) (xs 3) mtape mnow mread mkept msnaps maside mname mreadName mkeptName misKept monces morder mordered mtext mline mwritten mnode) mwX11_scratch kw1581 [0, 1] [2, 3] rfl rfl rfl rfl (by decide) 0 rfl rfl rfl rfl hl.1 rfl (Nat.le_of_ble_eq_true rfl) ⟨(Nat.le_of_ble_eq_true rfl), (Nat.le_of_ble_eq_true rfl)⟩ ⟨(Nat.le_of_ble_eq_true rfl), (Nat.le_of_ble_eq_true rfl)⟩ dL_law_722 (fun r2 u9 H locs hp9 hw => ?_)
  obtain ⟨rfl, rfl⟩ := hp9
  have hw : Wd G s (fun q : Nat => s.heap.size ≤ q) [(qx, .inr (9, [.ref qt, .ref qs, .ref qd, .ref qa, .ref qb, .ref qh, .ref qr, .ref qe, .ref qp, .ref qf, .ref qn, .ref qi, .ref qo, .int 0, .int 0, .int (-1), .int (-1)])), (qs, .inr (4, [.int 0, .int 0, .int 0, .int 0, .int 1, .int 0, .int 40, .int 0, .int 0, .ref sslideNames, .ref spictures, .ref sheats, .ref safter, .ref shearerNames, .ref sneeds, .ref slikes, .ref shates, .ref snear]))] H _ := hw
  refine lv_icmp_eq (tgt := 1405) C.1 C.2.1 dL_law_725 (by decide) (fun _ => ?_) (fun h9 => absurd (by decide) h9)
  refine lv_iinc (v := 6) (lv' := [(4, .int 6), (3, .ref qz), (2, .ref qm), (1, .ref qx), (0, .ref b)]) C.1 C.2.1 dL_law_1405 hl (k := 0) rfl (by decide) (by decide) rfl (fun ls hl => ?_)
  refine lv_goto (tgt := 23) C.1 C.2.1 dL_law_1408 (by decide) ?_
  exact law_tail C0 hw (Nat.le_of_ble_eq_true rfl) (Nat.le_of_ble_eq_true rfl) (lv_sub hl [0, 4] rfl)
theorem dL_law_730 : decode cL_law 730 = .ok (.aload_n 1, 1) := by decide +kernel
theorem dL_law_731 : decode cL_law 731 = .ok (.aload_n 0, 1) := by decide +kernel
theorem dL_law_732 : decode cL_law 732 = .ok (.iload 4, 2) := by decide +kernel
theorem dL_law_734 : decode cL_law 734 = .ok (.iconst 1, 1) := by decide +kernel
theorem dL_law_735 : decode cL_law 735 = .ok (.iadd, 1) := by decide +kernel
theorem dL_law_736 : decode cL_law 736 = .ok (.iaload, 1) := by decide +kernel
theorem dL_law_737 : decode cL_law 737 = .ok (.aload_n 0, 1) := by decide +kernel
theorem dL_law_738 : decode cL_law 738 = .ok (.iload 4, 2) := by decide +kernel
theorem dL_law_740 : decode cL_law 740 = .ok (.iconst 2, 1) := by decide +kernel
theorem dL_law_741 : decode cL_law 741 = .ok (.iadd, 1) := by decide +kernel
theorem dL_law_742 : decode cL_law 742 = .ok (.iaload, 1) := by decide +kernel
theorem dL_law_743 : decode cL_law 743 = .ok (.invokevirtual 80, 3) := by decide +kernel
theorem mwX10_sit : MwV yX10_sit cX10_sit 4 (some .int) 2 := ⟨⟨kw764, kw1, by decide +kernel⟩, kw762, kw763⟩
theorem dL_law_746 : decode cL_law 746 = .ok (.aload_n 2, 1) := by decide +kernel
theorem dL_law_747 : decode cL_law 747 = .ok (.aload_n 0, 1) := by decide +kernel
theorem dL_law_748 : decode cL_law 748 = .ok (.iload 4, 2) := by decide +kernel
theorem dL_law_750 : decode cL_law 750 = .ok (.iconst 1, 1) := by decide +kernel
theorem dL_law_751 : decode cL_law 751 = .ok (.iadd, 1) := by decide +kernel
theorem dL_law_752 : decode cL_law 752 = .ok (.iaload, 1) := by decide +kernel
theorem dL_law_753 : decode cL_law 753 = .ok (.aload_n 0, 1) := by decide +kernel
theorem dL_law_754 : decode cL_law 754 = .ok (.iload 4, 2) := by decide +kernel
theorem dL_law_756 : decode cL_law 756 = .ok (.iconst 2, 1) := by decide +kernel
theorem dL_law_757 : decode cL_law 757 = .ok (.iadd, 1) := by decide +kernel
theorem dL_law_758 : decode cL_law 758 = .ok (.iaload, 1) := by decide +kernel
theorem dL_law_759 : decode cL_law 759 = .ok (.invokevirtual 83, 3) := by decide +kernel
theorem mwX11_sit : MwV yX11_sit cX11_sit 3 (some .int) 2 := ⟨⟨kw1592, kw15, by decide +kernel⟩, kw1590, kw1591⟩
theorem dL_law_762 : decode cL_law 762 = .ok (.if_icmp .eq 643, 3) := by decide +kernel
set_option maxHeartbeats 4000000 in
set_option maxRecDepth 100000 in
theorem law_sit {p : Program} {l : Launch} {e : Env} {s : State} {m : MethodId} {below : List Frame} {meth : Method} {c : Code} {G : Gc} {b : Nat} {xs : Nat → Int32} (hst : l.stackTraces = false) (qx : Nat) (qm : Nat) (qz : Nat) (qt : Nat) (qs : Nat) (qd : Nat) (qa : Nat) (qb : Nat) (qh : Nat) (qr : Nat) (qe : Nat) (qp : Nat) (qf : Nat) (qn : Nat) (qi : Nat) (qo : Nat) (sslideNames : Nat) (spictures : Nat) (sheats : Nat) (safter : Nat) (shearerNames : Nat) (sneeds : Nat) (slikes : Nat) (shates : Nat) (snear : Nat) (mtape : Nat) (mnow : Nat) (mread : Nat) (mkept : Nat) (msnaps : Nat) (maside : Nat) (mname : Nat) (mreadName : Nat) (mkeptName : Nat) (misKept : Nat) (monces : Nat) (morder : Nat) (mordered : Nat) (mtext : Nat) (mline : Nat) (mwritten : Nat) (mnode : Nat) {A : Nat → Prop} (eA : A = fun q : Nat => s.heap.size ≤ q) {H : Heap} {locs : List Loc} {ls : Array Slot} (C0 : lw_At p s m meth c b 6 xs) (hw : Wd G s A [(qx, .inr (9, [.ref qt, .ref qs, .ref qd, .ref qa, .ref qb, .ref qh, .ref qr, .ref qe, .ref qp, .ref qf, .ref qn, .ref qi, .ref qo, .int 0, .int 0, .int (-1), .int (-1)])), (qs, .inr (4, [.int 0, .int 0, .int 0, .int 0, .int 1, .int 0, .int 40, .int 0, .int 0, .ref sslideNames, .ref spictures, .ref sheats, .ref safter, .ref shearerNames, .ref sneeds, .ref slikes, .ref shates, .ref snear])), (qm, .inr (10, [.int 0, .ref mtape, .int 0, .int 0, .int 0, .int 0, .int 0, .int 0, .int 0, .int 0, .int 0, .int 0, .long 0, .int 0, .ref mnow, .ref mread, .ref mkept, .ref msnaps, .ref maside, .ref mname, .ref mreadName, .ref mkeptName, .ref misKept, .ref monces, .int 0, .ref morder, .ref mordered, .int 0, .int 0, .int 0, .int (-1), .int (-1), .ref mtext, .int 0, .int 0, .ref mline, .ref mwritten, .int 0, .int 0, .ref mnode, .int 0, .int 0, .int 0, .int 0])), (mnow, eI G 339 nw0)] H locs) (hl : lv_has ls 7 [(4, .int 0), (3, .ref qz), (2, .ref qm), (1, .ref qx), (0, .ref b)]) : W p l e room_1 s m #[Value.ref b] below meth c H locs 147 5480 (lw_Z below #[Value.ref b] s) (F0 m 730 ls []) := by
  subst eA
  obtain ⟨hx, hb, hr, hml, hown, hts, hX, hbl, hlocks, hgv⟩ := id C0
  have hbA : ¬ (fun q : Nat => s.heap.size ≤ q) b := Nat.not_le.mpr hbl
  have C : CallFix p m c code 7 s #[Value.ref b] gw "LanternStateLaw" := ⟨hx, hb, hml, hown, fun w h => hts w (gw_sub w h)⟩
  refine lv_aload_n C.1 C.2.1 dL_law_730 rfl (lv_at hl 3 rfl) ?_
  refine lv_aload_n C.1 C.2.1 dL_law_731 rfl (lv_at hl 4 rfl) ?_
  refine lv_iload C.1 C.2.1 dL_law_732 (lv_at hl 0 rfl) ?_
  refine lv_iconst (v := 1) C.1 C.2.1 dL_law_734 (by decide) ?_
  refine lv_iadd C.1 C.2.1 dL_law_735 ?_
  refine x_topi (z := 1) (by decide) ?_
  refine va_sld C.1 C.2.1 hX hbl hbA hw.2.2.2.1 (i := 1) (x_in rfl) dL_law_736 ?_
  refine x_topi (z := (xs 1)) rfl ?_
  refine lv_aload_n C.1 C.2.1 dL_law_737 rfl (lv_at hl 4 rfl) ?_
  refine lv_iload C.1 C.2.1 dL_law_738 (lv_at hl 0 rfl) ?_
  refine lv_iconst (v := 2) C.1 C.2.1 dL_law_740 (by decide) ?_
  refine lv_iadd C.1 C.2.1 dL_law_741 ?_
  refine x_topi (z := 2) (by decide) ?_
  refine va_sld C.1 C.2.1 hX hbl hbA hw.2.2.2.1 (i := 2) (x_in rfl) dL_law_742 ?_
  refine x_topi (z := (xs 2)) rfl ?_
  refine x_calliV (As := [.int (xs 1), .int (xs 2)]) (rest := []) (wr := [(qm, .inr (10, [.int 0, .ref mtape, .int 0, .int 0, .int 0, .int 0, .int 0, .int 0, .int 0, .int 0, .int 0, .int 0, .long 0, .int 0, .ref mnow, .ref mread, .ref mkept, .ref msnaps, .ref maside, .ref mname, .ref mreadName, .ref mkeptName, .ref misKept, .ref monces, .int 0, .ref morder, .ref mordered, .int 0, .int 0, .int 0, .int (-1), .int (-1), .ref mtext, .int 0, .int 0, .ref mline, .ref mwritten, .int 0, .int 0, .ref mnode, .int 0, .int 0, .int 0, .int 0])), (mnow, eI G 339 nw0)]) C hw (c_X10_sit qx (xs 1) (xs 2) qt qs qd qa qb qh qr qe qp qf qn qi qo sslideNames spictures sheats safter shearerNames sneeds slikes shates snear) mwX10_sit kw761 [0, 1] [2, 3] rfl rfl rfl rfl (by decide) 0 rfl rfl rfl rfl hl.1 rfl (Nat.le_of_ble_eq_true rfl) ⟨(Nat.le_of_ble_eq_true rfl), (Nat.le_of_ble_eq_true rfl)⟩ ⟨(Nat.le_of_ble_eq_true rfl), (Nat.le_of_ble_eq_true rfl)⟩ dL_law_743 (fun r1 u9 H locs hp9 hw => ?_)
  obtain ⟨rfl, rfl⟩ := hp9
  have hw : Wd G s (fun q : Nat => s.heap.size ≤ q) [(qm, .inr (10, [.int 0, .ref mtape, .int 0, .int 0, .int 0, .int 0, .int 0, .int 0, .int 0, .int 0, .int 0, .int 0, .long 0, .int 0, .ref mnow, .ref mread, .ref mkept, .ref msnaps, .ref maside, .ref mname, .ref mreadName, .ref mkeptName, .ref misKept, .ref monces, .int 0, .ref morder, .ref mordered, .int 0, .int 0, .int 0, .int (-1), .int (-1), .ref mtext, .int 0, .int 0, .ref mline, .ref mwritten, .int 0, .int 0, .ref mnode, .int 0, .int 0, .int 0, .int 0])), (mnow, eI G 339 nw0), (qx, .inr (9, [.ref qt, .ref qs, .ref qd, .ref qa, .ref qb, .ref qh, .ref qr, .ref qe, .ref qp, .ref qf, .ref qn, .ref qi, .ref qo, .int 0, .int 0, .int (-1), .int (-1)])), (qs, .inr (4, [.int 0, .int 0, .int 0, .int 0, .int 1, .int 0, .int 40, .int 0, .int 0, .ref sslideNames, .ref spictures, .ref sheats, .ref safter, .ref shearerNames, .ref sneeds, .ref slikes, .ref shates, .ref snear]))] H _ := hw
  refine lv_aload_n C.1 C.2.1 dL_law_746 rfl (lv_at hl 2 rfl) ?_
  refine lv_aload_n C.1 C.2.1 dL_law_747 rfl (lv_at hl 4 rfl) ?_
  refine lv_iload C.1 C.2.1 dL_law_748 (lv_at hl 0 rfl) ?_
  refine lv_iconst (v := 1) C.1 C.2.1 dL_law_750 (by decide) ?_
  refine lv_iadd C.1 C.2.1 dL_law_751 ?_
  refine x_topi (z := 1) (by decide) ?_
  refine va_sld C.1 C.2.1 hX hbl hbA hw.2.2.2.1 (i := 1) (x_in rfl) dL_law_752 ?_
  refine x_topi (z := (xs 1)) rfl ?_
  refine lv_aload_n C.1 C.2.1 dL_law_753 rfl (lv_at hl 4 rfl) ?_
  refine lv_iload C.1 C.2.1 dL_law_754 (lv_at hl 0 rfl) ?_
  refine lv_iconst (v := 2) C.1 C.2.1 dL_law_756 (by decide) ?_
  refine lv_iadd C.1 C.2.1 dL_law_757 ?_
  refine x_topi (z := 2) (by decide) ?_
  refine va_sld C.1 C.2.1 hX hbl hbA hw.2.2.2.1 (i := 2) (x_in rfl) dL_law_758 ?_
  refine x_topi (z := (xs 2)) rfl ?_
  refine x_calliV (As := [.int (xs 1), .int (xs 2)]) (rest := [.int (-1)]) (wr := [(qx, .inr (9, [.ref qt, .ref qs, .ref qd, .ref qa, .ref qb, .ref qh, .ref qr, .ref qe, .ref qp, .ref qf, .ref qn, .ref qi, .ref qo, .int 0, .int 0, .int (-1), .int (-1)])), (qs, .inr (4, [.int 0, .int 0, .int 0, .int 0, .int 1, .int 0, .int 40, .int 0, .int 0, .ref sslideNames, .ref spictures, .ref sheats, .ref safter, .ref shearerNames, .ref sneeds, .ref slikes, .ref shates, .ref snear]))]) C hw (c_X11_sit qm (xs 1) (xs 2) mtape mnow mread mkept msnaps maside mname mreadName mkeptName misKept monces morder mordered mtext mline mwritten mnode) mwX11_sit kw1589 [0, 1] [2, 3] rfl rfl rfl rfl (by decide) 0 rfl rfl rfl rfl hl.1 rfl (Nat.le_of_ble_eq_true rfl) ⟨(Nat.le_of_ble_eq_true rfl), (Nat.le_of_ble_eq_true rfl)⟩ ⟨(Nat.le_of_ble_eq_true rfl), (Nat.le_of_ble_eq_true rfl)⟩ dL_law_759 (fun r2 u9 H locs hp9 hw => ?_)
  obtain ⟨rfl, rfl⟩ := hp9
  have hw : Wd G s (fun q : Nat => s.heap.size ≤ q) [(qx, .inr (9, [.ref qt, .ref qs, .ref qd, .ref qa, .ref qb, .ref qh, .ref qr, .ref qe, .ref qp, .ref qf, .ref qn, .ref qi, .ref qo, .int 0, .int 0, .int (-1), .int (-1)])), (qs, .inr (4, [.int 0, .int 0, .int 0, .int 0, .int 1, .int 0, .int 40, .int 0, .int 0, .ref sslideNames, .ref spictures, .ref sheats, .ref safter, .ref shearerNames, .ref sneeds, .ref slikes, .ref shates, .ref snear]))] H _ := hw
  refine lv_icmp_eq (tgt := 1405) C.1 C.2.1 dL_law_762 (by decide) (fun _ => ?_) (fun h9 => absurd (by decide) h9)
  refine lv_iinc (v := 6) (lv' := [(4, .int 6), (3, .ref qz), (2, .ref qm), (1, .ref qx), (0, .ref b)]) C.1 C.2.1 dL_law_1405 hl (k := 0) rfl (by decide) (by decide) rfl (fun ls hl => ?_)
  refine lv_goto (tgt := 23) C.1 C.2.1 dL_law_1408 (by decide) ?_
  exact law_tail C0 hw (Nat.le_of_ble_eq_true rfl) (Nat.le_of_ble_eq_true rfl) (lv_sub hl [0, 4] rfl)
theorem dL_law_767 : decode cL_law 767 = .ok (.aload_n 1, 1) := by decide +kernel
theorem dL_law_768 : decode cL_law 768 = .ok (.aload_n 0, 1) := by decide +kernel
theorem dL_law_769 : decode cL_law 769 = .ok (.iload 4, 2) := by decide +kernel
theorem dL_law_771 : decode cL_law 771 = .ok (.iconst 1, 1) := by decide +kernel
theorem dL_law_772 : decode cL_law 772 = .ok (.iadd, 1) := by decide +kernel
theorem dL_law_773 : decode cL_law 773 = .ok (.iaload, 1) := by decide +kernel
theorem dL_law_774 : decode cL_law 774 = .ok (.invokevirtual 84, 3) := by decide +kernel
theorem mwX10_hours : MwV yX10_hours cX10_hours 3 (some .int) 1 := ⟨⟨kw772, kw1, by decide +kernel⟩, kw770, kw771⟩
theorem dL_law_777 : decode cL_law 777 = .ok (.aload_n 2, 1) := by decide +kernel
theorem dL_law_778 : decode cL_law 778 = .ok (.aload_n 0, 1) := by decide +kernel
theorem dL_law_779 : decode cL_law 779 = .ok (.iload 4, 2) := by decide +kernel
theorem dL_law_781 : decode cL_law 781 = .ok (.iconst 1, 1) := by decide +kernel
theorem dL_law_782 : decode cL_law 782 = .ok (.iadd, 1) := by decide +kernel
theorem dL_law_783 : decode cL_law 783 = .ok (.iaload, 1) := by decide +kernel
theorem dL_law_784 : decode cL_law 784 = .ok (.invokevirtual 87, 3) := by decide +kernel
theorem mwX11_hours : MwV yX11_hours cX11_hours 2 (some .int) 1 := ⟨⟨kw1600, kw15, by decide +kernel⟩, kw1598, kw1599⟩
theorem dL_law_787 : decode cL_law 787 = .ok (.if_icmp .eq 618, 3) := by decide +kernel
set_option maxHeartbeats 4000000 in
set_option maxRecDepth 100000 in
theorem law_hours {p : Program} {l : Launch} {e : Env} {s : State} {m : MethodId} {below : List Frame} {meth : Method} {c : Code} {G : Gc} {b : Nat} {xs : Nat → Int32} (hst : l.stackTraces = false) (qx : Nat) (qm : Nat) (qz : Nat) (qt : Nat) (qs : Nat) (qd : Nat) (qa : Nat) (qb : Nat) (qh : Nat) (qr : Nat) (qe : Nat) (qp : Nat) (qf : Nat) (qn : Nat) (qi : Nat) (qo : Nat) (mtape : Nat) (mnow : Nat) (mread : Nat) (mkept : Nat) (msnaps : Nat) (maside : Nat) (mname : Nat) (mreadName : Nat) (mkeptName : Nat) (misKept : Nat) (monces : Nat) (morder : Nat) (mordered : Nat) (mtext : Nat) (mline : Nat) (mwritten : Nat) (mnode : Nat) (apictures : Nat) (ashown : Nat) (asighed : Nat) (bpictures : Nat) (bshown : Nat) (bsighed : Nat) (hk : Nat) (hf : Nat → Option Nat) (hs : Nat) (hpictures : Nat) (hshown : Nat) (hsighed : Nat) (hf0 : hf 0 = some hs) {A : Nat → Prop} (eA : A = fun q : Nat => s.heap.size ≤ q) {H : Heap} {locs : List Loc} {ls : Array Slot} (C0 : lw_At p s m meth c b 6 xs) (hw : Wd G s A [(qx, .inr (9, [.ref qt, .ref qs, .ref qd, .ref qa, .ref qb, .ref qh, .ref qr, .ref qe, .ref qp, .ref qf, .ref qn, .ref qi, .ref qo, .int 0, .int 0, .int (-1), .int (-1)])), (qm, .inr (10, [.int 0, .ref mtape, .int 0, .int 0, .int 0, .int 0, .int 0, .int 0, .int 0, .int 0, .int 0, .int 0, .long 0, .int 0, .ref mnow, .ref mread, .ref mkept, .ref msnaps, .ref maside, .ref mname, .ref mreadName, .ref mkeptName, .ref misKept, .ref monces, .int 0, .ref morder, .ref mordered, .int 0, .int 0, .int 0, .int (-1), .int (-1), .ref mtext, .int 0, .int 0, .ref mline, .ref mwritten, .int 0, .int 0, .ref mnode, .int 0, .int 0, .int 0, .int 0])), (qa, .inr (7, [.int 0, .int 0, .int 0, .int 0, .int 0, .int 0, .int 0, .int 0, .ref apictures, .ref ashown, .ref asighed])), (apictures, eI G 6 (fun _ => 0)), (ashown, eI G 6 (fun _ => 0)), (asighed, eI G 8 (fun _ => 0)), (qb, .inr (7, [.int 0, .int 0, .int 0, .int 0, .int 0, .int 0, .int 0, .int 0, .ref bpictures, .ref bshown, .ref bsighed])), (bpictures, eI G 6 (fun _ => 0)), (bshown, eI G 6 (fun _ => 0)), (bsighed, eI G 8 (fun _ => 0)), (qh, .inr (2, [.ref hk, .int 0, .int 0])), (hk, eSt G 8 hf), (hs, .inr (7, [.int 0, .int 0, .int 0, .int 0, .int 0, .int 0, .int 0, .int 0, .ref hpictures, .ref hshown, .ref hsighed])), (hpictures, eI G 6 (fun _ => 0)), (hshown, eI G 6 (fun _ => 0)), (hsighed, eI G 8 (fun _ => 0)), (mnow, eI G 339 nw0), (msnaps, eI G 264 (fun _ => 0))] H locs) (hl : lv_has ls 7 [(4, .int 0), (3, .ref qz), (2, .ref qm), (1, .ref qx), (0, .ref b)]) : W p l e room_1 s m #[Value.ref b] below meth c H locs 147 5480 (lw_Z below #[Value.ref b] s) (F0 m 767 ls []) := by
  subst eA
  obtain ⟨hx, hb, hr, hml, hown, hts, hX, hbl, hlocks, hgv⟩ := id C0
  have hbA : ¬ (fun q : Nat => s.heap.size ≤ q) b := Nat.not_le.mpr hbl
  have C : CallFix p m c code 7 s #[Value.ref b] gw "LanternStateLaw" := ⟨hx, hb, hml, hown, fun w h => hts w (gw_sub w h)⟩
  rcases x_rng (xs 1) with hb | ⟨j9, h1, hj, hx1⟩
  · skip
    refine lv_aload_n C.1 C.2.1 dL_law_767 rfl (lv_at hl 3 rfl) ?_
    refine lv_aload_n C.1 C.2.1 dL_law_768 rfl (lv_at hl 4 rfl) ?_
    refine lv_iload C.1 C.2.1 dL_law_769 (lv_at hl 0 rfl) ?_
    refine lv_iconst (v := 1) C.1 C.2.1 dL_law_771 (by decide) ?_
    refine lv_iadd C.1 C.2.1 dL_law_772 ?_
    refine x_topi (z := 1) (by decide) ?_
    refine va_sld C.1 C.2.1 hX hbl hbA hw.2.2.2.1 (i := 1) (x_in rfl) dL_law_773 ?_
    refine x_topi (z := (xs 1)) rfl ?_
    refine x_calliV (As := [.int (xs 1)]) (rest := []) (wr := [(qm, .inr (10, [.int 0, .ref mtape, .int 0, .int 0, .int 0, .int 0, .int 0, .int 0, .int 0, .int 0, .int 0, .int 0, .long 0, .int 0, .ref mnow, .ref mread, .ref mkept, .ref msnaps, .ref maside, .ref mname, .ref mreadName, .ref mkeptName, .ref misKept, .ref monces, .int 0, .ref morder, .ref mordered, .int 0, .int 0, .int 0, .int (-1), .int (-1), .ref mtext, .int 0, .int 0, .ref mline, .ref mwritten, .int 0, .int 0, .ref mnode, .int 0, .int 0, .int 0, .int 0])), (qa, .inr (7, [.int 0, .int 0, .int 0, .int 0, .int 0, .int 0, .int 0, .int 0, .ref apictures, .ref ashown, .ref asighed])), (apictures, eI G 6 (fun _ => 0)), (ashown, eI G 6 (fun _ => 0)), (asighed, eI G 8 (fun _ => 0)), (qb, .inr (7, [.int 0, .int 0, .int 0, .int 0, .int 0, .int 0, .int 0, .int 0, .ref bpictures, .ref bshown, .ref bsighed])), (bpictures, eI G 6 (fun _ => 0)), (bshown, eI G 6 (fun _ => 0)), (bsighed, eI G 8 (fun _ => 0)), (qh, .inr (2, [.ref hk, .int 0, .int 0])), (hk, eSt G 8 hf), (hs, .inr (7, [.int 0, .int 0, .int 0, .int 0, .int 0, .int 0, .int 0, .int 0, .ref hpictures, .ref hshown, .ref hsighed])), (hpictures, eI G 6 (fun _ => 0)), (hshown, eI G 6 (fun _ => 0)), (hsighed, eI G 8 (fun _ => 0)), (mnow, eI G 339 nw0), (msnaps, eI G 264 (fun _ => 0))]) C hw (c_X10_hours__B qx (xs 1) qt qs qd qa qb qh qr qe qp qf qn qi qo hb) mwX10_hours kw769 [0] [1, 2, 3, 4, 5, 6, 7, 8, 9, 10, 11, 12, 13, 14, 15, 16, 17] rfl rfl rfl rfl (by decide) 0 rfl rfl rfl rfl hl.1 rfl (Nat.le_of_ble_eq_true rfl) ⟨(Nat.le_of_ble_eq_true rfl), (Nat.le_of_ble_eq_true rfl)⟩ ⟨(Nat.le_of_ble_eq_true rfl), (Nat.le_of_ble_eq_true rfl)⟩ dL_law_774 (fun r1 u9 H locs hp9 hw => ?_)
    obtain ⟨rfl, rfl⟩ := hp9
    have hw : Wd G s (fun q : Nat => s.heap.size ≤ q) [(qm, .inr (10, [.int 0, .ref mtape, .int 0, .int 0, .int 0, .int 0, .int 0, .int 0, .int 0, .int 0, .int 0, .int 0, .long 0, .int 0, .ref mnow, .ref mread, .ref mkept, .ref msnaps, .ref maside, .ref mname, .ref mreadName, .ref mkeptName, .ref misKept, .ref monces, .int 0, .ref morder, .ref mordered, .int 0, .int 0, .int 0, .int (-1), .int (-1), .ref mtext, .int 0, .int 0, .ref mline, .ref mwritten, .int 0, .int 0, .ref mnode, .int 0, .int 0, .int 0, .int 0])), (qa, .inr (7, [.int 0, .int 0, .int 0, .int 0, .int 0, .int 0, .int 0, .int 0, .ref apictures, .ref ashown, .ref asighed])), (apictures, eI G 6 (fun _ => 0)), (ashown, eI G 6 (fun _ => 0)), (asighed, eI G 8 (fun _ => 0)), (qb, .inr (7, [.int 0, .int 0, .int 0, .int 0, .int 0, .int 0, .int 0, .int 0, .ref bpictures, .ref bshown, .ref bsighed])), (bpictures, eI G 6 (fun _ => 0)), (bshown, eI G 6 (fun _ => 0)), (bsighed, eI G 8 (fun _ => 0)), (qh, .inr (2, [.ref hk, .int 0, .int 0])), (hk, eSt G 8 hf), (hs, .inr (7, [.int 0, .int 0, .int 0, .int 0, .int 0, .int 0, .int 0, .int 0, .ref hpictures, .ref hshown, .ref hsighed])), (hpictures, eI G 6 (fun _ => 0)), (hshown, eI G 6 (fun _ => 0)), (hsighed, eI G 8 (fun _ => 0)), (mnow, eI G 339 nw0), (msnaps, eI G 264 (fun _ => 0))] H _ := hw
    refine lv_aload_n C.1 C.2.1 dL_law_777 rfl (lv_at hl 2 rfl) ?_
    refine lv_aload_n C.1 C.2.1 dL_law_778 rfl (lv_at hl 4 rfl) ?_
    refine lv_iload C.1 C.2.1 dL_law_779 (lv_at hl 0 rfl) ?_
    refine lv_iconst (v := 1) C.1 C.2.1 dL_law_781 (by decide) ?_
    refine lv_iadd C.1 C.2.1 dL_law_782 ?_
    refine x_topi (z := 1) (by decide) ?_
    refine va_sld C.1 C.2.1 hX hbl hbA hw.2.2.2.1 (i := 1) (x_in rfl) dL_law_783 ?_
    refine x_topi (z := (xs 1)) rfl ?_
    refine x_calliV (As := [.int (xs 1)]) (rest := [.int (-1)]) (wr := [(qa, .inr (7, [.int 0, .int 0, .int 0, .int 0, .int 0, .int 0, .int 0, .int 0, .ref apictures, .ref ashown, .ref asighed])), (apictures, eI G 6 (fun _ => 0)), (ashown, eI G 6 (fun _ => 0)), (asighed, eI G 8 (fun _ => 0)), (qb, .inr (7, [.int 0, .int 0, .int 0, .int 0, .int 0, .int 0, .int 0, .int 0, .ref bpictures, .ref bshown, .ref bsighed])), (bpictures, eI G 6 (fun _ => 0)), (bshown, eI G 6 (fun _ => 0)), (bsighed, eI G 8 (fun _ => 0)), (qh, .inr (2, [.ref hk, .int 0, .int 0])), (hk, eSt G 8 hf), (hs, .inr (7, [.int 0, .int 0, .int 0, .int 0, .int 0, .int 0, .int 0, .int 0, .ref hpictures, .ref hshown, .ref hsighed])), (hpictures, eI G 6 (fun _ => 0)), (hshown, eI G 6 (fun _ => 0)), (hsighed, eI G 8 (fun _ => 0)), (mnow, eI G 339 nw0), (msnaps, eI G 264 (fun _ => 0))]) C hw (c_X11_hours__B qm (xs 1) mtape mnow mread mkept msnaps maside mname mreadName mkeptName misKept monces morder mordered mtext mline mwritten mnode hb) mwX11_hours kw1597 [0] [1, 2, 3, 4, 5, 6, 7, 8, 9, 10, 11, 12, 13, 14, 15, 16] rfl rfl rfl rfl (by decide) 0 rfl rfl rfl rfl hl.1 rfl (Nat.le_of_ble_eq_true rfl) ⟨(Nat.le_of_ble_eq_true rfl), (Nat.le_of_ble_eq_true rfl)⟩ ⟨(Nat.le_of_ble_eq_true rfl), (Nat.le_of_ble_eq_true rfl)⟩ dL_law_784 (fun r2 u9 H locs hp9 hw => ?_)
    obtain ⟨rfl, rfl⟩ := hp9
    have hw : Wd G s (fun q : Nat => s.heap.size ≤ q) [(qa, .inr (7, [.int 0, .int 0, .int 0, .int 0, .int 0, .int 0, .int 0, .int 0, .ref apictures, .ref ashown, .ref asighed])), (apictures, eI G 6 (fun _ => 0)), (ashown, eI G 6 (fun _ => 0)), (asighed, eI G 8 (fun _ => 0)), (qb, .inr (7, [.int 0, .int 0, .int 0, .int 0, .int 0, .int 0, .int 0, .int 0, .ref bpictures, .ref bshown, .ref bsighed])), (bpictures, eI G 6 (fun _ => 0)), (bshown, eI G 6 (fun _ => 0)), (bsighed, eI G 8 (fun _ => 0)), (qh, .inr (2, [.ref hk, .int 0, .int 0])), (hk, eSt G 8 hf), (hs, .inr (7, [.int 0, .int 0, .int 0, .int 0, .int 0, .int 0, .int 0, .int 0, .ref hpictures, .ref hshown, .ref hsighed])), (hpictures, eI G 6 (fun _ => 0)), (hshown, eI G 6 (fun _ => 0)), (hsighed, eI G 8 (fun _ => 0)), (mnow, eI G 339 nw0), (msnaps, eI G 264 (fun _ => 0))] H _ := hw
    refine lv_icmp_eq (tgt := 1405) C.1 C.2.1 dL_law_787 (by decide) (fun _ => ?_) (fun h9 => absurd (by decide) h9)
    refine lv_iinc (v := 6) (lv' := [(4, .int 6), (3, .ref qz), (2, .ref qm), (1, .ref qx), (0, .ref b)]) C.1 C.2.1 dL_law_1405 hl (k := 0) rfl (by decide) (by decide) rfl (fun ls hl => ?_)
    refine lv_goto (tgt := 23) C.1 C.2.1 dL_law_1408 (by decide) ?_
    exact law_tail C0 hw (Nat.le_of_ble_eq_true rfl) (Nat.le_of_ble_eq_true rfl) (lv_sub hl [0, 4] rfl)
  · skip
    refine lv_aload_n C.1 C.2.1 dL_law_767 rfl (lv_at hl 3 rfl) ?_
    refine lv_aload_n C.1 C.2.1 dL_law_768 rfl (lv_at hl 4 rfl) ?_
    refine lv_iload C.1 C.2.1 dL_law_769 (lv_at hl 0 rfl) ?_
    refine lv_iconst (v := 1) C.1 C.2.1 dL_law_771 (by decide) ?_
    refine lv_iadd C.1 C.2.1 dL_law_772 ?_
    refine x_topi (z := 1) (by decide) ?_
    refine va_sld C.1 C.2.1 hX hbl hbA hw.2.2.2.1 (i := 1) (x_in rfl) dL_law_773 ?_
    refine x_topi (z := (nI j9)) hx1 ?_
    refine x_calliV (As := [.int (nI j9)]) (rest := []) (wr := [(qm, .inr (10, [.int 0, .ref mtape, .int 0, .int 0, .int 0, .int 0, .int 0, .int 0, .int 0, .int 0, .int 0, .int 0, .long 0, .int 0, .ref mnow, .ref mread, .ref mkept, .ref msnaps, .ref maside, .ref mname, .ref mreadName, .ref mkeptName, .ref misKept, .ref monces, .int 0, .ref morder, .ref mordered, .int 0, .int 0, .int 0, .int (-1), .int (-1), .ref mtext, .int 0, .int 0, .ref mline, .ref mwritten, .int 0, .int 0, .ref mnode, .int 0, .int 0, .int 0, .int 0])), (mnow, eI G 339 nw0), (msnaps, eI G 264 (fun _ => 0))]) C hw (c_X10_hours__G qx qt qs qd qa qb qh qr qe qp qf qn qi qo apictures ashown asighed bpictures bshown bsighed hk hf hs hpictures hshown hsighed j9 hf0 h1 hj) mwX10_hours kw769 [0, 2, 3, 4, 5, 6, 7, 8, 9, 10, 11, 12, 13, 14, 15] [1, 16, 17] rfl rfl rfl rfl (by decide) 0 rfl rfl rfl rfl hl.1 rfl (Nat.le_of_ble_eq_true rfl) ⟨(Nat.le_of_ble_eq_true rfl), (Nat.le_of_ble_eq_true rfl)⟩ ⟨(Nat.le_of_ble_eq_true rfl), (Nat.le_of_ble_eq_true rfl)⟩ dL_law_774 (fun r1 u9 H locs hp9 hw => ?_)
    obtain ⟨rfl, rfl⟩ := hp9
    have hw : Wd G s (fun q : Nat => s.heap.size ≤ q) [(qm, .inr (10, [.int 0, .ref mtape, .int 0, .int 0, .int 0, .int 0, .int 0, .int 0, .int 0, .int 0, .int 0, .int 0, .long 0, .int 0, .ref mnow, .ref mread, .ref mkept, .ref msnaps, .ref maside, .ref mname, .ref mreadName, .ref mkeptName, .ref misKept, .ref monces, .int 0, .ref morder, .ref mordered, .int 0, .int 0, .int 0, .int (-1), .int (-1), .ref mtext, .int 0, .int 0, .ref mline, .ref mwritten, .int 0, .int 0, .ref mnode, .int 0, .int 0, .int 0, .int 0])), (mnow, eI G 339 nw0), (msnaps, eI G 264 (fun _ => 0))] H _ := hw
    refine lv_aload_n C.1 C.2.1 dL_law_777 rfl (lv_at hl 2 rfl) ?_
    refine lv_aload_n C.1 C.2.1 dL_law_778 rfl (lv_at hl 4 rfl) ?_
    refine lv_iload C.1 C.2.1 dL_law_779 (lv_at hl 0 rfl) ?_
    refine lv_iconst (v := 1) C.1 C.2.1 dL_law_781 (by decide) ?_
    refine lv_iadd C.1 C.2.1 dL_law_782 ?_
    refine x_topi (z := 1) (by decide) ?_
    refine va_sld C.1 C.2.1 hX hbl hbA hw.2.2.2.1 (i := 1) (x_in rfl) dL_law_783 ?_
    refine x_topi (z := (nI j9)) hx1 ?_
    refine x_calliV (As := [.int (nI j9)]) (rest := [.int (nI j9)]) (wr := []) C hw (c_X11_hours__G qm mtape mnow mread mkept msnaps maside mname mreadName mkeptName misKept monces morder mordered mtext mline mwritten mnode j9 h1 hj) mwX11_hours kw1597 [0, 1, 2] [] rfl rfl rfl rfl (by decide) 0 rfl rfl rfl rfl hl.1 rfl (Nat.le_of_ble_eq_true rfl) ⟨(Nat.le_of_ble_eq_true rfl), (Nat.le_of_ble_eq_true rfl)⟩ ⟨(Nat.le_of_ble_eq_true rfl), (Nat.le_of_ble_eq_true rfl)⟩ dL_law_784 (fun r2 u9 H locs hp9 hw => ?_)
    obtain ⟨rfl, rfl⟩ := hp9
    have hw : Wd G s (fun q : Nat => s.heap.size ≤ q) [] H _ := hw
    refine lv_icmp_eq (tgt := 1405) C.1 C.2.1 dL_law_787 (by decide) (fun _ => ?_) (fun h9 => absurd rfl h9)
    refine lv_iinc (v := 6) (lv' := [(4, .int 6), (3, .ref qz), (2, .ref qm), (1, .ref qx), (0, .ref b)]) C.1 C.2.1 dL_law_1405 hl (k := 0) rfl (by decide) (by decide) rfl (fun ls hl => ?_)
    refine lv_goto (tgt := 23) C.1 C.2.1 dL_law_1408 (by decide) ?_
    exact law_tail C0 hw (Nat.le_of_ble_eq_true rfl) (Nat.le_of_ble_eq_true rfl) (lv_sub hl [0, 4] rfl)
theorem dL_law_792 : decode cL_law 792 = .ok (.aload_n 1, 1) := by decide +kernel
theorem dL_law_793 : decode cL_law 793 = .ok (.invokevirtual 88, 3) := by decide +kernel
theorem mwX10_undo : MwV yX10_undo cX10_undo 1 (some .int) 0 := ⟨⟨kw790, kw1, by decide +kernel⟩, kw788, kw789⟩
theorem dL_law_796 : decode cL_law 796 = .ok (.aload_n 2, 1) := by decide +kernel
theorem dL_law_797 : decode cL_law 797 = .ok (.invokevirtual 91, 3) := by decide +kernel
theorem mwX11_undo : MwV yX11_undo cX11_undo 2 (some .int) 0 := ⟨⟨kw1596, kw15, by decide +kernel⟩, kw1594, kw1595⟩
theorem dL_law_800 : decode cL_law 800 = .ok (.if_icmp .eq 605, 3) := by decide +kernel
set_option maxHeartbeats 4000000 in
set_option maxRecDepth 100000 in
theorem law_undo {p : Program} {l : Launch} {e : Env} {s : State} {m : MethodId} {below : List Frame} {meth : Method} {c : Code} {G : Gc} {b : Nat} {xs : Nat → Int32} (hst : l.stackTraces = false) (qx : Nat) (qm : Nat) (qz : Nat) (qt : Nat) (qs : Nat) (qd : Nat) (qa : Nat) (qb : Nat) (qh : Nat) (qr : Nat) (qe : Nat) (qp : Nat) (qf : Nat) (qn : Nat) (qi : Nat) (qo : Nat) (hk : Nat) (mtape : Nat) (mnow : Nat) (mread : Nat) (mkept : Nat) (msnaps : Nat) (maside : Nat) (mname : Nat) (mreadName : Nat) (mkeptName : Nat) (misKept : Nat) (monces : Nat) (morder : Nat) (mordered : Nat) (mtext : Nat) (mline : Nat) (mwritten : Nat) (mnode : Nat) {A : Nat → Prop} (eA : A = fun q : Nat => s.heap.size ≤ q) {H : Heap} {locs : List Loc} {ls : Array Slot} (C0 : lw_At p s m meth c b 6 xs) (hw : Wd G s A [(qx, .inr (9, [.ref qt, .ref qs, .ref qd, .ref qa, .ref qb, .ref qh, .ref qr, .ref qe, .ref qp, .ref qf, .ref qn, .ref qi, .ref qo, .int 0, .int 0, .int (-1), .int (-1)])), (qh, .inr (2, [.ref hk, .int 0, .int 0])), (qm, .inr (10, [.int 0, .ref mtape, .int 0, .int 0, .int 0, .int 0, .int 0, .int 0, .int 0, .int 0, .int 0, .int 0, .long 0, .int 0, .ref mnow, .ref mread, .ref mkept, .ref msnaps, .ref maside, .ref mname, .ref mreadName, .ref mkeptName, .ref misKept, .ref monces, .int 0, .ref morder, .ref mordered, .int 0, .int 0, .int 0, .int (-1), .int (-1), .ref mtext, .int 0, .int 0, .ref mline, .ref mwritten, .int 0, .int 0, .ref mnode, .int 0, .int 0, .int 0, .int 0]))] H locs) (hl : lv_has ls 7 [(4, .int 0), (3, .ref qz), (2, .ref qm), (1, .ref qx), (0, .ref b)]) : W p l e room_1 s m #[Value.ref b] below meth c H locs 147 5480 (lw_Z below #[Value.ref b] s) (F0 m 792 ls []) := by
  subst eA
  obtain ⟨hx, hb, hr, hml, hown, hts, hX, hbl, hlocks, hgv⟩ := id C0
  have hbA : ¬ (fun q : Nat => s.heap.size ≤ q) b := Nat.not_le.mpr hbl
  have C : CallFix p m c code 7 s #[Value.ref b] gw "LanternStateLaw" := ⟨hx, hb, hml, hown, fun w h => hts w (gw_sub w h)⟩
  refine lv_aload_n C.1 C.2.1 dL_law_792 rfl (lv_at hl 3 rfl) ?_
  refine x_calliV (As := []) (rest := []) (wr := [(qm, .inr (10, [.int 0, .ref mtape, .int 0, .int 0, .int 0, .int 0, .int 0, .int 0, .int 0, .int 0, .int 0, .int 0, .long 0, .int 0, .ref mnow, .ref mread, .ref mkept, .ref msnaps, .ref maside, .ref mname, .ref mreadName, .ref mkeptName, .ref misKept, .ref monces, .int 0, .ref morder, .ref mordered, .int 0, .int 0, .int 0, .int (-1), .int (-1), .ref mtext, .int 0, .int 0, .ref mline, .ref mwritten, .int 0, .int 0, .ref mnode, .int 0, .int 0, .int 0, .int 0]))]) C hw (c_X10_undo qx qt qs qd qa qb qh qr qe qp qf qn qi qo hk) mwX10_undo kw787 [0, 1] [2] rfl rfl rfl rfl (by decide) 0 rfl rfl rfl rfl hl.1 rfl (Nat.le_of_ble_eq_true rfl) ⟨(Nat.le_of_ble_eq_true rfl), (Nat.le_of_ble_eq_true rfl)⟩ ⟨(Nat.le_of_ble_eq_true rfl), (Nat.le_of_ble_eq_true rfl)⟩ dL_law_793 (fun r1 u9 H locs hp9 hw => ?_)
  obtain ⟨rfl, rfl⟩ := hp9
  have hw : Wd G s (fun q : Nat => s.heap.size ≤ q) [(qm, .inr (10, [.int 0, .ref mtape, .int 0, .int 0, .int 0, .int 0, .int 0, .int 0, .int 0, .int 0, .int 0, .int 0, .long 0, .int 0, .ref mnow, .ref mread, .ref mkept, .ref msnaps, .ref maside, .ref mname, .ref mreadName, .ref mkeptName, .ref misKept, .ref monces, .int 0, .ref morder, .ref mordered, .int 0, .int 0, .int 0, .int (-1), .int (-1), .ref mtext, .int 0, .int 0, .ref mline, .ref mwritten, .int 0, .int 0, .ref mnode, .int 0, .int 0, .int 0, .int 0])), (qx, .inr (9, [.ref qt, .ref qs, .ref qd, .ref qa, .ref qb, .ref qh, .ref qr, .ref qe, .ref qp, .ref qf, .ref qn, .ref qi, .ref qo, .int 0, .int 0, .int (-1), .int (-1)])), (qh, .inr (2, [.ref hk, .int 0, .int 0]))] H _ := hw
  refine lv_aload_n C.1 C.2.1 dL_law_796 rfl (lv_at hl 2 rfl) ?_
  refine x_calliV (As := []) (rest := [.int (-1)]) (wr := [(qx, .inr (9, [.ref qt, .ref qs, .ref qd, .ref qa, .ref qb, .ref qh, .ref qr, .ref qe, .ref qp, .ref qf, .ref qn, .ref qi, .ref qo, .int 0, .int 0, .int (-1), .int (-1)])), (qh, .inr (2, [.ref hk, .int 0, .int 0]))]) C hw (c_X11_undo qm mtape mnow mread mkept msnaps maside mname mreadName mkeptName misKept monces morder mordered mtext mline mwritten mnode) mwX11_undo kw1593 [0] [1, 2] rfl rfl rfl rfl (by decide) 0 rfl rfl rfl rfl hl.1 rfl (Nat.le_of_ble_eq_true rfl) ⟨(Nat.le_of_ble_eq_true rfl), (Nat.le_of_ble_eq_true rfl)⟩ ⟨(Nat.le_of_ble_eq_true rfl), (Nat.le_of_ble_eq_true rfl)⟩ dL_law_797 (fun r2 u9 H locs hp9 hw => ?_)
  obtain ⟨rfl, rfl⟩ := hp9
  have hw : Wd G s (fun q : Nat => s.heap.size ≤ q) [(qx, .inr (9, [.ref qt, .ref qs, .ref qd, .ref qa, .ref qb, .ref qh, .ref qr, .ref qe, .ref qp, .ref qf, .ref qn, .ref qi, .ref qo, .int 0, .int 0, .int (-1), .int (-1)])), (qh, .inr (2, [.ref hk, .int 0, .int 0]))] H _ := hw
  refine lv_icmp_eq (tgt := 1405) C.1 C.2.1 dL_law_800 (by decide) (fun _ => ?_) (fun h9 => absurd (by decide) h9)
  refine lv_iinc (v := 6) (lv' := [(4, .int 6), (3, .ref qz), (2, .ref qm), (1, .ref qx), (0, .ref b)]) C.1 C.2.1 dL_law_1405 hl (k := 0) rfl (by decide) (by decide) rfl (fun ls hl => ?_)
  refine lv_goto (tgt := 23) C.1 C.2.1 dL_law_1408 (by decide) ?_
  exact law_tail C0 hw (Nat.le_of_ble_eq_true rfl) (Nat.le_of_ble_eq_true rfl) (lv_sub hl [0, 4] rfl)
theorem dL_law_805 : decode cL_law 805 = .ok (.aload_n 1, 1) := by decide +kernel
theorem dL_law_806 : decode cL_law 806 = .ok (.aload_n 0, 1) := by decide +kernel
theorem dL_law_807 : decode cL_law 807 = .ok (.iload 4, 2) := by decide +kernel
theorem dL_law_809 : decode cL_law 809 = .ok (.iconst 1, 1) := by decide +kernel
theorem dL_law_810 : decode cL_law 810 = .ok (.iadd, 1) := by decide +kernel
theorem dL_law_811 : decode cL_law 811 = .ok (.iaload, 1) := by decide +kernel
theorem dL_law_812 : decode cL_law 812 = .ok (.aload_n 0, 1) := by decide +kernel
theorem dL_law_813 : decode cL_law 813 = .ok (.iload 4, 2) := by decide +kernel
theorem dL_law_815 : decode cL_law 815 = .ok (.iconst 2, 1) := by decide +kernel
theorem dL_law_816 : decode cL_law 816 = .ok (.iadd, 1) := by decide +kernel
theorem dL_law_817 : decode cL_law 817 = .ok (.iaload, 1) := by decide +kernel
theorem dL_law_818 : decode cL_law 818 = .ok (.invokevirtual 92, 3) := by decide +kernel
theorem mwX10_sighs : MwV yX10_sighs cX10_sighs 3 (some .int) 2 := ⟨⟨kw798, kw1, by decide +kernel⟩, kw796, kw797⟩
theorem dL_law_821 : decode cL_law 821 = .ok (.aload_n 2, 1) := by decide +kernel
theorem dL_law_822 : decode cL_law 822 = .ok (.aload_n 0, 1) := by decide +kernel
theorem dL_law_823 : decode cL_law 823 = .ok (.iload 4, 2) := by decide +kernel
theorem dL_law_825 : decode cL_law 825 = .ok (.iconst 1, 1) := by decide +kernel
theorem dL_law_826 : decode cL_law 826 = .ok (.iadd, 1) := by decide +kernel
theorem dL_law_827 : decode cL_law 827 = .ok (.iaload, 1) := by decide +kernel
theorem dL_law_828 : decode cL_law 828 = .ok (.aload_n 0, 1) := by decide +kernel
theorem dL_law_829 : decode cL_law 829 = .ok (.iload 4, 2) := by decide +kernel
theorem dL_law_831 : decode cL_law 831 = .ok (.iconst 2, 1) := by decide +kernel
theorem dL_law_832 : decode cL_law 832 = .ok (.iadd, 1) := by decide +kernel
theorem dL_law_833 : decode cL_law 833 = .ok (.iaload, 1) := by decide +kernel
theorem dL_law_834 : decode cL_law 834 = .ok (.invokevirtual 95, 3) := by decide +kernel
theorem mwX11_sighs : MwV yX11_sighs cX11_sighs 3 (some .int) 2 := ⟨⟨kw1528, kw15, by decide +kernel⟩, kw1526, kw1527⟩
theorem dL_law_837 : decode cL_law 837 = .ok (.if_icmp .eq 568, 3) := by decide +kernel
set_option maxHeartbeats 4000000 in
set_option maxRecDepth 100000 in
theorem law_sighs {p : Program} {l : Launch} {e : Env} {s : State} {m : MethodId} {below : List Frame} {meth : Method} {c : Code} {G : Gc} {b : Nat} {xs : Nat → Int32} (hst : l.stackTraces = false) (qx : Nat) (qm : Nat) (qz : Nat) (qt : Nat) (qs : Nat) (qd : Nat) (qa : Nat) (qb : Nat) (qh : Nat) (qr : Nat) (qe : Nat) (qp : Nat) (qf : Nat) (qn : Nat) (qi : Nat) (qo : Nat) (sslideNames : Nat) (spictures : Nat) (sheats : Nat) (safter : Nat) (shearerNames : Nat) (sneeds : Nat) (slikes : Nat) (shates : Nat) (snear : Nat) (mtape : Nat) (mnow : Nat) (mread : Nat) (mkept : Nat) (msnaps : Nat) (maside : Nat) (mname : Nat) (mreadName : Nat) (mkeptName : Nat) (misKept : Nat) (monces : Nat) (morder : Nat) (mordered : Nat) (mtext : Nat) (mline : Nat) (mwritten : Nat) (mnode : Nat) {A : Nat → Prop} (eA : A = fun q : Nat => s.heap.size ≤ q) {H : Heap} {locs : List Loc} {ls : Array Slot} (C0 : lw_At p s m meth c b 6 xs) (hw : Wd G s A [(qx, .inr (9, [.ref qt, .ref qs, .ref qd, .ref qa, .ref qb, .ref qh, .ref qr, .ref qe, .ref qp, .ref qf, .ref qn, .ref qi, .ref qo, .int 0, .int 0, .int (-1), .int (-1)])), (qs, .inr (4, [.int 0, .int 0, .int 0, .int 0, .int 1, .int 0, .int 40, .int 0, .int 0, .ref sslideNames, .ref spictures, .ref sheats, .ref safter, .ref shearerNames, .ref sneeds, .ref slikes, .ref shates, .ref snear])), (qm, .inr (10, [.int 0, .ref mtape, .int 0, .int 0, .int 0, .int 0, .int 0, .int 0, .int 0, .int 0, .int 0, .int 0, .long 0, .int 0, .ref mnow, .ref mread, .ref mkept, .ref msnaps, .ref maside, .ref mname, .ref mreadName, .ref mkeptName, .ref misKept, .ref monces, .int 0, .ref morder, .ref mordered, .int 0, .int 0, .int 0, .int (-1), .int (-1), .ref mtext, .int 0, .int 0, .ref mline, .ref mwritten, .int 0, .int 0, .ref mnode, .int 0, .int 0, .int 0, .int 0])), (mnow, eI G 339 nw0)] H locs) (hl : lv_has ls 7 [(4, .int 0), (3, .ref qz), (2, .ref qm), (1, .ref qx), (0, .ref b)]) : W p l e room_1 s m #[Value.ref b] below meth c H locs 147 5480 (lw_Z below #[Value.ref b] s) (F0 m 805 ls []) := by
  subst eA
  obtain ⟨hx, hb, hr, hml, hown, hts, hX, hbl, hlocks, hgv⟩ := id C0
  have hbA : ¬ (fun q : Nat => s.heap.size ≤ q) b := Nat.not_le.mpr hbl
  have C : CallFix p m c code 7 s #[Value.ref b] gw "LanternStateLaw" := ⟨hx, hb, hml, hown, fun w h => hts w (gw_sub w h)⟩
  refine lv_aload_n C.1 C.2.1 dL_law_805 rfl (lv_at hl 3 rfl) ?_
  refine lv_aload_n C.1 C.2.1 dL_law_806 rfl (lv_at hl 4 rfl) ?_
  refine lv_iload C.1 C.2.1 dL_law_807 (lv_at hl 0 rfl) ?_
  refine lv_iconst (v := 1) C.1 C.2.1 dL_law_809 (by decide) ?_
  refine lv_iadd C.1 C.2.1 dL_law_810 ?_
  refine x_topi (z := 1) (by decide) ?_
  refine va_sld C.1 C.2.1 hX hbl hbA hw.2.2.2.1 (i := 1) (x_in rfl) dL_law_811 ?_
  refine x_topi (z := (xs 1)) rfl ?_
  refine lv_aload_n C.1 C.2.1 dL_law_812 rfl (lv_at hl 4 rfl) ?_
  refine lv_iload C.1 C.2.1 dL_law_813 (lv_at hl 0 rfl) ?_
  refine lv_iconst (v := 2) C.1 C.2.1 dL_law_815 (by decide) ?_
  refine lv_iadd C.1 C.2.1 dL_law_816 ?_
  refine x_topi (z := 2) (by decide) ?_
  refine va_sld C.1 C.2.1 hX hbl hbA hw.2.2.2.1 (i := 2) (x_in rfl) dL_law_817 ?_
  refine x_topi (z := (xs 2)) rfl ?_
  refine x_calliV (As := [.int (xs 1), .int (xs 2)]) (rest := []) (wr := [(qm, .inr (10, [.int 0, .ref mtape, .int 0, .int 0, .int 0, .int 0, .int 0, .int 0, .int 0, .int 0, .int 0, .int 0, .long 0, .int 0, .ref mnow, .ref mread, .ref mkept, .ref msnaps, .ref maside, .ref mname, .ref mreadName, .ref mkeptName, .ref misKept, .ref monces, .int 0, .ref morder, .ref mordered, .int 0, .int 0, .int 0, .int (-1), .int (-1), .ref mtext, .int 0, .int 0, .ref mline, .ref mwritten, .int 0, .int 0, .ref mnode, .int 0, .int 0, .int 0, .int 0])), (mnow, eI G 339 nw0)]) C hw (c_X10_sighs qx (xs 1) (xs 2) qt qs qd qa qb qh qr qe qp qf qn qi qo sslideNames spictures sheats safter shearerNames sneeds slikes shates snear) mwX10_sighs kw795 [0, 1] [2, 3] rfl rfl rfl rfl (by decide) 0 rfl rfl rfl rfl hl.1 rfl (Nat.le_of_ble_eq_true rfl) ⟨(Nat.le_of_ble_eq_true rfl), (Nat.le_of_ble_eq_true rfl)⟩ ⟨(Nat.le_of_ble_eq_true rfl), (Nat.le_of_ble_eq_true rfl)⟩ dL_law_818 (fun r1 u9 H locs hp9 hw => ?_)
  obtain ⟨rfl, rfl⟩ := hp9
  have hw : Wd G s (fun q : Nat => s.heap.size ≤ q) [(qm, .inr (10, [.int 0, .ref mtape, .int 0, .int 0, .int 0, .int 0, .int 0, .int 0, .int 0, .int 0, .int 0, .int 0, .long 0, .int 0, .ref mnow, .ref mread, .ref mkept, .ref msnaps, .ref maside, .ref mname, .ref mreadName, .ref mkeptName, .ref misKept, .ref monces, .int 0, .ref morder, .ref mordered, .int 0, .int 0, .int 0, .int (-1), .int (-1), .ref mtext, .int 0, .int 0, .ref mline, .ref mwritten, .int 0, .int 0, .ref mnode, .int 0, .int 0, .int 0, .int 0])), (mnow, eI G 339 nw0), (qx, .inr (9, [.ref qt, .ref qs, .ref qd, .ref qa, .ref qb, .ref qh, .ref qr, .ref qe, .ref qp, .ref qf, .ref qn, .ref qi, .ref qo, .int 0, .int 0, .int (-1), .int (-1)])), (qs, .inr (4, [.int 0, .int 0, .int 0, .int 0, .int 1, .int 0, .int 40, .int 0, .int 0, .ref sslideNames, .ref spictures, .ref sheats, .ref safter, .ref shearerNames, .ref sneeds, .ref slikes, .ref shates, .ref snear]))] H _ := hw
  refine lv_aload_n C.1 C.2.1 dL_law_821 rfl (lv_at hl 2 rfl) ?_
  refine lv_aload_n C.1 C.2.1 dL_law_822 rfl (lv_at hl 4 rfl) ?_
  refine lv_iload C.1 C.2.1 dL_law_823 (lv_at hl 0 rfl) ?_
  refine lv_iconst (v := 1) C.1 C.2.1 dL_law_825 (by decide) ?_
  refine lv_iadd C.1 C.2.1 dL_law_826 ?_
  refine x_topi (z := 1) (by decide) ?_
  refine va_sld C.1 C.2.1 hX hbl hbA hw.2.2.2.1 (i := 1) (x_in rfl) dL_law_827 ?_
  refine x_topi (z := (xs 1)) rfl ?_
  refine lv_aload_n C.1 C.2.1 dL_law_828 rfl (lv_at hl 4 rfl) ?_
  refine lv_iload C.1 C.2.1 dL_law_829 (lv_at hl 0 rfl) ?_
  refine lv_iconst (v := 2) C.1 C.2.1 dL_law_831 (by decide) ?_
  refine lv_iadd C.1 C.2.1 dL_law_832 ?_
  refine x_topi (z := 2) (by decide) ?_
  refine va_sld C.1 C.2.1 hX hbl hbA hw.2.2.2.1 (i := 2) (x_in rfl) dL_law_833 ?_
  refine x_topi (z := (xs 2)) rfl ?_
  refine x_calliV (As := [.int (xs 1), .int (xs 2)]) (rest := [.int (-1)]) (wr := [(qx, .inr (9, [.ref qt, .ref qs, .ref qd, .ref qa, .ref qb, .ref qh, .ref qr, .ref qe, .ref qp, .ref qf, .ref qn, .ref qi, .ref qo, .int 0, .int 0, .int (-1), .int (-1)])), (qs, .inr (4, [.int 0, .int 0, .int 0, .int 0, .int 1, .int 0, .int 40, .int 0, .int 0, .ref sslideNames, .ref spictures, .ref sheats, .ref safter, .ref shearerNames, .ref sneeds, .ref slikes, .ref shates, .ref snear]))]) C hw (c_X11_sighs qm (xs 1) (xs 2) mtape mnow mread mkept msnaps maside mname mreadName mkeptName misKept monces morder mordered mtext mline mwritten mnode) mwX11_sighs kw1525 [0, 1] [2, 3] rfl rfl rfl rfl (by decide) 0 rfl rfl rfl rfl hl.1 rfl (Nat.le_of_ble_eq_true rfl) ⟨(Nat.le_of_ble_eq_true rfl), (Nat.le_of_ble_eq_true rfl)⟩ ⟨(Nat.le_of_ble_eq_true rfl), (Nat.le_of_ble_eq_true rfl)⟩ dL_law_834 (fun r2 u9 H locs hp9 hw => ?_)
  obtain ⟨rfl, rfl⟩ := hp9
  have hw : Wd G s (fun q : Nat => s.heap.size ≤ q) [(qx, .inr (9, [.ref qt, .ref qs, .ref qd, .ref qa, .ref qb, .ref qh, .ref qr, .ref qe, .ref qp, .ref qf, .ref qn, .ref qi, .ref qo, .int 0, .int 0, .int (-1), .int (-1)])), (qs, .inr (4, [.int 0, .int 0, .int 0, .int 0, .int 1, .int 0, .int 40, .int 0, .int 0, .ref sslideNames, .ref spictures, .ref sheats, .ref safter, .ref shearerNames, .ref sneeds, .ref slikes, .ref shates, .ref snear]))] H _ := hw
  refine lv_icmp_eq (tgt := 1405) C.1 C.2.1 dL_law_837 (by decide) (fun _ => ?_) (fun h9 => absurd (by decide) h9)
  refine lv_iinc (v := 6) (lv' := [(4, .int 6), (3, .ref qz), (2, .ref qm), (1, .ref qx), (0, .ref b)]) C.1 C.2.1 dL_law_1405 hl (k := 0) rfl (by decide) (by decide) rfl (fun ls hl => ?_)
  refine lv_goto (tgt := 23) C.1 C.2.1 dL_law_1408 (by decide) ?_
  exact law_tail C0 hw (Nat.le_of_ble_eq_true rfl) (Nat.le_of_ble_eq_true rfl) (lv_sub hl [0, 4] rfl)
theorem dL_law_842 : decode cL_law 842 = .ok (.aload_n 1, 1) := by decide +kernel
theorem dL_law_843 : decode cL_law 843 = .ok (.aload_n 0, 1) := by decide +kernel
theorem dL_law_844 : decode cL_law 844 = .ok (.iload 4, 2) := by decide +kernel
theorem dL_law_846 : decode cL_law 846 = .ok (.iconst 1, 1) := by decide +kernel
theorem dL_law_847 : decode cL_law 847 = .ok (.iadd, 1) := by decide +kernel
theorem dL_law_848 : decode cL_law 848 = .ok (.iaload, 1) := by decide +kernel
theorem dL_law_849 : decode cL_law 849 = .ok (.invokevirtual 96, 3) := by decide +kernel
theorem mwX10_best : MwV yX10_best cX10_best 6 (some .int) 1 := ⟨⟨kw807, kw1, by decide +kernel⟩, kw805, kw806⟩
theorem dL_law_852 : decode cL_law 852 = .ok (.aload_n 2, 1) := by decide +kernel
theorem dL_law_853 : decode cL_law 853 = .ok (.aload_n 0, 1) := by decide +kernel
theorem dL_law_854 : decode cL_law 854 = .ok (.iload 4, 2) := by decide +kernel
theorem dL_law_856 : decode cL_law 856 = .ok (.iconst 1, 1) := by decide +kernel
theorem dL_law_857 : decode cL_law 857 = .ok (.iadd, 1) := by decide +kernel
theorem dL_law_858 : decode cL_law 858 = .ok (.iaload, 1) := by decide +kernel
theorem dL_law_859 : decode cL_law 859 = .ok (.invokevirtual 99, 3) := by decide +kernel
theorem mwX11_best : MwV yX11_best cX11_best 4 (some .int) 1 := ⟨⟨kw1548, kw15, by decide +kernel⟩, kw1546, kw1547⟩
theorem dL_law_862 : decode cL_law 862 = .ok (.if_icmp .eq 543, 3) := by decide +kernel
set_option maxHeartbeats 4000000 in
set_option maxRecDepth 100000 in
theorem law_best {p : Program} {l : Launch} {e : Env} {s : State} {m : MethodId} {below : List Frame} {meth : Method} {c : Code} {G : Gc} {b : Nat} {xs : Nat → Int32} (hst : l.stackTraces = false) (qx : Nat) (qm : Nat) (qz : Nat) (qt : Nat) (qs : Nat) (qd : Nat) (qa : Nat) (qb : Nat) (qh : Nat) (qr : Nat) (qe : Nat) (qp : Nat) (qf : Nat) (qn : Nat) (qi : Nat) (qo : Nat) (sslideNames : Nat) (spictures : Nat) (sheats : Nat) (safter : Nat) (shearerNames : Nat) (sneeds : Nat) (slikes : Nat) (shates : Nat) (snear : Nat) (mtape : Nat) (mnow : Nat) (mread : Nat) (mkept : Nat) (msnaps : Nat) (maside : Nat) (mname : Nat) (mreadName : Nat) (mkeptName : Nat) (misKept : Nat) (monces : Nat) (morder : Nat) (mordered : Nat) (mtext : Nat) (mline : Nat) (mwritten : Nat) (mnode : Nat) {A : Nat → Prop} (eA : A = fun q : Nat => s.heap.size ≤ q) {H : Heap} {locs : List Loc} {ls : Array Slot} (C0 : lw_At p s m meth c b 6 xs) (hw : Wd G s A [(qx, .inr (9, [.ref qt, .ref qs, .ref qd, .ref qa, .ref qb, .ref qh, .ref qr, .ref qe, .ref qp, .ref qf, .ref qn, .ref qi, .ref qo, .int 0, .int 0, .int (-1), .int (-1)])), (qs, .inr (4, [.int 0, .int 0, .int 0, .int 0, .int 1, .int 0, .int 40, .int 0, .int 0, .ref sslideNames, .ref spictures, .ref sheats, .ref safter, .ref shearerNames, .ref sneeds, .ref slikes, .ref shates, .ref snear])), (qm, .inr (10, [.int 0, .ref mtape, .int 0, .int 0, .int 0, .int 0, .int 0, .int 0, .int 0, .int 0, .int 0, .int 0, .long 0, .int 0, .ref mnow, .ref mread, .ref mkept, .ref msnaps, .ref maside, .ref mname, .ref mreadName, .ref mkeptName, .ref misKept, .ref monces, .int 0, .ref morder, .ref mordered, .int 0, .int 0, .int 0, .int (-1), .int (-1), .ref mtext, .int 0, .int 0, .ref mline, .ref mwritten, .int 0, .int 0, .ref mnode, .int 0, .int 0, .int 0, .int 0])), (mnow, eI G 339 nw0)] H locs) (hl : lv_has ls 7 [(4, .int 0), (3, .ref qz), (2, .ref qm), (1, .ref qx), (0, .ref b)]) : W p l e room_1 s m #[Value.ref b] below meth c H locs 147 5480 (lw_Z below #[Value.ref b] s) (F0 m 842 ls []) := by
  subst eA
  obtain ⟨hx, hb, hr, hml, hown, hts, hX, hbl, hlocks, hgv⟩ := id C0
  have hbA : ¬ (fun q : Nat => s.heap.size ≤ q) b := Nat.not_le.mpr hbl
  have C : CallFix p m c code 7 s #[Value.ref b] gw "LanternStateLaw" := ⟨hx, hb, hml, hown, fun w h => hts w (gw_sub w h)⟩
  refine lv_aload_n C.1 C.2.1 dL_law_842 rfl (lv_at hl 3 rfl) ?_
  refine lv_aload_n C.1 C.2.1 dL_law_843 rfl (lv_at hl 4 rfl) ?_
  refine lv_iload C.1 C.2.1 dL_law_844 (lv_at hl 0 rfl) ?_
  refine lv_iconst (v := 1) C.1 C.2.1 dL_law_846 (by decide) ?_
  refine lv_iadd C.1 C.2.1 dL_law_847 ?_
  refine x_topi (z := 1) (by decide) ?_
  refine va_sld C.1 C.2.1 hX hbl hbA hw.2.2.2.1 (i := 1) (x_in rfl) dL_law_848 ?_
  refine x_topi (z := (xs 1)) rfl ?_
  refine x_calliV (As := [.int (xs 1)]) (rest := []) (wr := [(qm, .inr (10, [.int 0, .ref mtape, .int 0, .int 0, .int 0, .int 0, .int 0, .int 0, .int 0, .int 0, .int 0, .int 0, .long 0, .int 0, .ref mnow, .ref mread, .ref mkept, .ref msnaps, .ref maside, .ref mname, .ref mreadName, .ref mkeptName, .ref misKept, .ref monces, .int 0, .ref morder, .ref mordered, .int 0, .int 0, .int 0, .int (-1), .int (-1), .ref mtext, .int 0, .int 0, .ref mline, .ref mwritten, .int 0, .int 0, .ref mnode, .int 0, .int 0, .int 0, .int 0])), (mnow, eI G 339 nw0)]) C hw (c_X10_best qx (xs 1) qt qs qd qa qb qh qr qe qp qf qn qi qo sslideNames spictures sheats safter shearerNames sneeds slikes shates snear) mwX10_best kw804 [0, 1] [2, 3] rfl rfl rfl rfl (by decide) 0 rfl rfl rfl rfl hl.1 rfl (Nat.le_of_ble_eq_true rfl) ⟨(Nat.le_of_ble_eq_true rfl), (Nat.le_of_ble_eq_true rfl)⟩ ⟨(Nat.le_of_ble_eq_true rfl), (Nat.le_of_ble_eq_true rfl)⟩ dL_law_849 (fun r1 u9 H locs hp9 hw => ?_)
  obtain ⟨rfl, rfl⟩ := hp9
  have hw : Wd G s (fun q : Nat => s.heap.size ≤ q) [(qm, .inr (10, [.int 0, .ref mtape, .int 0, .int 0, .int 0, .int 0, .int 0, .int 0, .int 0, .int 0, .int 0, .int 0, .long 0, .int 0, .ref mnow, .ref mread, .ref mkept, .ref msnaps, .ref maside, .ref mname, .ref mreadName, .ref mkeptName, .ref misKept, .ref monces, .int 0, .ref morder, .ref mordered, .int 0, .int 0, .int 0, .int (-1), .int (-1), .ref mtext, .int 0, .int 0, .ref mline, .ref mwritten, .int 0, .int 0, .ref mnode, .int 0, .int 0, .int 0, .int 0])), (mnow, eI G 339 nw0), (qx, .inr (9, [.ref qt, .ref qs, .ref qd, .ref qa, .ref qb, .ref qh, .ref qr, .ref qe, .ref qp, .ref qf, .ref qn, .ref qi, .ref qo, .int 0, .int 0, .int (-1), .int (-1)])), (qs, .inr (4, [.int 0, .int 0, .int 0, .int 0, .int 1, .int 0, .int 40, .int 0, .int 0, .ref sslideNames, .ref spictures, .ref sheats, .ref safter, .ref shearerNames, .ref sneeds, .ref slikes, .ref shates, .ref snear]))] H _ := hw
  refine lv_aload_n C.1 C.2.1 dL_law_852 rfl (lv_at hl 2 rfl) ?_
  refine lv_aload_n C.1 C.2.1 dL_law_853 rfl (lv_at hl 4 rfl) ?_
  refine lv_iload C.1 C.2.1 dL_law_854 (lv_at hl 0 rfl) ?_
  refine lv_iconst (v := 1) C.1 C.2.1 dL_law_856 (by decide) ?_
  refine lv_iadd C.1 C.2.1 dL_law_857 ?_
  refine x_topi (z := 1) (by decide) ?_
  refine va_sld C.1 C.2.1 hX hbl hbA hw.2.2.2.1 (i := 1) (x_in rfl) dL_law_858 ?_
  refine x_topi (z := (xs 1)) rfl ?_
  refine x_calliV (As := [.int (xs 1)]) (rest := [.int (-1)]) (wr := [(qx, .inr (9, [.ref qt, .ref qs, .ref qd, .ref qa, .ref qb, .ref qh, .ref qr, .ref qe, .ref qp, .ref qf, .ref qn, .ref qi, .ref qo, .int 0, .int 0, .int (-1), .int (-1)])), (qs, .inr (4, [.int 0, .int 0, .int 0, .int 0, .int 1, .int 0, .int 40, .int 0, .int 0, .ref sslideNames, .ref spictures, .ref sheats, .ref safter, .ref shearerNames, .ref sneeds, .ref slikes, .ref shates, .ref snear]))]) C hw (c_X11_best qm (xs 1) mtape mnow mread mkept msnaps maside mname mreadName mkeptName misKept monces morder mordered mtext mline mwritten mnode) mwX11_best kw1545 [0, 1] [2, 3] rfl rfl rfl rfl (by decide) 0 rfl rfl rfl rfl hl.1 rfl (Nat.le_of_ble_eq_true rfl) ⟨(Nat.le_of_ble_eq_true rfl), (Nat.le_of_ble_eq_true rfl)⟩ ⟨(Nat.le_of_ble_eq_true rfl), (Nat.le_of_ble_eq_true rfl)⟩ dL_law_859 (fun r2 u9 H locs hp9 hw => ?_)
  obtain ⟨rfl, rfl⟩ := hp9
  have hw : Wd G s (fun q : Nat => s.heap.size ≤ q) [(qx, .inr (9, [.ref qt, .ref qs, .ref qd, .ref qa, .ref qb, .ref qh, .ref qr, .ref qe, .ref qp, .ref qf, .ref qn, .ref qi, .ref qo, .int 0, .int 0, .int (-1), .int (-1)])), (qs, .inr (4, [.int 0, .int 0, .int 0, .int 0, .int 1, .int 0, .int 40, .int 0, .int 0, .ref sslideNames, .ref spictures, .ref sheats, .ref safter, .ref shearerNames, .ref sneeds, .ref slikes, .ref shates, .ref snear]))] H _ := hw
  refine lv_icmp_eq (tgt := 1405) C.1 C.2.1 dL_law_862 (by decide) (fun _ => ?_) (fun h9 => absurd (by decide) h9)
  refine lv_iinc (v := 6) (lv' := [(4, .int 6), (3, .ref qz), (2, .ref qm), (1, .ref qx), (0, .ref b)]) C.1 C.2.1 dL_law_1405 hl (k := 0) rfl (by decide) (by decide) rfl (fun ls hl => ?_)
  refine lv_goto (tgt := 23) C.1 C.2.1 dL_law_1408 (by decide) ?_
  exact law_tail C0 hw (Nat.le_of_ble_eq_true rfl) (Nat.le_of_ble_eq_true rfl) (lv_sub hl [0, 4] rfl)
theorem dL_law_867 : decode cL_law 867 = .ok (.aload_n 1, 1) := by decide +kernel
theorem dL_law_868 : decode cL_law 868 = .ok (.aload_n 0, 1) := by decide +kernel
theorem dL_law_869 : decode cL_law 869 = .ok (.iload 4, 2) := by decide +kernel
theorem dL_law_871 : decode cL_law 871 = .ok (.iconst 1, 1) := by decide +kernel
theorem dL_law_872 : decode cL_law 872 = .ok (.iadd, 1) := by decide +kernel
theorem dL_law_873 : decode cL_law 873 = .ok (.iaload, 1) := by decide +kernel
theorem dL_law_874 : decode cL_law 874 = .ok (.invokevirtual 100, 3) := by decide +kernel
theorem mwX10_spreads : MwV yX10_spreads cX10_spreads 2 (some .int) 1 := ⟨⟨kw812, kw1, by decide +kernel⟩, kw810, kw811⟩
theorem dL_law_877 : decode cL_law 877 = .ok (.aload_n 2, 1) := by decide +kernel
theorem dL_law_878 : decode cL_law 878 = .ok (.aload_n 0, 1) := by decide +kernel
theorem dL_law_879 : decode cL_law 879 = .ok (.iload 4, 2) := by decide +kernel
theorem dL_law_881 : decode cL_law 881 = .ok (.iconst 1, 1) := by decide +kernel
theorem dL_law_882 : decode cL_law 882 = .ok (.iadd, 1) := by decide +kernel
theorem dL_law_883 : decode cL_law 883 = .ok (.iaload, 1) := by decide +kernel
theorem dL_law_884 : decode cL_law 884 = .ok (.invokevirtual 103, 3) := by decide +kernel
theorem mwX11_spreads : MwV yX11_spreads cX11_spreads 2 (some .int) 1 := ⟨⟨kw1552, kw15, by decide +kernel⟩, kw1550, kw1551⟩
theorem dL_law_887 : decode cL_law 887 = .ok (.if_icmp .eq 518, 3) := by decide +kernel
set_option maxHeartbeats 4000000 in
set_option maxRecDepth 100000 in
theorem law_spreads {p : Program} {l : Launch} {e : Env} {s : State} {m : MethodId} {below : List Frame} {meth : Method} {c : Code} {G : Gc} {b : Nat} {xs : Nat → Int32} (hst : l.stackTraces = false) (qx : Nat) (qm : Nat) (qz : Nat) (qt : Nat) (qs : Nat) (qd : Nat) (qa : Nat) (qb : Nat) (qh : Nat) (qr : Nat) (qe : Nat) (qp : Nat) (qf : Nat) (qn : Nat) (qi : Nat) (qo : Nat) (sslideNames : Nat) (spictures : Nat) (sheats : Nat) (safter : Nat) (shearerNames : Nat) (sneeds : Nat) (slikes : Nat) (shates : Nat) (snear : Nat) (mtape : Nat) (mnow : Nat) (mread : Nat) (mkept : Nat) (msnaps : Nat) (maside : Nat) (mname : Nat) (mreadName : Nat) (mkeptName : Nat) (misKept : Nat) (monces : Nat) (morder : Nat) (mordered : Nat) (mtext : Nat) (mline : Nat) (mwritten : Nat) (mnode : Nat) {A : Nat → Prop} (eA : A = fun q : Nat => s.heap.size ≤ q) {H : Heap} {locs : List Loc} {ls : Array Slot} (C0 : lw_At p s m meth c b 6 xs) (hw : Wd G s A [(qx, .inr (9, [.ref qt, .ref qs, .ref qd, .ref qa, .ref qb, .ref qh, .ref qr, .ref qe, .ref qp, .ref qf, .ref qn, .ref qi, .ref qo, .int 0, .int 0, .int (-1), .int (-1)])), (qs, .inr (4, [.int 0, .int 0, .int 0, .int 0, .int 1, .int 0, .int 40, .int 0, .int 0, .ref sslideNames, .ref spictures, .ref sheats, .ref safter, .ref shearerNames, .ref sneeds, .ref slikes, .ref shates, .ref snear])), (qm, .inr (10, [.int 0, .ref mtape, .int 0, .int 0, .int 0, .int 0, .int 0, .int 0, .int 0, .int 0, .int 0, .int 0, .long 0, .int 0, .ref mnow, .ref mread, .ref mkept, .ref msnaps, .ref maside, .ref mname, .ref mreadName, .ref mkeptName, .ref misKept, .ref monces, .int 0, .ref morder, .ref mordered, .int 0, .int 0, .int 0, .int (-1), .int (-1), .ref mtext, .int 0, .int 0, .ref mline, .ref mwritten, .int 0, .int 0, .ref mnode, .int 0, .int 0, .int 0, .int 0])), (mnow, eI G 339 nw0)] H locs) (hl : lv_has ls 7 [(4, .int 0), (3, .ref qz), (2, .ref qm), (1, .ref qx), (0, .ref b)]) : W p l e room_1 s m #[Value.ref b] below meth c H locs 147 5480 (lw_Z below #[Value.ref b] s) (F0 m 867 ls []) := by
  subst eA
  obtain ⟨hx, hb, hr, hml, hown, hts, hX, hbl, hlocks, hgv⟩ := id C0
  have hbA : ¬ (fun q : Nat => s.heap.size ≤ q) b := Nat.not_le.mpr hbl
  have C : CallFix p m c code 7 s #[Value.ref b] gw "LanternStateLaw" := ⟨hx, hb, hml, hown, fun w h => hts w (gw_sub w h)⟩
  by_cases h0 : xs 1 = 0
  · skip
    refine lv_aload_n C.1 C.2.1 dL_law_867 rfl (lv_at hl 3 rfl) ?_
    refine lv_aload_n C.1 C.2.1 dL_law_868 rfl (lv_at hl 4 rfl) ?_
    refine lv_iload C.1 C.2.1 dL_law_869 (lv_at hl 0 rfl) ?_
    refine lv_iconst (v := 1) C.1 C.2.1 dL_law_871 (by decide) ?_
    refine lv_iadd C.1 C.2.1 dL_law_872 ?_
    refine x_topi (z := 1) (by decide) ?_
    refine va_sld C.1 C.2.1 hX hbl hbA hw.2.2.2.1 (i := 1) (x_in rfl) dL_law_873 ?_
    refine x_topi (z := 0) h0 ?_
    refine x_calliV (As := [.int 0]) (rest := []) (wr := [(qm, .inr (10, [.int 0, .ref mtape, .int 0, .int 0, .int 0, .int 0, .int 0, .int 0, .int 0, .int 0, .int 0, .int 0, .long 0, .int 0, .ref mnow, .ref mread, .ref mkept, .ref msnaps, .ref maside, .ref mname, .ref mreadName, .ref mkeptName, .ref misKept, .ref monces, .int 0, .ref morder, .ref mordered, .int 0, .int 0, .int 0, .int (-1), .int (-1), .ref mtext, .int 0, .int 0, .ref mline, .ref mwritten, .int 0, .int 0, .ref mnode, .int 0, .int 0, .int 0, .int 0])), (mnow, eI G 339 nw0)]) C hw (c_X10_spreads__0 qx qt qs qd qa qb qh qr qe qp qf qn qi qo sslideNames spictures sheats safter shearerNames sneeds slikes shates snear) mwX10_spreads kw809 [0, 1] [2, 3] rfl rfl rfl rfl (by decide) 0 rfl rfl rfl rfl hl.1 rfl (Nat.le_of_ble_eq_true rfl) ⟨(Nat.le_of_ble_eq_true rfl), (Nat.le_of_ble_eq_true rfl)⟩ ⟨(Nat.le_of_ble_eq_true rfl), (Nat.le_of_ble_eq_true rfl)⟩ dL_law_874 (fun r1 u9 H locs hp9 hw => ?_)
    obtain ⟨rfl, rfl⟩ := hp9
    have hw : Wd G s (fun q : Nat => s.heap.size ≤ q) [(qm, .inr (10, [.int 0, .ref mtape, .int 0, .int 0, .int 0, .int 0, .int 0, .int 0, .int 0, .int 0, .int 0, .int 0, .long 0, .int 0, .ref mnow, .ref mread, .ref mkept, .ref msnaps, .ref maside, .ref mname, .ref mreadName, .ref mkeptName, .ref misKept, .ref monces, .int 0, .ref morder, .ref mordered, .int 0, .int 0, .int 0, .int (-1), .int (-1), .ref mtext, .int 0, .int 0, .ref mline, .ref mwritten, .int 0, .int 0, .ref mnode, .int 0, .int 0, .int 0, .int 0])), (mnow, eI G 339 nw0), (qx, .inr (9, [.ref qt, .ref qs, .ref qd, .ref qa, .ref qb, .ref qh, .ref qr, .ref qe, .ref qp, .ref qf, .ref qn, .ref qi, .ref qo, .int 0, .int 0, .int (-1), .int (-1)])), (qs, .inr (4, [.int 0, .int 0, .int 0, .int 0, .int 1, .int 0, .int 40, .int 0, .int 0, .ref sslideNames, .ref spictures, .ref sheats, .ref safter, .ref shearerNames, .ref sneeds, .ref slikes, .ref shates, .ref snear]))] H _ := hw
    refine lv_aload_n C.1 C.2.1 dL_law_877 rfl (lv_at hl 2 rfl) ?_
    refine lv_aload_n C.1 C.2.1 dL_law_878 rfl (lv_at hl 4 rfl) ?_
    refine lv_iload C.1 C.2.1 dL_law_879 (lv_at hl 0 rfl) ?_
    refine lv_iconst (v := 1) C.1 C.2.1 dL_law_881 (by decide) ?_
    refine lv_iadd C.1 C.2.1 dL_law_882 ?_
    refine x_topi (z := 1) (by decide) ?_
    refine va_sld C.1 C.2.1 hX hbl hbA hw.2.2.2.1 (i := 1) (x_in rfl) dL_law_883 ?_
    refine x_topi (z := 0) h0 ?_
    refine x_calliV (As := [.int 0]) (rest := [.int 0]) (wr := [(qx, .inr (9, [.ref qt, .ref qs, .ref qd, .ref qa, .ref qb, .ref qh, .ref qr, .ref qe, .ref qp, .ref qf, .ref qn, .ref qi, .ref qo, .int 0, .int 0, .int (-1), .int (-1)])), (qs, .inr (4, [.int 0, .int 0, .int 0, .int 0, .int 1, .int 0, .int 40, .int 0, .int 0, .ref sslideNames, .ref spictures, .ref sheats, .ref safter, .ref shearerNames, .ref sneeds, .ref slikes, .ref shates, .ref snear]))]) C hw (c_X11_spreads__0 qm mtape mnow mread mkept msnaps maside mname mreadName mkeptName misKept monces morder mordered mtext mline mwritten mnode) mwX11_spreads kw1549 [0, 1] [2, 3] rfl rfl rfl rfl (by decide) 0 rfl rfl rfl rfl hl.1 rfl (Nat.le_of_ble_eq_true rfl) ⟨(Nat.le_of_ble_eq_true rfl), (Nat.le_of_ble_eq_true rfl)⟩ ⟨(Nat.le_of_ble_eq_true rfl), (Nat.le_of_ble_eq_true rfl)⟩ dL_law_884 (fun r2 u9 H locs hp9 hw => ?_)
    obtain ⟨rfl, rfl⟩ := hp9
    have hw : Wd G s (fun q : Nat => s.heap.size ≤ q) [(qx, .inr (9, [.ref qt, .ref qs, .ref qd, .ref qa, .ref qb, .ref qh, .ref qr, .ref qe, .ref qp, .ref qf, .ref qn, .ref qi, .ref qo, .int 0, .int 0, .int (-1), .int (-1)])), (qs, .inr (4, [.int 0, .int 0, .int 0, .int 0, .int 1, .int 0, .int 40, .int 0, .int 0, .ref sslideNames, .ref spictures, .ref sheats, .ref safter, .ref shearerNames, .ref sneeds, .ref slikes, .ref shates, .ref snear]))] H _ := hw
    refine lv_icmp_eq (tgt := 1405) C.1 C.2.1 dL_law_887 (by decide) (fun _ => ?_) (fun h9 => absurd (by decide) h9)
    refine lv_iinc (v := 6) (lv' := [(4, .int 6), (3, .ref qz), (2, .ref qm), (1, .ref qx), (0, .ref b)]) C.1 C.2.1 dL_law_1405 hl (k := 0) rfl (by decide) (by decide) rfl (fun ls hl => ?_)
    refine lv_goto (tgt := 23) C.1 C.2.1 dL_law_1408 (by decide) ?_
    exact law_tail C0 hw (Nat.le_of_ble_eq_true rfl) (Nat.le_of_ble_eq_true rfl) (lv_sub hl [0, 4] rfl)
  · skip
    refine lv_aload_n C.1 C.2.1 dL_law_867 rfl (lv_at hl 3 rfl) ?_
    refine lv_aload_n C.1 C.2.1 dL_law_868 rfl (lv_at hl 4 rfl) ?_
    refine lv_iload C.1 C.2.1 dL_law_869 (lv_at hl 0 rfl) ?_
    refine lv_iconst (v := 1) C.1 C.2.1 dL_law_871 (by decide) ?_
    refine lv_iadd C.1 C.2.1 dL_law_872 ?_
    refine x_topi (z := 1) (by decide) ?_
    refine va_sld C.1 C.2.1 hX hbl hbA hw.2.2.2.1 (i := 1) (x_in rfl) dL_law_873 ?_
    refine x_topi (z := (xs 1)) rfl ?_
    refine x_calliV (As := [.int (xs 1)]) (rest := []) (wr := [(qm, .inr (10, [.int 0, .ref mtape, .int 0, .int 0, .int 0, .int 0, .int 0, .int 0, .int 0, .int 0, .int 0, .int 0, .long 0, .int 0, .ref mnow, .ref mread, .ref mkept, .ref msnaps, .ref maside, .ref mname, .ref mreadName, .ref mkeptName, .ref misKept, .ref monces, .int 0, .ref morder, .ref mordered, .int 0, .int 0, .int 0, .int (-1), .int (-1), .ref mtext, .int 0, .int 0, .ref mline, .ref mwritten, .int 0, .int 0, .ref mnode, .int 0, .int 0, .int 0, .int 0])), (mnow, eI G 339 nw0)]) C hw (c_X10_spreads__N qx (xs 1) qt qs qd qa qb qh qr qe qp qf qn qi qo sslideNames spictures sheats safter shearerNames sneeds slikes shates snear h0) mwX10_spreads kw809 [0, 1] [2, 3] rfl rfl rfl rfl (by decide) 0 rfl rfl rfl rfl hl.1 rfl (Nat.le_of_ble_eq_true rfl) ⟨(Nat.le_of_ble_eq_true rfl), (Nat.le_of_ble_eq_true rfl)⟩ ⟨(Nat.le_of_ble_eq_true rfl), (Nat.le_of_ble_eq_true rfl)⟩ dL_law_874 (fun r1 u9 H locs hp9 hw => ?_)
    obtain ⟨rfl, rfl⟩ := hp9
    have hw : Wd G s (fun q : Nat => s.heap.size ≤ q) [(qm, .inr (10, [.int 0, .ref mtape, .int 0, .int 0, .int 0, .int 0, .int 0, .int 0, .int 0, .int 0, .int 0, .int 0, .long 0, .int 0, .ref mnow, .ref mread, .ref mkept, .ref msnaps, .ref maside, .ref mname, .ref mreadName, .ref mkeptName, .ref misKept, .ref monces, .int 0, .ref morder, .ref mordered, .int 0, .int 0, .int 0, .int (-1), .int (-1), .ref mtext, .int 0, .int 0, .ref mline, .ref mwritten, .int 0, .int 0, .ref mnode, .int 0, .int 0, .int 0, .int 0])), (mnow, eI G 339 nw0), (qx, .inr (9, [.ref qt, .ref qs, .ref qd, .ref qa, .ref qb, .ref qh, .ref qr, .ref qe, .ref qp, .ref qf, .ref qn, .ref qi, .ref qo, .int 0, .int 0, .int (-1), .int (-1)])), (qs, .inr (4, [.int 0, .int 0, .int 0, .int 0, .int 1, .int 0, .int 40, .int 0, .int 0, .ref sslideNames, .ref spictures, .ref sheats, .ref safter, .ref shearerNames, .ref sneeds, .ref slikes, .ref shates, .ref snear]))] H _ := hw
    refine lv_aload_n C.1 C.2.1 dL_law_877 rfl (lv_at hl 2 rfl) ?_
    refine lv_aload_n C.1 C.2.1 dL_law_878 rfl (lv_at hl 4 rfl) ?_
    refine lv_iload C.1 C.2.1 dL_law_879 (lv_at hl 0 rfl) ?_
    refine lv_iconst (v := 1) C.1 C.2.1 dL_law_881 (by decide) ?_
    refine lv_iadd C.1 C.2.1 dL_law_882 ?_
    refine x_topi (z := 1) (by decide) ?_
    refine va_sld C.1 C.2.1 hX hbl hbA hw.2.2.2.1 (i := 1) (x_in rfl) dL_law_883 ?_
    refine x_topi (z := (xs 1)) rfl ?_
    refine x_calliV (As := [.int (xs 1)]) (rest := [.int (-1)]) (wr := [(qx, .inr (9, [.ref qt, .ref qs, .ref qd, .ref qa, .ref qb, .ref qh, .ref qr, .ref qe, .ref qp, .ref qf, .ref qn, .ref qi, .ref qo, .int 0, .int 0, .int (-1), .int (-1)])), (qs, .inr (4, [.int 0, .int 0, .int 0, .int 0, .int 1, .int 0, .int 40, .int 0, .int 0, .ref sslideNames, .ref spictures, .ref sheats, .ref safter, .ref shearerNames, .ref sneeds, .ref slikes, .ref shates, .ref snear]))]) C hw (c_X11_spreads__N qm (xs 1) mtape mnow mread mkept msnaps maside mname mreadName mkeptName misKept monces morder mordered mtext mline mwritten mnode h0) mwX11_spreads kw1549 [0, 1] [2, 3] rfl rfl rfl rfl (by decide) 0 rfl rfl rfl rfl hl.1 rfl (Nat.le_of_ble_eq_true rfl) ⟨(Nat.le_of_ble_eq_true rfl), (Nat.le_of_ble_eq_true rfl)⟩ ⟨(Nat.le_of_ble_eq_true rfl), (Nat.le_of_ble_eq_true rfl)⟩ dL_law_884 (fun r2 u9 H locs hp9 hw => ?_)
    obtain ⟨rfl, rfl⟩ := hp9
    have hw : Wd G s (fun q : Nat => s.heap.size ≤ q) [(qx, .inr (9, [.ref qt, .ref qs, .ref qd, .ref qa, .ref qb, .ref qh, .ref qr, .ref qe, .ref qp, .ref qf, .ref qn, .ref qi, .ref qo, .int 0, .int 0, .int (-1), .int (-1)])), (qs, .inr (4, [.int 0, .int 0, .int 0, .int 0, .int 1, .int 0, .int 40, .int 0, .int 0, .ref sslideNames, .ref spictures, .ref sheats, .ref safter, .ref shearerNames, .ref sneeds, .ref slikes, .ref shates, .ref snear]))] H _ := hw
    refine lv_icmp_eq (tgt := 1405) C.1 C.2.1 dL_law_887 (by decide) (fun _ => ?_) (fun h9 => absurd (by decide) h9)
    refine lv_iinc (v := 6) (lv' := [(4, .int 6), (3, .ref qz), (2, .ref qm), (1, .ref qx), (0, .ref b)]) C.1 C.2.1 dL_law_1405 hl (k := 0) rfl (by decide) (by decide) rfl (fun ls hl => ?_)
    refine lv_goto (tgt := 23) C.1 C.2.1 dL_law_1408 (by decide) ?_
    exact law_tail C0 hw (Nat.le_of_ble_eq_true rfl) (Nat.le_of_ble_eq_true rfl) (lv_sub hl [0, 4] rfl)
theorem dL_law_892 : decode cL_law 892 = .ok (.aload_n 1, 1) := by decide +kernel
theorem dL_law_893 : decode cL_law 893 = .ok (.invokevirtual 104, 3) := by decide +kernel
theorem mwX10_order : MwV yX10_order cX10_order 1 (some .int) 0 := ⟨⟨kw817, kw1, by decide +kernel⟩, kw815, kw816⟩
theorem dL_law_896 : decode cL_law 896 = .ok (.aload_n 2, 1) := by decide +kernel
theorem dL_law_897 : decode cL_law 897 = .ok (.invokevirtual 107, 3) := by decide +kernel
theorem mwX11_order : MwV yX11_order cX11_order 2 (some .int) 0 := ⟨⟨kw1615, kw15, by decide +kernel⟩, kw1613, kw1614⟩
theorem dL_law_900 : decode cL_law 900 = .ok (.if_icmp .eq 505, 3) := by decide +kernel
set_option maxHeartbeats 4000000 in
set_option maxRecDepth 100000 in
theorem law_order {p : Program} {l : Launch} {e : Env} {s : State} {m : MethodId} {below : List Frame} {meth : Method} {c : Code} {G : Gc} {b : Nat} {xs : Nat → Int32} (hst : l.stackTraces = false) (qx : Nat) (qm : Nat) (qz : Nat) (qt : Nat) (qs : Nat) (qd : Nat) (qa : Nat) (qb : Nat) (qh : Nat) (qr : Nat) (qe : Nat) (qp : Nat) (qf : Nat) (qn : Nat) (qi : Nat) (qo : Nat) (fbestPath : Nat) (fpath : Nat) (sslideNames : Nat) (spictures : Nat) (sheats : Nat) (safter : Nat) (shearerNames : Nat) (sneeds : Nat) (slikes : Nat) (shates : Nat) (snear : Nat) (apictures : Nat) (ashown : Nat) (asighed : Nat) (mtape : Nat) (mnow : Nat) (mread : Nat) (mkept : Nat) (msnaps : Nat) (maside : Nat) (mname : Nat) (mreadName : Nat) (mkeptName : Nat) (misKept : Nat) (monces : Nat) (morder : Nat) (mordered : Nat) (mtext : Nat) (mline : Nat) (mwritten : Nat) (mnode : Nat) {A : Nat → Prop} (eA : A = fun q : Nat => s.heap.size ≤ q) {H : Heap} {locs : List Loc} {ls : Array Slot} (C0 : lw_At p s m meth c b 6 xs) (hw : Wd G s A [(qx, .inr (9, [.ref qt, .ref qs, .ref qd, .ref qa, .ref qb, .ref qh, .ref qr, .ref qe, .ref qp, .ref qf, .ref qn, .ref qi, .ref qo, .int 0, .int 0, .int (-1), .int (-1)])), (qf, .inr (5, [.ref fbestPath, .int 0, .int 0, .ref fpath, .int 0, .int 0, .int 0])), (fbestPath, eI G 6 (fun _ => 0)), (fpath, eI G 6 (fun _ => 0)), (qs, .inr (4, [.int 0, .int 0, .int 0, .int 0, .int 1, .int 0, .int 40, .int 0, .int 0, .ref sslideNames, .ref spictures, .ref sheats, .ref safter, .ref shearerNames, .ref sneeds, .ref slikes, .ref shates, .ref snear])), (qa, .inr (7, [.int 0, .int 0, .int 0, .int 0, .int 0, .int 0, .int 0, .int 0, .ref apictures, .ref ashown, .ref asighed])), (qm, .inr (10, [.int 0, .ref mtape, .int 0, .int 0, .int 0, .int 0, .int 0, .int 0, .int 0, .int 0, .int 0, .int 0, .long 0, .int 0, .ref mnow, .ref mread, .ref mkept, .ref msnaps, .ref maside, .ref mname, .ref mreadName, .ref mkeptName, .ref misKept, .ref monces, .int 0, .ref morder, .ref mordered, .int 0, .int 0, .int 0, .int (-1), .int (-1), .ref mtext, .int 0, .int 0, .ref mline, .ref mwritten, .int 0, .int 0, .ref mnode, .int 0, .int 0, .int 0, .int 0])), (mnow, eI G 339 nw0)] H locs) (hl : lv_has ls 7 [(4, .int 0), (3, .ref qz), (2, .ref qm), (1, .ref qx), (0, .ref b)]) : W p l e room_1 s m #[Value.ref b] below meth c H locs 147 5480 (lw_Z below #[Value.ref b] s) (F0 m 892 ls []) := by
  subst eA
  obtain ⟨hx, hb, hr, hml, hown, hts, hX, hbl, hlocks, hgv⟩ := id C0
  have hbA : ¬ (fun q : Nat => s.heap.size ≤ q) b := Nat.not_le.mpr hbl
  have C : CallFix p m c code 7 s #[Value.ref b] gw "LanternStateLaw" := ⟨hx, hb, hml, hown, fun w h => hts w (gw_sub w h)⟩
  refine lv_aload_n C.1 C.2.1 dL_law_892 rfl (lv_at hl 3 rfl) ?_
  refine x_calliV (As := []) (rest := []) (wr := [(qm, .inr (10, [.int 0, .ref mtape, .int 0, .int 0, .int 0, .int 0, .int 0, .int 0, .int 0, .int 0, .int 0, .int 0, .long 0, .int 0, .ref mnow, .ref mread, .ref mkept, .ref msnaps, .ref maside, .ref mname, .ref mreadName, .ref mkeptName, .ref misKept, .ref monces, .int 0, .ref morder, .ref mordered, .int 0, .int 0, .int 0, .int (-1), .int (-1), .ref mtext, .int 0, .int 0, .ref mline, .ref mwritten, .int 0, .int 0, .ref mnode, .int 0, .int 0, .int 0, .int 0])), (mnow, eI G 339 nw0)]) C hw (c_X10_order qx qt qs qd qa qb qh qr qe qp qf qn qi qo fbestPath fpath sslideNames spictures sheats safter shearerNames sneeds slikes shates snear apictures ashown asighed) mwX10_order kw814 [0, 1, 2, 3, 4, 5] [6, 7] rfl rfl rfl rfl (by decide) 0 rfl rfl rfl rfl hl.1 rfl (Nat.le_of_ble_eq_true rfl) ⟨(Nat.le_of_ble_eq_true rfl), (Nat.le_of_ble_eq_true rfl)⟩ ⟨(Nat.le_of_ble_eq_true rfl), (Nat.le_of_ble_eq_true rfl)⟩ dL_law_893 (fun r1 u9 H locs hp9 hw => ?_)
  obtain ⟨rfl, rfl⟩ := hp9
  have hw : Wd G s (fun q : Nat => s.heap.size ≤ q) [(qm, .inr (10, [.int 0, .ref mtape, .int 0, .int 0, .int 0, .int 0, .int 0, .int 0, .int 0, .int 0, .int 0, .int 0, .long 0, .int 0, .ref mnow, .ref mread, .ref mkept, .ref msnaps, .ref maside, .ref mname, .ref mreadName, .ref mkeptName, .ref misKept, .ref monces, .int 0, .ref morder, .ref mordered, .int 0, .int 0, .int 0, .int (-1), .int (-1), .ref mtext, .int 0, .int 0, .ref mline, .ref mwritten, .int 0, .int 0, .ref mnode, .int 0, .int 0, .int 0, .int 0])), (mnow, eI G 339 nw0), (qx, .inr (9, [.ref qt, .ref qs, .ref qd, .ref qa, .ref qb, .ref qh, .ref qr, .ref qe, .ref qp, .ref qf, .ref qn, .ref qi, .ref qo, .int 0, .int 0, .int (-1), .int (-1)])), (qf, .inr (5, [.ref fbestPath, .int 0, .int 0, .ref fpath, .int 0, .int 0, .int 0])), (fbestPath, eI G 6 (fun _ => 0)), (fpath, eI G 6 (fun _ => 0)), (qs, .inr (4, [.int 0, .int 0, .int 0, .int 0, .int 1, .int 0, .int 40, .int 0, .int 0, .ref sslideNames, .ref spictures, .ref sheats, .ref safter, .ref shearerNames, .ref sneeds, .ref slikes, .ref shates, .ref snear])), (qa, .inr (7, [.int 0, .int 0, .int 0, .int 0, .int 0, .int 0, .int 0, .int 0, .ref apictures, .ref ashown, .ref asighed]))] H _ := hw
  refine lv_aload_n C.1 C.2.1 dL_law_896 rfl (lv_at hl 2 rfl) ?_
  refine x_calliV (As := []) (rest := [.int 0]) (wr := [(qx, .inr (9, [.ref qt, .ref qs, .ref qd, .ref qa, .ref qb, .ref qh, .ref qr, .ref qe, .ref qp, .ref qf, .ref qn, .ref qi, .ref qo, .int 0, .int 0, .int (-1), .int (-1)])), (qf, .inr (5, [.ref fbestPath, .int 0, .int 0, .ref fpath, .int 0, .int 0, .int 0])), (fbestPath, eI G 6 (fun _ => 0)), (fpath, eI G 6 (fun _ => 0)), (qs, .inr (4, [.int 0, .int 0, .int 0, .int 0, .int 1, .int 0, .int 40, .int 0, .int 0, .ref sslideNames, .ref spictures, .ref sheats, .ref safter, .ref shearerNames, .ref sneeds, .ref slikes, .ref shates, .ref snear])), (qa, .inr (7, [.int 0, .int 0, .int 0, .int 0, .int 0, .int 0, .int 0, .int 0, .ref apictures, .ref ashown, .ref asighed]))]) C hw (c_X11_order qm mtape mnow mread mkept msnaps maside mname mreadName mkeptName misKept monces morder mordered mtext mline mwritten mnode) mwX11_order kw1612 [0, 1] [2, 3, 4, 5, 6, 7] rfl rfl rfl rfl (by decide) 0 rfl rfl rfl rfl hl.1 rfl (Nat.le_of_ble_eq_true rfl) ⟨(Nat.le_of_ble_eq_true rfl), (Nat.le_of_ble_eq_true rfl)⟩ ⟨(Nat.le_of_ble_eq_true rfl), (Nat.le_of_ble_eq_true rfl)⟩ dL_law_897 (fun r2 u9 H locs hp9 hw => ?_)
  obtain ⟨rfl, rfl⟩ := hp9
  have hw : Wd G s (fun q : Nat => s.heap.size ≤ q) [(qx, .inr (9, [.ref qt, .ref qs, .ref qd, .ref qa, .ref qb, .ref qh, .ref qr, .ref qe, .ref qp, .ref qf, .ref qn, .ref qi, .ref qo, .int 0, .int 0, .int (-1), .int (-1)])), (qf, .inr (5, [.ref fbestPath, .int 0, .int 0, .ref fpath, .int 0, .int 0, .int 0])), (fbestPath, eI G 6 (fun _ => 0)), (fpath, eI G 6 (fun _ => 0)), (qs, .inr (4, [.int 0, .int 0, .int 0, .int 0, .int 1, .int 0, .int 40, .int 0, .int 0, .ref sslideNames, .ref spictures, .ref sheats, .ref safter, .ref shearerNames, .ref sneeds, .ref slikes, .ref shates, .ref snear])), (qa, .inr (7, [.int 0, .int 0, .int 0, .int 0, .int 0, .int 0, .int 0, .int 0, .ref apictures, .ref ashown, .ref asighed]))] H _ := hw
  refine lv_icmp_eq (tgt := 1405) C.1 C.2.1 dL_law_900 (by decide) (fun _ => ?_) (fun h9 => absurd (by decide) h9)
  refine lv_iinc (v := 6) (lv' := [(4, .int 6), (3, .ref qz), (2, .ref qm), (1, .ref qx), (0, .ref b)]) C.1 C.2.1 dL_law_1405 hl (k := 0) rfl (by decide) (by decide) rfl (fun ls hl => ?_)
  refine lv_goto (tgt := 23) C.1 C.2.1 dL_law_1408 (by decide) ?_
  exact law_tail C0 hw (Nat.le_of_ble_eq_true rfl) (Nat.le_of_ble_eq_true rfl) (lv_sub hl [0, 4] rfl)
theorem dL_law_905 : decode cL_law 905 = .ok (.aload_n 1, 1) := by decide +kernel
theorem dL_law_906 : decode cL_law 906 = .ok (.aload_n 0, 1) := by decide +kernel
theorem dL_law_907 : decode cL_law 907 = .ok (.iload 4, 2) := by decide +kernel
theorem dL_law_909 : decode cL_law 909 = .ok (.iconst 1, 1) := by decide +kernel
theorem dL_law_910 : decode cL_law 910 = .ok (.iadd, 1) := by decide +kernel
theorem dL_law_911 : decode cL_law 911 = .ok (.iaload, 1) := by decide +kernel
theorem dL_law_912 : decode cL_law 912 = .ok (.invokevirtual 108, 3) := by decide +kernel
theorem mwX10_orderAt : MwV yX10_orderAt cX10_orderAt 2 (some .int) 1 := ⟨⟨kw836, kw1, by decide +kernel⟩, kw834, kw835⟩
theorem dL_law_915 : decode cL_law 915 = .ok (.aload_n 2, 1) := by decide +kernel
theorem dL_law_916 : decode cL_law 916 = .ok (.aload_n 0, 1) := by decide +kernel
theorem dL_law_917 : decode cL_law 917 = .ok (.iload 4, 2) := by decide +kernel
theorem dL_law_919 : decode cL_law 919 = .ok (.iconst 1, 1) := by decide +kernel
theorem dL_law_920 : decode cL_law 920 = .ok (.iadd, 1) := by decide +kernel
theorem dL_law_921 : decode cL_law 921 = .ok (.iaload, 1) := by decide +kernel
theorem dL_law_922 : decode cL_law 922 = .ok (.invokevirtual 111, 3) := by decide +kernel
theorem mwX11_orderAt : MwV yX11_orderAt cX11_orderAt 2 (some .int) 1 := ⟨⟨kw1627, kw15, by decide +kernel⟩, kw1625, kw1626⟩
theorem dL_law_925 : decode cL_law 925 = .ok (.if_icmp .eq 480, 3) := by decide +kernel
set_option maxHeartbeats 4000000 in
set_option maxRecDepth 100000 in
theorem law_orderAt {p : Program} {l : Launch} {e : Env} {s : State} {m : MethodId} {below : List Frame} {meth : Method} {c : Code} {G : Gc} {b : Nat} {xs : Nat → Int32} (hst : l.stackTraces = false) (qx : Nat) (qm : Nat) (qz : Nat) (qt : Nat) (qs : Nat) (qd : Nat) (qa : Nat) (qb : Nat) (qh : Nat) (qr : Nat) (qe : Nat) (qp : Nat) (qf : Nat) (qn : Nat) (qi : Nat) (qo : Nat) (fbestPath : Nat) (fpath : Nat) (mtape : Nat) (mnow : Nat) (mread : Nat) (mkept : Nat) (msnaps : Nat) (maside : Nat) (mname : Nat) (mreadName : Nat) (mkeptName : Nat) (misKept : Nat) (monces : Nat) (morder : Nat) (mordered : Nat) (mtext : Nat) (mline : Nat) (mwritten : Nat) (mnode : Nat) {A : Nat → Prop} (eA : A = fun q : Nat => s.heap.size ≤ q) {H : Heap} {locs : List Loc} {ls : Array Slot} (C0 : lw_At p s m meth c b 6 xs) (hw : Wd G s A [(qx, .inr (9, [.ref qt, .ref qs, .ref qd, .ref qa, .ref qb, .ref qh, .ref qr, .ref qe, .ref qp, .ref qf, .ref qn, .ref qi, .ref qo, .int 0, .int 0, .int (-1), .int (-1)])), (qf, .inr (5, [.ref fbestPath, .int 0, .int 0, .ref fpath, .int 0, .int 0, .int 0])), (qm, .inr (10, [.int 0, .ref mtape, .int 0, .int 0, .int 0, .int 0, .int 0, .int 0, .int 0, .int 0, .int 0, .int 0, .long 0, .int 0, .ref mnow, .ref mread, .ref mkept, .ref msnaps, .ref maside, .ref mname, .ref mreadName, .ref mkeptName, .ref misKept, .ref monces, .int 0, .ref morder, .ref mordered, .int 0, .int 0, .int 0, .int (-1), .int (-1), .ref mtext, .int 0, .int 0, .ref mline, .ref mwritten, .int 0, .int 0, .ref mnode, .int 0, .int 0, .int 0, .int 0]))] H locs) (hl : lv_has ls 7 [(4, .int 0), (3, .ref qz), (2, .ref qm), (1, .ref qx), (0, .ref b)]) : W p l e room_1 s m #[Value.ref b] below meth c H locs 147 5480 (lw_Z below #[Value.ref b] s) (F0 m 905 ls []) := by
  subst eA
  obtain ⟨hx, hb, hr, hml, hown, hts, hX, hbl, hlocks, hgv⟩ := id C0
  have hbA : ¬ (fun q : Nat => s.heap.size ≤ q) b := Nat.not_le.mpr hbl
  have C : CallFix p m c code 7 s #[Value.ref b] gw "LanternStateLaw" := ⟨hx, hb, hml, hown, fun w h => hts w (gw_sub w h)⟩
  refine lv_aload_n C.1 C.2.1 dL_law_905 rfl (lv_at hl 3 rfl) ?_
  refine lv_aload_n C.1 C.2.1 dL_law_906 rfl (lv_at hl 4 rfl) ?_
  refine lv_iload C.1 C.2.1 dL_law_907 (lv_at hl 0 rfl) ?_
  refine lv_iconst (v := 1) C.1 C.2.1 dL_law_909 (by decide) ?_
  refine lv_iadd C.1 C.2.1 dL_law_910 ?_
  refine x_topi (z := 1) (by decide) ?_
  refine va_sld C.1 C.2.1 hX hbl hbA hw.2.2.2.1 (i := 1) (x_in rfl) dL_law_911 ?_
  refine x_topi (z := (xs 1)) rfl ?_
  refine x_calliV (As := [.int (xs 1)]) (rest := []) (wr := [(qm, .inr (10, [.int 0, .ref mtape, .int 0, .int 0, .int 0, .int 0, .int 0, .int 0, .int 0, .int 0, .int 0, .int 0, .long 0, .int 0, .ref mnow, .ref mread, .ref mkept, .ref msnaps, .ref maside, .ref mname, .ref mreadName, .ref mkeptName, .ref misKept, .ref monces, .int 0, .ref morder, .ref mordered, .int 0, .int 0, .int 0, .int (-1), .int (-1), .ref mtext, .int 0, .int 0, .ref mline, .ref mwritten, .int 0, .int 0, .ref mnode, .int 0, .int 0, .int 0, .int 0]))]) C hw (c_X10_orderAt qx (xs 1) qt qs qd qa qb qh qr qe qp qf qn qi qo fbestPath fpath) mwX10_orderAt kw833 [0, 1] [2] rfl rfl rfl rfl (by decide) 0 rfl rfl rfl rfl hl.1 rfl (Nat.le_of_ble_eq_true rfl) ⟨(Nat.le_of_ble_eq_true rfl), (Nat.le_of_ble_eq_true rfl)⟩ ⟨(Nat.le_of_ble_eq_true rfl), (Nat.le_of_ble_eq_true rfl)⟩ dL_law_912 (fun r1 u9 H locs hp9 hw => ?_)
  obtain ⟨rfl, rfl⟩ := hp9
  have hw : Wd G s (fun q : Nat => s.heap.size ≤ q) [(qm, .inr (10, [.int 0, .ref mtape, .int 0, .int 0, .int 0, .int 0, .int 0, .int 0, .int 0, .int 0, .int 0, .int 0, .long 0, .int 0, .ref mnow, .ref mread, .ref mkept, .ref msnaps, .ref maside, .ref mname, .ref mreadName, .ref mkeptName, .ref misKept, .ref monces, .int 0, .ref morder, .ref mordered, .int 0, .int 0, .int 0, .int (-1), .int (-1), .ref mtext, .int 0, .int 0, .ref mline, .ref mwritten, .int 0, .int 0, .ref mnode, .int 0, .int 0, .int 0, .int 0])), (qx, .inr (9, [.ref qt, .ref qs, .ref qd, .ref qa, .ref qb, .ref qh, .ref qr, .ref qe, .ref qp, .ref qf, .ref qn, .ref qi, .ref qo, .int 0, .int 0, .int (-1), .int (-1)])), (qf, .inr (5, [.ref fbestPath, .int 0, .int 0, .ref fpath, .int 0, .int 0, .int 0]))] H _ := hw
  refine lv_aload_n C.1 C.2.1 dL_law_915 rfl (lv_at hl 2 rfl) ?_
  refine lv_aload_n C.1 C.2.1 dL_law_916 rfl (lv_at hl 4 rfl) ?_
  refine lv_iload C.1 C.2.1 dL_law_917 (lv_at hl 0 rfl) ?_
  refine lv_iconst (v := 1) C.1 C.2.1 dL_law_919 (by decide) ?_
  refine lv_iadd C.1 C.2.1 dL_law_920 ?_
  refine x_topi (z := 1) (by decide) ?_
  refine va_sld C.1 C.2.1 hX hbl hbA hw.2.2.2.1 (i := 1) (x_in rfl) dL_law_921 ?_
  refine x_topi (z := (xs 1)) rfl ?_
  refine x_calliV (As := [.int (xs 1)]) (rest := [.int (-1)]) (wr := [(qx, .inr (9, [.ref qt, .ref qs, .ref qd, .ref qa, .ref qb, .ref qh, .ref qr, .ref qe, .ref qp, .ref qf, .ref qn, .ref qi, .ref qo, .int 0, .int 0, .int (-1), .int (-1)])), (qf, .inr (5, [.ref fbestPath, .int 0, .int 0, .ref fpath, .int 0, .int 0, .int 0]))]) C hw (c_X11_orderAt qm (xs 1) mtape mnow mread mkept msnaps maside mname mreadName mkeptName misKept monces morder mordered mtext mline mwritten mnode) mwX11_orderAt kw1624 [0] [1, 2] rfl rfl rfl rfl (by decide) 0 rfl rfl rfl rfl hl.1 rfl (Nat.le_of_ble_eq_true rfl) ⟨(Nat.le_of_ble_eq_true rfl), (Nat.le_of_ble_eq_true rfl)⟩ ⟨(Nat.le_of_ble_eq_true rfl), (Nat.le_of_ble_eq_true rfl)⟩ dL_law_922 (fun r2 u9 H locs hp9 hw => ?_)
  obtain ⟨rfl, rfl⟩ := hp9
  have hw : Wd G s (fun q : Nat => s.heap.size ≤ q) [(qx, .inr (9, [.ref qt, .ref qs, .ref qd, .ref qa, .ref qb, .ref qh, .ref qr, .ref qe, .ref qp, .ref qf, .ref qn, .ref qi, .ref qo, .int 0, .int 0, .int (-1), .int (-1)])), (qf, .inr (5, [.ref fbestPath, .int 0, .int 0, .ref fpath, .int 0, .int 0, .int 0]))] H _ := hw
  refine lv_icmp_eq (tgt := 1405) C.1 C.2.1 dL_law_925 (by decide) (fun _ => ?_) (fun h9 => absurd (by decide) h9)
  refine lv_iinc (v := 6) (lv' := [(4, .int 6), (3, .ref qz), (2, .ref qm), (1, .ref qx), (0, .ref b)]) C.1 C.2.1 dL_law_1405 hl (k := 0) rfl (by decide) (by decide) rfl (fun ls hl => ?_)
  refine lv_goto (tgt := 23) C.1 C.2.1 dL_law_1408 (by decide) ?_
  exact law_tail C0 hw (Nat.le_of_ble_eq_true rfl) (Nat.le_of_ble_eq_true rfl) (lv_sub hl [0, 4] rfl)
theorem dL_law_930 : decode cL_law 930 = .ok (.aload_n 1, 1) := by decide +kernel
theorem dL_law_931 : decode cL_law 931 = .ok (.aload_n 0, 1) := by decide +kernel
theorem dL_law_932 : decode cL_law 932 = .ok (.iload 4, 2) := by decide +kernel
theorem dL_law_934 : decode cL_law 934 = .ok (.iconst 1, 1) := by decide +kernel
theorem dL_law_935 : decode cL_law 935 = .ok (.iadd, 1) := by decide +kernel
theorem dL_law_936 : decode cL_law 936 = .ok (.iaload, 1) := by decide +kernel
theorem dL_law_937 : decode cL_law 937 = .ok (.aload_n 0, 1) := by decide +kernel
theorem dL_law_938 : decode cL_law 938 = .ok (.iload 4, 2) := by decide +kernel
theorem dL_law_940 : decode cL_law 940 = .ok (.iconst 2, 1) := by decide +kernel
theorem dL_law_941 : decode cL_law 941 = .ok (.iadd, 1) := by decide +kernel
theorem dL_law_942 : decode cL_law 942 = .ok (.iaload, 1) := by decide +kernel
theorem dL_law_943 : decode cL_law 943 = .ok (.invokevirtual 112, 3) := by decide +kernel
theorem mwX10_moved : MwV yX10_moved cX10_moved 4 (some .int) 2 := ⟨⟨kw840, kw1, by decide +kernel⟩, kw838, kw839⟩
theorem dL_law_946 : decode cL_law 946 = .ok (.aload_n 2, 1) := by decide +kernel
theorem dL_law_947 : decode cL_law 947 = .ok (.aload_n 0, 1) := by decide +kernel
theorem dL_law_948 : decode cL_law 948 = .ok (.iload 4, 2) := by decide +kernel
theorem dL_law_950 : decode cL_law 950 = .ok (.iconst 1, 1) := by decide +kernel
theorem dL_law_951 : decode cL_law 951 = .ok (.iadd, 1) := by decide +kernel
theorem dL_law_952 : decode cL_law 952 = .ok (.iaload, 1) := by decide +kernel
theorem dL_law_953 : decode cL_law 953 = .ok (.aload_n 0, 1) := by decide +kernel
theorem dL_law_954 : decode cL_law 954 = .ok (.iload 4, 2) := by decide +kernel
theorem dL_law_956 : decode cL_law 956 = .ok (.iconst 2, 1) := by decide +kernel
theorem dL_law_957 : decode cL_law 957 = .ok (.iadd, 1) := by decide +kernel
theorem dL_law_958 : decode cL_law 958 = .ok (.iaload, 1) := by decide +kernel
theorem dL_law_959 : decode cL_law 959 = .ok (.invokevirtual 115, 3) := by decide +kernel
theorem mwX11_moved : MwV yX11_moved cX11_moved 6 (some .int) 2 := ⟨⟨kw1631, kw15, by decide +kernel⟩, kw1629, kw1630⟩
theorem dL_law_962 : decode cL_law 962 = .ok (.if_icmp .eq 443, 3) := by decide +kernel
set_option maxHeartbeats 4000000 in
set_option maxRecDepth 100000 in
theorem law_moved {p : Program} {l : Launch} {e : Env} {s : State} {m : MethodId} {below : List Frame} {meth : Method} {c : Code} {G : Gc} {b : Nat} {xs : Nat → Int32} (hst : l.stackTraces = false) (qx : Nat) (qm : Nat) (qz : Nat) (qt : Nat) (qs : Nat) (qd : Nat) (qa : Nat) (qb : Nat) (qh : Nat) (qr : Nat) (qe : Nat) (qp : Nat) (qf : Nat) (qn : Nat) (qi : Nat) (qo : Nat) (sslideNames : Nat) (spictures : Nat) (sheats : Nat) (safter : Nat) (shearerNames : Nat) (sneeds : Nat) (slikes : Nat) (shates : Nat) (snear : Nat) (mtape : Nat) (mnow : Nat) (mread : Nat) (mkept : Nat) (msnaps : Nat) (maside : Nat) (mname : Nat) (mreadName : Nat) (mkeptName : Nat) (misKept : Nat) (monces : Nat) (morder : Nat) (mordered : Nat) (mtext : Nat) (mline : Nat) (mwritten : Nat) (mnode : Nat) {A : Nat → Prop} (eA : A = fun q : Nat => s.heap.size ≤ q) {H : Heap} {locs : List Loc} {ls : Array Slot} (C0 : lw_At p s m meth c b 6 xs) (hw : Wd G s A [(qx, .inr (9, [.ref qt, .ref qs, .ref qd, .ref qa, .ref qb, .ref qh, .ref qr, .ref qe, .ref qp, .ref qf, .ref qn, .ref qi, .ref qo, .int 0, .int 0, .int (-1), .int (-1)])), (qs, .inr (4, [.int 0, .int 0, .int 0, .int 0, .int 1, .int 0, .int 40, .int 0, .int 0, .ref sslideNames, .ref spictures, .ref sheats, .ref safter, .ref shearerNames, .ref sneeds, .ref slikes, .ref shates, .ref snear])), (qm, .inr (10, [.int 0, .ref mtape, .int 0, .int 0, .int 0, .int 0, .int 0, .int 0, .int 0, .int 0, .int 0, .int 0, .long 0, .int 0, .ref mnow, .ref mread, .ref mkept, .ref msnaps, .ref maside, .ref mname, .ref mreadName, .ref mkeptName, .ref misKept, .ref monces, .int 0, .ref morder, .ref mordered, .int 0, .int 0, .int 0, .int (-1), .int (-1), .ref mtext, .int 0, .int 0, .ref mline, .ref mwritten, .int 0, .int 0, .ref mnode, .int 0, .int 0, .int 0, .int 0])), (mnow, eI G 339 nw0)] H locs) (hl : lv_has ls 7 [(4, .int 0), (3, .ref qz), (2, .ref qm), (1, .ref qx), (0, .ref b)]) : W p l e room_1 s m #[Value.ref b] below meth c H locs 147 5480 (lw_Z below #[Value.ref b] s) (F0 m 930 ls []) := by
  subst eA
  obtain ⟨hx, hb, hr, hml, hown, hts, hX, hbl, hlocks, hgv⟩ := id C0
  have hbA : ¬ (fun q : Nat => s.heap.size ≤ q) b := Nat.not_le.mpr hbl
  have C : CallFix p m c code 7 s #[Value.ref b] gw "LanternStateLaw" := ⟨hx, hb, hml, hown, fun w h => hts w (gw_sub w h)⟩
  refine lv_aload_n C.1 C.2.1 dL_law_930 rfl (lv_at hl 3 rfl) ?_
  refine lv_aload_n C.1 C.2.1 dL_law_931 rfl (lv_at hl 4 rfl) ?_
  refine lv_iload C.1 C.2.1 dL_law_932 (lv_at hl 0 rfl) ?_
  refine lv_iconst (v := 1) C.1 C.2.1 dL_law_934 (by decide) ?_
  refine lv_iadd C.1 C.2.1 dL_law_935 ?_
  refine x_topi (z := 1) (by decide) ?_
  refine va_sld C.1 C.2.1 hX hbl hbA hw.2.2.2.1 (i := 1) (x_in rfl) dL_law_936 ?_
  refine x_topi (z := (xs 1)) rfl ?_
  refine lv_aload_n C.1 C.2.1 dL_law_937 rfl (lv_at hl 4 rfl) ?_
  refine lv_iload C.1 C.2.1 dL_law_938 (lv_at hl 0 rfl) ?_
  refine lv_iconst (v := 2) C.1 C.2.1 dL_law_940 (by decide) ?_
  refine lv_iadd C.1 C.2.1 dL_law_941 ?_
  refine x_topi (z := 2) (by decide) ?_
  refine va_sld C.1 C.2.1 hX hbl hbA hw.2.2.2.1 (i := 2) (x_in rfl) dL_law_942 ?_
  refine x_topi (z := (xs 2)) rfl ?_
  refine x_calliV (As := [.int (xs 1), .int (xs 2)]) (rest := []) (wr := [(qm, .inr (10, [.int 0, .ref mtape, .int 0, .int 0, .int 0, .int 0, .int 0, .int 0, .int 0, .int 0, .int 0, .int 0, .long 0, .int 0, .ref mnow, .ref mread, .ref mkept, .ref msnaps, .ref maside, .ref mname, .ref mreadName, .ref mkeptName, .ref misKept, .ref monces, .int 0, .ref morder, .ref mordered, .int 0, .int 0, .int 0, .int (-1), .int (-1), .ref mtext, .int 0, .int 0, .ref mline, .ref mwritten, .int 0, .int 0, .ref mnode, .int 0, .int 0, .int 0, .int 0])), (mnow, eI G 339 nw0)]) C hw (c_X10_moved qx (xs 1) (xs 2) qt qs qd qa qb qh qr qe qp qf qn qi qo sslideNames spictures sheats safter shearerNames sneeds slikes shates snear) mwX10_moved kw837 [0, 1] [2, 3] rfl rfl rfl rfl (by decide) 0 rfl rfl rfl rfl hl.1 rfl (Nat.le_of_ble_eq_true rfl) ⟨(Nat.le_of_ble_eq_true rfl), (Nat.le_of_ble_eq_true rfl)⟩ ⟨(Nat.le_of_ble_eq_true rfl), (Nat.le_of_ble_eq_true rfl)⟩ dL_law_943 (fun r1 u9 H locs hp9 hw => ?_)
  obtain ⟨rfl, rfl⟩ := hp9
  have hw : Wd G s (fun q : Nat => s.heap.size ≤ q) [(qm, .inr (10, [.int 0, .ref mtape, .int 0, .int 0, .int 0, .int 0, .int 0, .int 0, .int 0, .int 0, .int 0, .int 0, .long 0, .int 0, .ref mnow, .ref mread, .ref mkept, .ref msnaps, .ref maside, .ref mname, .ref mreadName, .ref mkeptName, .ref misKept, .ref monces, .int 0, .ref morder, .ref mordered, .int 0, .int 0, .int 0, .int (-1), .int (-1), .ref mtext, .int 0, .int 0, .ref mline, .ref mwritten, .int 0, .int 0, .ref mnode, .int 0, .int 0, .int 0, .int 0])), (mnow, eI G 339 nw0), (qx, .inr (9, [.ref qt, .ref qs, .ref qd, .ref qa, .ref qb, .ref qh, .ref qr, .ref qe, .ref qp, .ref qf, .ref qn, .ref qi, .ref qo, .int 0, .int 0, .int (-1), .int (-1)])), (qs, .inr (4, [.int 0, .int 0, .int 0, .int 0, .int 1, .int 0, .int 40, .int 0, .int 0, .ref sslideNames, .ref spictures, .ref sheats, .ref safter, .ref shearerNames, .ref sneeds, .ref slikes, .ref shates, .ref snear]))] H _ := hw
  refine lv_aload_n C.1 C.2.1 dL_law_946 rfl (lv_at hl 2 rfl) ?_
  refine lv_aload_n C.1 C.2.1 dL_law_947 rfl (lv_at hl 4 rfl) ?_
  refine lv_iload C.1 C.2.1 dL_law_948 (lv_at hl 0 rfl) ?_
  refine lv_iconst (v := 1) C.1 C.2.1 dL_law_950 (by decide) ?_
  refine lv_iadd C.1 C.2.1 dL_law_951 ?_
  refine x_topi (z := 1) (by decide) ?_
  refine va_sld C.1 C.2.1 hX hbl hbA hw.2.2.2.1 (i := 1) (x_in rfl) dL_law_952 ?_
  refine x_topi (z := (xs 1)) rfl ?_
  refine lv_aload_n C.1 C.2.1 dL_law_953 rfl (lv_at hl 4 rfl) ?_
  refine lv_iload C.1 C.2.1 dL_law_954 (lv_at hl 0 rfl) ?_
  refine lv_iconst (v := 2) C.1 C.2.1 dL_law_956 (by decide) ?_
  refine lv_iadd C.1 C.2.1 dL_law_957 ?_
  refine x_topi (z := 2) (by decide) ?_
  refine va_sld C.1 C.2.1 hX hbl hbA hw.2.2.2.1 (i := 2) (x_in rfl) dL_law_958 ?_
  refine x_topi (z := (xs 2)) rfl ?_
  refine x_calliV (As := [.int (xs 1), .int (xs 2)]) (rest := [.int (-1)]) (wr := [(qx, .inr (9, [.ref qt, .ref qs, .ref qd, .ref qa, .ref qb, .ref qh, .ref qr, .ref qe, .ref qp, .ref qf, .ref qn, .ref qi, .ref qo, .int 0, .int 0, .int (-1), .int (-1)])), (qs, .inr (4, [.int 0, .int 0, .int 0, .int 0, .int 1, .int 0, .int 40, .int 0, .int 0, .ref sslideNames, .ref spictures, .ref sheats, .ref safter, .ref shearerNames, .ref sneeds, .ref slikes, .ref shates, .ref snear]))]) C hw (c_X11_moved qm (xs 1) (xs 2) mtape mnow mread mkept msnaps maside mname mreadName mkeptName misKept monces morder mordered mtext mline mwritten mnode) mwX11_moved kw1628 [0, 1] [2, 3] rfl rfl rfl rfl (by decide) 0 rfl rfl rfl rfl hl.1 rfl (Nat.le_of_ble_eq_true rfl) ⟨(Nat.le_of_ble_eq_true rfl), (Nat.le_of_ble_eq_true rfl)⟩ ⟨(Nat.le_of_ble_eq_true rfl), (Nat.le_of_ble_eq_true rfl)⟩ dL_law_959 (fun r2 u9 H locs hp9 hw => ?_)
  obtain ⟨rfl, rfl⟩ := hp9
  have hw : Wd G s (fun q : Nat => s.heap.size ≤ q) [(qx, .inr (9, [.ref qt, .ref qs, .ref qd, .ref qa, .ref qb, .ref qh, .ref qr, .ref qe, .ref qp, .ref qf, .ref qn, .ref qi, .ref qo, .int 0, .int 0, .int (-1), .int (-1)])), (qs, .inr (4, [.int 0, .int 0, .int 0, .int 0, .int 1, .int 0, .int 40, .int 0, .int 0, .ref sslideNames, .ref spictures, .ref sheats, .ref safter, .ref shearerNames, .ref sneeds, .ref slikes, .ref shates, .ref snear]))] H _ := hw
  refine lv_icmp_eq (tgt := 1405) C.1 C.2.1 dL_law_962 (by decide) (fun _ => ?_) (fun h9 => absurd (by decide) h9)
  refine lv_iinc (v := 6) (lv' := [(4, .int 6), (3, .ref qz), (2, .ref qm), (1, .ref qx), (0, .ref b)]) C.1 C.2.1 dL_law_1405 hl (k := 0) rfl (by decide) (by decide) rfl (fun ls hl => ?_)
  refine lv_goto (tgt := 23) C.1 C.2.1 dL_law_1408 (by decide) ?_
  exact law_tail C0 hw (Nat.le_of_ble_eq_true rfl) (Nat.le_of_ble_eq_true rfl) (lv_sub hl [0, 4] rfl)
theorem dL_law_967 : decode cL_law 967 = .ok (.aload_n 1, 1) := by decide +kernel
theorem dL_law_968 : decode cL_law 968 = .ok (.invokevirtual 116, 3) := by decide +kernel
theorem mwX10_movedWho : MwV yX10_movedWho cX10_movedWho 1 (some .int) 0 := ⟨⟨kw851, kw1, by decide +kernel⟩, kw849, kw850⟩
theorem dL_law_971 : decode cL_law 971 = .ok (.aload_n 2, 1) := by decide +kernel
theorem dL_law_972 : decode cL_law 972 = .ok (.invokevirtual 119, 3) := by decide +kernel
theorem mwX11_movedWho : MwV yX11_movedWho cX11_movedWho 1 (some .int) 0 := ⟨⟨kw1635, kw15, by decide +kernel⟩, kw1633, kw1634⟩
theorem dL_law_975 : decode cL_law 975 = .ok (.if_icmp .eq 430, 3) := by decide +kernel
set_option maxHeartbeats 4000000 in
set_option maxRecDepth 100000 in
theorem law_movedWho {p : Program} {l : Launch} {e : Env} {s : State} {m : MethodId} {below : List Frame} {meth : Method} {c : Code} {G : Gc} {b : Nat} {xs : Nat → Int32} (hst : l.stackTraces = false) (qx : Nat) (qm : Nat) (qz : Nat) (qt : Nat) (qs : Nat) (qd : Nat) (qa : Nat) (qb : Nat) (qh : Nat) (qr : Nat) (qe : Nat) (qp : Nat) (qf : Nat) (qn : Nat) (qi : Nat) (qo : Nat) (mtape : Nat) (mnow : Nat) (mread : Nat) (mkept : Nat) (msnaps : Nat) (maside : Nat) (mname : Nat) (mreadName : Nat) (mkeptName : Nat) (misKept : Nat) (monces : Nat) (morder : Nat) (mordered : Nat) (mtext : Nat) (mline : Nat) (mwritten : Nat) (mnode : Nat) {A : Nat → Prop} (eA : A = fun q : Nat => s.heap.size ≤ q) {H : Heap} {locs : List Loc} {ls : Array Slot} (C0 : lw_At p s m meth c b 6 xs) (hw : Wd G s A [(qx, .inr (9, [.ref qt, .ref qs, .ref qd, .ref qa, .ref qb, .ref qh, .ref qr, .ref qe, .ref qp, .ref qf, .ref qn, .ref qi, .ref qo, .int 0, .int 0, .int (-1), .int (-1)])), (qm, .inr (10, [.int 0, .ref mtape, .int 0, .int 0, .int 0, .int 0, .int 0, .int 0, .int 0, .int 0, .int 0, .int 0, .long 0, .int 0, .ref mnow, .ref mread, .ref mkept, .ref msnaps, .ref maside, .ref mname, .ref mreadName, .ref mkeptName, .ref misKept, .ref monces, .int 0, .ref morder, .ref mordered, .int 0, .int 0, .int 0, .int (-1), .int (-1), .ref mtext, .int 0, .int 0, .ref mline, .ref mwritten, .int 0, .int 0, .ref mnode, .int 0, .int 0, .int 0, .int 0]))] H locs) (hl : lv_has ls 7 [(4, .int 0), (3, .ref qz), (2, .ref qm), (1, .ref qx), (0, .ref b)]) : W p l e room_1 s m #[Value.ref b] below meth c H locs 147 5480 (lw_Z below #[Value.ref b] s) (F0 m 967 ls []) := by
  subst eA
  obtain ⟨hx, hb, hr, hml, hown, hts, hX, hbl, hlocks, hgv⟩ := id C0
  have hbA : ¬ (fun q : Nat => s.heap.size ≤ q) b := Nat.not_le.mpr hbl
  have C : CallFix p m c code 7 s #[Value.ref b] gw "LanternStateLaw" := ⟨hx, hb, hml, hown, fun w h => hts w (gw_sub w h)⟩
  refine lv_aload_n C.1 C.2.1 dL_law_967 rfl (lv_at hl 3 rfl) ?_
  refine x_calliV (As := []) (rest := []) (wr := [(qm, .inr (10, [.int 0, .ref mtape, .int 0, .int 0, .int 0, .int 0, .int 0, .int 0, .int 0, .int 0, .int 0, .int 0, .long 0, .int 0, .ref mnow, .ref mread, .ref mkept, .ref msnaps, .ref maside, .ref mname, .ref mreadName, .ref mkeptName, .ref misKept, .ref monces, .int 0, .ref morder, .ref mordered, .int 0, .int 0, .int 0, .int (-1), .int (-1), .ref mtext, .int 0, .int 0, .ref mline, .ref mwritten, .int 0, .int 0, .ref mnode, .int 0, .int 0, .int 0, .int 0]))]) C hw (c_X10_movedWho qx qt qs qd qa qb qh qr qe qp qf qn qi qo) mwX10_movedWho kw848 [0] [1] rfl rfl rfl rfl (by decide) 0 rfl rfl rfl rfl hl.1 rfl (Nat.le_of_ble_eq_true rfl) ⟨(Nat.le_of_ble_eq_true rfl), (Nat.le_of_ble_eq_true rfl)⟩ ⟨(Nat.le_of_ble_eq_true rfl), (Nat.le_of_ble_eq_true rfl)⟩ dL_law_968 (fun r1 u9 H locs hp9 hw => ?_)
  obtain ⟨rfl, rfl⟩ := hp9
  have hw : Wd G s (fun q : Nat => s.heap.size ≤ q) [(qm, .inr (10, [.int 0, .ref mtape, .int 0, .int 0, .int 0, .int 0, .int 0, .int 0, .int 0, .int 0, .int 0, .int 0, .long 0, .int 0, .ref mnow, .ref mread, .ref mkept, .ref msnaps, .ref maside, .ref mname, .ref mreadName, .ref mkeptName, .ref misKept, .ref monces, .int 0, .ref morder, .ref mordered, .int 0, .int 0, .int 0, .int (-1), .int (-1), .ref mtext, .int 0, .int 0, .ref mline, .ref mwritten, .int 0, .int 0, .ref mnode, .int 0, .int 0, .int 0, .int 0])), (qx, .inr (9, [.ref qt, .ref qs, .ref qd, .ref qa, .ref qb, .ref qh, .ref qr, .ref qe, .ref qp, .ref qf, .ref qn, .ref qi, .ref qo, .int 0, .int 0, .int (-1), .int (-1)]))] H _ := hw
  refine lv_aload_n C.1 C.2.1 dL_law_971 rfl (lv_at hl 2 rfl) ?_
  refine x_calliV (As := []) (rest := [.int (-1)]) (wr := [(qx, .inr (9, [.ref qt, .ref qs, .ref qd, .ref qa, .ref qb, .ref qh, .ref qr, .ref qe, .ref qp, .ref qf, .ref qn, .ref qi, .ref qo, .int 0, .int 0, .int (-1), .int (-1)]))]) C hw (c_X11_movedWho qm mtape mnow mread mkept msnaps maside mname mreadName mkeptName misKept monces morder mordered mtext mline mwritten mnode) mwX11_movedWho kw1632 [0] [1] rfl rfl rfl rfl (by decide) 0 rfl rfl rfl rfl hl.1 rfl (Nat.le_of_ble_eq_true rfl) ⟨(Nat.le_of_ble_eq_true rfl), (Nat.le_of_ble_eq_true rfl)⟩ ⟨(Nat.le_of_ble_eq_true rfl), (Nat.le_of_ble_eq_true rfl)⟩ dL_law_972 (fun r2 u9 H locs hp9 hw => ?_)
  obtain ⟨rfl, rfl⟩ := hp9
  have hw : Wd G s (fun q : Nat => s.heap.size ≤ q) [(qx, .inr (9, [.ref qt, .ref qs, .ref qd, .ref qa, .ref qb, .ref qh, .ref qr, .ref qe, .ref qp, .ref qf, .ref qn, .ref qi, .ref qo, .int 0, .int 0, .int (-1), .int (-1)]))] H _ := hw
  refine lv_icmp_eq (tgt := 1405) C.1 C.2.1 dL_law_975 (by decide) (fun _ => ?_) (fun h9 => absurd (by decide) h9)
  refine lv_iinc (v := 6) (lv' := [(4, .int 6), (3, .ref qz), (2, .ref qm), (1, .ref qx), (0, .ref b)]) C.1 C.2.1 dL_law_1405 hl (k := 0) rfl (by decide) (by decide) rfl (fun ls hl => ?_)
  refine lv_goto (tgt := 23) C.1 C.2.1 dL_law_1408 (by decide) ?_
  exact law_tail C0 hw (Nat.le_of_ble_eq_true rfl) (Nat.le_of_ble_eq_true rfl) (lv_sub hl [0, 4] rfl)
theorem dL_law_980 : decode cL_law 980 = .ok (.aload_n 1, 1) := by decide +kernel
theorem dL_law_981 : decode cL_law 981 = .ok (.aload_n 0, 1) := by decide +kernel
theorem dL_law_982 : decode cL_law 982 = .ok (.iload 4, 2) := by decide +kernel
theorem dL_law_984 : decode cL_law 984 = .ok (.iconst 1, 1) := by decide +kernel
theorem dL_law_985 : decode cL_law 985 = .ok (.iadd, 1) := by decide +kernel
theorem dL_law_986 : decode cL_law 986 = .ok (.iaload, 1) := by decide +kernel
theorem dL_law_987 : decode cL_law 987 = .ok (.invokevirtual 120, 3) := by decide +kernel
theorem mwX10_scratches : MwV yX10_scratches cX10_scratches 3 (some .int) 1 := ⟨⟨kw855, kw1, by decide +kernel⟩, kw853, kw854⟩
theorem dL_law_990 : decode cL_law 990 = .ok (.aload_n 2, 1) := by decide +kernel
theorem dL_law_991 : decode cL_law 991 = .ok (.aload_n 0, 1) := by decide +kernel
theorem dL_law_992 : decode cL_law 992 = .ok (.iload 4, 2) := by decide +kernel
theorem dL_law_994 : decode cL_law 994 = .ok (.iconst 1, 1) := by decide +kernel
theorem dL_law_995 : decode cL_law 995 = .ok (.iadd, 1) := by decide +kernel
theorem dL_law_996 : decode cL_law 996 = .ok (.iaload, 1) := by decide +kernel
theorem dL_law_997 : decode cL_law 997 = .ok (.invokevirtual 123, 3) := by decide +kernel
theorem mwX11_scratches : MwV yX11_scratches cX11_scratches 5 (some .int) 1 := ⟨⟨kw1639, kw15, by decide +kernel⟩, kw1637, kw1638⟩
theorem dL_law_1000 : decode cL_law 1000 = .ok (.if_icmp .eq 405, 3) := by decide +kernel
set_option maxHeartbeats 4000000 in
set_option maxRecDepth 100000 in
theorem law_scratches {p : Program} {l : Launch} {e : Env} {s : State} {m : MethodId} {below : List Frame} {meth : Method} {c : Code} {G : Gc} {b : Nat} {xs : Nat → Int32} (hst : l.stackTraces = false) (qx : Nat) (qm : Nat) (qz : Nat) (qt : Nat) (qs : Nat) (qd : Nat) (qa : Nat) (qb : Nat) (qh : Nat) (qr : Nat) (qe : Nat) (qp : Nat) (qf : Nat) (qn : Nat) (qi : Nat) (qo : Nat) (sslideNames : Nat) (spictures : Nat) (sheats : Nat) (safter : Nat) (shearerNames : Nat) (sneeds : Nat) (slikes : Nat) (shates : Nat) (snear : Nat) (mtape : Nat) (mnow : Nat) (mread : Nat) (mkept : Nat) (msnaps : Nat) (maside : Nat) (mname : Nat) (mreadName : Nat) (mkeptName : Nat) (misKept : Nat) (monces : Nat) (morder : Nat) (mordered : Nat) (mtext : Nat) (mline : Nat) (mwritten : Nat) (mnode : Nat) {A : Nat → Prop} (eA : A = fun q : Nat => s.heap.size ≤ q) {H : Heap} {locs : List Loc} {ls : Array Slot} (C0 : lw_At p s m meth c b 6 xs) (hw : Wd G s A [(qx, .inr (9, [.ref qt, .ref qs, .ref qd, .ref qa, .ref qb, .ref qh, .ref qr, .ref qe, .ref qp, .ref qf, .ref qn, .ref qi, .ref qo, .int 0, .int 0, .int (-1), .int (-1)])), (qs, .inr (4, [.int 0, .int 0, .int 0, .int 0, .int 1, .int 0, .int 40, .int 0, .int 0, .ref sslideNames, .ref spictures, .ref sheats, .ref safter, .ref shearerNames, .ref sneeds, .ref slikes, .ref shates, .ref snear])), (qm, .inr (10, [.int 0, .ref mtape, .int 0, .int 0, .int 0, .int 0, .int 0, .int 0, .int 0, .int 0, .int 0, .int 0, .long 0, .int 0, .ref mnow, .ref mread, .ref mkept, .ref msnaps, .ref maside, .ref mname, .ref mreadName, .ref mkeptName, .ref misKept, .ref monces, .int 0, .ref morder, .ref mordered, .int 0, .int 0, .int 0, .int (-1), .int (-1), .ref mtext, .int 0, .int 0, .ref mline, .ref mwritten, .int 0, .int 0, .ref mnode, .int 0, .int 0, .int 0, .int 0])), (mnow, eI G 339 nw0)] H locs) (hl : lv_has ls 7 [(4, .int 0), (3, .ref qz), (2, .ref qm), (1, .ref qx), (0, .ref b)]) : W p l e room_1 s m #[Value.ref b] below meth c H locs 147 5480 (lw_Z below #[Value.ref b] s) (F0 m 980 ls []) := by
  subst eA
  obtain ⟨hx, hb, hr, hml, hown, hts, hX, hbl, hlocks, hgv⟩ := id C0
  have hbA : ¬ (fun q : Nat => s.heap.size ≤ q) b := Nat.not_le.mpr hbl
  have C : CallFix p m c code 7 s #[Value.ref b] gw "LanternStateLaw" := ⟨hx, hb, hml, hown, fun w h => hts w (gw_sub w h)⟩
  refine lv_aload_n C.1 C.2.1 dL_law_980 rfl (lv_at hl 3 rfl) ?_
  refine lv_aload_n C.1 C.2.1 dL_law_981 rfl (lv_at hl 4 rfl) ?_
  refine lv_iload C.1 C.2.1 dL_law_982 (lv_at hl 0 rfl) ?_
  refine lv_iconst (v := 1) C.1 C.2.1 dL_law_984 (by decide) ?_
  refine lv_iadd C.1 C.2.1 dL_law_985 ?_
  refine x_topi (z := 1) (by decide) ?_
  refine va_sld C.1 C.2.1 hX hbl hbA hw.2.2.2.1 (i := 1) (x_in rfl) dL_law_986 ?_
  refine x_topi (z := (xs 1)) rfl ?_
  refine x_calliV (As := [.int (xs 1)]) (rest := []) (wr := [(qm, .inr (10, [.int 0, .ref mtape, .int 0, .int 0, .int 0, .int 0, .int 0, .int 0, .int 0, .int 0, .int 0, .int 0, .long 0, .int 0, .ref mnow, .ref mread, .ref mkept, .ref msnaps, .ref maside, .ref mname, .ref mreadName, .ref mkeptName, .ref misKept, .ref monces, .int 0, .ref morder, .ref mordered, .int 0, .int 0, .int 0, .int (-1), .int (-1), .ref mtext, .int 0, .int 0, .ref mline, .ref mwritten, .int 0, .int 0, .ref mnode, .int 0, .int 0, .int 0, .int 0])), (mnow, eI G 339 nw0)]) C hw (c_X10_scratches qx (xs 1) qt qs qd qa qb qh qr qe qp qf qn qi qo sslideNames spictures sheats safter shearerNames sneeds slikes shates snear) mwX10_scratches kw852 [0, 1] [2, 3] rfl rfl rfl rfl (by decide) 0 rfl rfl rfl rfl hl.1 rfl (Nat.le_of_ble_eq_true rfl) ⟨(Nat.le_of_ble_eq_true rfl), (Nat.le_of_ble_eq_true rfl)⟩ ⟨(Nat.le_of_ble_eq_true rfl), (Nat.le_of_ble_eq_true rfl)⟩ dL_law_987 (fun r1 u9 H locs hp9 hw => ?_)
  obtain ⟨rfl, rfl⟩ := hp9
  have hw : Wd G s (fun q : Nat => s.heap.size ≤ q) [(qm, .inr (10, [.int 0, .ref mtape, .int 0, .int 0, .int 0, .int 0, .int 0, .int 0, .int 0, .int 0, .int 0, .int 0, .long 0, .int 0, .ref mnow, .ref mread, .ref mkept, .ref msnaps, .ref maside, .ref mname, .ref mreadName, .ref mkeptName, .ref misKept, .ref monces, .int 0, .ref morder, .ref mordered, .int 0, .int 0, .int 0, .int (-1), .int (-1), .ref mtext, .int 0, .int 0, .ref mline, .ref mwritten, .int 0, .int 0, .ref mnode, .int 0, .int 0, .int 0, .int 0])), (mnow, eI G 339 nw0), (qx, .inr (9, [.ref qt, .ref qs, .ref qd, .ref qa, .ref qb, .ref qh, .ref qr, .ref qe, .ref qp, .ref qf, .ref qn, .ref qi, .ref qo, .int 0, .int 0, .int (-1), .int (-1)])), (qs, .inr (4, [.int 0, .int 0, .int 0, .int 0, .int 1, .int 0, .int 40, .int 0, .int 0, .ref sslideNames, .ref spictures, .ref sheats, .ref safter, .ref shearerNames, .ref sneeds, .ref slikes, .ref shates, .ref snear]))] H _ := hw
  refine lv_aload_n C.1 C.2.1 dL_law_990 rfl (lv_at hl 2 rfl) ?_
  refine lv_aload_n C.1 C.2.1 dL_law_991 rfl (lv_at hl 4 rfl) ?_
  refine lv_iload C.1 C.2.1 dL_law_992 (lv_at hl 0 rfl) ?_
  refine lv_iconst (v := 1) C.1 C.2.1 dL_law_994 (by decide) ?_
  refine lv_iadd C.1 C.2.1 dL_law_995 ?_
  refine x_topi (z := 1) (by decide) ?_
  refine va_sld C.1 C.2.1 hX hbl hbA hw.2.2.2.1 (i := 1) (x_in rfl) dL_law_996 ?_
  refine x_topi (z := (xs 1)) rfl ?_
  refine x_calliV (As := [.int (xs 1)]) (rest := [.int (-1)]) (wr := [(qx, .inr (9, [.ref qt, .ref qs, .ref qd, .ref qa, .ref qb, .ref qh, .ref qr, .ref qe, .ref qp, .ref qf, .ref qn, .ref qi, .ref qo, .int 0, .int 0, .int (-1), .int (-1)])), (qs, .inr (4, [.int 0, .int 0, .int 0, .int 0, .int 1, .int 0, .int 40, .int 0, .int 0, .ref sslideNames, .ref spictures, .ref sheats, .ref safter, .ref shearerNames, .ref sneeds, .ref slikes, .ref shates, .ref snear]))]) C hw (c_X11_scratches qm (xs 1) mtape mnow mread mkept msnaps maside mname mreadName mkeptName misKept monces morder mordered mtext mline mwritten mnode) mwX11_scratches kw1636 [0, 1] [2, 3] rfl rfl rfl rfl (by decide) 0 rfl rfl rfl rfl hl.1 rfl (Nat.le_of_ble_eq_true rfl) ⟨(Nat.le_of_ble_eq_true rfl), (Nat.le_of_ble_eq_true rfl)⟩ ⟨(Nat.le_of_ble_eq_true rfl), (Nat.le_of_ble_eq_true rfl)⟩ dL_law_997 (fun r2 u9 H locs hp9 hw => ?_)
  obtain ⟨rfl, rfl⟩ := hp9
  have hw : Wd G s (fun q : Nat => s.heap.size ≤ q) [(qx, .inr (9, [.ref qt, .ref qs, .ref qd, .ref qa, .ref qb, .ref qh, .ref qr, .ref qe, .ref qp, .ref qf, .ref qn, .ref qi, .ref qo, .int 0, .int 0, .int (-1), .int (-1)])), (qs, .inr (4, [.int 0, .int 0, .int 0, .int 0, .int 1, .int 0, .int 40, .int 0, .int 0, .ref sslideNames, .ref spictures, .ref sheats, .ref safter, .ref shearerNames, .ref sneeds, .ref slikes, .ref shates, .ref snear]))] H _ := hw
  refine lv_icmp_eq (tgt := 1405) C.1 C.2.1 dL_law_1000 (by decide) (fun _ => ?_) (fun h9 => absurd (by decide) h9)
  refine lv_iinc (v := 6) (lv' := [(4, .int 6), (3, .ref qz), (2, .ref qm), (1, .ref qx), (0, .ref b)]) C.1 C.2.1 dL_law_1405 hl (k := 0) rfl (by decide) (by decide) rfl (fun ls hl => ?_)
  refine lv_goto (tgt := 23) C.1 C.2.1 dL_law_1408 (by decide) ?_
  exact law_tail C0 hw (Nat.le_of_ble_eq_true rfl) (Nat.le_of_ble_eq_true rfl) (lv_sub hl [0, 4] rfl)
theorem dL_law_1005 : decode cL_law 1005 = .ok (.aload_n 1, 1) := by decide +kernel
theorem dL_law_1006 : decode cL_law 1006 = .ok (.invokevirtual 124, 3) := by decide +kernel
theorem mwX10_scratched : MwV yX10_scratched cX10_scratched 1 (some .int) 0 := ⟨⟨kw867, kw1, by decide +kernel⟩, kw865, kw866⟩
theorem dL_law_1009 : decode cL_law 1009 = .ok (.aload_n 2, 1) := by decide +kernel
theorem dL_law_1010 : decode cL_law 1010 = .ok (.invokevirtual 127, 3) := by decide +kernel
theorem mwX11_scratched : MwV yX11_scratched cX11_scratched 1 (some .int) 0 := ⟨⟨kw1644, kw15, by decide +kernel⟩, kw1642, kw1643⟩
theorem dL_law_1013 : decode cL_law 1013 = .ok (.if_icmp .eq 392, 3) := by decide +kernel
set_option maxHeartbeats 4000000 in
set_option maxRecDepth 100000 in
theorem law_scratched {p : Program} {l : Launch} {e : Env} {s : State} {m : MethodId} {below : List Frame} {meth : Method} {c : Code} {G : Gc} {b : Nat} {xs : Nat → Int32} (hst : l.stackTraces = false) (qx : Nat) (qm : Nat) (qz : Nat) (qt : Nat) (qs : Nat) (qd : Nat) (qa : Nat) (qb : Nat) (qh : Nat) (qr : Nat) (qe : Nat) (qp : Nat) (qf : Nat) (qn : Nat) (qi : Nat) (qo : Nat) (mtape : Nat) (mnow : Nat) (mread : Nat) (mkept : Nat) (msnaps : Nat) (maside : Nat) (mname : Nat) (mreadName : Nat) (mkeptName : Nat) (misKept : Nat) (monces : Nat) (morder : Nat) (mordered : Nat) (mtext : Nat) (mline : Nat) (mwritten : Nat) (mnode : Nat) {A : Nat → Prop} (eA : A = fun q : Nat => s.heap.size ≤ q) {H : Heap} {locs : List Loc} {ls : Array Slot} (C0 : lw_At p s m meth c b 6 xs) (hw : Wd G s A [(qx, .inr (9, [.ref qt, .ref qs, .ref qd, .ref qa, .ref qb, .ref qh, .ref qr, .ref qe, .ref qp, .ref qf, .ref qn, .ref qi, .ref qo, .int 0, .int 0, .int (-1), .int (-1)])), (qm, .inr (10, [.int 0, .ref mtape, .int 0, .int 0, .int 0, .int 0, .int 0, .int 0, .int 0, .int 0, .int 0, .int 0, .long 0, .int 0, .ref mnow, .ref mread, .ref mkept, .ref msnaps, .ref maside, .ref mname, .ref mreadName, .ref mkeptName, .ref misKept, .ref monces, .int 0, .ref morder, .ref mordered, .int 0, .int 0, .int 0, .int (-1), .int (-1), .ref mtext, .int 0, .int 0, .ref mline, .ref mwritten, .int 0, .int 0, .ref mnode, .int 0, .int 0, .int 0, .int 0]))] H locs) (hl : lv_has ls 7 [(4, .int 0), (3, .ref qz), (2, .ref qm), (1, .ref qx), (0, .ref b)]) : W p l e room_1 s m #[Value.ref b] below meth c H locs 147 5480 (lw_Z below #[Value.ref b] s) (F0 m 1005 ls []) := by
  subst eA
  obtain ⟨hx, hb, hr, hml, hown, hts, hX, hbl, hlocks, hgv⟩ := id C0
  have hbA : ¬ (fun q : Nat => s.heap.size ≤ q) b := Nat.not_le.mpr hbl
  have C : CallFix p m c code 7 s #[Value.ref b] gw "LanternStateLaw" := ⟨hx, hb, hml, hown, fun w h => hts w (gw_sub w h)⟩
  refine lv_aload_n C.1 C.2.1 dL_law_1005 rfl (lv_at hl 3 rfl) ?_
  refine x_calliV (As := []) (rest := []) (wr := [(qm, .inr (10, [.int 0, .ref mtape, .int 0, .int 0, .int 0, .int 0, .int 0, .int 0, .int 0, .int 0, .int 0, .int 0, .long 0, .int 0, .ref mnow, .ref mread, .ref mkept, .ref msnaps, .ref maside, .ref mname, .ref mreadName, .ref mkeptName, .ref misKept, .ref monces, .int 0, .ref morder, .ref mordered, .int 0, .int 0, .int 0, .int (-1), .int (-1), .ref mtext, .int 0, .int 0, .ref mline, .ref mwritten, .int 0, .int 0, .ref mnode, .int 0, .int 0, .int 0, .int 0]))]) C hw (c_X10_scratched qx qt qs qd qa qb qh qr qe qp qf qn qi qo) mwX10_scratched kw864 [0] [1] rfl rfl rfl rfl (by decide) 0 rfl rfl rfl rfl hl.1 rfl (Nat.le_of_ble_eq_true rfl) ⟨(Nat.le_of_ble_eq_true rfl), (Nat.le_of_ble_eq_true rfl)⟩ ⟨(Nat.le_of_ble_eq_true rfl), (Nat.le_of_ble_eq_true rfl)⟩ dL_law_1006 (fun r1 u9 H locs hp9 hw => ?_)
  obtain ⟨rfl, rfl⟩ := hp9
  have hw : Wd G s (fun q : Nat => s.heap.size ≤ q) [(qm, .inr (10, [.int 0, .ref mtape, .int 0, .int 0, .int 0, .int 0, .int 0, .int 0, .int 0, .int 0, .int 0, .int 0, .long 0, .int 0, .ref mnow, .ref mread, .ref mkept, .ref msnaps, .ref maside, .ref mname, .ref mreadName, .ref mkeptName, .ref misKept, .ref monces, .int 0, .ref morder, .ref mordered, .int 0, .int 0, .int 0, .int (-1), .int (-1), .ref mtext, .int 0, .int 0, .ref mline, .ref mwritten, .int 0, .int 0, .ref mnode, .int 0, .int 0, .int 0, .int 0])), (qx, .inr (9, [.ref qt, .ref qs, .ref qd, .ref qa, .ref qb, .ref qh, .ref qr, .ref qe, .ref qp, .ref qf, .ref qn, .ref qi, .ref qo, .int 0, .int 0, .int (-1), .int (-1)]))] H _ := hw
  refine lv_aload_n C.1 C.2.1 dL_law_1009 rfl (lv_at hl 2 rfl) ?_
  refine x_calliV (As := []) (rest := [.int (-1)]) (wr := [(qx, .inr (9, [.ref qt, .ref qs, .ref qd, .ref qa, .ref qb, .ref qh, .ref qr, .ref qe, .ref qp, .ref qf, .ref qn, .ref qi, .ref qo, .int 0, .int 0, .int (-1), .int (-1)]))]) C hw (c_X11_scratched qm mtape mnow mread mkept msnaps maside mname mreadName mkeptName misKept monces morder mordered mtext mline mwritten mnode) mwX11_scratched kw1641 [0] [1] rfl rfl rfl rfl (by decide) 0 rfl rfl rfl rfl hl.1 rfl (Nat.le_of_ble_eq_true rfl) ⟨(Nat.le_of_ble_eq_true rfl), (Nat.le_of_ble_eq_true rfl)⟩ ⟨(Nat.le_of_ble_eq_true rfl), (Nat.le_of_ble_eq_true rfl)⟩ dL_law_1010 (fun r2 u9 H locs hp9 hw => ?_)
  obtain ⟨rfl, rfl⟩ := hp9
  have hw : Wd G s (fun q : Nat => s.heap.size ≤ q) [(qx, .inr (9, [.ref qt, .ref qs, .ref qd, .ref qa, .ref qb, .ref qh, .ref qr, .ref qe, .ref qp, .ref qf, .ref qn, .ref qi, .ref qo, .int 0, .int 0, .int (-1), .int (-1)]))] H _ := hw
  refine lv_icmp_eq (tgt := 1405) C.1 C.2.1 dL_law_1013 (by decide) (fun _ => ?_) (fun h9 => absurd (by decide) h9)
  refine lv_iinc (v := 6) (lv' := [(4, .int 6), (3, .ref qz), (2, .ref qm), (1, .ref qx), (0, .ref b)]) C.1 C.2.1 dL_law_1405 hl (k := 0) rfl (by decide) (by decide) rfl (fun ls hl => ?_)
  refine lv_goto (tgt := 23) C.1 C.2.1 dL_law_1408 (by decide) ?_
  exact law_tail C0 hw (Nat.le_of_ble_eq_true rfl) (Nat.le_of_ble_eq_true rfl) (lv_sub hl [0, 4] rfl)
theorem dL_law_1018 : decode cL_law 1018 = .ok (.aload_n 1, 1) := by decide +kernel
theorem dL_law_1019 : decode cL_law 1019 = .ok (.invokevirtual 128, 3) := by decide +kernel
theorem mwX10_seen : MwV yX10_seen cX10_seen 5 (some .int) 0 := ⟨⟨kw871, kw1, by decide +kernel⟩, kw869, kw870⟩
theorem dL_law_1022 : decode cL_law 1022 = .ok (.aload_n 2, 1) := by decide +kernel
theorem dL_law_1023 : decode cL_law 1023 = .ok (.invokevirtual 131, 3) := by decide +kernel
theorem mwX11_seen : MwV yX11_seen cX11_seen 7 (some .int) 0 := ⟨⟨kw1648, kw15, by decide +kernel⟩, kw1646, kw1647⟩
theorem dL_law_1026 : decode cL_law 1026 = .ok (.if_icmp .eq 379, 3) := by decide +kernel
set_option maxHeartbeats 4000000 in
set_option maxRecDepth 100000 in
theorem law_seen {p : Program} {l : Launch} {e : Env} {s : State} {m : MethodId} {below : List Frame} {meth : Method} {c : Code} {G : Gc} {b : Nat} {xs : Nat → Int32} (hst : l.stackTraces = false) (qx : Nat) (qm : Nat) (qz : Nat) (qt : Nat) (qs : Nat) (qd : Nat) (qa : Nat) (qb : Nat) (qh : Nat) (qr : Nat) (qe : Nat) (qp : Nat) (qf : Nat) (qn : Nat) (qi : Nat) (qo : Nat) (kc : Nat) (bys : Nat) (mtape : Nat) (mnow : Nat) (mread : Nat) (mkept : Nat) (msnaps : Nat) (maside : Nat) (mname : Nat) (mreadName : Nat) (mkeptName : Nat) (misKept : Nat) (monces : Nat) (morder : Nat) (mordered : Nat) (mtext : Nat) (mline : Nat) (mwritten : Nat) (mnode : Nat) {A : Nat → Prop} (eA : A = fun q : Nat => s.heap.size ≤ q) {H : Heap} {locs : List Loc} {ls : Array Slot} (C0 : lw_At p s m meth c b 6 xs) (hw : Wd G s A [(qx, .inr (9, [.ref qt, .ref qs, .ref qd, .ref qa, .ref qb, .ref qh, .ref qr, .ref qe, .ref qp, .ref qf, .ref qn, .ref qi, .ref qo, .int 0, .int 0, .int (-1), .int (-1)])), (qt, .inr (8, [.ref kc, .ref bys, .int 0, .int 0, .int 0, .int 0, .int 0, .int 0, .long 0, .int 0, .int 0, .int 0])), (qm, .inr (10, [.int 0, .ref mtape, .int 0, .int 0, .int 0, .int 0, .int 0, .int 0, .int 0, .int 0, .int 0, .int 0, .long 0, .int 0, .ref mnow, .ref mread, .ref mkept, .ref msnaps, .ref maside, .ref mname, .ref mreadName, .ref mkeptName, .ref misKept, .ref monces, .int 0, .ref morder, .ref mordered, .int 0, .int 0, .int 0, .int (-1), .int (-1), .ref mtext, .int 0, .int 0, .ref mline, .ref mwritten, .int 0, .int 0, .ref mnode, .int 0, .int 0, .int 0, .int 0]))] H locs) (hl : lv_has ls 7 [(4, .int 0), (3, .ref qz), (2, .ref qm), (1, .ref qx), (0, .ref b)]) : W p l e room_1 s m #[Value.ref b] below meth c H locs 147 5480 (lw_Z below #[Value.ref b] s) (F0 m 1018 ls []) := by
  subst eA
  obtain ⟨hx, hb, hr, hml, hown, hts, hX, hbl, hlocks, hgv⟩ := id C0
  have hbA : ¬ (fun q : Nat => s.heap.size ≤ q) b := Nat.not_le.mpr hbl
  have C : CallFix p m c code 7 s #[Value.ref b] gw "LanternStateLaw" := ⟨hx, hb, hml, hown, fun w h => hts w (gw_sub w h)⟩
  refine lv_aload_n C.1 C.2.1 dL_law_1018 rfl (lv_at hl 3 rfl) ?_
  refine x_calliV (As := []) (rest := []) (wr := [(qm, .inr (10, [.int 0, .ref mtape, .int 0, .int 0, .int 0, .int 0, .int 0, .int 0, .int 0, .int 0, .int 0, .int 0, .long 0, .int 0, .ref mnow, .ref mread, .ref mkept, .ref msnaps, .ref maside, .ref mname, .ref mreadName, .ref mkeptName, .ref misKept, .ref monces, .int 0, .ref morder, .ref mordered, .int 0, .int 0, .int 0, .int (-1), .int (-1), .ref mtext, .int 0, .int 0, .ref mline, .ref mwritten, .int 0, .int 0, .ref mnode, .int 0, .int 0, .int 0, .int 0]))]) C hw (c_X10_seen qx qt qs qd qa qb qh qr qe qp qf qn qi qo kc bys) mwX10_seen kw868 [0, 1] [2] rfl rfl rfl rfl (by decide) 0 rfl rfl rfl rfl hl.1 rfl (Nat.le_of_ble_eq_true rfl) ⟨(Nat.le_of_ble_eq_true rfl), (Nat.le_of_ble_eq_true rfl)⟩ ⟨(Nat.le_of_ble_eq_true rfl), (Nat.le_of_ble_eq_true rfl)⟩ dL_law_1019 (fun r1 u9 H locs hp9 hw => ?_)
  obtain ⟨rfl, rfl⟩ := hp9
  have hw : Wd G s (fun q : Nat => s.heap.size ≤ q) [(qm, .inr (10, [.int 0, .ref mtape, .int 0, .int 0, .int 0, .int 0, .int 0, .int 0, .int 0, .int 0, .int 0, .int 0, .long 0, .int 0, .ref mnow, .ref mread, .ref mkept, .ref msnaps, .ref maside, .ref mname, .ref mreadName, .ref mkeptName, .ref misKept, .ref monces, .int 0, .ref morder, .ref mordered, .int 0, .int 0, .int 0, .int (-1), .int (-1), .ref mtext, .int 0, .int 0, .ref mline, .ref mwritten, .int 0, .int 0, .ref mnode, .int 0, .int 0, .int 0, .int 0])), (qx, .inr (9, [.ref qt, .ref qs, .ref qd, .ref qa, .ref qb, .ref qh, .ref qr, .ref qe, .ref qp, .ref qf, .ref qn, .ref qi, .ref qo, .int 0, .int 0, .int (-1), .int (-1)])), (qt, .inr (8, [.ref kc, .ref bys, .int 0, .int 0, .int 0, .int 0, .int 0, .int 0, .long 0, .int 0, .int 0, .int 0]))] H _ := hw
  refine lv_aload_n C.1 C.2.1 dL_law_1022 rfl (lv_at hl 2 rfl) ?_
  refine x_calliV (As := []) (rest := [.int (-1)]) (wr := [(qx, .inr (9, [.ref qt, .ref qs, .ref qd, .ref qa, .ref qb, .ref qh, .ref qr, .ref qe, .ref qp, .ref qf, .ref qn, .ref qi, .ref qo, .int 0, .int 0, .int (-1), .int (-1)])), (qt, .inr (8, [.ref kc, .ref bys, .int 0, .int 0, .int 0, .int 0, .int 0, .int 0, .long 0, .int 0, .int 0, .int 0]))]) C hw (c_X11_seen qm mtape mnow mread mkept msnaps maside mname mreadName mkeptName misKept monces morder mordered mtext mline mwritten mnode) mwX11_seen kw1645 [0] [1, 2] rfl rfl rfl rfl (by decide) 0 rfl rfl rfl rfl hl.1 rfl (Nat.le_of_ble_eq_true rfl) ⟨(Nat.le_of_ble_eq_true rfl), (Nat.le_of_ble_eq_true rfl)⟩ ⟨(Nat.le_of_ble_eq_true rfl), (Nat.le_of_ble_eq_true rfl)⟩ dL_law_1023 (fun r2 u9 H locs hp9 hw => ?_)
  obtain ⟨rfl, rfl⟩ := hp9
  have hw : Wd G s (fun q : Nat => s.heap.size ≤ q) [(qx, .inr (9, [.ref qt, .ref qs, .ref qd, .ref qa, .ref qb, .ref qh, .ref qr, .ref qe, .ref qp, .ref qf, .ref qn, .ref qi, .ref qo, .int 0, .int 0, .int (-1), .int (-1)])), (qt, .inr (8, [.ref kc, .ref bys, .int 0, .int 0, .int 0, .int 0, .int 0, .int 0, .long 0, .int 0, .int 0, .int 0]))] H _ := hw
  refine lv_icmp_eq (tgt := 1405) C.1 C.2.1 dL_law_1026 (by decide) (fun _ => ?_) (fun h9 => absurd (by decide) h9)
  refine lv_iinc (v := 6) (lv' := [(4, .int 6), (3, .ref qz), (2, .ref qm), (1, .ref qx), (0, .ref b)]) C.1 C.2.1 dL_law_1405 hl (k := 0) rfl (by decide) (by decide) rfl (fun ls hl => ?_)
  refine lv_goto (tgt := 23) C.1 C.2.1 dL_law_1408 (by decide) ?_
  exact law_tail C0 hw (Nat.le_of_ble_eq_true rfl) (Nat.le_of_ble_eq_true rfl) (lv_sub hl [0, 4] rfl)
theorem dL_law_1031 : decode cL_law 1031 = .ok (.aload_n 1, 1) := by decide +kernel
theorem dL_law_1032 : decode cL_law 1032 = .ok (.aload_n 0, 1) := by decide +kernel
theorem dL_law_1033 : decode cL_law 1033 = .ok (.iload 4, 2) := by decide +kernel
theorem dL_law_1035 : decode cL_law 1035 = .ok (.iconst 1, 1) := by decide +kernel
theorem dL_law_1036 : decode cL_law 1036 = .ok (.iadd, 1) := by decide +kernel
theorem dL_law_1037 : decode cL_law 1037 = .ok (.iaload, 1) := by decide +kernel
theorem dL_law_1038 : decode cL_law 1038 = .ok (.invokevirtual 132, 3) := by decide +kernel
theorem mwX10_alike : MwV yX10_alike cX10_alike 2 (some .int) 1 := ⟨⟨kw884, kw1, by decide +kernel⟩, kw882, kw883⟩
theorem dL_law_1041 : decode cL_law 1041 = .ok (.aload_n 2, 1) := by decide +kernel
theorem dL_law_1042 : decode cL_law 1042 = .ok (.aload_n 0, 1) := by decide +kernel
theorem dL_law_1043 : decode cL_law 1043 = .ok (.iload 4, 2) := by decide +kernel
theorem dL_law_1045 : decode cL_law 1045 = .ok (.iconst 1, 1) := by decide +kernel
theorem dL_law_1046 : decode cL_law 1046 = .ok (.iadd, 1) := by decide +kernel
theorem dL_law_1047 : decode cL_law 1047 = .ok (.iaload, 1) := by decide +kernel
theorem dL_law_1048 : decode cL_law 1048 = .ok (.invokevirtual 135, 3) := by decide +kernel
theorem mwX11_alike : MwV yX11_alike cX11_alike 4 (some .int) 1 := ⟨⟨kw1652, kw15, by decide +kernel⟩, kw1650, kw1651⟩
theorem dL_law_1051 : decode cL_law 1051 = .ok (.if_icmp .eq 354, 3) := by decide +kernel
set_option maxHeartbeats 4000000 in
set_option maxRecDepth 100000 in
theorem law_alike {p : Program} {l : Launch} {e : Env} {s : State} {m : MethodId} {below : List Frame} {meth : Method} {c : Code} {G : Gc} {b : Nat} {xs : Nat → Int32} (hst : l.stackTraces = false) (qx : Nat) (qm : Nat) (qz : Nat) (qt : Nat) (qs : Nat) (qd : Nat) (qa : Nat) (qb : Nat) (qh : Nat) (qr : Nat) (qe : Nat) (qp : Nat) (qf : Nat) (qn : Nat) (qi : Nat) (qo : Nat) (sslideNames : Nat) (spictures : Nat) (sheats : Nat) (safter : Nat) (shearerNames : Nat) (sneeds : Nat) (slikes : Nat) (shates : Nat) (snear : Nat) (mtape : Nat) (mnow : Nat) (mread : Nat) (mkept : Nat) (msnaps : Nat) (maside : Nat) (mname : Nat) (mreadName : Nat) (mkeptName : Nat) (misKept : Nat) (monces : Nat) (morder : Nat) (mordered : Nat) (mtext : Nat) (mline : Nat) (mwritten : Nat) (mnode : Nat) {A : Nat → Prop} (eA : A = fun q : Nat => s.heap.size ≤ q) {H : Heap} {locs : List Loc} {ls : Array Slot} (C0 : lw_At p s m meth c b 6 xs) (hw : Wd G s A [(qx, .inr (9, [.ref qt, .ref qs, .ref qd, .ref qa, .ref qb, .ref qh, .ref qr, .ref qe, .ref qp, .ref qf, .ref qn, .ref qi, .ref qo, .int 0, .int 0, .int (-1), .int (-1)])), (qs, .inr (4, [.int 0, .int 0, .int 0, .int 0, .int 1, .int 0, .int 40, .int 0, .int 0, .ref sslideNames, .ref spictures, .ref sheats, .ref safter, .ref shearerNames, .ref sneeds, .ref slikes, .ref shates, .ref snear])), (qm, .inr (10, [.int 0, .ref mtape, .int 0, .int 0, .int 0, .int 0, .int 0, .int 0, .int 0, .int 0, .int 0, .int 0, .long 0, .int 0, .ref mnow, .ref mread, .ref mkept, .ref msnaps, .ref maside, .ref mname, .ref mreadName, .ref mkeptName, .ref misKept, .ref monces, .int 0, .ref morder, .ref mordered, .int 0, .int 0, .int 0, .int (-1), .int (-1), .ref mtext, .int 0, .int 0, .ref mline, .ref mwritten, .int 0, .int 0, .ref mnode, .int 0, .int 0, .int 0, .int 0])), (mnow, eI G 339 nw0)] H locs) (hl : lv_has ls 7 [(4, .int 0), (3, .ref qz), (2, .ref qm), (1, .ref qx), (0, .ref b)]) : W p l e room_1 s m #[Value.ref b] below meth c H locs 147 5480 (lw_Z below #[Value.ref b] s) (F0 m 1031 ls []) := by
  subst eA
  obtain ⟨hx, hb, hr, hml, hown, hts, hX, hbl, hlocks, hgv⟩ := id C0
  have hbA : ¬ (fun q : Nat => s.heap.size ≤ q) b := Nat.not_le.mpr hbl
  have C : CallFix p m c code 7 s #[Value.ref b] gw "LanternStateLaw" := ⟨hx, hb, hml, hown, fun w h => hts w (gw_sub w h)⟩
  refine lv_aload_n C.1 C.2.1 dL_law_1031 rfl (lv_at hl 3 rfl) ?_
  refine lv_aload_n C.1 C.2.1 dL_law_1032 rfl (lv_at hl 4 rfl) ?_
  refine lv_iload C.1 C.2.1 dL_law_1033 (lv_at hl 0 rfl) ?_
  refine lv_iconst (v := 1) C.1 C.2.1 dL_law_1035 (by decide) ?_
  refine lv_iadd C.1 C.2.1 dL_law_1036 ?_
  refine x_topi (z := 1) (by decide) ?_
  refine va_sld C.1 C.2.1 hX hbl hbA hw.2.2.2.1 (i := 1) (x_in rfl) dL_law_1037 ?_
  refine x_topi (z := (xs 1)) rfl ?_
  refine x_calliV (As := [.int (xs 1)]) (rest := []) (wr := [(qm, .inr (10, [.int 0, .ref mtape, .int 0, .int 0, .int 0, .int 0, .int 0, .int 0, .int 0, .int 0, .int 0, .int 0, .long 0, .int 0, .ref mnow, .ref mread, .ref mkept, .ref msnaps, .ref maside, .ref mname, .ref mreadName, .ref mkeptName, .ref misKept, .ref monces, .int 0, .ref morder, .ref mordered, .int 0, .int 0, .int 0, .int (-1), .int (-1), .ref mtext, .int 0, .int 0, .ref mline, .ref mwritten, .int 0, .int 0, .ref mnode, .int 0, .int 0, .int 0, .int 0])), (mnow, eI G 339 nw0)]) C hw (c_X10_alike qx (xs 1) qt qs qd qa qb qh qr qe qp qf qn qi qo sslideNames spictures sheats safter shearerNames sneeds slikes shates snear) mwX10_alike kw881 [0, 1] [2, 3] rfl rfl rfl rfl (by decide) 0 rfl rfl rfl rfl hl.1 rfl (Nat.le_of_ble_eq_true rfl) ⟨(Nat.le_of_ble_eq_true rfl), (Nat.le_of_ble_eq_true rfl)⟩ ⟨(Nat.le_of_ble_eq_true rfl), (Nat.le_of_ble_eq_true rfl)⟩ dL_law_1038 (fun r1 u9 H locs hp9 hw => ?_)
  obtain ⟨rfl, rfl⟩ := hp9
  have hw : Wd G s (fun q : Nat => s.heap.size ≤ q) [(qm, .inr (10, [.int 0, .ref mtape, .int 0, .int 0, .int 0, .int 0, .int 0, .int 0, .int 0, .int 0, .int 0, .int 0, .long 0, .int 0, .ref mnow, .ref mread, .ref mkept, .ref msnaps, .ref maside, .ref mname, .ref mreadName, .ref mkeptName, .ref misKept, .ref monces, .int 0, .ref morder, .ref mordered, .int 0, .int 0, .int 0, .int (-1), .int (-1), .ref mtext, .int 0, .int 0, .ref mline, .ref mwritten, .int 0, .int 0, .ref mnode, .int 0, .int 0, .int 0, .int 0])), (mnow, eI G 339 nw0), (qx, .inr (9, [.ref qt, .ref qs, .ref qd, .ref qa, .ref qb, .ref qh, .ref qr, .ref qe, .ref qp, .ref qf, .ref qn, .ref qi, .ref qo, .int 0, .int 0, .int (-1), .int (-1)])), (qs, .inr (4, [.int 0, .int 0, .int 0, .int 0, .int 1, .int 0, .int 40, .int 0, .int 0, .ref sslideNames, .ref spictures, .ref sheats, .ref safter, .ref shearerNames, .ref sneeds, .ref slikes, .ref shates, .ref snear]))] H _ := hw
  refine lv_aload_n C.1 C.2.1 dL_law_1041 rfl (lv_at hl 2 rfl) ?_
  refine lv_aload_n C.1 C.2.1 dL_law_1042 rfl (lv_at hl 4 rfl) ?_
  refine lv_iload C.1 C.2.1 dL_law_1043 (lv_at hl 0 rfl) ?_
  refine lv_iconst (v := 1) C.1 C.2.1 dL_law_1045 (by decide) ?_
  refine lv_iadd C.1 C.2.1 dL_law_1046 ?_
  refine x_topi (z := 1) (by decide) ?_
  refine va_sld C.1 C.2.1 hX hbl hbA hw.2.2.2.1 (i := 1) (x_in rfl) dL_law_1047 ?_
  refine x_topi (z := (xs 1)) rfl ?_
  refine x_calliV (As := [.int (xs 1)]) (rest := [.int (-1)]) (wr := [(qx, .inr (9, [.ref qt, .ref qs, .ref qd, .ref qa, .ref qb, .ref qh, .ref qr, .ref qe, .ref qp, .ref qf, .ref qn, .ref qi, .ref qo, .int 0, .int 0, .int (-1), .int (-1)])), (qs, .inr (4, [.int 0, .int 0, .int 0, .int 0, .int 1, .int 0, .int 40, .int 0, .int 0, .ref sslideNames, .ref spictures, .ref sheats, .ref safter, .ref shearerNames, .ref sneeds, .ref slikes, .ref shates, .ref snear]))]) C hw (c_X11_alike qm (xs 1) mtape mnow mread mkept msnaps maside mname mreadName mkeptName misKept monces morder mordered mtext mline mwritten mnode) mwX11_alike kw1649 [0, 1] [2, 3] rfl rfl rfl rfl (by decide) 0 rfl rfl rfl rfl hl.1 rfl (Nat.le_of_ble_eq_true rfl) ⟨(Nat.le_of_ble_eq_true rfl), (Nat.le_of_ble_eq_true rfl)⟩ ⟨(Nat.le_of_ble_eq_true rfl), (Nat.le_of_ble_eq_true rfl)⟩ dL_law_1048 (fun r2 u9 H locs hp9 hw => ?_)
  obtain ⟨rfl, rfl⟩ := hp9
  have hw : Wd G s (fun q : Nat => s.heap.size ≤ q) [(qx, .inr (9, [.ref qt, .ref qs, .ref qd, .ref qa, .ref qb, .ref qh, .ref qr, .ref qe, .ref qp, .ref qf, .ref qn, .ref qi, .ref qo, .int 0, .int 0, .int (-1), .int (-1)])), (qs, .inr (4, [.int 0, .int 0, .int 0, .int 0, .int 1, .int 0, .int 40, .int 0, .int 0, .ref sslideNames, .ref spictures, .ref sheats, .ref safter, .ref shearerNames, .ref sneeds, .ref slikes, .ref shates, .ref snear]))] H _ := hw
  refine lv_icmp_eq (tgt := 1405) C.1 C.2.1 dL_law_1051 (by decide) (fun _ => ?_) (fun h9 => absurd (by decide) h9)
  refine lv_iinc (v := 6) (lv' := [(4, .int 6), (3, .ref qz), (2, .ref qm), (1, .ref qx), (0, .ref b)]) C.1 C.2.1 dL_law_1405 hl (k := 0) rfl (by decide) (by decide) rfl (fun ls hl => ?_)
  refine lv_goto (tgt := 23) C.1 C.2.1 dL_law_1408 (by decide) ?_
  exact law_tail C0 hw (Nat.le_of_ble_eq_true rfl) (Nat.le_of_ble_eq_true rfl) (lv_sub hl [0, 4] rfl)
theorem dL_law_1056 : decode cL_law 1056 = .ok (.aload_n 1, 1) := by decide +kernel
theorem dL_law_1057 : decode cL_law 1057 = .ok (.aload_n 0, 1) := by decide +kernel
theorem dL_law_1058 : decode cL_law 1058 = .ok (.iload 4, 2) := by decide +kernel
theorem dL_law_1060 : decode cL_law 1060 = .ok (.iconst 1, 1) := by decide +kernel
theorem dL_law_1061 : decode cL_law 1061 = .ok (.iadd, 1) := by decide +kernel
theorem dL_law_1062 : decode cL_law 1062 = .ok (.iaload, 1) := by decide +kernel
theorem dL_law_1063 : decode cL_law 1063 = .ok (.aload_n 0, 1) := by decide +kernel
theorem dL_law_1064 : decode cL_law 1064 = .ok (.iload 4, 2) := by decide +kernel
theorem dL_law_1066 : decode cL_law 1066 = .ok (.iconst 2, 1) := by decide +kernel
theorem dL_law_1067 : decode cL_law 1067 = .ok (.iadd, 1) := by decide +kernel
theorem dL_law_1068 : decode cL_law 1068 = .ok (.iaload, 1) := by decide +kernel
theorem dL_law_1069 : decode cL_law 1069 = .ok (.invokevirtual 136, 3) := by decide +kernel
theorem mwX10_differ : MwV yX10_differ cX10_differ 3 (some .int) 2 := ⟨⟨kw894, kw1, by decide +kernel⟩, kw892, kw893⟩
theorem dL_law_1072 : decode cL_law 1072 = .ok (.aload_n 2, 1) := by decide +kernel
theorem dL_law_1073 : decode cL_law 1073 = .ok (.aload_n 0, 1) := by decide +kernel
theorem dL_law_1074 : decode cL_law 1074 = .ok (.iload 4, 2) := by decide +kernel
theorem dL_law_1076 : decode cL_law 1076 = .ok (.iconst 1, 1) := by decide +kernel
theorem dL_law_1077 : decode cL_law 1077 = .ok (.iadd, 1) := by decide +kernel
theorem dL_law_1078 : decode cL_law 1078 = .ok (.iaload, 1) := by decide +kernel
theorem dL_law_1079 : decode cL_law 1079 = .ok (.aload_n 0, 1) := by decide +kernel
theorem dL_law_1080 : decode cL_law 1080 = .ok (.iload 4, 2) := by decide +kernel
theorem dL_law_1082 : decode cL_law 1082 = .ok (.iconst 2, 1) := by decide +kernel
theorem dL_law_1083 : decode cL_law 1083 = .ok (.iadd, 1) := by decide +kernel
theorem dL_law_1084 : decode cL_law 1084 = .ok (.iaload, 1) := by decide +kernel
theorem dL_law_1085 : decode cL_law 1085 = .ok (.invokevirtual 139, 3) := by decide +kernel
theorem mwX11_differ : MwV yX11_differ cX11_differ 3 (some .int) 2 := ⟨⟨kw1659, kw15, by decide +kernel⟩, kw1657, kw1658⟩
theorem dL_law_1088 : decode cL_law 1088 = .ok (.if_icmp .eq 317, 3) := by decide +kernel
set_option maxHeartbeats 4000000 in
set_option maxRecDepth 100000 in
theorem law_differ {p : Program} {l : Launch} {e : Env} {s : State} {m : MethodId} {below : List Frame} {meth : Method} {c : Code} {G : Gc} {b : Nat} {xs : Nat → Int32} (hst : l.stackTraces = false) (qx : Nat) (qm : Nat) (qz : Nat) (qt : Nat) (qs : Nat) (qd : Nat) (qa : Nat) (qb : Nat) (qh : Nat) (qr : Nat) (qe : Nat) (qp : Nat) (qf : Nat) (qn : Nat) (qi : Nat) (qo : Nat) (sslideNames : Nat) (spictures : Nat) (sheats : Nat) (safter : Nat) (shearerNames : Nat) (sneeds : Nat) (slikes : Nat) (shates : Nat) (snear : Nat) (mtape : Nat) (mnow : Nat) (mread : Nat) (mkept : Nat) (msnaps : Nat) (maside : Nat) (mname : Nat) (mreadName : Nat) (mkeptName : Nat) (misKept : Nat) (monces : Nat) (morder : Nat) (mordered : Nat) (mtext : Nat) (mline : Nat) (mwritten : Nat) (mnode : Nat) {A : Nat → Prop} (eA : A = fun q : Nat => s.heap.size ≤ q) {H : Heap} {locs : List Loc} {ls : Array Slot} (C0 : lw_At p s m meth c b 6 xs) (hw : Wd G s A [(qx, .inr (9, [.ref qt, .ref qs, .ref qd, .ref qa, .ref qb, .ref qh, .ref qr, .ref qe, .ref qp, .ref qf, .ref qn, .ref qi, .ref qo, .int 0, .int 0, .int (-1), .int (-1)])), (qs, .inr (4, [.int 0, .int 0, .int 0, .int 0, .int 1, .int 0, .int 40, .int 0, .int 0, .ref sslideNames, .ref spictures, .ref sheats, .ref safter, .ref shearerNames, .ref sneeds, .ref slikes, .ref shates, .ref snear])), (qm, .inr (10, [.int 0, .ref mtape, .int 0, .int 0, .int 0, .int 0, .int 0, .int 0, .int 0, .int 0, .int 0, .int 0, .long 0, .int 0, .ref mnow, .ref mread, .ref mkept, .ref msnaps, .ref maside, .ref mname, .ref mreadName, .ref mkeptName, .ref misKept, .ref monces, .int 0, .ref morder, .ref mordered, .int 0, .int 0, .int 0, .int (-1), .int (-1), .ref mtext, .int 0, .int 0, .ref mline, .ref mwritten, .int 0, .int 0, .ref mnode, .int 0, .int 0, .int 0, .int 0])), (mnow, eI G 339 nw0)] H locs) (hl : lv_has ls 7 [(4, .int 0), (3, .ref qz), (2, .ref qm), (1, .ref qx), (0, .ref b)]) : W p l e room_1 s m #[Value.ref b] below meth c H locs 147 5480 (lw_Z below #[Value.ref b] s) (F0 m 1056 ls []) := by
  subst eA
  obtain ⟨hx, hb, hr, hml, hown, hts, hX, hbl, hlocks, hgv⟩ := id C0
  have hbA : ¬ (fun q : Nat => s.heap.size ≤ q) b := Nat.not_le.mpr hbl
  have C : CallFix p m c code 7 s #[Value.ref b] gw "LanternStateLaw" := ⟨hx, hb, hml, hown, fun w h => hts w (gw_sub w h)⟩
  refine lv_aload_n C.1 C.2.1 dL_law_1056 rfl (lv_at hl 3 rfl) ?_
  refine lv_aload_n C.1 C.2.1 dL_law_1057 rfl (lv_at hl 4 rfl) ?_
  refine lv_iload C.1 C.2.1 dL_law_1058 (lv_at hl 0 rfl) ?_
  refine lv_iconst (v := 1) C.1 C.2.1 dL_law_1060 (by decide) ?_
  refine lv_iadd C.1 C.2.1 dL_law_1061 ?_
  refine x_topi (z := 1) (by decide) ?_
  refine va_sld C.1 C.2.1 hX hbl hbA hw.2.2.2.1 (i := 1) (x_in rfl) dL_law_1062 ?_
  refine x_topi (z := (xs 1)) rfl ?_
  refine lv_aload_n C.1 C.2.1 dL_law_1063 rfl (lv_at hl 4 rfl) ?_
  refine lv_iload C.1 C.2.1 dL_law_1064 (lv_at hl 0 rfl) ?_
  refine lv_iconst (v := 2) C.1 C.2.1 dL_law_1066 (by decide) ?_
  refine lv_iadd C.1 C.2.1 dL_law_1067 ?_
  refine x_topi (z := 2) (by decide) ?_
  refine va_sld C.1 C.2.1 hX hbl hbA hw.2.2.2.1 (i := 2) (x_in rfl) dL_law_1068 ?_
  refine x_topi (z := (xs 2)) rfl ?_
  refine x_calliV (As := [.int (xs 1), .int (xs 2)]) (rest := []) (wr := [(qm, .inr (10, [.int 0, .ref mtape, .int 0, .int 0, .int 0, .int 0, .int 0, .int 0, .int 0, .int 0, .int 0, .int 0, .long 0, .int 0, .ref mnow, .ref mread, .ref mkept, .ref msnaps, .ref maside, .ref mname, .ref mreadName, .ref mkeptName, .ref misKept, .ref monces, .int 0, .ref morder, .ref mordered, .int 0, .int 0, .int 0, .int (-1), .int (-1), .ref mtext, .int 0, .int 0, .ref mline, .ref mwritten, .int 0, .int 0, .ref mnode, .int 0, .int 0, .int 0, .int 0])), (mnow, eI G 339 nw0)]) C hw (c_X10_differ qx (xs 1) (xs 2) qt qs qd qa qb qh qr qe qp qf qn qi qo sslideNames spictures sheats safter shearerNames sneeds slikes shates snear) mwX10_differ kw891 [0, 1] [2, 3] rfl rfl rfl rfl (by decide) 0 rfl rfl rfl rfl hl.1 rfl (Nat.le_of_ble_eq_true rfl) ⟨(Nat.le_of_ble_eq_true rfl), (Nat.le_of_ble_eq_true rfl)⟩ ⟨(Nat.le_of_ble_eq_true rfl), (Nat.le_of_ble_eq_true rfl)⟩ dL_law_1069 (fun r1 u9 H locs hp9 hw => ?_)
  obtain ⟨rfl, rfl⟩ := hp9
  have hw : Wd G s (fun q : Nat => s.heap.size ≤ q) [(qm, .inr (10, [.int 0, .ref mtape, .int 0, .int 0, .int 0, .int 0, .int 0, .int 0, .int 0, .int 0, .int 0, .int 0, .long 0, .int 0, .ref mnow, .ref mread, .ref mkept, .ref msnaps, .ref maside, .ref mname, .ref mreadName, .ref mkeptName, .ref misKept, .ref monces, .int 0, .ref morder, .ref mordered, .int 0, .int 0, .int 0, .int (-1), .int (-1), .ref mtext, .int 0, .int 0, .ref mline, .ref mwritten, .int 0, .int 0, .ref mnode, .int 0, .int 0, .int 0, .int 0])), (mnow, eI G 339 nw0), (qx, .inr (9, [.ref qt, .ref qs, .ref qd, .ref qa, .ref qb, .ref qh, .ref qr, .ref qe, .ref qp, .ref qf, .ref qn, .ref qi, .ref qo, .int 0, .int 0, .int (-1), .int (-1)])), (qs, .inr (4, [.int 0, .int 0, .int 0, .int 0, .int 1, .int 0, .int 40, .int 0, .int 0, .ref sslideNames, .ref spictures, .ref sheats, .ref safter, .ref shearerNames, .ref sneeds, .ref slikes, .ref shates, .ref snear]))] H _ := hw
  refine lv_aload_n C.1 C.2.1 dL_law_1072 rfl (lv_at hl 2 rfl) ?_
  refine lv_aload_n C.1 C.2.1 dL_law_1073 rfl (lv_at hl 4 rfl) ?_
  refine lv_iload C.1 C.2.1 dL_law_1074 (lv_at hl 0 rfl) ?_
  refine lv_iconst (v := 1) C.1 C.2.1 dL_law_1076 (by decide) ?_
  refine lv_iadd C.1 C.2.1 dL_law_1077 ?_
  refine x_topi (z := 1) (by decide) ?_
  refine va_sld C.1 C.2.1 hX hbl hbA hw.2.2.2.1 (i := 1) (x_in rfl) dL_law_1078 ?_
  refine x_topi (z := (xs 1)) rfl ?_
  refine lv_aload_n C.1 C.2.1 dL_law_1079 rfl (lv_at hl 4 rfl) ?_
  refine lv_iload C.1 C.2.1 dL_law_1080 (lv_at hl 0 rfl) ?_
  refine lv_iconst (v := 2) C.1 C.2.1 dL_law_1082 (by decide) ?_
  refine lv_iadd C.1 C.2.1 dL_law_1083 ?_
  refine x_topi (z := 2) (by decide) ?_
  refine va_sld C.1 C.2.1 hX hbl hbA hw.2.2.2.1 (i := 2) (x_in rfl) dL_law_1084 ?_
  refine x_topi (z := (xs 2)) rfl ?_
  refine x_calliV (As := [.int (xs 1), .int (xs 2)]) (rest := [.int (-1)]) (wr := [(qx, .inr (9, [.ref qt, .ref qs, .ref qd, .ref qa, .ref qb, .ref qh, .ref qr, .ref qe, .ref qp, .ref qf, .ref qn, .ref qi, .ref qo, .int 0, .int 0, .int (-1), .int (-1)])), (qs, .inr (4, [.int 0, .int 0, .int 0, .int 0, .int 1, .int 0, .int 40, .int 0, .int 0, .ref sslideNames, .ref spictures, .ref sheats, .ref safter, .ref shearerNames, .ref sneeds, .ref slikes, .ref shates, .ref snear]))]) C hw (c_X11_differ qm (xs 1) (xs 2) mtape mnow mread mkept msnaps maside mname mreadName mkeptName misKept monces morder mordered mtext mline mwritten mnode) mwX11_differ kw1656 [0, 1] [2, 3] rfl rfl rfl rfl (by decide) 0 rfl rfl rfl rfl hl.1 rfl (Nat.le_of_ble_eq_true rfl) ⟨(Nat.le_of_ble_eq_true rfl), (Nat.le_of_ble_eq_true rfl)⟩ ⟨(Nat.le_of_ble_eq_true rfl), (Nat.le_of_ble_eq_true rfl)⟩ dL_law_1085 (fun r2 u9 H locs hp9 hw => ?_)
  obtain ⟨rfl, rfl⟩ := hp9
  have hw : Wd G s (fun q : Nat => s.heap.size ≤ q) [(qx, .inr (9, [.ref qt, .ref qs, .ref qd, .ref qa, .ref qb, .ref qh, .ref qr, .ref qe, .ref qp, .ref qf, .ref qn, .ref qi, .ref qo, .int 0, .int 0, .int (-1), .int (-1)])), (qs, .inr (4, [.int 0, .int 0, .int 0, .int 0, .int 1, .int 0, .int 40, .int 0, .int 0, .ref sslideNames, .ref spictures, .ref sheats, .ref safter, .ref shearerNames, .ref sneeds, .ref slikes, .ref shates, .ref snear]))] H _ := hw
  refine lv_icmp_eq (tgt := 1405) C.1 C.2.1 dL_law_1088 (by decide) (fun _ => ?_) (fun h9 => absurd (by decide) h9)
  refine lv_iinc (v := 6) (lv' := [(4, .int 6), (3, .ref qz), (2, .ref qm), (1, .ref qx), (0, .ref b)]) C.1 C.2.1 dL_law_1405 hl (k := 0) rfl (by decide) (by decide) rfl (fun ls hl => ?_)
  refine lv_goto (tgt := 23) C.1 C.2.1 dL_law_1408 (by decide) ?_
  exact law_tail C0 hw (Nat.le_of_ble_eq_true rfl) (Nat.le_of_ble_eq_true rfl) (lv_sub hl [0, 4] rfl)
theorem dL_law_1093 : decode cL_law 1093 = .ok (.aload_n 1, 1) := by decide +kernel
theorem dL_law_1094 : decode cL_law 1094 = .ok (.invokevirtual 140, 3) := by decide +kernel
theorem mwX10_parts : MwV yX10_parts cX10_parts 6 (some .int) 0 := ⟨⟨kw898, kw1, by decide +kernel⟩, kw896, kw897⟩
theorem dL_law_1097 : decode cL_law 1097 = .ok (.aload_n 2, 1) := by decide +kernel
theorem dL_law_1098 : decode cL_law 1098 = .ok (.invokevirtual 143, 3) := by decide +kernel
theorem mwX11_parts : MwV yX11_parts cX11_parts 3 (some .int) 0 := ⟨⟨kw1663, kw15, by decide +kernel⟩, kw1661, kw1662⟩
theorem dL_law_1101 : decode cL_law 1101 = .ok (.if_icmp .eq 304, 3) := by decide +kernel
set_option maxHeartbeats 4000000 in
set_option maxRecDepth 100000 in
theorem law_parts {p : Program} {l : Launch} {e : Env} {s : State} {m : MethodId} {below : List Frame} {meth : Method} {c : Code} {G : Gc} {b : Nat} {xs : Nat → Int32} (hst : l.stackTraces = false) (qx : Nat) (qm : Nat) (qz : Nat) (qt : Nat) (qs : Nat) (qd : Nat) (qa : Nat) (qb : Nat) (qh : Nat) (qr : Nat) (qe : Nat) (qp : Nat) (qf : Nat) (qn : Nat) (qi : Nat) (qo : Nat) (sslideNames : Nat) (spictures : Nat) (sheats : Nat) (safter : Nat) (shearerNames : Nat) (sneeds : Nat) (slikes : Nat) (shates : Nat) (snear : Nat) (mtape : Nat) (mnow : Nat) (mread : Nat) (mkept : Nat) (msnaps : Nat) (maside : Nat) (mname : Nat) (mreadName : Nat) (mkeptName : Nat) (misKept : Nat) (monces : Nat) (morder : Nat) (mordered : Nat) (mtext : Nat) (mline : Nat) (mwritten : Nat) (mnode : Nat) {A : Nat → Prop} (eA : A = fun q : Nat => s.heap.size ≤ q) {H : Heap} {locs : List Loc} {ls : Array Slot} (C0 : lw_At p s m meth c b 6 xs) (hw : Wd G s A [(qx, .inr (9, [.ref qt, .ref qs, .ref qd, .ref qa, .ref qb, .ref qh, .ref qr, .ref qe, .ref qp, .ref qf, .ref qn, .ref qi, .ref qo, .int 0, .int 0, .int (-1), .int (-1)])), (qs, .inr (4, [.int 0, .int 0, .int 0, .int 0, .int 1, .int 0, .int 40, .int 0, .int 0, .ref sslideNames, .ref spictures, .ref sheats, .ref safter, .ref shearerNames, .ref sneeds, .ref slikes, .ref shates, .ref snear])), (qm, .inr (10, [.int 0, .ref mtape, .int 0, .int 0, .int 0, .int 0, .int 0, .int 0, .int 0, .int 0, .int 0, .int 0, .long 0, .int 0, .ref mnow, .ref mread, .ref mkept, .ref msnaps, .ref maside, .ref mname, .ref mreadName, .ref mkeptName, .ref misKept, .ref monces, .int 0, .ref morder, .ref mordered, .int 0, .int 0, .int 0, .int (-1), .int (-1), .ref mtext, .int 0, .int 0, .ref mline, .ref mwritten, .int 0, .int 0, .ref mnode, .int 0, .int 0, .int 0, .int 0])), (mnow, eI G 339 nw0)] H locs) (hl : lv_has ls 7 [(4, .int 0), (3, .ref qz), (2, .ref qm), (1, .ref qx), (0, .ref b)]) : W p l e room_1 s m #[Value.ref b] below meth c H locs 147 5480 (lw_Z below #[Value.ref b] s) (F0 m 1093 ls []) := by
  subst eA
  obtain ⟨hx, hb, hr, hml, hown, hts, hX, hbl, hlocks, hgv⟩ := id C0
  have hbA : ¬ (fun q : Nat => s.heap.size ≤ q) b := Nat.not_le.mpr hbl
  have C : CallFix p m c code 7 s #[Value.ref b] gw "LanternStateLaw" := ⟨hx, hb, hml, hown, fun w h => hts w (gw_sub w h)⟩
  refine lv_aload_n C.1 C.2.1 dL_law_1093 rfl (lv_at hl 3 rfl) ?_
  refine x_calliV (As := []) (rest := []) (wr := [(qm, .inr (10, [.int 0, .ref mtape, .int 0, .int 0, .int 0, .int 0, .int 0, .int 0, .int 0, .int 0, .int 0, .int 0, .long 0, .int 0, .ref mnow, .ref mread, .ref mkept, .ref msnaps, .ref maside, .ref mname, .ref mreadName, .ref mkeptName, .ref misKept, .ref monces, .int 0, .ref morder, .ref mordered, .int 0, .int 0, .int 0, .int (-1), .int (-1), .ref mtext, .int 0, .int 0, .ref mline, .ref mwritten, .int 0, .int 0, .ref mnode, .int 0, .int 0, .int 0, .int 0])), (mnow, eI G 339 nw0)]) C hw (c_X10_parts qx qt qs qd qa qb qh qr qe qp qf qn qi qo sslideNames spictures sheats safter shearerNames sneeds slikes shates snear) mwX10_parts kw895 [0, 1] [2, 3] rfl rfl rfl rfl (by decide) 0 rfl rfl rfl rfl hl.1 rfl (Nat.le_of_ble_eq_true rfl) ⟨(Nat.le_of_ble_eq_true rfl), (Nat.le_of_ble_eq_true rfl)⟩ ⟨(Nat.le_of_ble_eq_true rfl), (Nat.le_of_ble_eq_true rfl)⟩ dL_law_1094 (fun r1 u9 H locs hp9 hw => ?_)
  obtain ⟨rfl, rfl⟩ := hp9
  have hw : Wd G s (fun q : Nat => s.heap.size ≤ q) [(qm, .inr (10, [.int 0, .ref mtape, .int 0, .int 0, .int 0, .int 0, .int 0, .int 0, .int 0, .int 0, .int 0, .int 0, .long 0, .int 0, .ref mnow, .ref mread, .ref mkept, .ref msnaps, .ref maside, .ref mname, .ref mreadName, .ref mkeptName, .ref misKept, .ref monces, .int 0, .ref morder, .ref mordered, .int 0, .int 0, .int 0, .int (-1), .int (-1), .ref mtext, .int 0, .int 0, .ref mline, .ref mwritten, .int 0, .int 0, .ref mnode, .int 0, .int 0, .int 0, .int 0])), (mnow, eI G 339 nw0), (qx, .inr (9, [.ref qt, .ref qs, .ref qd, .ref qa, .ref qb, .ref qh, .ref qr, .ref qe, .ref qp, .ref qf, .ref qn, .ref qi, .ref qo, .int 0, .int 0, .int (-1), .int (-1)])), (qs, .inr (4, [.int 0, .int 0, .int 0, .int 0, .int 1, .int 0, .int 40, .int 0, .int 0, .ref sslideNames, .ref spictures, .ref sheats, .ref safter, .ref shearerNames, .ref sneeds, .ref slikes, .ref shates, .ref snear]))] H _ := hw
  refine lv_aload_n C.1 C.2.1 dL_law_1097 rfl (lv_at hl 2 rfl) ?_
  refine x_calliV (As := []) (rest := [.int (-1)]) (wr := [(qx, .inr (9, [.ref qt, .ref qs, .ref qd, .ref qa, .ref qb, .ref qh, .ref qr, .ref qe, .ref qp, .ref qf, .ref qn, .ref qi, .ref qo, .int 0, .int 0, .int (-1), .int (-1)])), (qs, .inr (4, [.int 0, .int 0, .int 0, .int 0, .int 1, .int 0, .int 40, .int 0, .int 0, .ref sslideNames, .ref spictures, .ref sheats, .ref safter, .ref shearerNames, .ref sneeds, .ref slikes, .ref shates, .ref snear]))]) C hw (c_X11_parts qm mtape mnow mread mkept msnaps maside mname mreadName mkeptName misKept monces morder mordered mtext mline mwritten mnode) mwX11_parts kw1660 [0, 1] [2, 3] rfl rfl rfl rfl (by decide) 0 rfl rfl rfl rfl hl.1 rfl (Nat.le_of_ble_eq_true rfl) ⟨(Nat.le_of_ble_eq_true rfl), (Nat.le_of_ble_eq_true rfl)⟩ ⟨(Nat.le_of_ble_eq_true rfl), (Nat.le_of_ble_eq_true rfl)⟩ dL_law_1098 (fun r2 u9 H locs hp9 hw => ?_)
  obtain ⟨rfl, rfl⟩ := hp9
  have hw : Wd G s (fun q : Nat => s.heap.size ≤ q) [(qx, .inr (9, [.ref qt, .ref qs, .ref qd, .ref qa, .ref qb, .ref qh, .ref qr, .ref qe, .ref qp, .ref qf, .ref qn, .ref qi, .ref qo, .int 0, .int 0, .int (-1), .int (-1)])), (qs, .inr (4, [.int 0, .int 0, .int 0, .int 0, .int 1, .int 0, .int 40, .int 0, .int 0, .ref sslideNames, .ref spictures, .ref sheats, .ref safter, .ref shearerNames, .ref sneeds, .ref slikes, .ref shates, .ref snear]))] H _ := hw
  refine lv_icmp_eq (tgt := 1405) C.1 C.2.1 dL_law_1101 (by decide) (fun _ => ?_) (fun h9 => absurd (by decide) h9)
  refine lv_iinc (v := 6) (lv' := [(4, .int 6), (3, .ref qz), (2, .ref qm), (1, .ref qx), (0, .ref b)]) C.1 C.2.1 dL_law_1405 hl (k := 0) rfl (by decide) (by decide) rfl (fun ls hl => ?_)
  refine lv_goto (tgt := 23) C.1 C.2.1 dL_law_1408 (by decide) ?_
  exact law_tail C0 hw (Nat.le_of_ble_eq_true rfl) (Nat.le_of_ble_eq_true rfl) (lv_sub hl [0, 4] rfl)
theorem dL_law_1106 : decode cL_law 1106 = .ok (.aload_n 1, 1) := by decide +kernel
theorem dL_law_1107 : decode cL_law 1107 = .ok (.aload_n 0, 1) := by decide +kernel
theorem dL_law_1108 : decode cL_law 1108 = .ok (.iload 4, 2) := by decide +kernel
theorem dL_law_1110 : decode cL_law 1110 = .ok (.iconst 1, 1) := by decide +kernel
theorem dL_law_1111 : decode cL_law 1111 = .ok (.iadd, 1) := by decide +kernel
theorem dL_law_1112 : decode cL_law 1112 = .ok (.iaload, 1) := by decide +kernel
theorem dL_law_1113 : decode cL_law 1113 = .ok (.invokevirtual 144, 3) := by decide +kernel
theorem mwX10_bill : MwV yX10_bill cX10_bill 2 (some .int) 1 := ⟨⟨kw905, kw1, by decide +kernel⟩, kw903, kw904⟩
theorem dL_law_1116 : decode cL_law 1116 = .ok (.aload_n 2, 1) := by decide +kernel
theorem dL_law_1117 : decode cL_law 1117 = .ok (.aload_n 0, 1) := by decide +kernel
theorem dL_law_1118 : decode cL_law 1118 = .ok (.iload 4, 2) := by decide +kernel
theorem dL_law_1120 : decode cL_law 1120 = .ok (.iconst 1, 1) := by decide +kernel
theorem dL_law_1121 : decode cL_law 1121 = .ok (.iadd, 1) := by decide +kernel
theorem dL_law_1122 : decode cL_law 1122 = .ok (.iaload, 1) := by decide +kernel
theorem dL_law_1123 : decode cL_law 1123 = .ok (.invokevirtual 147, 3) := by decide +kernel
theorem mwX11_bill : MwV yX11_bill cX11_bill 2 (some .int) 1 := ⟨⟨kw1674, kw15, by decide +kernel⟩, kw1672, kw1673⟩
theorem dL_law_1126 : decode cL_law 1126 = .ok (.if_icmp .eq 279, 3) := by decide +kernel
set_option maxHeartbeats 4000000 in
set_option maxRecDepth 100000 in
theorem law_bill {p : Program} {l : Launch} {e : Env} {s : State} {m : MethodId} {below : List Frame} {meth : Method} {c : Code} {G : Gc} {b : Nat} {xs : Nat → Int32} (hst : l.stackTraces = false) (qx : Nat) (qm : Nat) (qz : Nat) (qt : Nat) (qs : Nat) (qd : Nat) (qa : Nat) (qb : Nat) (qh : Nat) (qr : Nat) (qe : Nat) (qp : Nat) (qf : Nat) (qn : Nat) (qi : Nat) (qo : Nat) (sslideNames : Nat) (spictures : Nat) (sheats : Nat) (safter : Nat) (shearerNames : Nat) (sneeds : Nat) (slikes : Nat) (shates : Nat) (snear : Nat) (mtape : Nat) (mnow : Nat) (mread : Nat) (mkept : Nat) (msnaps : Nat) (maside : Nat) (mname : Nat) (mreadName : Nat) (mkeptName : Nat) (misKept : Nat) (monces : Nat) (morder : Nat) (mordered : Nat) (mtext : Nat) (mline : Nat) (mwritten : Nat) (mnode : Nat) {A : Nat → Prop} (eA : A = fun q : Nat => s.heap.size ≤ q) {H : Heap} {locs : List Loc} {ls : Array Slot} (C0 : lw_At p s m meth c b 6 xs) (hw : Wd G s A [(qx, .inr (9, [.ref qt, .ref qs, .ref qd, .ref qa, .ref qb, .ref qh, .ref qr, .ref qe, .ref qp, .ref qf, .ref qn, .ref qi, .ref qo, .int 0, .int 0, .int (-1), .int (-1)])), (qs, .inr (4, [.int 0, .int 0, .int 0, .int 0, .int 1, .int 0, .int 40, .int 0, .int 0, .ref sslideNames, .ref spictures, .ref sheats, .ref safter, .ref shearerNames, .ref sneeds, .ref slikes, .ref shates, .ref snear])), (qm, .inr (10, [.int 0, .ref mtape, .int 0, .int 0, .int 0, .int 0, .int 0, .int 0, .int 0, .int 0, .int 0, .int 0, .long 0, .int 0, .ref mnow, .ref mread, .ref mkept, .ref msnaps, .ref maside, .ref mname, .ref mreadName, .ref mkeptName, .ref misKept, .ref monces, .int 0, .ref morder, .ref mordered, .int 0, .int 0, .int 0, .int (-1), .int (-1), .ref mtext, .int 0, .int 0, .ref mline, .ref mwritten, .int 0, .int 0, .ref mnode, .int 0, .int 0, .int 0, .int 0])), (mnow, eI G 339 nw0)] H locs) (hl : lv_has ls 7 [(4, .int 0), (3, .ref qz), (2, .ref qm), (1, .ref qx), (0, .ref b)]) : W p l e room_1 s m #[Value.ref b] below meth c H locs 147 5480 (lw_Z below #[Value.ref b] s) (F0 m 1106 ls []) := by
  subst eA
  obtain ⟨hx, hb, hr, hml, hown, hts, hX, hbl, hlocks, hgv⟩ := id C0
  have hbA : ¬ (fun q : Nat => s.heap.size ≤ q) b := Nat.not_le.mpr hbl
  have C : CallFix p m c code 7 s #[Value.ref b] gw "LanternStateLaw" := ⟨hx, hb, hml, hown, fun w h => hts w (gw_sub w h)⟩
  refine lv_aload_n C.1 C.2.1 dL_law_1106 rfl (lv_at hl 3 rfl) ?_
  refine lv_aload_n C.1 C.2.1 dL_law_1107 rfl (lv_at hl 4 rfl) ?_
  refine lv_iload C.1 C.2.1 dL_law_1108 (lv_at hl 0 rfl) ?_
  refine lv_iconst (v := 1) C.1 C.2.1 dL_law_1110 (by decide) ?_
  refine lv_iadd C.1 C.2.1 dL_law_1111 ?_
  refine x_topi (z := 1) (by decide) ?_
  refine va_sld C.1 C.2.1 hX hbl hbA hw.2.2.2.1 (i := 1) (x_in rfl) dL_law_1112 ?_
  refine x_topi (z := (xs 1)) rfl ?_
  refine x_calliV (As := [.int (xs 1)]) (rest := []) (wr := [(qm, .inr (10, [.int 0, .ref mtape, .int 0, .int 0, .int 0, .int 0, .int 0, .int 0, .int 0, .int 0, .int 0, .int 0, .long 0, .int 0, .ref mnow, .ref mread, .ref mkept, .ref msnaps, .ref maside, .ref mname, .ref mreadName, .ref mkeptName, .ref misKept, .ref monces, .int 0, .ref morder, .ref mordered, .int 0, .int 0, .int 0, .int (-1), .int (-1), .ref mtext, .int 0, .int 0, .ref mline, .ref mwritten, .int 0, .int 0, .ref mnode, .int 0, .int 0, .int 0, .int 0])), (mnow, eI G 339 nw0)]) C hw (c_X10_bill qx (xs 1) qt qs qd qa qb qh qr qe qp qf qn qi qo sslideNames spictures sheats safter shearerNames sneeds slikes shates snear) mwX10_bill kw902 [0, 1] [2, 3] rfl rfl rfl rfl (by decide) 0 rfl rfl rfl rfl hl.1 rfl (Nat.le_of_ble_eq_true rfl) ⟨(Nat.le_of_ble_eq_true rfl), (Nat.le_of_ble_eq_true rfl)⟩ ⟨(Nat.le_of_ble_eq_true rfl), (Nat.le_of_ble_eq_true rfl)⟩ dL_law_1113 (fun r1 u9 H locs hp9 hw => ?_)
  obtain ⟨rfl, rfl⟩ := hp9
  have hw : Wd G s (fun q : Nat => s.heap.size ≤ q) [(qm, .inr (10, [.int 0, .ref mtape, .int 0, .int 0, .int 0, .int 0, .int 0, .int 0, .int 0, .int 0, .int 0, .int 0, .long 0, .int 0, .ref mnow, .ref mread, .ref mkept, .ref msnaps, .ref maside, .ref mname, .ref mreadName, .ref mkeptName, .ref misKept, .ref monces, .int 0, .ref morder, .ref mordered, .int 0, .int 0, .int 0, .int (-1), .int (-1), .ref mtext, .int 0, .int 0, .ref mline, .ref mwritten, .int 0, .int 0, .ref mnode, .int 0, .int 0, .int 0, .int 0])), (mnow, eI G 339 nw0), (qx, .inr (9, [.ref qt, .ref qs, .ref qd, .ref qa, .ref qb, .ref qh, .ref qr, .ref qe, .ref qp, .ref qf, .ref qn, .ref qi, .ref qo, .int 0, .int 0, .int (-1), .int (-1)])), (qs, .inr (4, [.int 0, .int 0, .int 0, .int 0, .int 1, .int 0, .int 40, .int 0, .int 0, .ref sslideNames, .ref spictures, .ref sheats, .ref safter, .ref shearerNames, .ref sneeds, .ref slikes, .ref shates, .ref snear]))] H _ := hw
  refine lv_aload_n C.1 C.2.1 dL_law_1116 rfl (lv_at hl 2 rfl) ?_
  refine lv_aload_n C.1 C.2.1 dL_law_1117 rfl (lv_at hl 4 rfl) ?_
  refine lv_iload C.1 C.2.1 dL_law_1118 (lv_at hl 0 rfl) ?_
  refine lv_iconst (v := 1) C.1 C.2.1 dL_law_1120 (by decide) ?_
  refine lv_iadd C.1 C.2.1 dL_law_1121 ?_
  refine x_topi (z := 1) (by decide) ?_
  refine va_sld C.1 C.2.1 hX hbl hbA hw.2.2.2.1 (i := 1) (x_in rfl) dL_law_1122 ?_
  refine x_topi (z := (xs 1)) rfl ?_
  refine x_calliV (As := [.int (xs 1)]) (rest := [.int (-1)]) (wr := [(qx, .inr (9, [.ref qt, .ref qs, .ref qd, .ref qa, .ref qb, .ref qh, .ref qr, .ref qe, .ref qp, .ref qf, .ref qn, .ref qi, .ref qo, .int 0, .int 0, .int (-1), .int (-1)])), (qs, .inr (4, [.int 0, .int 0, .int 0, .int 0, .int 1, .int 0, .int 40, .int 0, .int 0, .ref sslideNames, .ref spictures, .ref sheats, .ref safter, .ref shearerNames, .ref sneeds, .ref slikes, .ref shates, .ref snear]))]) C hw (c_X11_bill qm (xs 1) mtape mnow mread mkept msnaps maside mname mreadName mkeptName misKept monces morder mordered mtext mline mwritten mnode) mwX11_bill kw1671 [0, 1] [2, 3] rfl rfl rfl rfl (by decide) 0 rfl rfl rfl rfl hl.1 rfl (Nat.le_of_ble_eq_true rfl) ⟨(Nat.le_of_ble_eq_true rfl), (Nat.le_of_ble_eq_true rfl)⟩ ⟨(Nat.le_of_ble_eq_true rfl), (Nat.le_of_ble_eq_true rfl)⟩ dL_law_1123 (fun r2 u9 H locs hp9 hw => ?_)
  obtain ⟨rfl, rfl⟩ := hp9
  have hw : Wd G s (fun q : Nat => s.heap.size ≤ q) [(qx, .inr (9, [.ref qt, .ref qs, .ref qd, .ref qa, .ref qb, .ref qh, .ref qr, .ref qe, .ref qp, .ref qf, .ref qn, .ref qi, .ref qo, .int 0, .int 0, .int (-1), .int (-1)])), (qs, .inr (4, [.int 0, .int 0, .int 0, .int 0, .int 1, .int 0, .int 40, .int 0, .int 0, .ref sslideNames, .ref spictures, .ref sheats, .ref safter, .ref shearerNames, .ref sneeds, .ref slikes, .ref shates, .ref snear]))] H _ := hw
  refine lv_icmp_eq (tgt := 1405) C.1 C.2.1 dL_law_1126 (by decide) (fun _ => ?_) (fun h9 => absurd (by decide) h9)
  refine lv_iinc (v := 6) (lv' := [(4, .int 6), (3, .ref qz), (2, .ref qm), (1, .ref qx), (0, .ref b)]) C.1 C.2.1 dL_law_1405 hl (k := 0) rfl (by decide) (by decide) rfl (fun ls hl => ?_)
  refine lv_goto (tgt := 23) C.1 C.2.1 dL_law_1408 (by decide) ?_
  exact law_tail C0 hw (Nat.le_of_ble_eq_true rfl) (Nat.le_of_ble_eq_true rfl) (lv_sub hl [0, 4] rfl)
theorem dL_law_1131 : decode cL_law 1131 = .ok (.aload_n 1, 1) := by decide +kernel
theorem dL_law_1132 : decode cL_law 1132 = .ok (.aload_n 0, 1) := by decide +kernel
theorem dL_law_1133 : decode cL_law 1133 = .ok (.iload 4, 2) := by decide +kernel
theorem dL_law_1135 : decode cL_law 1135 = .ok (.iconst 1, 1) := by decide +kernel
theorem dL_law_1136 : decode cL_law 1136 = .ok (.iadd, 1) := by decide +kernel
theorem dL_law_1137 : decode cL_law 1137 = .ok (.iaload, 1) := by decide +kernel
theorem dL_law_1138 : decode cL_law 1138 = .ok (.invokevirtual 148, 3) := by decide +kernel
theorem mwX10_byteAt : MwV yX10_byteAt cX10_byteAt 2 (some .int) 1 := ⟨⟨kw933, kw1, by decide +kernel⟩, kw931, kw932⟩
theorem dL_law_1141 : decode cL_law 1141 = .ok (.aload_n 2, 1) := by decide +kernel
theorem dL_law_1142 : decode cL_law 1142 = .ok (.aload_n 0, 1) := by decide +kernel
theorem dL_law_1143 : decode cL_law 1143 = .ok (.iload 4, 2) := by decide +kernel
theorem dL_law_1145 : decode cL_law 1145 = .ok (.iconst 1, 1) := by decide +kernel
theorem dL_law_1146 : decode cL_law 1146 = .ok (.iadd, 1) := by decide +kernel
theorem dL_law_1147 : decode cL_law 1147 = .ok (.iaload, 1) := by decide +kernel
theorem dL_law_1148 : decode cL_law 1148 = .ok (.invokevirtual 151, 3) := by decide +kernel
theorem mwX11_byteAt : MwV yX11_byteAt cX11_byteAt 2 (some .int) 1 := ⟨⟨kw1690, kw15, by decide +kernel⟩, kw1688, kw1689⟩
theorem dL_law_1151 : decode cL_law 1151 = .ok (.if_icmp .eq 254, 3) := by decide +kernel
set_option maxHeartbeats 4000000 in
set_option maxRecDepth 100000 in
theorem law_byteAt {p : Program} {l : Launch} {e : Env} {s : State} {m : MethodId} {below : List Frame} {meth : Method} {c : Code} {G : Gc} {b : Nat} {xs : Nat → Int32} (hst : l.stackTraces = false) (qx : Nat) (qm : Nat) (qz : Nat) (qt : Nat) (qs : Nat) (qd : Nat) (qa : Nat) (qb : Nat) (qh : Nat) (qr : Nat) (qe : Nat) (qp : Nat) (qf : Nat) (qn : Nat) (qi : Nat) (qo : Nat) (nletters : Nat) (mtape : Nat) (mnow : Nat) (mread : Nat) (mkept : Nat) (msnaps : Nat) (maside : Nat) (mname : Nat) (mreadName : Nat) (mkeptName : Nat) (misKept : Nat) (monces : Nat) (morder : Nat) (mordered : Nat) (mtext : Nat) (mline : Nat) (mwritten : Nat) (mnode : Nat) {A : Nat → Prop} (eA : A = fun q : Nat => s.heap.size ≤ q) {H : Heap} {locs : List Loc} {ls : Array Slot} (C0 : lw_At p s m meth c b 6 xs) (hw : Wd G s A [(qx, .inr (9, [.ref qt, .ref qs, .ref qd, .ref qa, .ref qb, .ref qh, .ref qr, .ref qe, .ref qp, .ref qf, .ref qn, .ref qi, .ref qo, .int 0, .int 0, .int (-1), .int (-1)])), (qn, .inr (0, [.ref nletters, .int 0])), (qm, .inr (10, [.int 0, .ref mtape, .int 0, .int 0, .int 0, .int 0, .int 0, .int 0, .int 0, .int 0, .int 0, .int 0, .long 0, .int 0, .ref mnow, .ref mread, .ref mkept, .ref msnaps, .ref maside, .ref mname, .ref mreadName, .ref mkeptName, .ref misKept, .ref monces, .int 0, .ref morder, .ref mordered, .int 0, .int 0, .int 0, .int (-1), .int (-1), .ref mtext, .int 0, .int 0, .ref mline, .ref mwritten, .int 0, .int 0, .ref mnode, .int 0, .int 0, .int 0, .int 0]))] H locs) (hl : lv_has ls 7 [(4, .int 0), (3, .ref qz), (2, .ref qm), (1, .ref qx), (0, .ref b)]) : W p l e room_1 s m #[Value.ref b] below meth c H locs 147 5480 (lw_Z below #[Value.ref b] s) (F0 m 1131 ls []) := by
  subst eA
  obtain ⟨hx, hb, hr, hml, hown, hts, hX, hbl, hlocks, hgv⟩ := id C0
  have hbA : ¬ (fun q : Nat => s.heap.size ≤ q) b := Nat.not_le.mpr hbl
  have C : CallFix p m c code 7 s #[Value.ref b] gw "LanternStateLaw" := ⟨hx, hb, hml, hown, fun w h => hts w (gw_sub w h)⟩
  refine lv_aload_n C.1 C.2.1 dL_law_1131 rfl (lv_at hl 3 rfl) ?_
  refine lv_aload_n C.1 C.2.1 dL_law_1132 rfl (lv_at hl 4 rfl) ?_
  refine lv_iload C.1 C.2.1 dL_law_1133 (lv_at hl 0 rfl) ?_
  refine lv_iconst (v := 1) C.1 C.2.1 dL_law_1135 (by decide) ?_
  refine lv_iadd C.1 C.2.1 dL_law_1136 ?_
  refine x_topi (z := 1) (by decide) ?_
  refine va_sld C.1 C.2.1 hX hbl hbA hw.2.2.2.1 (i := 1) (x_in rfl) dL_law_1137 ?_
  refine x_topi (z := (xs 1)) rfl ?_
  refine x_calliV (As := [.int (xs 1)]) (rest := []) (wr := [(qm, .inr (10, [.int 0, .ref mtape, .int 0, .int 0, .int 0, .int 0, .int 0, .int 0, .int 0, .int 0, .int 0, .int 0, .long 0, .int 0, .ref mnow, .ref mread, .ref mkept, .ref msnaps, .ref maside, .ref mname, .ref mreadName, .ref mkeptName, .ref misKept, .ref monces, .int 0, .ref morder, .ref mordered, .int 0, .int 0, .int 0, .int (-1), .int (-1), .ref mtext, .int 0, .int 0, .ref mline, .ref mwritten, .int 0, .int 0, .ref mnode, .int 0, .int 0, .int 0, .int 0]))]) C hw (c_X10_byteAt qx (xs 1) qt qs qd qa qb qh qr qe qp qf qn qi qo nletters) mwX10_byteAt kw930 [0, 1] [2] rfl rfl rfl rfl (by decide) 0 rfl rfl rfl rfl hl.1 rfl (Nat.le_of_ble_eq_true rfl) ⟨(Nat.le_of_ble_eq_true rfl), (Nat.le_of_ble_eq_true rfl)⟩ ⟨(Nat.le_of_ble_eq_true rfl), (Nat.le_of_ble_eq_true rfl)⟩ dL_law_1138 (fun r1 u9 H locs hp9 hw => ?_)
  obtain ⟨rfl, rfl⟩ := hp9
  have hw : Wd G s (fun q : Nat => s.heap.size ≤ q) [(qm, .inr (10, [.int 0, .ref mtape, .int 0, .int 0, .int 0, .int 0, .int 0, .int 0, .int 0, .int 0, .int 0, .int 0, .long 0, .int 0, .ref mnow, .ref mread, .ref mkept, .ref msnaps, .ref maside, .ref mname, .ref mreadName, .ref mkeptName, .ref misKept, .ref monces, .int 0, .ref morder, .ref mordered, .int 0, .int 0, .int 0, .int (-1), .int (-1), .ref mtext, .int 0, .int 0, .ref mline, .ref mwritten, .int 0, .int 0, .ref mnode, .int 0, .int 0, .int 0, .int 0])), (qx, .inr (9, [.ref qt, .ref qs, .ref qd, .ref qa, .ref qb, .ref qh, .ref qr, .ref qe, .ref qp, .ref qf, .ref qn, .ref qi, .ref qo, .int 0, .int 0, .int (-1), .int (-1)])), (qn, .inr (0, [.ref nletters, .int 0]))] H _ := hw
  refine lv_aload_n C.1 C.2.1 dL_law_1141 rfl (lv_at hl 2 rfl) ?_
  refine lv_aload_n C.1 C.2.1 dL_law_1142 rfl (lv_at hl 4 rfl) ?_
  refine lv_iload C.1 C.2.1 dL_law_1143 (lv_at hl 0 rfl) ?_
  refine lv_iconst (v := 1) C.1 C.2.1 dL_law_1145 (by decide) ?_
  refine lv_iadd C.1 C.2.1 dL_law_1146 ?_
  refine x_topi (z := 1) (by decide) ?_
  refine va_sld C.1 C.2.1 hX hbl hbA hw.2.2.2.1 (i := 1) (x_in rfl) dL_law_1147 ?_
  refine x_topi (z := (xs 1)) rfl ?_
  refine x_calliV (As := [.int (xs 1)]) (rest := [.int (-1)]) (wr := [(qx, .inr (9, [.ref qt, .ref qs, .ref qd, .ref qa, .ref qb, .ref qh, .ref qr, .ref qe, .ref qp, .ref qf, .ref qn, .ref qi, .ref qo, .int 0, .int 0, .int (-1), .int (-1)])), (qn, .inr (0, [.ref nletters, .int 0]))]) C hw (c_X11_byteAt qm (xs 1) mtape mnow mread mkept msnaps maside mname mreadName mkeptName misKept monces morder mordered mtext mline mwritten mnode) mwX11_byteAt kw1687 [0] [1, 2] rfl rfl rfl rfl (by decide) 0 rfl rfl rfl rfl hl.1 rfl (Nat.le_of_ble_eq_true rfl) ⟨(Nat.le_of_ble_eq_true rfl), (Nat.le_of_ble_eq_true rfl)⟩ ⟨(Nat.le_of_ble_eq_true rfl), (Nat.le_of_ble_eq_true rfl)⟩ dL_law_1148 (fun r2 u9 H locs hp9 hw => ?_)
  obtain ⟨rfl, rfl⟩ := hp9
  have hw : Wd G s (fun q : Nat => s.heap.size ≤ q) [(qx, .inr (9, [.ref qt, .ref qs, .ref qd, .ref qa, .ref qb, .ref qh, .ref qr, .ref qe, .ref qp, .ref qf, .ref qn, .ref qi, .ref qo, .int 0, .int 0, .int (-1), .int (-1)])), (qn, .inr (0, [.ref nletters, .int 0]))] H _ := hw
  refine lv_icmp_eq (tgt := 1405) C.1 C.2.1 dL_law_1151 (by decide) (fun _ => ?_) (fun h9 => absurd (by decide) h9)
  refine lv_iinc (v := 6) (lv' := [(4, .int 6), (3, .ref qz), (2, .ref qm), (1, .ref qx), (0, .ref b)]) C.1 C.2.1 dL_law_1405 hl (k := 0) rfl (by decide) (by decide) rfl (fun ls hl => ?_)
  refine lv_goto (tgt := 23) C.1 C.2.1 dL_law_1408 (by decide) ?_
  exact law_tail C0 hw (Nat.le_of_ble_eq_true rfl) (Nat.le_of_ble_eq_true rfl) (lv_sub hl [0, 4] rfl)
theorem dL_law_1156 : decode cL_law 1156 = .ok (.aload_n 1, 1) := by decide +kernel
theorem dL_law_1157 : decode cL_law 1157 = .ok (.aload_n 0, 1) := by decide +kernel
theorem dL_law_1158 : decode cL_law 1158 = .ok (.iload 4, 2) := by decide +kernel
theorem dL_law_1160 : decode cL_law 1160 = .ok (.iconst 1, 1) := by decide +kernel
theorem dL_law_1161 : decode cL_law 1161 = .ok (.iadd, 1) := by decide +kernel
theorem dL_law_1162 : decode cL_law 1162 = .ok (.iaload, 1) := by decide +kernel
theorem dL_law_1163 : decode cL_law 1163 = .ok (.aload_n 0, 1) := by decide +kernel
theorem dL_law_1164 : decode cL_law 1164 = .ok (.iload 4, 2) := by decide +kernel
theorem dL_law_1166 : decode cL_law 1166 = .ok (.iconst 2, 1) := by decide +kernel
theorem dL_law_1167 : decode cL_law 1167 = .ok (.iadd, 1) := by decide +kernel
theorem dL_law_1168 : decode cL_law 1168 = .ok (.iaload, 1) := by decide +kernel
theorem dL_law_1169 : decode cL_law 1169 = .ok (.invokevirtual 152, 3) := by decide +kernel
theorem mwX10_drawn : MwV yX10_drawn cX10_drawn 4 (some .int) 2 := ⟨⟨kw937, kw1, by decide +kernel⟩, kw935, kw936⟩
theorem dL_law_1172 : decode cL_law 1172 = .ok (.aload_n 2, 1) := by decide +kernel
theorem dL_law_1173 : decode cL_law 1173 = .ok (.aload_n 0, 1) := by decide +kernel
theorem dL_law_1174 : decode cL_law 1174 = .ok (.iload 4, 2) := by decide +kernel
theorem dL_law_1176 : decode cL_law 1176 = .ok (.iconst 1, 1) := by decide +kernel
theorem dL_law_1177 : decode cL_law 1177 = .ok (.iadd, 1) := by decide +kernel
theorem dL_law_1178 : decode cL_law 1178 = .ok (.iaload, 1) := by decide +kernel
theorem dL_law_1179 : decode cL_law 1179 = .ok (.aload_n 0, 1) := by decide +kernel
theorem dL_law_1180 : decode cL_law 1180 = .ok (.iload 4, 2) := by decide +kernel
theorem dL_law_1182 : decode cL_law 1182 = .ok (.iconst 2, 1) := by decide +kernel
theorem dL_law_1183 : decode cL_law 1183 = .ok (.iadd, 1) := by decide +kernel
theorem dL_law_1184 : decode cL_law 1184 = .ok (.iaload, 1) := by decide +kernel
theorem dL_law_1185 : decode cL_law 1185 = .ok (.invokevirtual 155, 3) := by decide +kernel
theorem mwX11_drawn : MwV yX11_drawn cX11_drawn 3 (some .int) 2 := ⟨⟨kw1694, kw15, by decide +kernel⟩, kw1692, kw1693⟩
theorem dL_law_1188 : decode cL_law 1188 = .ok (.if_icmp .eq 217, 3) := by decide +kernel
set_option maxHeartbeats 4000000 in
set_option maxRecDepth 100000 in
theorem law_drawn {p : Program} {l : Launch} {e : Env} {s : State} {m : MethodId} {below : List Frame} {meth : Method} {c : Code} {G : Gc} {b : Nat} {xs : Nat → Int32} (hst : l.stackTraces = false) (qx : Nat) (qm : Nat) (qz : Nat) (qt : Nat) (qs : Nat) (qd : Nat) (qa : Nat) (qb : Nat) (qh : Nat) (qr : Nat) (qe : Nat) (qp : Nat) (qf : Nat) (qn : Nat) (qi : Nat) (qo : Nat) (sslideNames : Nat) (spictures : Nat) (sheats : Nat) (safter : Nat) (shearerNames : Nat) (sneeds : Nat) (slikes : Nat) (shates : Nat) (snear : Nat) (mtape : Nat) (mnow : Nat) (mread : Nat) (mkept : Nat) (msnaps : Nat) (maside : Nat) (mname : Nat) (mreadName : Nat) (mkeptName : Nat) (misKept : Nat) (monces : Nat) (morder : Nat) (mordered : Nat) (mtext : Nat) (mline : Nat) (mwritten : Nat) (mnode : Nat) {A : Nat → Prop} (eA : A = fun q : Nat => s.heap.size ≤ q) {H : Heap} {locs : List Loc} {ls : Array Slot} (C0 : lw_At p s m meth c b 6 xs) (hw : Wd G s A [(qx, .inr (9, [.ref qt, .ref qs, .ref qd, .ref qa, .ref qb, .ref qh, .ref qr, .ref qe, .ref qp, .ref qf, .ref qn, .ref qi, .ref qo, .int 0, .int 0, .int (-1), .int (-1)])), (qs, .inr (4, [.int 0, .int 0, .int 0, .int 0, .int 1, .int 0, .int 40, .int 0, .int 0, .ref sslideNames, .ref spictures, .ref sheats, .ref safter, .ref shearerNames, .ref sneeds, .ref slikes, .ref shates, .ref snear])), (qm, .inr (10, [.int 0, .ref mtape, .int 0, .int 0, .int 0, .int 0, .int 0, .int 0, .int 0, .int 0, .int 0, .int 0, .long 0, .int 0, .ref mnow, .ref mread, .ref mkept, .ref msnaps, .ref maside, .ref mname, .ref mreadName, .ref mkeptName, .ref misKept, .ref monces, .int 0, .ref morder, .ref mordered, .int 0, .int 0, .int 0, .int (-1), .int (-1), .ref mtext, .int 0, .int 0, .ref mline, .ref mwritten, .int 0, .int 0, .ref mnode, .int 0, .int 0, .int 0, .int 0])), (mnow, eI G 339 nw0)] H locs) (hl : lv_has ls 7 [(4, .int 0), (3, .ref qz), (2, .ref qm), (1, .ref qx), (0, .ref b)]) : W p l e room_1 s m #[Value.ref b] below meth c H locs 147 5480 (lw_Z below #[Value.ref b] s) (F0 m 1156 ls []) := by
  subst eA
  obtain ⟨hx, hb, hr, hml, hown, hts, hX, hbl, hlocks, hgv⟩ := id C0
  have hbA : ¬ (fun q : Nat => s.heap.size ≤ q) b := Nat.not_le.mpr hbl
  have C : CallFix p m c code 7 s #[Value.ref b] gw "LanternStateLaw" := ⟨hx, hb, hml, hown, fun w h => hts w (gw_sub w h)⟩
  rcases x_rng2 (xs 1) with hb | ⟨h1, h2⟩
  · skip
    refine lv_aload_n C.1 C.2.1 dL_law_1156 rfl (lv_at hl 3 rfl) ?_
    refine lv_aload_n C.1 C.2.1 dL_law_1157 rfl (lv_at hl 4 rfl) ?_
    refine lv_iload C.1 C.2.1 dL_law_1158 (lv_at hl 0 rfl) ?_
    refine lv_iconst (v := 1) C.1 C.2.1 dL_law_1160 (by decide) ?_
    refine lv_iadd C.1 C.2.1 dL_law_1161 ?_
    refine x_topi (z := 1) (by decide) ?_
    refine va_sld C.1 C.2.1 hX hbl hbA hw.2.2.2.1 (i := 1) (x_in rfl) dL_law_1162 ?_
    refine x_topi (z := (xs 1)) rfl ?_
    refine lv_aload_n C.1 C.2.1 dL_law_1163 rfl (lv_at hl 4 rfl) ?_
    refine lv_iload C.1 C.2.1 dL_law_1164 (lv_at hl 0 rfl) ?_
    refine lv_iconst (v := 2) C.1 C.2.1 dL_law_1166 (by decide) ?_
    refine lv_iadd C.1 C.2.1 dL_law_1167 ?_
    refine x_topi (z := 2) (by decide) ?_
    refine va_sld C.1 C.2.1 hX hbl hbA hw.2.2.2.1 (i := 2) (x_in rfl) dL_law_1168 ?_
    refine x_topi (z := (xs 2)) rfl ?_
    refine x_calliV (As := [.int (xs 1), .int (xs 2)]) (rest := []) (wr := [(qm, .inr (10, [.int 0, .ref mtape, .int 0, .int 0, .int 0, .int 0, .int 0, .int 0, .int 0, .int 0, .int 0, .int 0, .long 0, .int 0, .ref mnow, .ref mread, .ref mkept, .ref msnaps, .ref maside, .ref mname, .ref mreadName, .ref mkeptName, .ref misKept, .ref monces, .int 0, .ref morder, .ref mordered, .int 0, .int 0, .int 0, .int (-1), .int (-1), .ref mtext, .int 0, .int 0, .ref mline, .ref mwritten, .int 0, .int 0, .ref mnode, .int 0, .int 0, .int 0, .int 0])), (mnow, eI G 339 nw0)]) C hw (c_X10_drawn qx (xs 1) (xs 2) qt qs qd qa qb qh qr qe qp qf qn qi qo sslideNames spictures sheats safter shearerNames sneeds slikes shates snear) mwX10_drawn kw934 [0, 1] [2, 3] rfl rfl rfl rfl (by decide) 0 rfl rfl rfl rfl hl.1 rfl (Nat.le_of_ble_eq_true rfl) ⟨(Nat.le_of_ble_eq_true rfl), (Nat.le_of_ble_eq_true rfl)⟩ ⟨(Nat.le_of_ble_eq_true rfl), (Nat.le_of_ble_eq_true rfl)⟩ dL_law_1169 (fun r1 u9 H locs hp9 hw => ?_)
    obtain ⟨rfl, rfl⟩ := hp9
    have hw : Wd G s (fun q : Nat => s.heap.size ≤ q) [(qm, .inr (10, [.int 0, .ref mtape, .int 0, .int 0, .int 0, .int 0, .int 0, .int 0, .int 0, .int 0, .int 0, .int 0, .long 0, .int 0, .ref mnow, .ref mread, .ref mkept, .ref msnaps, .ref maside, .ref mname, .ref mreadName, .ref mkeptName, .ref misKept, .ref monces, .int 0, .ref morder, .ref mordered, .int 0, .int 0, .int 0, .int (-1), .int (-1), .ref mtext, .int 0, .int 0, .ref mline, .ref mwritten, .int 0, .int 0, .ref mnode, .int 0, .int 0, .int 0, .int 0])), (mnow, eI G 339 nw0), (qx, .inr (9, [.ref qt, .ref qs, .ref qd, .ref qa, .ref qb, .ref qh, .ref qr, .ref qe, .ref qp, .ref qf, .ref qn, .ref qi, .ref qo, .int 0, .int 0, .int (-1), .int (-1)])), (qs, .inr (4, [.int 0, .int 0, .int 0, .int 0, .int 1, .int 0, .int 40, .int 0, .int 0, .ref sslideNames, .ref spictures, .ref sheats, .ref safter, .ref shearerNames, .ref sneeds, .ref slikes, .ref shates, .ref snear]))] H _ := hw
    refine lv_aload_n C.1 C.2.1 dL_law_1172 rfl (lv_at hl 2 rfl) ?_
    refine lv_aload_n C.1 C.2.1 dL_law_1173 rfl (lv_at hl 4 rfl) ?_
    refine lv_iload C.1 C.2.1 dL_law_1174 (lv_at hl 0 rfl) ?_
    refine lv_iconst (v := 1) C.1 C.2.1 dL_law_1176 (by decide) ?_
    refine lv_iadd C.1 C.2.1 dL_law_1177 ?_
    refine x_topi (z := 1) (by decide) ?_
    refine va_sld C.1 C.2.1 hX hbl hbA hw.2.2.2.1 (i := 1) (x_in rfl) dL_law_1178 ?_
    refine x_topi (z := (xs 1)) rfl ?_
    refine lv_aload_n C.1 C.2.1 dL_law_1179 rfl (lv_at hl 4 rfl) ?_
    refine lv_iload C.1 C.2.1 dL_law_1180 (lv_at hl 0 rfl) ?_
    refine lv_iconst (v := 2) C.1 C.2.1 dL_law_1182 (by decide) ?_
    refine lv_iadd C.1 C.2.1 dL_law_1183 ?_
    refine x_topi (z := 2) (by decide) ?_
    refine va_sld C.1 C.2.1 hX hbl hbA hw.2.2.2.1 (i := 2) (x_in rfl) dL_law_1184 ?_
    refine x_topi (z := (xs 2)) rfl ?_
    refine x_calliV (As := [.int (xs 1), .int (xs 2)]) (rest := [.int (-1)]) (wr := [(qx, .inr (9, [.ref qt, .ref qs, .ref qd, .ref qa, .ref qb, .ref qh, .ref qr, .ref qe, .ref qp, .ref qf, .ref qn, .ref qi, .ref qo, .int 0, .int 0, .int (-1), .int (-1)])), (qs, .inr (4, [.int 0, .int 0, .int 0, .int 0, .int 1, .int 0, .int 40, .int 0, .int 0, .ref sslideNames, .ref spictures, .ref sheats, .ref safter, .ref shearerNames, .ref sneeds, .ref slikes, .ref shates, .ref snear]))]) C hw (c_X11_drawn__B qm (xs 1) (xs 2) mtape mnow mread mkept msnaps maside mname mreadName mkeptName misKept monces morder mordered mtext mline mwritten mnode hb) mwX11_drawn kw1691 [0, 1] [2, 3] rfl rfl rfl rfl (by decide) 0 rfl rfl rfl rfl hl.1 rfl (Nat.le_of_ble_eq_true rfl) ⟨(Nat.le_of_ble_eq_true rfl), (Nat.le_of_ble_eq_true rfl)⟩ ⟨(Nat.le_of_ble_eq_true rfl), (Nat.le_of_ble_eq_true rfl)⟩ dL_law_1185 (fun r2 u9 H locs hp9 hw => ?_)
    obtain ⟨rfl, rfl⟩ := hp9
    have hw : Wd G s (fun q : Nat => s.heap.size ≤ q) [(qx, .inr (9, [.ref qt, .ref qs, .ref qd, .ref qa, .ref qb, .ref qh, .ref qr, .ref qe, .ref qp, .ref qf, .ref qn, .ref qi, .ref qo, .int 0, .int 0, .int (-1), .int (-1)])), (qs, .inr (4, [.int 0, .int 0, .int 0, .int 0, .int 1, .int 0, .int 40, .int 0, .int 0, .ref sslideNames, .ref spictures, .ref sheats, .ref safter, .ref shearerNames, .ref sneeds, .ref slikes, .ref shates, .ref snear]))] H _ := hw
    refine lv_icmp_eq (tgt := 1405) C.1 C.2.1 dL_law_1188 (by decide) (fun _ => ?_) (fun h9 => absurd (by decide) h9)
    refine lv_iinc (v := 6) (lv' := [(4, .int 6), (3, .ref qz), (2, .ref qm), (1, .ref qx), (0, .ref b)]) C.1 C.2.1 dL_law_1405 hl (k := 0) rfl (by decide) (by decide) rfl (fun ls hl => ?_)
    refine lv_goto (tgt := 23) C.1 C.2.1 dL_law_1408 (by decide) ?_
    exact law_tail C0 hw (Nat.le_of_ble_eq_true rfl) (Nat.le_of_ble_eq_true rfl) (lv_sub hl [0, 4] rfl)
  · skip
    refine lv_aload_n C.1 C.2.1 dL_law_1156 rfl (lv_at hl 3 rfl) ?_
    refine lv_aload_n C.1 C.2.1 dL_law_1157 rfl (lv_at hl 4 rfl) ?_
    refine lv_iload C.1 C.2.1 dL_law_1158 (lv_at hl 0 rfl) ?_
    refine lv_iconst (v := 1) C.1 C.2.1 dL_law_1160 (by decide) ?_
    refine lv_iadd C.1 C.2.1 dL_law_1161 ?_
    refine x_topi (z := 1) (by decide) ?_
    refine va_sld C.1 C.2.1 hX hbl hbA hw.2.2.2.1 (i := 1) (x_in rfl) dL_law_1162 ?_
    refine x_topi (z := (xs 1)) rfl ?_
    refine lv_aload_n C.1 C.2.1 dL_law_1163 rfl (lv_at hl 4 rfl) ?_
    refine lv_iload C.1 C.2.1 dL_law_1164 (lv_at hl 0 rfl) ?_
    refine lv_iconst (v := 2) C.1 C.2.1 dL_law_1166 (by decide) ?_
    refine lv_iadd C.1 C.2.1 dL_law_1167 ?_
    refine x_topi (z := 2) (by decide) ?_
    refine va_sld C.1 C.2.1 hX hbl hbA hw.2.2.2.1 (i := 2) (x_in rfl) dL_law_1168 ?_
    refine x_topi (z := (xs 2)) rfl ?_
    refine x_calliV (As := [.int (xs 1), .int (xs 2)]) (rest := []) (wr := [(qm, .inr (10, [.int 0, .ref mtape, .int 0, .int 0, .int 0, .int 0, .int 0, .int 0, .int 0, .int 0, .int 0, .int 0, .long 0, .int 0, .ref mnow, .ref mread, .ref mkept, .ref msnaps, .ref maside, .ref mname, .ref mreadName, .ref mkeptName, .ref misKept, .ref monces, .int 0, .ref morder, .ref mordered, .int 0, .int 0, .int 0, .int (-1), .int (-1), .ref mtext, .int 0, .int 0, .ref mline, .ref mwritten, .int 0, .int 0, .ref mnode, .int 0, .int 0, .int 0, .int 0])), (mnow, eI G 339 nw0)]) C hw (c_X10_drawn qx (xs 1) (xs 2) qt qs qd qa qb qh qr qe qp qf qn qi qo sslideNames spictures sheats safter shearerNames sneeds slikes shates snear) mwX10_drawn kw934 [0, 1] [2, 3] rfl rfl rfl rfl (by decide) 0 rfl rfl rfl rfl hl.1 rfl (Nat.le_of_ble_eq_true rfl) ⟨(Nat.le_of_ble_eq_true rfl), (Nat.le_of_ble_eq_true rfl)⟩ ⟨(Nat.le_of_ble_eq_true rfl), (Nat.le_of_ble_eq_true rfl)⟩ dL_law_1169 (fun r1 u9 H locs hp9 hw => ?_)
    obtain ⟨rfl, rfl⟩ := hp9
    have hw : Wd G s (fun q : Nat => s.heap.size ≤ q) [(qm, .inr (10, [.int 0, .ref mtape, .int 0, .int 0, .int 0, .int 0, .int 0, .int 0, .int 0, .int 0, .int 0, .int 0, .long 0, .int 0, .ref mnow, .ref mread, .ref mkept, .ref msnaps, .ref maside, .ref mname, .ref mreadName, .ref mkeptName, .ref misKept, .ref monces, .int 0, .ref morder, .ref mordered, .int 0, .int 0, .int 0, .int (-1), .int (-1), .ref mtext, .int 0, .int 0, .ref mline, .ref mwritten, .int 0, .int 0, .ref mnode, .int 0, .int 0, .int 0, .int 0])), (mnow, eI G 339 nw0), (qx, .inr (9, [.ref qt, .ref qs, .ref qd, .ref qa, .ref qb, .ref qh, .ref qr, .ref qe, .ref qp, .ref qf, .ref qn, .ref qi, .ref qo, .int 0, .int 0, .int (-1), .int (-1)])), (qs, .inr (4, [.int 0, .int 0, .int 0, .int 0, .int 1, .int 0, .int 40, .int 0, .int 0, .ref sslideNames, .ref spictures, .ref sheats, .ref safter, .ref shearerNames, .ref sneeds, .ref slikes, .ref shates, .ref snear]))] H _ := hw
    refine lv_aload_n C.1 C.2.1 dL_law_1172 rfl (lv_at hl 2 rfl) ?_
    refine lv_aload_n C.1 C.2.1 dL_law_1173 rfl (lv_at hl 4 rfl) ?_
    refine lv_iload C.1 C.2.1 dL_law_1174 (lv_at hl 0 rfl) ?_
    refine lv_iconst (v := 1) C.1 C.2.1 dL_law_1176 (by decide) ?_
    refine lv_iadd C.1 C.2.1 dL_law_1177 ?_
    refine x_topi (z := 1) (by decide) ?_
    refine va_sld C.1 C.2.1 hX hbl hbA hw.2.2.2.1 (i := 1) (x_in rfl) dL_law_1178 ?_
    refine x_topi (z := (xs 1)) rfl ?_
    refine lv_aload_n C.1 C.2.1 dL_law_1179 rfl (lv_at hl 4 rfl) ?_
    refine lv_iload C.1 C.2.1 dL_law_1180 (lv_at hl 0 rfl) ?_
    refine lv_iconst (v := 2) C.1 C.2.1 dL_law_1182 (by decide) ?_
    refine lv_iadd C.1 C.2.1 dL_law_1183 ?_
    refine x_topi (z := 2) (by decide) ?_
    refine va_sld C.1 C.2.1 hX hbl hbA hw.2.2.2.1 (i := 2) (x_in rfl) dL_law_1184 ?_
    refine x_topi (z := (xs 2)) rfl ?_
    refine x_calliV (As := [.int (xs 1), .int (xs 2)]) (rest := [.int (-1)]) (wr := [(qx, .inr (9, [.ref qt, .ref qs, .ref qd, .ref qa, .ref qb, .ref qh, .ref qr, .ref qe, .ref qp, .ref qf, .ref qn, .ref qi, .ref qo, .int 0, .int 0, .int (-1), .int (-1)])), (qs, .inr (4, [.int 0, .int 0, .int 0, .int 0, .int 1, .int 0, .int 40, .int 0, .int 0, .ref sslideNames, .ref spictures, .ref sheats, .ref safter, .ref shearerNames, .ref sneeds, .ref slikes, .ref shates, .ref snear]))]) C hw (c_X11_drawn__G qm (xs 1) (xs 2) mtape mnow mread mkept msnaps maside mname mreadName mkeptName misKept monces morder mordered mtext mline mwritten mnode h1 h2) mwX11_drawn kw1691 [0, 1] [2, 3] rfl rfl rfl rfl (by decide) 0 rfl rfl rfl rfl hl.1 rfl (Nat.le_of_ble_eq_true rfl) ⟨(Nat.le_of_ble_eq_true rfl), (Nat.le_of_ble_eq_true rfl)⟩ ⟨(Nat.le_of_ble_eq_true rfl), (Nat.le_of_ble_eq_true rfl)⟩ dL_law_1185 (fun r2 u9 H locs hp9 hw => ?_)
    obtain ⟨rfl, rfl⟩ := hp9
    have hw : Wd G s (fun q : Nat => s.heap.size ≤ q) [(qx, .inr (9, [.ref qt, .ref qs, .ref qd, .ref qa, .ref qb, .ref qh, .ref qr, .ref qe, .ref qp, .ref qf, .ref qn, .ref qi, .ref qo, .int 0, .int 0, .int (-1), .int (-1)])), (qs, .inr (4, [.int 0, .int 0, .int 0, .int 0, .int 1, .int 0, .int 40, .int 0, .int 0, .ref sslideNames, .ref spictures, .ref sheats, .ref safter, .ref shearerNames, .ref sneeds, .ref slikes, .ref shates, .ref snear]))] H _ := hw
    refine lv_icmp_eq (tgt := 1405) C.1 C.2.1 dL_law_1188 (by decide) (fun _ => ?_) (fun h9 => absurd (by decide) h9)
    refine lv_iinc (v := 6) (lv' := [(4, .int 6), (3, .ref qz), (2, .ref qm), (1, .ref qx), (0, .ref b)]) C.1 C.2.1 dL_law_1405 hl (k := 0) rfl (by decide) (by decide) rfl (fun ls hl => ?_)
    refine lv_goto (tgt := 23) C.1 C.2.1 dL_law_1408 (by decide) ?_
    exact law_tail C0 hw (Nat.le_of_ble_eq_true rfl) (Nat.le_of_ble_eq_true rfl) (lv_sub hl [0, 4] rfl)
theorem dL_law_1193 : decode cL_law 1193 = .ok (.aload_n 1, 1) := by decide +kernel
theorem dL_law_1194 : decode cL_law 1194 = .ok (.aload_n 0, 1) := by decide +kernel
theorem dL_law_1195 : decode cL_law 1195 = .ok (.iload 4, 2) := by decide +kernel
theorem dL_law_1197 : decode cL_law 1197 = .ok (.iconst 1, 1) := by decide +kernel
theorem dL_law_1198 : decode cL_law 1198 = .ok (.iadd, 1) := by decide +kernel
theorem dL_law_1199 : decode cL_law 1199 = .ok (.iaload, 1) := by decide +kernel
theorem dL_law_1200 : decode cL_law 1200 = .ok (.aload_n 0, 1) := by decide +kernel
theorem dL_law_1201 : decode cL_law 1201 = .ok (.iload 4, 2) := by decide +kernel
theorem dL_law_1203 : decode cL_law 1203 = .ok (.iconst 2, 1) := by decide +kernel
theorem dL_law_1204 : decode cL_law 1204 = .ok (.iadd, 1) := by decide +kernel
theorem dL_law_1205 : decode cL_law 1205 = .ok (.iaload, 1) := by decide +kernel
theorem dL_law_1206 : decode cL_law 1206 = .ok (.aload_n 0, 1) := by decide +kernel
theorem dL_law_1207 : decode cL_law 1207 = .ok (.iload 4, 2) := by decide +kernel
theorem dL_law_1209 : decode cL_law 1209 = .ok (.iconst 3, 1) := by decide +kernel
theorem dL_law_1210 : decode cL_law 1210 = .ok (.iadd, 1) := by decide +kernel
theorem dL_law_1211 : decode cL_law 1211 = .ok (.iaload, 1) := by decide +kernel
theorem dL_law_1212 : decode cL_law 1212 = .ok (.invokevirtual 156, 3) := by decide +kernel
theorem mwX10_odds : MwV yX10_odds cX10_odds 6 (some .int) 3 := ⟨⟨kw951, kw1, by decide +kernel⟩, kw949, kw950⟩
theorem dL_law_1215 : decode cL_law 1215 = .ok (.aload_n 2, 1) := by decide +kernel
theorem dL_law_1216 : decode cL_law 1216 = .ok (.aload_n 0, 1) := by decide +kernel
theorem dL_law_1217 : decode cL_law 1217 = .ok (.iload 4, 2) := by decide +kernel
theorem dL_law_1219 : decode cL_law 1219 = .ok (.iconst 1, 1) := by decide +kernel
theorem dL_law_1220 : decode cL_law 1220 = .ok (.iadd, 1) := by decide +kernel
theorem dL_law_1221 : decode cL_law 1221 = .ok (.iaload, 1) := by decide +kernel
theorem dL_law_1222 : decode cL_law 1222 = .ok (.aload_n 0, 1) := by decide +kernel
theorem dL_law_1223 : decode cL_law 1223 = .ok (.iload 4, 2) := by decide +kernel
theorem dL_law_1225 : decode cL_law 1225 = .ok (.iconst 2, 1) := by decide +kernel
theorem dL_law_1226 : decode cL_law 1226 = .ok (.iadd, 1) := by decide +kernel
theorem dL_law_1227 : decode cL_law 1227 = .ok (.iaload, 1) := by decide +kernel
theorem dL_law_1228 : decode cL_law 1228 = .ok (.aload_n 0, 1) := by decide +kernel
theorem dL_law_1229 : decode cL_law 1229 = .ok (.iload 4, 2) := by decide +kernel
theorem dL_law_1231 : decode cL_law 1231 = .ok (.iconst 3, 1) := by decide +kernel
theorem dL_law_1232 : decode cL_law 1232 = .ok (.iadd, 1) := by decide +kernel
theorem dL_law_1233 : decode cL_law 1233 = .ok (.iaload, 1) := by decide +kernel
theorem dL_law_1234 : decode cL_law 1234 = .ok (.invokevirtual 159, 3) := by decide +kernel
theorem mwX11_odds : MwV yX11_odds cX11_odds 6 (some .int) 3 := ⟨⟨kw1707, kw15, by decide +kernel⟩, kw1705, kw1706⟩
theorem dL_law_1237 : decode cL_law 1237 = .ok (.if_icmp .eq 168, 3) := by decide +kernel
set_option maxHeartbeats 4000000 in
set_option maxRecDepth 100000 in
theorem law_odds {p : Program} {l : Launch} {e : Env} {s : State} {m : MethodId} {below : List Frame} {meth : Method} {c : Code} {G : Gc} {b : Nat} {xs : Nat → Int32} (hst : l.stackTraces = false) (qx : Nat) (qm : Nat) (qz : Nat) (qt : Nat) (qs : Nat) (qd : Nat) (qa : Nat) (qb : Nat) (qh : Nat) (qr : Nat) (qe : Nat) (qp : Nat) (qf : Nat) (qn : Nat) (qi : Nat) (qo : Nat) (sslideNames : Nat) (spictures : Nat) (sheats : Nat) (safter : Nat) (shearerNames : Nat) (sneeds : Nat) (slikes : Nat) (shates : Nat) (snear : Nat) (mtape : Nat) (mnow : Nat) (mread : Nat) (mkept : Nat) (msnaps : Nat) (maside : Nat) (mname : Nat) (mreadName : Nat) (mkeptName : Nat) (misKept : Nat) (monces : Nat) (morder : Nat) (mordered : Nat) (mtext : Nat) (mline : Nat) (mwritten : Nat) (mnode : Nat) {A : Nat → Prop} (eA : A = fun q : Nat => s.heap.size ≤ q) {H : Heap} {locs : List Loc} {ls : Array Slot} (C0 : lw_At p s m meth c b 6 xs) (hw : Wd G s A [(qx, .inr (9, [.ref qt, .ref qs, .ref qd, .ref qa, .ref qb, .ref qh, .ref qr, .ref qe, .ref qp, .ref qf, .ref qn, .ref qi, .ref qo, .int 0, .int 0, .int (-1), .int (-1)])), (qs, .inr (4, [.int 0, .int 0, .int 0, .int 0, .int 1, .int 0, .int 40, .int 0, .int 0, .ref sslideNames, .ref spictures, .ref sheats, .ref safter, .ref shearerNames, .ref sneeds, .ref slikes, .ref shates, .ref snear])), (qm, .inr (10, [.int 0, .ref mtape, .int 0, .int 0, .int 0, .int 0, .int 0, .int 0, .int 0, .int 0, .int 0, .int 0, .long 0, .int 0, .ref mnow, .ref mread, .ref mkept, .ref msnaps, .ref maside, .ref mname, .ref mreadName, .ref mkeptName, .ref misKept, .ref monces, .int 0, .ref morder, .ref mordered, .int 0, .int 0, .int 0, .int (-1), .int (-1), .ref mtext, .int 0, .int 0, .ref mline, .ref mwritten, .int 0, .int 0, .ref mnode, .int 0, .int 0, .int 0, .int 0])), (mnow, eI G 339 nw0)] H locs) (hl : lv_has ls 7 [(4, .int 0), (3, .ref qz), (2, .ref qm), (1, .ref qx), (0, .ref b)]) : W p l e room_1 s m #[Value.ref b] below meth c H locs 147 5480 (lw_Z below #[Value.ref b] s) (F0 m 1193 ls []) := by
  subst eA
  obtain ⟨hx, hb, hr, hml, hown, hts, hX, hbl, hlocks, hgv⟩ := id C0
  have hbA : ¬ (fun q : Nat => s.heap.size ≤ q) b := Nat.not_le.mpr hbl
  have C : CallFix p m c code 7 s #[Value.ref b] gw "LanternStateLaw" := ⟨hx, hb, hml, hown, fun w h => hts w (gw_sub w h)⟩
  refine lv_aload_n C.1 C.2.1 dL_law_1193 rfl (lv_at hl 3 rfl) ?_
  refine lv_aload_n C.1 C.2.1 dL_law_1194 rfl (lv_at hl 4 rfl) ?_
  refine lv_iload C.1 C.2.1 dL_law_1195 (lv_at hl 0 rfl) ?_
  refine lv_iconst (v := 1) C.1 C.2.1 dL_law_1197 (by decide) ?_
  refine lv_iadd C.1 C.2.1 dL_law_1198 ?_
  refine x_topi (z := 1) (by decide) ?_
  refine va_sld C.1 C.2.1 hX hbl hbA hw.2.2.2.1 (i := 1) (x_in rfl) dL_law_1199 ?_
  refine x_topi (z := (xs 1)) rfl ?_
  refine lv_aload_n C.1 C.2.1 dL_law_1200 rfl (lv_at hl 4 rfl) ?_
  refine lv_iload C.1 C.2.1 dL_law_1201 (lv_at hl 0 rfl) ?_
  refine lv_iconst (v := 2) C.1 C.2.1 dL_law_1203 (by decide) ?_
  refine lv_iadd C.1 C.2.1 dL_law_1204 ?_
  refine x_topi (z := 2) (by decide) ?_
  refine va_sld C.1 C.2.1 hX hbl hbA hw.2.2.2.1 (i := 2) (x_in rfl) dL_law_1205 ?_
  refine x_topi (z := (xs 2)) rfl ?_
  refine lv_aload_n C.1 C.2.1 dL_law_1206 rfl (lv_at hl 4 rfl) ?_
  refine lv_iload C.1 C.2.1 dL_law_1207 (lv_at hl 0 rfl) ?_
  refine lv_iconst (v := 3) C.1 C.2.1 dL_law_1209 (by decide) ?_
  refine lv_iadd C.1 C.2.1 dL_law_1210 ?_
  refine x_topi (z := 3) (by decide) ?_
  refine va_sld C.1 C.2.1 hX hbl hbA hw.2.2.2.1 (i := 3) (x_in rfl) dL_law_1211 ?_
  refine x_topi (z := (xs 3)) rfl ?_
  refine x_calliV (As := [.int (xs 1), .int (xs 2), .int (xs 3)]) (rest := []) (wr := [(qm, .inr (10, [.int 0, .ref mtape, .int 0, .int 0, .int 0, .int 0, .int 0, .int 0, .int 0, .int 0, .int 0, .int 0, .long 0, .int 0, .ref mnow, .ref mread, .ref mkept, .ref msnaps, .ref maside, .ref mname, .ref mreadName, .ref mkeptName, .ref misKept, .ref monces, .int 0, .ref morder, .ref mordered, .int 0, .int 0, .int 0, .int (-1), .int (-1), .ref mtext, .int 0, .int 0, .ref mline, .ref mwritten, .int 0, .int 0, .ref mnode, .int 0, .int 0, .int 0, .int 0])), (mnow, eI G 339 nw0)]) C hw (c_X10_odds qx (xs 1) (xs 2) (xs 3) qt qs qd qa qb qh qr qe qp qf qn qi qo sslideNames spictures sheats safter shearerNames sneeds slikes shates snear) mwX10_odds kw948 [0, 1] [2, 3] rfl rfl rfl rfl (by decide) 0 rfl rfl rfl rfl hl.1 rfl (Nat.le_of_ble_eq_true rfl) ⟨(Nat.le_of_ble_eq_true rfl), (Nat.le_of_ble_eq_true rfl)⟩ ⟨(Nat.le_of_ble_eq_true rfl), (Nat.le_of_ble_eq_true rfl)⟩ dL_law_1212 (fun r1 u9 H locs hp9 hw => ?_)
  obtain ⟨rfl, rfl⟩ := hp9
  have hw : Wd G s (fun q : Nat => s.heap.size ≤ q) [(qm, .inr (10, [.int 0, .ref mtape, .int 0, .int 0, .int 0, .int 0, .int 0, .int 0, .int 0, .int 0, .int 0, .int 0, .long 0, .int 0, .ref mnow, .ref mread, .ref mkept, .ref msnaps, .ref maside, .ref mname, .ref mreadName, .ref mkeptName, .ref misKept, .ref monces, .int 0, .ref morder, .ref mordered, .int 0, .int 0, .int 0, .int (-1), .int (-1), .ref mtext, .int 0, .int 0, .ref mline, .ref mwritten, .int 0, .int 0, .ref mnode, .int 0, .int 0, .int 0, .int 0])), (mnow, eI G 339 nw0), (qx, .inr (9, [.ref qt, .ref qs, .ref qd, .ref qa, .ref qb, .ref qh, .ref qr, .ref qe, .ref qp, .ref qf, .ref qn, .ref qi, .ref qo, .int 0, .int 0, .int (-1), .int (-1)])), (qs, .inr (4, [.int 0, .int 0, .int 0, .int 0, .int 1, .int 0, .int 40, .int 0, .int 0, .ref sslideNames, .ref spictures, .ref sheats, .ref safter, .ref shearerNames, .ref sneeds, .ref slikes, .ref shates, .ref snear]))] H _ := hw
  refine lv_aload_n C.1 C.2.1 dL_law_1215 rfl (lv_at hl 2 rfl) ?_
  refine lv_aload_n C.1 C.2.1 dL_law_1216 rfl (lv_at hl 4 rfl) ?_
  refine lv_iload C.1 C.2.1 dL_law_1217 (lv_at hl 0 rfl) ?_
  refine lv_iconst (v := 1) C.1 C.2.1 dL_law_1219 (by decide) ?_
  refine lv_iadd C.1 C.2.1 dL_law_1220 ?_
  refine x_topi (z := 1) (by decide) ?_
  refine va_sld C.1 C.2.1 hX hbl hbA hw.2.2.2.1 (i := 1) (x_in rfl) dL_law_1221 ?_
  refine x_topi (z := (xs 1)) rfl ?_
  refine lv_aload_n C.1 C.2.1 dL_law_1222 rfl (lv_at hl 4 rfl) ?_
  refine lv_iload C.1 C.2.1 dL_law_1223 (lv_at hl 0 rfl) ?_
  refine lv_iconst (v := 2) C.1 C.2.1 dL_law_1225 (by decide) ?_
  refine lv_iadd C.1 C.2.1 dL_law_1226 ?_
  refine x_topi (z := 2) (by decide) ?_
  refine va_sld C.1 C.2.1 hX hbl hbA hw.2.2.2.1 (i := 2) (x_in rfl) dL_law_1227 ?_
  refine x_topi (z := (xs 2)) rfl ?_
  refine lv_aload_n C.1 C.2.1 dL_law_1228 rfl (lv_at hl 4 rfl) ?_
  refine lv_iload C.1 C.2.1 dL_law_1229 (lv_at hl 0 rfl) ?_
  refine lv_iconst (v := 3) C.1 C.2.1 dL_law_1231 (by decide) ?_
  refine lv_iadd C.1 C.2.1 dL_law_1232 ?_
  refine x_topi (z := 3) (by decide) ?_
  refine va_sld C.1 C.2.1 hX hbl hbA hw.2.2.2.1 (i := 3) (x_in rfl) dL_law_1233 ?_
  refine x_topi (z := (xs 3)) rfl ?_
  refine x_calliV (As := [.int (xs 1), .int (xs 2), .int (xs 3)]) (rest := [.int (-1)]) (wr := [(qx, .inr (9, [.ref qt, .ref qs, .ref qd, .ref qa, .ref qb, .ref qh, .ref qr, .ref qe, .ref qp, .ref qf, .ref qn, .ref qi, .ref qo, .int 0, .int 0, .int (-1), .int (-1)])), (qs, .inr (4, [.int 0, .int 0, .int 0, .int 0, .int 1, .int 0, .int 40, .int 0, .int 0, .ref sslideNames, .ref spictures, .ref sheats, .ref safter, .ref shearerNames, .ref sneeds, .ref slikes, .ref shates, .ref snear]))]) C hw (c_X11_odds qm (xs 1) (xs 2) (xs 3) mtape mnow mread mkept msnaps maside mname mreadName mkeptName misKept monces morder mordered mtext mline mwritten mnode) mwX11_odds kw1704 [0, 1] [2, 3] rfl rfl rfl rfl (by decide) 0 rfl rfl rfl rfl hl.1 rfl (Nat.le_of_ble_eq_true rfl) ⟨(Nat.le_of_ble_eq_true rfl), (Nat.le_of_ble_eq_true rfl)⟩ ⟨(Nat.le_of_ble_eq_true rfl), (Nat.le_of_ble_eq_true rfl)⟩ dL_law_1234 (fun r2 u9 H locs hp9 hw => ?_)
  obtain ⟨rfl, rfl⟩ := hp9
  have hw : Wd G s (fun q : Nat => s.heap.size ≤ q) [(qx, .inr (9, [.ref qt, .ref qs, .ref qd, .ref qa, .ref qb, .ref qh, .ref qr, .ref qe, .ref qp, .ref qf, .ref qn, .ref qi, .ref qo, .int 0, .int 0, .int (-1), .int (-1)])), (qs, .inr (4, [.int 0, .int 0, .int 0, .int 0, .int 1, .int 0, .int 40, .int 0, .int 0, .ref sslideNames, .ref spictures, .ref sheats, .ref safter, .ref shearerNames, .ref sneeds, .ref slikes, .ref shates, .ref snear]))] H _ := hw
  refine lv_icmp_eq (tgt := 1405) C.1 C.2.1 dL_law_1237 (by decide) (fun _ => ?_) (fun h9 => absurd (by decide) h9)
  refine lv_iinc (v := 6) (lv' := [(4, .int 6), (3, .ref qz), (2, .ref qm), (1, .ref qx), (0, .ref b)]) C.1 C.2.1 dL_law_1405 hl (k := 0) rfl (by decide) (by decide) rfl (fun ls hl => ?_)
  refine lv_goto (tgt := 23) C.1 C.2.1 dL_law_1408 (by decide) ?_
  exact law_tail C0 hw (Nat.le_of_ble_eq_true rfl) (Nat.le_of_ble_eq_true rfl) (lv_sub hl [0, 4] rfl)
theorem dL_law_1242 : decode cL_law 1242 = .ok (.aload_n 1, 1) := by decide +kernel
theorem dL_law_1243 : decode cL_law 1243 = .ok (.aload_n 0, 1) := by decide +kernel
theorem dL_law_1244 : decode cL_law 1244 = .ok (.iload 4, 2) := by decide +kernel
theorem dL_law_1246 : decode cL_law 1246 = .ok (.iconst 1, 1) := by decide +kernel
theorem dL_law_1247 : decode cL_law 1247 = .ok (.iadd, 1) := by decide +kernel
theorem dL_law_1248 : decode cL_law 1248 = .ok (.iaload, 1) := by decide +kernel
theorem dL_law_1249 : decode cL_law 1249 = .ok (.invokevirtual 160, 3) := by decide +kernel
theorem mwX10_book : MwV yX10_book cX10_book 5 (some .int) 1 := ⟨⟨kw955, kw1, by decide +kernel⟩, kw953, kw954⟩
theorem dL_law_1252 : decode cL_law 1252 = .ok (.aload_n 2, 1) := by decide +kernel
theorem dL_law_1253 : decode cL_law 1253 = .ok (.aload_n 0, 1) := by decide +kernel
theorem dL_law_1254 : decode cL_law 1254 = .ok (.iload 4, 2) := by decide +kernel
theorem dL_law_1256 : decode cL_law 1256 = .ok (.iconst 1, 1) := by decide +kernel
theorem dL_law_1257 : decode cL_law 1257 = .ok (.iadd, 1) := by decide +kernel
theorem dL_law_1258 : decode cL_law 1258 = .ok (.iaload, 1) := by decide +kernel
theorem dL_law_1259 : decode cL_law 1259 = .ok (.invokevirtual 163, 3) := by decide +kernel
theorem mwX11_book : MwV yX11_book cX11_book 4 (some .int) 1 := ⟨⟨kw1719, kw15, by decide +kernel⟩, kw1717, kw1718⟩
theorem dL_law_1262 : decode cL_law 1262 = .ok (.if_icmp .eq 143, 3) := by decide +kernel
set_option maxHeartbeats 4000000 in
set_option maxRecDepth 100000 in
theorem law_book {p : Program} {l : Launch} {e : Env} {s : State} {m : MethodId} {below : List Frame} {meth : Method} {c : Code} {G : Gc} {b : Nat} {xs : Nat → Int32} (hst : l.stackTraces = false) (qx : Nat) (qm : Nat) (qz : Nat) (qt : Nat) (qs : Nat) (qd : Nat) (qa : Nat) (qb : Nat) (qh : Nat) (qr : Nat) (qe : Nat) (qp : Nat) (qf : Nat) (qn : Nat) (qi : Nat) (qo : Nat) (kc : Nat) (bys : Nat) (pkeys : Nat) (pwhos : Nat) (pfirsts : Nat) (pseconds : Nat) (apictures : Nat) (ashown : Nat) (asighed : Nat) (bpictures : Nat) (bshown : Nat) (bsighed : Nat) (hk : Nat) (hf : Nat → Option Nat) (hs : Nat) (hpictures : Nat) (hshown : Nat) (hsighed : Nat) (mtape : Nat) (mnow : Nat) (mread : Nat) (mkept : Nat) (msnaps : Nat) (maside : Nat) (mname : Nat) (mreadName : Nat) (mkeptName : Nat) (misKept : Nat) (monces : Nat) (morder : Nat) (mordered : Nat) (mtext : Nat) (mline : Nat) (mwritten : Nat) (mnode : Nat) (hf0 : hf 0 = some hs) {A : Nat → Prop} (eA : A = fun q : Nat => s.heap.size ≤ q) {H : Heap} {locs : List Loc} {ls : Array Slot} (C0 : lw_At p s m meth c b 6 xs) (hw : Wd G s A [(qx, .inr (9, [.ref qt, .ref qs, .ref qd, .ref qa, .ref qb, .ref qh, .ref qr, .ref qe, .ref qp, .ref qf, .ref qn, .ref qi, .ref qo, .int 0, .int 0, .int (-1), .int (-1)])), (qt, .inr (8, [.ref kc, .ref bys, .int 0, .int 0, .int 0, .int 0, .int 0, .int 0, .long 0, .int 0, .int 0, .int 0])), (qp, .inr (1, [.ref pkeys, .ref pwhos, .ref pfirsts, .ref pseconds, .int 0, .int 0])), (qa, .inr (7, [.int 0, .int 0, .int 0, .int 0, .int 0, .int 0, .int 0, .int 0, .ref apictures, .ref ashown, .ref asighed])), (apictures, eI G 6 (fun _ => 0)), (ashown, eI G 6 (fun _ => 0)), (asighed, eI G 8 (fun _ => 0)), (qb, .inr (7, [.int 0, .int 0, .int 0, .int 0, .int 0, .int 0, .int 0, .int 0, .ref bpictures, .ref bshown, .ref bsighed])), (bpictures, eI G 6 (fun _ => 0)), (bshown, eI G 6 (fun _ => 0)), (bsighed, eI G 8 (fun _ => 0)), (qh, .inr (2, [.ref hk, .int 0, .int 0])), (hk, eSt G 8 hf), (hs, .inr (7, [.int 0, .int 0, .int 0, .int 0, .int 0, .int 0, .int 0, .int 0, .ref hpictures, .ref hshown, .ref hsighed])), (hpictures, eI G 6 (fun _ => 0)), (hshown, eI G 6 (fun _ => 0)), (hsighed, eI G 8 (fun _ => 0)), (qo, eI G 4 (fun _ => 0)), (qm, .inr (10, [.int 0, .ref mtape, .int 0, .int 0, .int 0, .int 0, .int 0, .int 0, .int 0, .int 0, .int 0, .int 0, .long 0, .int 0, .ref mnow, .ref mread, .ref mkept, .ref msnaps, .ref maside, .ref mname, .ref mreadName, .ref mkeptName, .ref misKept, .ref monces, .int 0, .ref morder, .ref mordered, .int 0, .int 0, .int 0, .int (-1), .int (-1), .ref mtext, .int 0, .int 0, .ref mline, .ref mwritten, .int 0, .int 0, .ref mnode, .int 0, .int 0, .int 0, .int 0])), (mnow, eI G 339 nw0), (maside, eI G 33 (fun _ => 0)), (mwritten, eI G 4 (fun _ => 0))] H locs) (hl : lv_has ls 7 [(4, .int 0), (3, .ref qz), (2, .ref qm), (1, .ref qx), (0, .ref b)]) : W p l e room_1 s m #[Value.ref b] below meth c H locs 147 5480 (lw_Z below #[Value.ref b] s) (F0 m 1242 ls []) := by
  subst eA
  obtain ⟨hx, hb, hr, hml, hown, hts, hX, hbl, hlocks, hgv⟩ := id C0
  have hbA : ¬ (fun q : Nat => s.heap.size ≤ q) b := Nat.not_le.mpr hbl
  have C : CallFix p m c code 7 s #[Value.ref b] gw "LanternStateLaw" := ⟨hx, hb, hml, hown, fun w h => hts w (gw_sub w h)⟩
  rcases x_three (xs 1) with h0 | h0 | ⟨h0, h1⟩
  · skip
    refine lv_aload_n C.1 C.2.1 dL_law_1242 rfl (lv_at hl 3 rfl) ?_
    refine lv_aload_n C.1 C.2.1 dL_law_1243 rfl (lv_at hl 4 rfl) ?_
    refine lv_iload C.1 C.2.1 dL_law_1244 (lv_at hl 0 rfl) ?_
    refine lv_iconst (v := 1) C.1 C.2.1 dL_law_1246 (by decide) ?_
    refine lv_iadd C.1 C.2.1 dL_law_1247 ?_
    refine x_topi (z := 1) (by decide) ?_
    refine va_sld C.1 C.2.1 hX hbl hbA hw.2.2.2.1 (i := 1) (x_in rfl) dL_law_1248 ?_
    refine x_topi (z := 0) h0 ?_
    refine x_calliV (As := [.int 0]) (rest := []) (wr := [(qm, .inr (10, [.int 0, .ref mtape, .int 0, .int 0, .int 0, .int 0, .int 0, .int 0, .int 0, .int 0, .int 0, .int 0, .long 0, .int 0, .ref mnow, .ref mread, .ref mkept, .ref msnaps, .ref maside, .ref mname, .ref mreadName, .ref mkeptName, .ref misKept, .ref monces, .int 0, .ref morder, .ref mordered, .int 0, .int 0, .int 0, .int (-1), .int (-1), .ref mtext, .int 0, .int 0, .ref mline, .ref mwritten, .int 0, .int 0, .ref mnode, .int 0, .int 0, .int 0, .int 0])), (mnow, eI G 339 nw0), (maside, eI G 33 (fun _ => 0)), (mwritten, eI G 4 (fun _ => 0))]) C hw (c_X10_book__0 qx qt qs qd qa qb qh qr qe qp qf qn qi qo kc bys pkeys pwhos pfirsts pseconds apictures ashown asighed bpictures bshown bsighed hk hf hs hpictures hshown hsighed hf0) mwX10_book kw952 [0, 1, 2, 3, 4, 5, 6, 7, 8, 9, 10, 11, 12, 13, 14, 15, 16, 17] [18, 19, 20, 21] rfl rfl rfl rfl (by decide) 0 rfl rfl rfl rfl hl.1 rfl (Nat.le_of_ble_eq_true rfl) ⟨(Nat.le_of_ble_eq_true rfl), (Nat.le_of_ble_eq_true rfl)⟩ ⟨(Nat.le_of_ble_eq_true rfl), (Nat.le_of_ble_eq_true rfl)⟩ dL_law_1249 (fun r1 u9 H locs hp9 hw => ?_)
    obtain ⟨rfl, rfl⟩ := hp9
    have hw : Wd G s (fun q : Nat => s.heap.size ≤ q) [(qm, .inr (10, [.int 0, .ref mtape, .int 0, .int 0, .int 0, .int 0, .int 0, .int 0, .int 0, .int 0, .int 0, .int 0, .long 0, .int 0, .ref mnow, .ref mread, .ref mkept, .ref msnaps, .ref maside, .ref mname, .ref mreadName, .ref mkeptName, .ref misKept, .ref monces, .int 0, .ref morder, .ref mordered, .int 0, .int 0, .int 0, .int (-1), .int (-1), .ref mtext, .int 0, .int 0, .ref mline, .ref mwritten, .int 0, .int 0, .ref mnode, .int 0, .int 0, .int 0, .int 0])), (mnow, eI G 339 nw0), (maside, eI G 33 (fun _ => 0)), (mwritten, eI G 4 (fun _ => 0))] H _ := hw
    refine lv_aload_n C.1 C.2.1 dL_law_1252 rfl (lv_at hl 2 rfl) ?_
    refine lv_aload_n C.1 C.2.1 dL_law_1253 rfl (lv_at hl 4 rfl) ?_
    refine lv_iload C.1 C.2.1 dL_law_1254 (lv_at hl 0 rfl) ?_
    refine lv_iconst (v := 1) C.1 C.2.1 dL_law_1256 (by decide) ?_
    refine lv_iadd C.1 C.2.1 dL_law_1257 ?_
    refine x_topi (z := 1) (by decide) ?_
    refine va_sld C.1 C.2.1 hX hbl hbA hw.2.2.2.1 (i := 1) (x_in rfl) dL_law_1258 ?_
    refine x_topi (z := 0) h0 ?_
    refine x_calliV (As := [.int 0]) (rest := [.int (-1)]) (wr := []) C hw (c_X11_book__0 qm mtape mnow mread mkept msnaps maside mname mreadName mkeptName misKept monces morder mordered mtext mline mwritten mnode) mwX11_book kw1716 [0, 1, 2, 3] [] rfl rfl rfl rfl (by decide) 0 rfl rfl rfl rfl hl.1 rfl (Nat.le_of_ble_eq_true rfl) ⟨(Nat.le_of_ble_eq_true rfl), (Nat.le_of_ble_eq_true rfl)⟩ ⟨(Nat.le_of_ble_eq_true rfl), (Nat.le_of_ble_eq_true rfl)⟩ dL_law_1259 (fun r2 u9 H locs hp9 hw => ?_)
    obtain ⟨rfl, rfl⟩ := hp9
    have hw : Wd G s (fun q : Nat => s.heap.size ≤ q) [] H _ := hw
    refine lv_icmp_eq (tgt := 1405) C.1 C.2.1 dL_law_1262 (by decide) (fun _ => ?_) (fun h9 => absurd (by decide) h9)
    refine lv_iinc (v := 6) (lv' := [(4, .int 6), (3, .ref qz), (2, .ref qm), (1, .ref qx), (0, .ref b)]) C.1 C.2.1 dL_law_1405 hl (k := 0) rfl (by decide) (by decide) rfl (fun ls hl => ?_)
    refine lv_goto (tgt := 23) C.1 C.2.1 dL_law_1408 (by decide) ?_
    exact law_tail C0 hw (Nat.le_of_ble_eq_true rfl) (Nat.le_of_ble_eq_true rfl) (lv_sub hl [0, 4] rfl)
  · skip
    refine lv_aload_n C.1 C.2.1 dL_law_1242 rfl (lv_at hl 3 rfl) ?_
    refine lv_aload_n C.1 C.2.1 dL_law_1243 rfl (lv_at hl 4 rfl) ?_
    refine lv_iload C.1 C.2.1 dL_law_1244 (lv_at hl 0 rfl) ?_
    refine lv_iconst (v := 1) C.1 C.2.1 dL_law_1246 (by decide) ?_
    refine lv_iadd C.1 C.2.1 dL_law_1247 ?_
    refine x_topi (z := 1) (by decide) ?_
    refine va_sld C.1 C.2.1 hX hbl hbA hw.2.2.2.1 (i := 1) (x_in rfl) dL_law_1248 ?_
    refine x_topi (z := 1) h0 ?_
    refine x_calliV (As := [.int 1]) (rest := []) (wr := [(qm, .inr (10, [.int 0, .ref mtape, .int 0, .int 0, .int 0, .int 0, .int 0, .int 0, .int 0, .int 0, .int 0, .int 0, .long 0, .int 0, .ref mnow, .ref mread, .ref mkept, .ref msnaps, .ref maside, .ref mname, .ref mreadName, .ref mkeptName, .ref misKept, .ref monces, .int 0, .ref morder, .ref mordered, .int 0, .int 0, .int 0, .int (-1), .int (-1), .ref mtext, .int 0, .int 0, .ref mline, .ref mwritten, .int 0, .int 0, .ref mnode, .int 0, .int 0, .int 0, .int 0])), (mnow, eI G 339 nw0), (maside, eI G 33 (fun _ => 0)), (mwritten, eI G 4 (fun _ => 0))]) C hw (c_X10_book__1 qx qt qs qd qa qb qh qr qe qp qf qn qi qo kc bys pkeys pwhos pfirsts pseconds apictures ashown asighed bpictures bshown bsighed hk hf hs hpictures hshown hsighed hf0) mwX10_book kw952 [0, 1, 2, 3, 4, 5, 6, 7, 8, 9, 10, 11, 12, 13, 14, 15, 16, 17] [18, 19, 20, 21] rfl rfl rfl rfl (by decide) 0 rfl rfl rfl rfl hl.1 rfl (Nat.le_of_ble_eq_true rfl) ⟨(Nat.le_of_ble_eq_true rfl), (Nat.le_of_ble_eq_true rfl)⟩ ⟨(Nat.le_of_ble_eq_true rfl), (Nat.le_of_ble_eq_true rfl)⟩ dL_law_1249 (fun r1 u9 H locs hp9 hw => ?_)
    obtain ⟨rfl, rfl⟩ := hp9
    have hw : Wd G s (fun q : Nat => s.heap.size ≤ q) [(qm, .inr (10, [.int 0, .ref mtape, .int 0, .int 0, .int 0, .int 0, .int 0, .int 0, .int 0, .int 0, .int 0, .int 0, .long 0, .int 0, .ref mnow, .ref mread, .ref mkept, .ref msnaps, .ref maside, .ref mname, .ref mreadName, .ref mkeptName, .ref misKept, .ref monces, .int 0, .ref morder, .ref mordered, .int 0, .int 0, .int 0, .int (-1), .int (-1), .ref mtext, .int 0, .int 0, .ref mline, .ref mwritten, .int 0, .int 0, .ref mnode, .int 0, .int 0, .int 0, .int 0])), (mnow, eI G 339 nw0), (maside, eI G 33 (fun _ => 0)), (mwritten, eI G 4 (fun _ => 0))] H _ := hw
    refine lv_aload_n C.1 C.2.1 dL_law_1252 rfl (lv_at hl 2 rfl) ?_
    refine lv_aload_n C.1 C.2.1 dL_law_1253 rfl (lv_at hl 4 rfl) ?_
    refine lv_iload C.1 C.2.1 dL_law_1254 (lv_at hl 0 rfl) ?_
    refine lv_iconst (v := 1) C.1 C.2.1 dL_law_1256 (by decide) ?_
    refine lv_iadd C.1 C.2.1 dL_law_1257 ?_
    refine x_topi (z := 1) (by decide) ?_
    refine va_sld C.1 C.2.1 hX hbl hbA hw.2.2.2.1 (i := 1) (x_in rfl) dL_law_1258 ?_
    refine x_topi (z := 1) h0 ?_
    refine x_calliV (As := [.int 1]) (rest := [.int (-1)]) (wr := []) C hw (c_X11_book__1 qm mtape mnow mread mkept msnaps maside mname mreadName mkeptName misKept monces morder mordered mtext mline mwritten mnode) mwX11_book kw1716 [0, 1, 2, 3] [] rfl rfl rfl rfl (by decide) 0 rfl rfl rfl rfl hl.1 rfl (Nat.le_of_ble_eq_true rfl) ⟨(Nat.le_of_ble_eq_true rfl), (Nat.le_of_ble_eq_true rfl)⟩ ⟨(Nat.le_of_ble_eq_true rfl), (Nat.le_of_ble_eq_true rfl)⟩ dL_law_1259 (fun r2 u9 H locs hp9 hw => ?_)
    obtain ⟨rfl, rfl⟩ := hp9
    have hw : Wd G s (fun q : Nat => s.heap.size ≤ q) [] H _ := hw
    refine lv_icmp_eq (tgt := 1405) C.1 C.2.1 dL_law_1262 (by decide) (fun _ => ?_) (fun h9 => absurd (by decide) h9)
    refine lv_iinc (v := 6) (lv' := [(4, .int 6), (3, .ref qz), (2, .ref qm), (1, .ref qx), (0, .ref b)]) C.1 C.2.1 dL_law_1405 hl (k := 0) rfl (by decide) (by decide) rfl (fun ls hl => ?_)
    refine lv_goto (tgt := 23) C.1 C.2.1 dL_law_1408 (by decide) ?_
    exact law_tail C0 hw (Nat.le_of_ble_eq_true rfl) (Nat.le_of_ble_eq_true rfl) (lv_sub hl [0, 4] rfl)
  · skip
    refine lv_aload_n C.1 C.2.1 dL_law_1242 rfl (lv_at hl 3 rfl) ?_
    refine lv_aload_n C.1 C.2.1 dL_law_1243 rfl (lv_at hl 4 rfl) ?_
    refine lv_iload C.1 C.2.1 dL_law_1244 (lv_at hl 0 rfl) ?_
    refine lv_iconst (v := 1) C.1 C.2.1 dL_law_1246 (by decide) ?_
    refine lv_iadd C.1 C.2.1 dL_law_1247 ?_
    refine x_topi (z := 1) (by decide) ?_
    refine va_sld C.1 C.2.1 hX hbl hbA hw.2.2.2.1 (i := 1) (x_in rfl) dL_law_1248 ?_
    refine x_topi (z := (xs 1)) rfl ?_
    refine x_calliV (As := [.int (xs 1)]) (rest := []) (wr := [(qt, .inr (8, [.ref kc, .ref bys, .int 0, .int 0, .int 0, .int 0, .int 0, .int 0, .long 0, .int 0, .int 0, .int 0])), (qp, .inr (1, [.ref pkeys, .ref pwhos, .ref pfirsts, .ref pseconds, .int 0, .int 0])), (qa, .inr (7, [.int 0, .int 0, .int 0, .int 0, .int 0, .int 0, .int 0, .int 0, .ref apictures, .ref ashown, .ref asighed])), (apictures, eI G 6 (fun _ => 0)), (ashown, eI G 6 (fun _ => 0)), (asighed, eI G 8 (fun _ => 0)), (qb, .inr (7, [.int 0, .int 0, .int 0, .int 0, .int 0, .int 0, .int 0, .int 0, .ref bpictures, .ref bshown, .ref bsighed])), (bpictures, eI G 6 (fun _ => 0)), (bshown, eI G 6 (fun _ => 0)), (bsighed, eI G 8 (fun _ => 0)), (qh, .inr (2, [.ref hk, .int 0, .int 0])), (hk, eSt G 8 hf), (hs, .inr (7, [.int 0, .int 0, .int 0, .int 0, .int 0, .int 0, .int 0, .int 0, .ref hpictures, .ref hshown, .ref hsighed])), (hpictures, eI G 6 (fun _ => 0)), (hshown, eI G 6 (fun _ => 0)), (hsighed, eI G 8 (fun _ => 0)), (qo, eI G 4 (fun _ => 0)), (qm, .inr (10, [.int 0, .ref mtape, .int 0, .int 0, .int 0, .int 0, .int 0, .int 0, .int 0, .int 0, .int 0, .int 0, .long 0, .int 0, .ref mnow, .ref mread, .ref mkept, .ref msnaps, .ref maside, .ref mname, .ref mreadName, .ref mkeptName, .ref misKept, .ref monces, .int 0, .ref morder, .ref mordered, .int 0, .int 0, .int 0, .int (-1), .int (-1), .ref mtext, .int 0, .int 0, .ref mline, .ref mwritten, .int 0, .int 0, .ref mnode, .int 0, .int 0, .int 0, .int 0])), (mnow, eI G 339 nw0), (maside, eI G 33 (fun _ => 0)), (mwritten, eI G 4 (fun _ => 0))]) C hw (c_X10_book__N qx (xs 1) qt qs qd qa qb qh qr qe qp qf qn qi qo h0 h1) mwX10_book kw952 [0] [1, 2, 3, 4, 5, 6, 7, 8, 9, 10, 11, 12, 13, 14, 15, 16, 17, 18, 19, 20, 21] rfl rfl rfl rfl (by decide) 0 rfl rfl rfl rfl hl.1 rfl (Nat.le_of_ble_eq_true rfl) ⟨(Nat.le_of_ble_eq_true rfl), (Nat.le_of_ble_eq_true rfl)⟩ ⟨(Nat.le_of_ble_eq_true rfl), (Nat.le_of_ble_eq_true rfl)⟩ dL_law_1249 (fun r1 u9 H locs hp9 hw => ?_)
    obtain ⟨rfl, rfl⟩ := hp9
    have hw : Wd G s (fun q : Nat => s.heap.size ≤ q) [(qt, .inr (8, [.ref kc, .ref bys, .int 0, .int 0, .int 0, .int 0, .int 0, .int 0, .long 0, .int 0, .int 0, .int 0])), (qp, .inr (1, [.ref pkeys, .ref pwhos, .ref pfirsts, .ref pseconds, .int 0, .int 0])), (qa, .inr (7, [.int 0, .int 0, .int 0, .int 0, .int 0, .int 0, .int 0, .int 0, .ref apictures, .ref ashown, .ref asighed])), (apictures, eI G 6 (fun _ => 0)), (ashown, eI G 6 (fun _ => 0)), (asighed, eI G 8 (fun _ => 0)), (qb, .inr (7, [.int 0, .int 0, .int 0, .int 0, .int 0, .int 0, .int 0, .int 0, .ref bpictures, .ref bshown, .ref bsighed])), (bpictures, eI G 6 (fun _ => 0)), (bshown, eI G 6 (fun _ => 0)), (bsighed, eI G 8 (fun _ => 0)), (qh, .inr (2, [.ref hk, .int 0, .int 0])), (hk, eSt G 8 hf), (hs, .inr (7, [.int 0, .int 0, .int 0, .int 0, .int 0, .int 0, .int 0, .int 0, .ref hpictures, .ref hshown, .ref hsighed])), (hpictures, eI G 6 (fun _ => 0)), (hshown, eI G 6 (fun _ => 0)), (hsighed, eI G 8 (fun _ => 0)), (qo, eI G 4 (fun _ => 0)), (qm, .inr (10, [.int 0, .ref mtape, .int 0, .int 0, .int 0, .int 0, .int 0, .int 0, .int 0, .int 0, .int 0, .int 0, .long 0, .int 0, .ref mnow, .ref mread, .ref mkept, .ref msnaps, .ref maside, .ref mname, .ref mreadName, .ref mkeptName, .ref misKept, .ref monces, .int 0, .ref morder, .ref mordered, .int 0, .int 0, .int 0, .int (-1), .int (-1), .ref mtext, .int 0, .int 0, .ref mline, .ref mwritten, .int 0, .int 0, .ref mnode, .int 0, .int 0, .int 0, .int 0])), (mnow, eI G 339 nw0), (maside, eI G 33 (fun _ => 0)), (mwritten, eI G 4 (fun _ => 0))] H _ := hw
    refine lv_aload_n C.1 C.2.1 dL_law_1252 rfl (lv_at hl 2 rfl) ?_
    refine lv_aload_n C.1 C.2.1 dL_law_1253 rfl (lv_at hl 4 rfl) ?_
    refine lv_iload C.1 C.2.1 dL_law_1254 (lv_at hl 0 rfl) ?_
    refine lv_iconst (v := 1) C.1 C.2.1 dL_law_1256 (by decide) ?_
    refine lv_iadd C.1 C.2.1 dL_law_1257 ?_
    refine x_topi (z := 1) (by decide) ?_
    refine va_sld C.1 C.2.1 hX hbl hbA hw.2.2.2.1 (i := 1) (x_in rfl) dL_law_1258 ?_
    refine x_topi (z := (xs 1)) rfl ?_
    refine x_calliV (As := [.int (xs 1)]) (rest := [.int (-1000)]) (wr := [(qt, .inr (8, [.ref kc, .ref bys, .int 0, .int 0, .int 0, .int 0, .int 0, .int 0, .long 0, .int 0, .int 0, .int 0])), (qp, .inr (1, [.ref pkeys, .ref pwhos, .ref pfirsts, .ref pseconds, .int 0, .int 0])), (qa, .inr (7, [.int 0, .int 0, .int 0, .int 0, .int 0, .int 0, .int 0, .int 0, .ref apictures, .ref ashown, .ref asighed])), (apictures, eI G 6 (fun _ => 0)), (ashown, eI G 6 (fun _ => 0)), (asighed, eI G 8 (fun _ => 0)), (qb, .inr (7, [.int 0, .int 0, .int 0, .int 0, .int 0, .int 0, .int 0, .int 0, .ref bpictures, .ref bshown, .ref bsighed])), (bpictures, eI G 6 (fun _ => 0)), (bshown, eI G 6 (fun _ => 0)), (bsighed, eI G 8 (fun _ => 0)), (qh, .inr (2, [.ref hk, .int 0, .int 0])), (hk, eSt G 8 hf), (hs, .inr (7, [.int 0, .int 0, .int 0, .int 0, .int 0, .int 0, .int 0, .int 0, .ref hpictures, .ref hshown, .ref hsighed])), (hpictures, eI G 6 (fun _ => 0)), (hshown, eI G 6 (fun _ => 0)), (hsighed, eI G 8 (fun _ => 0)), (qo, eI G 4 (fun _ => 0)), (mnow, eI G 339 nw0), (maside, eI G 33 (fun _ => 0)), (mwritten, eI G 4 (fun _ => 0))]) C hw (c_X11_book__N qm (xs 1) mtape mnow mread mkept msnaps maside mname mreadName mkeptName misKept monces morder mordered mtext mline mwritten mnode (x_n01c h0 h1)) mwX11_book kw1716 [17] [0, 1, 2, 3, 4, 5, 6, 7, 8, 9, 10, 11, 12, 13, 14, 15, 16, 18, 19, 20] rfl rfl rfl rfl (by decide) 0 rfl rfl rfl rfl hl.1 rfl (Nat.le_of_ble_eq_true rfl) ⟨(Nat.le_of_ble_eq_true rfl), (Nat.le_of_ble_eq_true rfl)⟩ ⟨(Nat.le_of_ble_eq_true rfl), (Nat.le_of_ble_eq_true rfl)⟩ dL_law_1259 (fun r2 u9 H locs hp9 hw => ?_)
    obtain ⟨rfl, rfl⟩ := hp9
    have hw : Wd G s (fun q : Nat => s.heap.size ≤ q) [(qt, .inr (8, [.ref kc, .ref bys, .int 0, .int 0, .int 0, .int 0, .int 0, .int 0, .long 0, .int 0, .int 0, .int 0])), (qp, .inr (1, [.ref pkeys, .ref pwhos, .ref pfirsts, .ref pseconds, .int 0, .int 0])), (qa, .inr (7, [.int 0, .int 0, .int 0, .int 0, .int 0, .int 0, .int 0, .int 0, .ref apictures, .ref ashown, .ref asighed])), (apictures, eI G 6 (fun _ => 0)), (ashown, eI G 6 (fun _ => 0)), (asighed, eI G 8 (fun _ => 0)), (qb, .inr (7, [.int 0, .int 0, .int 0, .int 0, .int 0, .int 0, .int 0, .int 0, .ref bpictures, .ref bshown, .ref bsighed])), (bpictures, eI G 6 (fun _ => 0)), (bshown, eI G 6 (fun _ => 0)), (bsighed, eI G 8 (fun _ => 0)), (qh, .inr (2, [.ref hk, .int 0, .int 0])), (hk, eSt G 8 hf), (hs, .inr (7, [.int 0, .int 0, .int 0, .int 0, .int 0, .int 0, .int 0, .int 0, .ref hpictures, .ref hshown, .ref hsighed])), (hpictures, eI G 6 (fun _ => 0)), (hshown, eI G 6 (fun _ => 0)), (hsighed, eI G 8 (fun _ => 0)), (qo, eI G 4 (fun _ => 0)), (mnow, eI G 339 nw0), (maside, eI G 33 (fun _ => 0)), (mwritten, eI G 4 (fun _ => 0))] H _ := hw
    refine lv_icmp_eq (tgt := 1405) C.1 C.2.1 dL_law_1262 (by decide) (fun _ => ?_) (fun h9 => absurd (by decide) h9)
    refine lv_iinc (v := 6) (lv' := [(4, .int 6), (3, .ref qz), (2, .ref qm), (1, .ref qx), (0, .ref b)]) C.1 C.2.1 dL_law_1405 hl (k := 0) rfl (by decide) (by decide) rfl (fun ls hl => ?_)
    refine lv_goto (tgt := 23) C.1 C.2.1 dL_law_1408 (by decide) ?_
    exact law_tail C0 hw (Nat.le_of_ble_eq_true rfl) (Nat.le_of_ble_eq_true rfl) (lv_sub hl [0, 4] rfl)
theorem dL_law_1267 : decode cL_law 1267 = .ok (.aload_n 1, 1) := by decide +kernel
theorem dL_law_1268 : decode cL_law 1268 = .ok (.aload_n 0, 1) := by decide +kernel
theorem dL_law_1269 : decode cL_law 1269 = .ok (.iload 4, 2) := by decide +kernel
theorem dL_law_1271 : decode cL_law 1271 = .ok (.iconst 1, 1) := by decide +kernel
theorem dL_law_1272 : decode cL_law 1272 = .ok (.iadd, 1) := by decide +kernel
theorem dL_law_1273 : decode cL_law 1273 = .ok (.iaload, 1) := by decide +kernel
theorem dL_law_1274 : decode cL_law 1274 = .ok (.invokevirtual 164, 3) := by decide +kernel
theorem mwX10_told : MwV yX10_told cX10_told 2 (some .int) 1 := ⟨⟨kw1008, kw1, by decide +kernel⟩, kw1006, kw1007⟩
theorem dL_law_1277 : decode cL_law 1277 = .ok (.aload_n 2, 1) := by decide +kernel
theorem dL_law_1278 : decode cL_law 1278 = .ok (.aload_n 0, 1) := by decide +kernel
theorem dL_law_1279 : decode cL_law 1279 = .ok (.iload 4, 2) := by decide +kernel
theorem dL_law_1281 : decode cL_law 1281 = .ok (.iconst 1, 1) := by decide +kernel
theorem dL_law_1282 : decode cL_law 1282 = .ok (.iadd, 1) := by decide +kernel
theorem dL_law_1283 : decode cL_law 1283 = .ok (.iaload, 1) := by decide +kernel
theorem dL_law_1284 : decode cL_law 1284 = .ok (.invokevirtual 167, 3) := by decide +kernel
theorem mwX11_told : MwV yX11_told cX11_told 2 (some .int) 1 := ⟨⟨kw1755, kw15, by decide +kernel⟩, kw1753, kw1754⟩
theorem dL_law_1287 : decode cL_law 1287 = .ok (.if_icmp .eq 118, 3) := by decide +kernel
set_option maxHeartbeats 4000000 in
set_option maxRecDepth 100000 in
theorem law_told {p : Program} {l : Launch} {e : Env} {s : State} {m : MethodId} {below : List Frame} {meth : Method} {c : Code} {G : Gc} {b : Nat} {xs : Nat → Int32} (hst : l.stackTraces = false) (qx : Nat) (qm : Nat) (qz : Nat) (qt : Nat) (qs : Nat) (qd : Nat) (qa : Nat) (qb : Nat) (qh : Nat) (qr : Nat) (qe : Nat) (qp : Nat) (qf : Nat) (qn : Nat) (qi : Nat) (qo : Nat) (mtape : Nat) (mnow : Nat) (mread : Nat) (mkept : Nat) (msnaps : Nat) (maside : Nat) (mname : Nat) (mreadName : Nat) (mkeptName : Nat) (misKept : Nat) (monces : Nat) (morder : Nat) (mordered : Nat) (mtext : Nat) (mline : Nat) (mwritten : Nat) (mnode : Nat) {A : Nat → Prop} (eA : A = fun q : Nat => s.heap.size ≤ q) {H : Heap} {locs : List Loc} {ls : Array Slot} (C0 : lw_At p s m meth c b 6 xs) (hw : Wd G s A [(qx, .inr (9, [.ref qt, .ref qs, .ref qd, .ref qa, .ref qb, .ref qh, .ref qr, .ref qe, .ref qp, .ref qf, .ref qn, .ref qi, .ref qo, .int 0, .int 0, .int (-1), .int (-1)])), (qm, .inr (10, [.int 0, .ref mtape, .int 0, .int 0, .int 0, .int 0, .int 0, .int 0, .int 0, .int 0, .int 0, .int 0, .long 0, .int 0, .ref mnow, .ref mread, .ref mkept, .ref msnaps, .ref maside, .ref mname, .ref mreadName, .ref mkeptName, .ref misKept, .ref monces, .int 0, .ref morder, .ref mordered, .int 0, .int 0, .int 0, .int (-1), .int (-1), .ref mtext, .int 0, .int 0, .ref mline, .ref mwritten, .int 0, .int 0, .ref mnode, .int 0, .int 0, .int 0, .int 0]))] H locs) (hl : lv_has ls 7 [(4, .int 0), (3, .ref qz), (2, .ref qm), (1, .ref qx), (0, .ref b)]) : W p l e room_1 s m #[Value.ref b] below meth c H locs 147 5480 (lw_Z below #[Value.ref b] s) (F0 m 1267 ls []) := by
  subst eA
  obtain ⟨hx, hb, hr, hml, hown, hts, hX, hbl, hlocks, hgv⟩ := id C0
  have hbA : ¬ (fun q : Nat => s.heap.size ≤ q) b := Nat.not_le.mpr hbl
  have C : CallFix p m c code 7 s #[Value.ref b] gw "LanternStateLaw" := ⟨hx, hb, hml, hown, fun w h => hts w (gw_sub w h)⟩
  refine lv_aload_n C.1 C.2.1 dL_law_1267 rfl (lv_at hl 3 rfl) ?_
  refine lv_aload_n C.1 C.2.1 dL_law_1268 rfl (lv_at hl 4 rfl) ?_
  refine lv_iload C.1 C.2.1 dL_law_1269 (lv_at hl 0 rfl) ?_
  refine lv_iconst (v := 1) C.1 C.2.1 dL_law_1271 (by decide) ?_
  refine lv_iadd C.1 C.2.1 dL_law_1272 ?_
  refine x_topi (z := 1) (by decide) ?_
  refine va_sld C.1 C.2.1 hX hbl hbA hw.2.2.2.1 (i := 1) (x_in rfl) dL_law_1273 ?_
  refine x_topi (z := (xs 1)) rfl ?_
  refine x_calliV (As := [.int (xs 1)]) (rest := []) (wr := [(qm, .inr (10, [.int 0, .ref mtape, .int 0, .int 0, .int 0, .int 0, .int 0, .int 0, .int 0, .int 0, .int 0, .int 0, .long 0, .int 0, .ref mnow, .ref mread, .ref mkept, .ref msnaps, .ref maside, .ref mname, .ref mreadName, .ref mkeptName, .ref misKept, .ref monces, .int 0, .ref morder, .ref mordered, .int 0, .int 0, .int 0, .int (-1), .int (-1), .ref mtext, .int 0, .int 0, .ref mline, .ref mwritten, .int 0, .int 0, .ref mnode, .int 0, .int 0, .int 0, .int 0]))]) C hw (c_X10_told qx (xs 1) qt qs qd qa qb qh qr qe qp qf qn qi qo) mwX10_told kw1005 [0] [1] rfl rfl rfl rfl (by decide) 0 rfl rfl rfl rfl hl.1 rfl (Nat.le_of_ble_eq_true rfl) ⟨(Nat.le_of_ble_eq_true rfl), (Nat.le_of_ble_eq_true rfl)⟩ ⟨(Nat.le_of_ble_eq_true rfl), (Nat.le_of_ble_eq_true rfl)⟩ dL_law_1274 (fun r1 u9 H locs hp9 hw => ?_)
  obtain ⟨rfl, rfl⟩ := hp9
  have hw : Wd G s (fun q : Nat => s.heap.size ≤ q) [(qm, .inr (10, [.int 0, .ref mtape, .int 0, .int 0, .int 0, .int 0, .int 0, .int 0, .int 0, .int 0, .int 0, .int 0, .long 0, .int 0, .ref mnow, .ref mread, .ref mkept, .ref msnaps, .ref maside, .ref mname, .ref mreadName, .ref mkeptName, .ref misKept, .ref monces, .int 0, .ref morder, .ref mordered, .int 0, .int 0, .int 0, .int (-1), .int (-1), .ref mtext, .int 0, .int 0, .ref mline, .ref mwritten, .int 0, .int 0, .ref mnode, .int 0, .int 0, .int 0, .int 0])), (qx, .inr (9, [.ref qt, .ref qs, .ref qd, .ref qa, .ref qb, .ref qh, .ref qr, .ref qe, .ref qp, .ref qf, .ref qn, .ref qi, .ref qo, .int 0, .int 0, .int (-1), .int (-1)]))] H _ := hw
  refine lv_aload_n C.1 C.2.1 dL_law_1277 rfl (lv_at hl 2 rfl) ?_
  refine lv_aload_n C.1 C.2.1 dL_law_1278 rfl (lv_at hl 4 rfl) ?_
  refine lv_iload C.1 C.2.1 dL_law_1279 (lv_at hl 0 rfl) ?_
  refine lv_iconst (v := 1) C.1 C.2.1 dL_law_1281 (by decide) ?_
  refine lv_iadd C.1 C.2.1 dL_law_1282 ?_
  refine x_topi (z := 1) (by decide) ?_
  refine va_sld C.1 C.2.1 hX hbl hbA hw.2.2.2.1 (i := 1) (x_in rfl) dL_law_1283 ?_
  refine x_topi (z := (xs 1)) rfl ?_
  refine x_calliV (As := [.int (xs 1)]) (rest := [.int (-1)]) (wr := [(qx, .inr (9, [.ref qt, .ref qs, .ref qd, .ref qa, .ref qb, .ref qh, .ref qr, .ref qe, .ref qp, .ref qf, .ref qn, .ref qi, .ref qo, .int 0, .int 0, .int (-1), .int (-1)]))]) C hw (c_X11_told qm (xs 1) mtape mnow mread mkept msnaps maside mname mreadName mkeptName misKept monces morder mordered mtext mline mwritten mnode) mwX11_told kw1752 [0] [1] rfl rfl rfl rfl (by decide) 0 rfl rfl rfl rfl hl.1 rfl (Nat.le_of_ble_eq_true rfl) ⟨(Nat.le_of_ble_eq_true rfl), (Nat.le_of_ble_eq_true rfl)⟩ ⟨(Nat.le_of_ble_eq_true rfl), (Nat.le_of_ble_eq_true rfl)⟩ dL_law_1284 (fun r2 u9 H locs hp9 hw => ?_)
  obtain ⟨rfl, rfl⟩ := hp9
  have hw : Wd G s (fun q : Nat => s.heap.size ≤ q) [(qx, .inr (9, [.ref qt, .ref qs, .ref qd, .ref qa, .ref qb, .ref qh, .ref qr, .ref qe, .ref qp, .ref qf, .ref qn, .ref qi, .ref qo, .int 0, .int 0, .int (-1), .int (-1)]))] H _ := hw
  refine lv_icmp_eq (tgt := 1405) C.1 C.2.1 dL_law_1287 (by decide) (fun _ => ?_) (fun h9 => absurd (by decide) h9)
  refine lv_iinc (v := 6) (lv' := [(4, .int 6), (3, .ref qz), (2, .ref qm), (1, .ref qx), (0, .ref b)]) C.1 C.2.1 dL_law_1405 hl (k := 0) rfl (by decide) (by decide) rfl (fun ls hl => ?_)
  refine lv_goto (tgt := 23) C.1 C.2.1 dL_law_1408 (by decide) ?_
  exact law_tail C0 hw (Nat.le_of_ble_eq_true rfl) (Nat.le_of_ble_eq_true rfl) (lv_sub hl [0, 4] rfl)
theorem dL_law_1292 : decode cL_law 1292 = .ok (.aload_n 1, 1) := by decide +kernel
theorem dL_law_1293 : decode cL_law 1293 = .ok (.invokevirtual 168, 3) := by decide +kernel
theorem mwX10_sentence : MwV yX10_sentence cX10_sentence 2 (some .int) 0 := ⟨⟨kw1012, kw1, by decide +kernel⟩, kw1010, kw1011⟩
theorem dL_law_1296 : decode cL_law 1296 = .ok (.aload_n 2, 1) := by decide +kernel
theorem dL_law_1297 : decode cL_law 1297 = .ok (.invokevirtual 171, 3) := by decide +kernel
theorem mwX11_sentence : MwV yX11_sentence cX11_sentence 2 (some .int) 0 := ⟨⟨kw1759, kw15, by decide +kernel⟩, kw1757, kw1758⟩
theorem dL_law_1300 : decode cL_law 1300 = .ok (.if_icmp .eq 105, 3) := by decide +kernel
set_option maxHeartbeats 4000000 in
set_option maxRecDepth 100000 in
theorem law_sentence {p : Program} {l : Launch} {e : Env} {s : State} {m : MethodId} {below : List Frame} {meth : Method} {c : Code} {G : Gc} {b : Nat} {xs : Nat → Int32} (hst : l.stackTraces = false) (qx : Nat) (qm : Nat) (qz : Nat) (qt : Nat) (qs : Nat) (qd : Nat) (qa : Nat) (qb : Nat) (qh : Nat) (qr : Nat) (qe : Nat) (qp : Nat) (qf : Nat) (qn : Nat) (qi : Nat) (qo : Nat) (kc : Nat) (bys : Nat) (ekeys : Nat) (esigns : Nat) (enumbers : Nat) (estack : Nat) (mtape : Nat) (mnow : Nat) (mread : Nat) (mkept : Nat) (msnaps : Nat) (maside : Nat) (mname : Nat) (mreadName : Nat) (mkeptName : Nat) (misKept : Nat) (monces : Nat) (morder : Nat) (mordered : Nat) (mtext : Nat) (mline : Nat) (mwritten : Nat) (mnode : Nat) {A : Nat → Prop} (eA : A = fun q : Nat => s.heap.size ≤ q) {H : Heap} {locs : List Loc} {ls : Array Slot} (C0 : lw_At p s m meth c b 6 xs) (hw : Wd G s A [(qx, .inr (9, [.ref qt, .ref qs, .ref qd, .ref qa, .ref qb, .ref qh, .ref qr, .ref qe, .ref qp, .ref qf, .ref qn, .ref qi, .ref qo, .int 0, .int 0, .int (-1), .int (-1)])), (qt, .inr (8, [.ref kc, .ref bys, .int 0, .int 0, .int 0, .int 0, .int 0, .int 0, .long 0, .int 0, .int 0, .int 0])), (qe, .inr (6, [.int 0, .int 0, .int 0, .ref ekeys, .ref esigns, .ref enumbers, .ref estack])), (qm, .inr (10, [.int 0, .ref mtape, .int 0, .int 0, .int 0, .int 0, .int 0, .int 0, .int 0, .int 0, .int 0, .int 0, .long 0, .int 0, .ref mnow, .ref mread, .ref mkept, .ref msnaps, .ref maside, .ref mname, .ref mreadName, .ref mkeptName, .ref misKept, .ref monces, .int 0, .ref morder, .ref mordered, .int 0, .int 0, .int 0, .int (-1), .int (-1), .ref mtext, .int 0, .int 0, .ref mline, .ref mwritten, .int 0, .int 0, .ref mnode, .int 0, .int 0, .int 0, .int 0]))] H locs) (hl : lv_has ls 7 [(4, .int 0), (3, .ref qz), (2, .ref qm), (1, .ref qx), (0, .ref b)]) : W p l e room_1 s m #[Value.ref b] below meth c H locs 147 5480 (lw_Z below #[Value.ref b] s) (F0 m 1292 ls []) := by
  subst eA
  obtain ⟨hx, hb, hr, hml, hown, hts, hX, hbl, hlocks, hgv⟩ := id C0
  have hbA : ¬ (fun q : Nat => s.heap.size ≤ q) b := Nat.not_le.mpr hbl
  have C : CallFix p m c code 7 s #[Value.ref b] gw "LanternStateLaw" := ⟨hx, hb, hml, hown, fun w h => hts w (gw_sub w h)⟩
  refine lv_aload_n C.1 C.2.1 dL_law_1292 rfl (lv_at hl 3 rfl) ?_
  refine x_calliV (As := []) (rest := []) (wr := [(qm, .inr (10, [.int 0, .ref mtape, .int 0, .int 0, .int 0, .int 0, .int 0, .int 0, .int 0, .int 0, .int 0, .int 0, .long 0, .int 0, .ref mnow, .ref mread, .ref mkept, .ref msnaps, .ref maside, .ref mname, .ref mreadName, .ref mkeptName, .ref misKept, .ref monces, .int 0, .ref morder, .ref mordered, .int 0, .int 0, .int 0, .int (-1), .int (-1), .ref mtext, .int 0, .int 0, .ref mline, .ref mwritten, .int 0, .int 0, .ref mnode, .int 0, .int 0, .int 0, .int 0]))]) C hw (c_X10_sentence qx qt qs qd qa qb qh qr qe qp qf qn qi qo kc bys ekeys esigns enumbers estack) mwX10_sentence kw1009 [0, 1, 2] [3] rfl rfl rfl rfl (by decide) 0 rfl rfl rfl rfl hl.1 rfl (Nat.le_of_ble_eq_true rfl) ⟨(Nat.le_of_ble_eq_true rfl), (Nat.le_of_ble_eq_true rfl)⟩ ⟨(Nat.le_of_ble_eq_true rfl), (Nat.le_of_ble_eq_true rfl)⟩ dL_law_1293 (fun r1 u9 H locs hp9 hw => ?_)
  obtain ⟨rfl, rfl⟩ := hp9
  have hw : Wd G s (fun q : Nat => s.heap.size ≤ q) [(qm, .inr (10, [.int 0, .ref mtape, .int 0, .int 0, .int 0, .int 0, .int 0, .int 0, .int 0, .int 0, .int 0, .int 0, .long 0, .int 0, .ref mnow, .ref mread, .ref mkept, .ref msnaps, .ref maside, .ref mname, .ref mreadName, .ref mkeptName, .ref misKept, .ref monces, .int 0, .ref morder, .ref mordered, .int 0, .int 0, .int 0, .int (-1), .int (-1), .ref mtext, .int 0, .int 0, .ref mline, .ref mwritten, .int 0, .int 0, .ref mnode, .int 0, .int 0, .int 0, .int 0]))] H _ := hw
  refine lv_aload_n C.1 C.2.1 dL_law_1296 rfl (lv_at hl 2 rfl) ?_
  refine x_calliV (As := []) (rest := [.int (-1)]) (wr := []) C hw (c_X11_sentence qm mtape mnow mread mkept msnaps maside mname mreadName mkeptName misKept monces morder mordered mtext mline mwritten mnode) mwX11_sentence kw1756 [0] [] rfl rfl rfl rfl (by decide) 0 rfl rfl rfl rfl hl.1 rfl (Nat.le_of_ble_eq_true rfl) ⟨(Nat.le_of_ble_eq_true rfl), (Nat.le_of_ble_eq_true rfl)⟩ ⟨(Nat.le_of_ble_eq_true rfl), (Nat.le_of_ble_eq_true rfl)⟩ dL_law_1297 (fun r2 u9 H locs hp9 hw => ?_)
  obtain ⟨rfl, rfl⟩ := hp9
  have hw : Wd G s (fun q : Nat => s.heap.size ≤ q) [] H _ := hw
  refine lv_icmp_eq (tgt := 1405) C.1 C.2.1 dL_law_1300 (by decide) (fun _ => ?_) (fun h9 => absurd (by decide) h9)
  refine lv_iinc (v := 6) (lv' := [(4, .int 6), (3, .ref qz), (2, .ref qm), (1, .ref qx), (0, .ref b)]) C.1 C.2.1 dL_law_1405 hl (k := 0) rfl (by decide) (by decide) rfl (fun ls hl => ?_)
  refine lv_goto (tgt := 23) C.1 C.2.1 dL_law_1408 (by decide) ?_
  exact law_tail C0 hw (Nat.le_of_ble_eq_true rfl) (Nat.le_of_ble_eq_true rfl) (lv_sub hl [0, 4] rfl)
theorem dL_law_1305 : decode cL_law 1305 = .ok (.aload_n 1, 1) := by decide +kernel
theorem dL_law_1306 : decode cL_law 1306 = .ok (.aload_n 0, 1) := by decide +kernel
theorem dL_law_1307 : decode cL_law 1307 = .ok (.iload 4, 2) := by decide +kernel
theorem dL_law_1309 : decode cL_law 1309 = .ok (.iconst 1, 1) := by decide +kernel
theorem dL_law_1310 : decode cL_law 1310 = .ok (.iadd, 1) := by decide +kernel
theorem dL_law_1311 : decode cL_law 1311 = .ok (.iaload, 1) := by decide +kernel
theorem dL_law_1312 : decode cL_law 1312 = .ok (.invokevirtual 172, 3) := by decide +kernel
theorem mwX10_said : MwV yX10_said cX10_said 5 (some .int) 1 := ⟨⟨kw1057, kw1, by decide +kernel⟩, kw1055, kw1056⟩
theorem dL_law_1315 : decode cL_law 1315 = .ok (.aload_n 2, 1) := by decide +kernel
theorem dL_law_1316 : decode cL_law 1316 = .ok (.aload_n 0, 1) := by decide +kernel
theorem dL_law_1317 : decode cL_law 1317 = .ok (.iload 4, 2) := by decide +kernel
theorem dL_law_1319 : decode cL_law 1319 = .ok (.iconst 1, 1) := by decide +kernel
theorem dL_law_1320 : decode cL_law 1320 = .ok (.iadd, 1) := by decide +kernel
theorem dL_law_1321 : decode cL_law 1321 = .ok (.iaload, 1) := by decide +kernel
theorem dL_law_1322 : decode cL_law 1322 = .ok (.invokevirtual 175, 3) := by decide +kernel
theorem mwX11_said : MwV yX11_said cX11_said 4 (some .int) 1 := ⟨⟨kw1795, kw15, by decide +kernel⟩, kw1793, kw1794⟩
theorem dL_law_1325 : decode cL_law 1325 = .ok (.if_icmp .eq 80, 3) := by decide +kernel
set_option maxHeartbeats 4000000 in
set_option maxRecDepth 100000 in
theorem law_said {p : Program} {l : Launch} {e : Env} {s : State} {m : MethodId} {below : List Frame} {meth : Method} {c : Code} {G : Gc} {b : Nat} {xs : Nat → Int32} (hst : l.stackTraces = false) (qx : Nat) (qm : Nat) (qz : Nat) (qt : Nat) (qs : Nat) (qd : Nat) (qa : Nat) (qb : Nat) (qh : Nat) (qr : Nat) (qe : Nat) (qp : Nat) (qf : Nat) (qn : Nat) (qi : Nat) (qo : Nat) (rkeys : Nat) (rsigns : Nat) (rnumbers : Nat) (rstack : Nat) (mtape : Nat) (mnow : Nat) (mread : Nat) (mkept : Nat) (msnaps : Nat) (maside : Nat) (mname : Nat) (mreadName : Nat) (mkeptName : Nat) (misKept : Nat) (monces : Nat) (morder : Nat) (mordered : Nat) (mtext : Nat) (mline : Nat) (mwritten : Nat) (mnode : Nat) {A : Nat → Prop} (eA : A = fun q : Nat => s.heap.size ≤ q) {H : Heap} {locs : List Loc} {ls : Array Slot} (C0 : lw_At p s m meth c b 6 xs) (hw : Wd G s A [(qx, .inr (9, [.ref qt, .ref qs, .ref qd, .ref qa, .ref qb, .ref qh, .ref qr, .ref qe, .ref qp, .ref qf, .ref qn, .ref qi, .ref qo, .int 0, .int 0, .int (-1), .int (-1)])), (qr, .inr (6, [.int 0, .int 0, .int 0, .ref rkeys, .ref rsigns, .ref rnumbers, .ref rstack])), (qm, .inr (10, [.int 0, .ref mtape, .int 0, .int 0, .int 0, .int 0, .int 0, .int 0, .int 0, .int 0, .int 0, .int 0, .long 0, .int 0, .ref mnow, .ref mread, .ref mkept, .ref msnaps, .ref maside, .ref mname, .ref mreadName, .ref mkeptName, .ref misKept, .ref monces, .int 0, .ref morder, .ref mordered, .int 0, .int 0, .int 0, .int (-1), .int (-1), .ref mtext, .int 0, .int 0, .ref mline, .ref mwritten, .int 0, .int 0, .ref mnode, .int 0, .int 0, .int 0, .int 0])), (mnow, eI G 339 nw0)] H locs) (hl : lv_has ls 7 [(4, .int 0), (3, .ref qz), (2, .ref qm), (1, .ref qx), (0, .ref b)]) : W p l e room_1 s m #[Value.ref b] below meth c H locs 147 5480 (lw_Z below #[Value.ref b] s) (F0 m 1305 ls []) := by
  subst eA
  obtain ⟨hx, hb, hr, hml, hown, hts, hX, hbl, hlocks, hgv⟩ := id C0
  have hbA : ¬ (fun q : Nat => s.heap.size ≤ q) b := Nat.not_le.mpr hbl
  have C : CallFix p m c code 7 s #[Value.ref b] gw "LanternStateLaw" := ⟨hx, hb, hml, hown, fun w h => hts w (gw_sub w h)⟩
  refine lv_aload_n C.1 C.2.1 dL_law_1305 rfl (lv_at hl 3 rfl) ?_
  refine lv_aload_n C.1 C.2.1 dL_law_1306 rfl (lv_at hl 4 rfl) ?_
  refine lv_iload C.1 C.2.1 dL_law_1307 (lv_at hl 0 rfl) ?_
  refine lv_iconst (v := 1) C.1 C.2.1 dL_law_1309 (by decide) ?_
  refine lv_iadd C.1 C.2.1 dL_law_1310 ?_
  refine x_topi (z := 1) (by decide) ?_
  refine va_sld C.1 C.2.1 hX hbl hbA hw.2.2.2.1 (i := 1) (x_in rfl) dL_law_1311 ?_
  refine x_topi (z := (xs 1)) rfl ?_
  refine x_calliV (As := [.int (xs 1)]) (rest := []) (wr := [(qm, .inr (10, [.int 0, .ref mtape, .int 0, .int 0, .int 0, .int 0, .int 0, .int 0, .int 0, .int 0, .int 0, .int 0, .long 0, .int 0, .ref mnow, .ref mread, .ref mkept, .ref msnaps, .ref maside, .ref mname, .ref mreadName, .ref mkeptName, .ref misKept, .ref monces, .int 0, .ref morder, .ref mordered, .int 0, .int 0, .int 0, .int (-1), .int (-1), .ref mtext, .int 0, .int 0, .ref mline, .ref mwritten, .int 0, .int 0, .ref mnode, .int 0, .int 0, .int 0, .int 0])), (mnow, eI G 339 nw0)]) C hw (c_X10_said qx (xs 1) qt qs qd qa qb qh qr qe qp qf qn qi qo rkeys rsigns rnumbers rstack) mwX10_said kw1054 [0, 1] [2, 3] rfl rfl rfl rfl (by decide) 0 rfl rfl rfl rfl hl.1 rfl (Nat.le_of_ble_eq_true rfl) ⟨(Nat.le_of_ble_eq_true rfl), (Nat.le_of_ble_eq_true rfl)⟩ ⟨(Nat.le_of_ble_eq_true rfl), (Nat.le_of_ble_eq_true rfl)⟩ dL_law_1312 (fun r1 u9 H locs hp9 hw => ?_)
  obtain ⟨rfl, rfl⟩ := hp9
  have hw : Wd G s (fun q : Nat => s.heap.size ≤ q) [(qm, .inr (10, [.int 0, .ref mtape, .int 0, .int 0, .int 0, .int 0, .int 0, .int 0, .int 0, .int 0, .int 0, .int 0, .long 0, .int 0, .ref mnow, .ref mread, .ref mkept, .ref msnaps, .ref maside, .ref mname, .ref mreadName, .ref mkeptName, .ref misKept, .ref monces, .int 0, .ref morder, .ref mordered, .int 0, .int 0, .int 0, .int (-1), .int (-1), .ref mtext, .int 0, .int 0, .ref mline, .ref mwritten, .int 0, .int 0, .ref mnode, .int 0, .int 0, .int 0, .int 0])), (mnow, eI G 339 nw0), (qx, .inr (9, [.ref qt, .ref qs, .ref qd, .ref qa, .ref qb, .ref qh, .ref qr, .ref qe, .ref qp, .ref qf, .ref qn, .ref qi, .ref qo, .int 0, .int 0, .int (-1), .int (-1)])), (qr, .inr (6, [.int 0, .int 0, .int 0, .ref rkeys, .ref rsigns, .ref rnumbers, .ref rstack]))] H _ := hw
  refine lv_aload_n C.1 C.2.1 dL_law_1315 rfl (lv_at hl 2 rfl) ?_
  refine lv_aload_n C.1 C.2.1 dL_law_1316 rfl (lv_at hl 4 rfl) ?_
  refine lv_iload C.1 C.2.1 dL_law_1317 (lv_at hl 0 rfl) ?_
  refine lv_iconst (v := 1) C.1 C.2.1 dL_law_1319 (by decide) ?_
  refine lv_iadd C.1 C.2.1 dL_law_1320 ?_
  refine x_topi (z := 1) (by decide) ?_
  refine va_sld C.1 C.2.1 hX hbl hbA hw.2.2.2.1 (i := 1) (x_in rfl) dL_law_1321 ?_
  refine x_topi (z := (xs 1)) rfl ?_
  refine x_calliV (As := [.int (xs 1)]) (rest := [.int (-1)]) (wr := [(qx, .inr (9, [.ref qt, .ref qs, .ref qd, .ref qa, .ref qb, .ref qh, .ref qr, .ref qe, .ref qp, .ref qf, .ref qn, .ref qi, .ref qo, .int 0, .int 0, .int (-1), .int (-1)])), (qr, .inr (6, [.int 0, .int 0, .int 0, .ref rkeys, .ref rsigns, .ref rnumbers, .ref rstack]))]) C hw (c_X11_said qm (xs 1) mtape mnow mread mkept msnaps maside mname mreadName mkeptName misKept monces morder mordered mtext mline mwritten mnode) mwX11_said kw1792 [0, 1] [2, 3] rfl rfl rfl rfl (by decide) 0 rfl rfl rfl rfl hl.1 rfl (Nat.le_of_ble_eq_true rfl) ⟨(Nat.le_of_ble_eq_true rfl), (Nat.le_of_ble_eq_true rfl)⟩ ⟨(Nat.le_of_ble_eq_true rfl), (Nat.le_of_ble_eq_true rfl)⟩ dL_law_1322 (fun r2 u9 H locs hp9 hw => ?_)
  obtain ⟨rfl, rfl⟩ := hp9
  have hw : Wd G s (fun q : Nat => s.heap.size ≤ q) [(qx, .inr (9, [.ref qt, .ref qs, .ref qd, .ref qa, .ref qb, .ref qh, .ref qr, .ref qe, .ref qp, .ref qf, .ref qn, .ref qi, .ref qo, .int 0, .int 0, .int (-1), .int (-1)])), (qr, .inr (6, [.int 0, .int 0, .int 0, .ref rkeys, .ref rsigns, .ref rnumbers, .ref rstack]))] H _ := hw
  refine lv_icmp_eq (tgt := 1405) C.1 C.2.1 dL_law_1325 (by decide) (fun _ => ?_) (fun h9 => absurd (by decide) h9)
  refine lv_iinc (v := 6) (lv' := [(4, .int 6), (3, .ref qz), (2, .ref qm), (1, .ref qx), (0, .ref b)]) C.1 C.2.1 dL_law_1405 hl (k := 0) rfl (by decide) (by decide) rfl (fun ls hl => ?_)
  refine lv_goto (tgt := 23) C.1 C.2.1 dL_law_1408 (by decide) ?_
  exact law_tail C0 hw (Nat.le_of_ble_eq_true rfl) (Nat.le_of_ble_eq_true rfl) (lv_sub hl [0, 4] rfl)
theorem dL_law_1330 : decode cL_law 1330 = .ok (.aload_n 1, 1) := by decide +kernel
theorem dL_law_1331 : decode cL_law 1331 = .ok (.aload_n 0, 1) := by decide +kernel
theorem dL_law_1332 : decode cL_law 1332 = .ok (.iload 4, 2) := by decide +kernel
theorem dL_law_1334 : decode cL_law 1334 = .ok (.iconst 1, 1) := by decide +kernel
theorem dL_law_1335 : decode cL_law 1335 = .ok (.iadd, 1) := by decide +kernel
theorem dL_law_1336 : decode cL_law 1336 = .ok (.iaload, 1) := by decide +kernel
theorem dL_law_1337 : decode cL_law 1337 = .ok (.invokevirtual 176, 3) := by decide +kernel
theorem mwX10_image : MwV yX10_image cX10_image 2 (some .boolean) 1 := ⟨⟨kw1081, kw1, by decide +kernel⟩, kw1079, kw1080⟩
theorem dL_law_1340 : decode cL_law 1340 = .ok (.aload_n 2, 1) := by decide +kernel
theorem dL_law_1341 : decode cL_law 1341 = .ok (.aload_n 0, 1) := by decide +kernel
theorem dL_law_1342 : decode cL_law 1342 = .ok (.iload 4, 2) := by decide +kernel
theorem dL_law_1344 : decode cL_law 1344 = .ok (.iconst 1, 1) := by decide +kernel
theorem dL_law_1345 : decode cL_law 1345 = .ok (.iadd, 1) := by decide +kernel
theorem dL_law_1346 : decode cL_law 1346 = .ok (.iaload, 1) := by decide +kernel
theorem dL_law_1347 : decode cL_law 1347 = .ok (.invokevirtual 179, 3) := by decide +kernel
theorem mwX11_image : MwV yX11_image cX11_image 3 (some .boolean) 1 := ⟨⟨kw1803, kw15, by decide +kernel⟩, kw1801, kw1802⟩
theorem dL_law_1350 : decode cL_law 1350 = .ok (.if_icmp .eq 55, 3) := by decide +kernel
set_option maxHeartbeats 4000000 in
set_option maxRecDepth 100000 in
theorem law_image {p : Program} {l : Launch} {e : Env} {s : State} {m : MethodId} {below : List Frame} {meth : Method} {c : Code} {G : Gc} {b : Nat} {xs : Nat → Int32} (hst : l.stackTraces = false) (qx : Nat) (qm : Nat) (qz : Nat) (qt : Nat) (qs : Nat) (qd : Nat) (qa : Nat) (qb : Nat) (qh : Nat) (qr : Nat) (qe : Nat) (qp : Nat) (qf : Nat) (qn : Nat) (qi : Nat) (qo : Nat) (sslideNames : Nat) (spictures : Nat) (sheats : Nat) (safter : Nat) (shearerNames : Nat) (sneeds : Nat) (slikes : Nat) (shates : Nat) (snear : Nat) (apictures : Nat) (ashown : Nat) (asighed : Nat) (rkeys : Nat) (rsigns : Nat) (rnumbers : Nat) (rstack : Nat) (i0 : Nat) (i0s : Nat) (i0a : Nat) (i0r : Nat) (i0sslideNames : Nat) (i0spictures : Nat) (i0sheats : Nat) (i0safter : Nat) (i0shearerNames : Nat) (i0sneeds : Nat) (i0slikes : Nat) (i0shates : Nat) (i0snear : Nat) (i0apictures : Nat) (i0ashown : Nat) (i0asighed : Nat) (i0rkeys : Nat) (i0rsigns : Nat) (i0rnumbers : Nat) (i0rstack : Nat) (mtape : Nat) (mnow : Nat) (mread : Nat) (mkept : Nat) (msnaps : Nat) (maside : Nat) (mname : Nat) (mreadName : Nat) (mkeptName : Nat) (misKept : Nat) (monces : Nat) (morder : Nat) (mordered : Nat) (mtext : Nat) (mline : Nat) (mwritten : Nat) (mnode : Nat) (i1 : Nat) (i1s : Nat) (i1a : Nat) (i1r : Nat) (i1sslideNames : Nat) (i1spictures : Nat) (i1sheats : Nat) (i1safter : Nat) (i1shearerNames : Nat) (i1sneeds : Nat) (i1slikes : Nat) (i1shates : Nat) (i1snear : Nat) (i1apictures : Nat) (i1ashown : Nat) (i1asighed : Nat) (i1rkeys : Nat) (i1rsigns : Nat) (i1rnumbers : Nat) (i1rstack : Nat) {A : Nat → Prop} (eA : A = fun q : Nat => s.heap.size ≤ q) {H : Heap} {locs : List Loc} {ls : Array Slot} (C0 : lw_At p s m meth c b 6 xs) (hw : Wd G s A [(qx, .inr (9, [.ref qt, .ref qs, .ref qd, .ref qa, .ref qb, .ref qh, .ref qr, .ref qe, .ref qp, .ref qf, .ref qn, .ref qi, .ref qo, .int 0, .int 0, .int (-1), .int (-1)])), (qs, .inr (4, [.int 0, .int 0, .int 0, .int 0, .int 1, .int 0, .int 40, .int 0, .int 0, .ref sslideNames, .ref spictures, .ref sheats, .ref safter, .ref shearerNames, .ref sneeds, .ref slikes, .ref shates, .ref snear])), (sslideNames, eJ G 6 (fun _ => 0)), (spictures, eI G 6 (fun _ => 0)), (sheats, eI G 6 (fun _ => 0)), (safter, eI G 6 (fun _ => 0)), (shearerNames, eJ G 8 (fun _ => 0)), (sneeds, eI G 8 (fun _ => 0)), (slikes, eI G 8 (fun _ => 0)), (shates, eI G 8 (fun _ => 0)), (snear, eI G 8 (fun _ => 0)), (qa, .inr (7, [.int 0, .int 0, .int 0, .int 0, .int 0, .int 0, .int 0, .int 0, .ref apictures, .ref ashown, .ref asighed])), (apictures, eI G 6 (fun _ => 0)), (ashown, eI G 6 (fun _ => 0)), (asighed, eI G 8 (fun _ => 0)), (qr, .inr (6, [.int 0, .int 0, .int 0, .ref rkeys, .ref rsigns, .ref rnumbers, .ref rstack])), (rkeys, eI G 40 (fun _ => 0)), (rsigns, eI G 40 (fun _ => 0)), (rnumbers, eI G 40 (fun _ => 0)), (rstack, eI G 40 (fun _ => 0)), (qi, eIm G 2 (va_up (va_up (fun _ => none) 0 (some i0)) 1 (some i1))), (i0, .inr (3, [.int 0, .ref i0s, .ref i0a, .ref i0r])), (i0s, .inr (4, [.int 0, .int 0, .int 0, .int 0, .int 1, .int 0, .int 40, .int 0, .int 0, .ref i0sslideNames, .ref i0spictures, .ref i0sheats, .ref i0safter, .ref i0shearerNames, .ref i0sneeds, .ref i0slikes, .ref i0shates, .ref i0snear])), (i0sslideNames, eJ G 6 (fun _ => 0)), (i0spictures, eI G 6 (fun _ => 0)), (i0sheats, eI G 6 (fun _ => 0)), (i0safter, eI G 6 (fun _ => 0)), (i0shearerNames, eJ G 8 (fun _ => 0)), (i0sneeds, eI G 8 (fun _ => 0)), (i0slikes, eI G 8 (fun _ => 0)), (i0shates, eI G 8 (fun _ => 0)), (i0snear, eI G 8 (fun _ => 0)), (i0a, .inr (7, [.int 0, .int 0, .int 0, .int 0, .int 0, .int 0, .int 0, .int 0, .ref i0apictures, .ref i0ashown, .ref i0asighed])), (i0apictures, eI G 6 (fun _ => 0)), (i0ashown, eI G 6 (fun _ => 0)), (i0asighed, eI G 8 (fun _ => 0)), (i0r, .inr (6, [.int 0, .int 0, .int 0, .ref i0rkeys, .ref i0rsigns, .ref i0rnumbers, .ref i0rstack])), (i0rkeys, eI G 40 (fun _ => 0)), (i0rsigns, eI G 40 (fun _ => 0)), (i0rnumbers, eI G 40 (fun _ => 0)), (i0rstack, eI G 40 (fun _ => 0)), (qm, .inr (10, [.int 0, .ref mtape, .int 0, .int 0, .int 0, .int 0, .int 0, .int 0, .int 0, .int 0, .int 0, .int 0, .long 0, .int 0, .ref mnow, .ref mread, .ref mkept, .ref msnaps, .ref maside, .ref mname, .ref mreadName, .ref mkeptName, .ref misKept, .ref monces, .int 0, .ref morder, .ref mordered, .int 0, .int 0, .int 0, .int (-1), .int (-1), .ref mtext, .int 0, .int 0, .ref mline, .ref mwritten, .int 0, .int 0, .ref mnode, .int 0, .int 0, .int 0, .int 0])), (mnow, eI G 339 nw0), (mkept, eI G 678 (fun _ => 0)), (mname, eJ G 14 (fun _ => 0)), (mkeptName, eJ G 28 (fun _ => 0)), (misKept, eZ G 2 (fun _ => 0)), (i1, .inr (3, [.int 0, .ref i1s, .ref i1a, .ref i1r])), (i1s, .inr (4, [.int 0, .int 0, .int 0, .int 0, .int 1, .int 0, .int 40, .int 0, .int 0, .ref i1sslideNames, .ref i1spictures, .ref i1sheats, .ref i1safter, .ref i1shearerNames, .ref i1sneeds, .ref i1slikes, .ref i1shates, .ref i1snear])), (i1sslideNames, eJ G 6 (fun _ => 0)), (i1spictures, eI G 6 (fun _ => 0)), (i1sheats, eI G 6 (fun _ => 0)), (i1safter, eI G 6 (fun _ => 0)), (i1shearerNames, eJ G 8 (fun _ => 0)), (i1sneeds, eI G 8 (fun _ => 0)), (i1slikes, eI G 8 (fun _ => 0)), (i1shates, eI G 8 (fun _ => 0)), (i1snear, eI G 8 (fun _ => 0)), (i1a, .inr (7, [.int 0, .int 0, .int 0, .int 0, .int 0, .int 0, .int 0, .int 0, .ref i1apictures, .ref i1ashown, .ref i1asighed])), (i1apictures, eI G 6 (fun _ => 0)), (i1ashown, eI G 6 (fun _ => 0)), (i1asighed, eI G 8 (fun _ => 0)), (i1r, .inr (6, [.int 0, .int 0, .int 0, .ref i1rkeys, .ref i1rsigns, .ref i1rnumbers, .ref i1rstack])), (i1rkeys, eI G 40 (fun _ => 0)), (i1rsigns, eI G 40 (fun _ => 0)), (i1rnumbers, eI G 40 (fun _ => 0)), (i1rstack, eI G 40 (fun _ => 0))] H locs) (hl : lv_has ls 7 [(4, .int 0), (3, .ref qz), (2, .ref qm), (1, .ref qx), (0, .ref b)]) : W p l e room_1 s m #[Value.ref b] below meth c H locs 147 5480 (lw_Z below #[Value.ref b] s) (F0 m 1330 ls []) := by
  subst eA
  obtain ⟨hx, hb, hr, hml, hown, hts, hX, hbl, hlocks, hgv⟩ := id C0
  have hbA : ¬ (fun q : Nat => s.heap.size ≤ q) b := Nat.not_le.mpr hbl
  have C : CallFix p m c code 7 s #[Value.ref b] gw "LanternStateLaw" := ⟨hx, hb, hml, hown, fun w h => hts w (gw_sub w h)⟩
  rcases x_three (xs 1) with h0 | h0 | ⟨h0, h1⟩
  · skip
    refine lv_aload_n C.1 C.2.1 dL_law_1330 rfl (lv_at hl 3 rfl) ?_
    refine lv_aload_n C.1 C.2.1 dL_law_1331 rfl (lv_at hl 4 rfl) ?_
    refine lv_iload C.1 C.2.1 dL_law_1332 (lv_at hl 0 rfl) ?_
    refine lv_iconst (v := 1) C.1 C.2.1 dL_law_1334 (by decide) ?_
    refine lv_iadd C.1 C.2.1 dL_law_1335 ?_
    refine x_topi (z := 1) (by decide) ?_
    refine va_sld C.1 C.2.1 hX hbl hbA hw.2.2.2.1 (i := 1) (x_in rfl) dL_law_1336 ?_
    refine x_topi (z := 0) h0 ?_
    refine x_calliV (As := [.int 0]) (rest := []) (wr := [(qm, .inr (10, [.int 0, .ref mtape, .int 0, .int 0, .int 0, .int 0, .int 0, .int 0, .int 0, .int 0, .int 0, .int 0, .long 0, .int 0, .ref mnow, .ref mread, .ref mkept, .ref msnaps, .ref maside, .ref mname, .ref mreadName, .ref mkeptName, .ref misKept, .ref monces, .int 0, .ref morder, .ref mordered, .int 0, .int 0, .int 0, .int (-1), .int (-1), .ref mtext, .int 0, .int 0, .ref mline, .ref mwritten, .int 0, .int 0, .ref mnode, .int 0, .int 0, .int 0, .int 0])), (mnow, eI G 339 nw0), (mkept, eI G 678 (fun _ => 0)), (mname, eJ G 14 (fun _ => 0)), (mkeptName, eJ G 28 (fun _ => 0)), (misKept, eZ G 2 (fun _ => 0)), (i1, .inr (3, [.int 0, .ref i1s, .ref i1a, .ref i1r])), (i1s, .inr (4, [.int 0, .int 0, .int 0, .int 0, .int 1, .int 0, .int 40, .int 0, .int 0, .ref i1sslideNames, .ref i1spictures, .ref i1sheats, .ref i1safter, .ref i1shearerNames, .ref i1sneeds, .ref i1slikes, .ref i1shates, .ref i1snear])), (i1sslideNames, eJ G 6 (fun _ => 0)), (i1spictures, eI G 6 (fun _ => 0)), (i1sheats, eI G 6 (fun _ => 0)), (i1safter, eI G 6 (fun _ => 0)), (i1shearerNames, eJ G 8 (fun _ => 0)), (i1sneeds, eI G 8 (fun _ => 0)), (i1slikes, eI G 8 (fun _ => 0)), (i1shates, eI G 8 (fun _ => 0)), (i1snear, eI G 8 (fun _ => 0)), (i1a, .inr (7, [.int 0, .int 0, .int 0, .int 0, .int 0, .int 0, .int 0, .int 0, .ref i1apictures, .ref i1ashown, .ref i1asighed])), (i1apictures, eI G 6 (fun _ => 0)), (i1ashown, eI G 6 (fun _ => 0)), (i1asighed, eI G 8 (fun _ => 0)), (i1r, .inr (6, [.int 0, .int 0, .int 0, .ref i1rkeys, .ref i1rsigns, .ref i1rnumbers, .ref i1rstack])), (i1rkeys, eI G 40 (fun _ => 0)), (i1rsigns, eI G 40 (fun _ => 0)), (i1rnumbers, eI G 40 (fun _ => 0)), (i1rstack, eI G 40 (fun _ => 0))]) C hw (c_X10_image__0 qx qt qs qd qa qb qh qr qe qp qf qn qi qo sslideNames spictures sheats safter shearerNames sneeds slikes shates snear apictures ashown asighed rkeys rsigns rnumbers rstack i0 i0s i0a i0r i0sslideNames i0spictures i0sheats i0safter i0shearerNames i0sneeds i0slikes i0shates i0snear i0apictures i0ashown i0asighed i0rkeys i0rsigns i0rnumbers i0rstack i1) mwX10_image kw1078 [0, 1, 2, 3, 4, 5, 6, 7, 8, 9, 10, 11, 12, 13, 14, 15, 16, 17, 18, 19, 20, 21, 22, 23, 24, 25, 26, 27, 28, 29, 30, 31, 32, 33, 34, 35, 36, 37, 38, 39, 40] [41, 42, 43, 44, 45, 46, 47, 48, 49, 50, 51, 52, 53, 54, 55, 56, 57, 58, 59, 60, 61, 62, 63, 64, 65, 66] rfl rfl rfl rfl (by decide) 0 rfl rfl rfl rfl hl.1 rfl (Nat.le_of_ble_eq_true rfl) ⟨(Nat.le_of_ble_eq_true rfl), (Nat.le_of_ble_eq_true rfl)⟩ ⟨(Nat.le_of_ble_eq_true rfl), (Nat.le_of_ble_eq_true rfl)⟩ dL_law_1337 (fun r1 u9 H locs hp9 hw => ?_)
    obtain ⟨rfl, rfl⟩ := hp9
    have hw : Wd G s (fun q : Nat => s.heap.size ≤ q) [(qm, .inr (10, [.int 0, .ref mtape, .int 0, .int 0, .int 0, .int 0, .int 0, .int 0, .int 0, .int 0, .int 0, .int 0, .long 0, .int 0, .ref mnow, .ref mread, .ref mkept, .ref msnaps, .ref maside, .ref mname, .ref mreadName, .ref mkeptName, .ref misKept, .ref monces, .int 0, .ref morder, .ref mordered, .int 0, .int 0, .int 0, .int (-1), .int (-1), .ref mtext, .int 0, .int 0, .ref mline, .ref mwritten, .int 0, .int 0, .ref mnode, .int 0, .int 0, .int 0, .int 0])), (mnow, eI G 339 nw0), (mkept, eI G 678 (fun _ => 0)), (mname, eJ G 14 (fun _ => 0)), (mkeptName, eJ G 28 (fun _ => 0)), (misKept, eZ G 2 (fun _ => 0)), (i1, .inr (3, [.int 0, .ref i1s, .ref i1a, .ref i1r])), (i1s, .inr (4, [.int 0, .int 0, .int 0, .int 0, .int 1, .int 0, .int 40, .int 0, .int 0, .ref i1sslideNames, .ref i1spictures, .ref i1sheats, .ref i1safter, .ref i1shearerNames, .ref i1sneeds, .ref i1slikes, .ref i1shates, .ref i1snear])), (i1sslideNames, eJ G 6 (fun _ => 0)), (i1spictures, eI G 6 (fun _ => 0)), (i1sheats, eI G 6 (fun _ => 0)), (i1safter, eI G 6 (fun _ => 0)), (i1shearerNames, eJ G 8 (fun _ => 0)), (i1sneeds, eI G 8 (fun _ => 0)), (i1slikes, eI G 8 (fun _ => 0)), (i1shates, eI G 8 (fun _ => 0)), (i1snear, eI G 8 (fun _ => 0)), (i1a, .inr (7, [.int 0, .int 0, .int 0, .int 0, .int 0, .int 0, .int 0, .int 0, .ref i1apictures, .ref i1ashown, .ref i1asighed])), (i1apictures, eI G 6 (fun _ => 0)), (i1ashown, eI G 6 (fun _ => 0)), (i1asighed, eI G 8 (fun _ => 0)), (i1r, .inr (6, [.int 0, .int 0, .int 0, .ref i1rkeys, .ref i1rsigns, .ref i1rnumbers, .ref i1rstack])), (i1rkeys, eI G 40 (fun _ => 0)), (i1rsigns, eI G 40 (fun _ => 0)), (i1rnumbers, eI G 40 (fun _ => 0)), (i1rstack, eI G 40 (fun _ => 0))] H _ := hw
    refine lv_aload_n C.1 C.2.1 dL_law_1340 rfl (lv_at hl 2 rfl) ?_
    refine lv_aload_n C.1 C.2.1 dL_law_1341 rfl (lv_at hl 4 rfl) ?_
    refine lv_iload C.1 C.2.1 dL_law_1342 (lv_at hl 0 rfl) ?_
    refine lv_iconst (v := 1) C.1 C.2.1 dL_law_1344 (by decide) ?_
    refine lv_iadd C.1 C.2.1 dL_law_1345 ?_
    refine x_topi (z := 1) (by decide) ?_
    refine va_sld C.1 C.2.1 hX hbl hbA hw.2.2.2.1 (i := 1) (x_in rfl) dL_law_1346 ?_
    refine x_topi (z := 0) h0 ?_
    refine x_calliV (As := [.int 0]) (rest := [.int 1]) (wr := [(i1, .inr (3, [.int 0, .ref i1s, .ref i1a, .ref i1r])), (i1s, .inr (4, [.int 0, .int 0, .int 0, .int 0, .int 1, .int 0, .int 40, .int 0, .int 0, .ref i1sslideNames, .ref i1spictures, .ref i1sheats, .ref i1safter, .ref i1shearerNames, .ref i1sneeds, .ref i1slikes, .ref i1shates, .ref i1snear])), (i1sslideNames, eJ G 6 (fun _ => 0)), (i1spictures, eI G 6 (fun _ => 0)), (i1sheats, eI G 6 (fun _ => 0)), (i1safter, eI G 6 (fun _ => 0)), (i1shearerNames, eJ G 8 (fun _ => 0)), (i1sneeds, eI G 8 (fun _ => 0)), (i1slikes, eI G 8 (fun _ => 0)), (i1shates, eI G 8 (fun _ => 0)), (i1snear, eI G 8 (fun _ => 0)), (i1a, .inr (7, [.int 0, .int 0, .int 0, .int 0, .int 0, .int 0, .int 0, .int 0, .ref i1apictures, .ref i1ashown, .ref i1asighed])), (i1apictures, eI G 6 (fun _ => 0)), (i1ashown, eI G 6 (fun _ => 0)), (i1asighed, eI G 8 (fun _ => 0)), (i1r, .inr (6, [.int 0, .int 0, .int 0, .ref i1rkeys, .ref i1rsigns, .ref i1rnumbers, .ref i1rstack])), (i1rkeys, eI G 40 (fun _ => 0)), (i1rsigns, eI G 40 (fun _ => 0)), (i1rnumbers, eI G 40 (fun _ => 0)), (i1rstack, eI G 40 (fun _ => 0))]) C hw (c_X11_image__0 qm mtape mnow mread mkept msnaps maside mname mreadName mkeptName misKept monces morder mordered mtext mline mwritten mnode) mwX11_image kw1800 [0, 1, 2, 3, 4, 5] [6, 7, 8, 9, 10, 11, 12, 13, 14, 15, 16, 17, 18, 19, 20, 21, 22, 23, 24, 25] rfl rfl rfl rfl (by decide) 0 rfl rfl rfl rfl hl.1 rfl (Nat.le_of_ble_eq_true rfl) ⟨(Nat.le_of_ble_eq_true rfl), (Nat.le_of_ble_eq_true rfl)⟩ ⟨(Nat.le_of_ble_eq_true rfl), (Nat.le_of_ble_eq_true rfl)⟩ dL_law_1347 (fun r2 u9 H locs hp9 hw => ?_)
    obtain ⟨rfl, rfl⟩ := hp9
    have hw : Wd G s (fun q : Nat => s.heap.size ≤ q) [(i1, .inr (3, [.int 0, .ref i1s, .ref i1a, .ref i1r])), (i1s, .inr (4, [.int 0, .int 0, .int 0, .int 0, .int 1, .int 0, .int 40, .int 0, .int 0, .ref i1sslideNames, .ref i1spictures, .ref i1sheats, .ref i1safter, .ref i1shearerNames, .ref i1sneeds, .ref i1slikes, .ref i1shates, .ref i1snear])), (i1sslideNames, eJ G 6 (fun _ => 0)), (i1spictures, eI G 6 (fun _ => 0)), (i1sheats, eI G 6 (fun _ => 0)), (i1safter, eI G 6 (fun _ => 0)), (i1shearerNames, eJ G 8 (fun _ => 0)), (i1sneeds, eI G 8 (fun _ => 0)), (i1slikes, eI G 8 (fun _ => 0)), (i1shates, eI G 8 (fun _ => 0)), (i1snear, eI G 8 (fun _ => 0)), (i1a, .inr (7, [.int 0, .int 0, .int 0, .int 0, .int 0, .int 0, .int 0, .int 0, .ref i1apictures, .ref i1ashown, .ref i1asighed])), (i1apictures, eI G 6 (fun _ => 0)), (i1ashown, eI G 6 (fun _ => 0)), (i1asighed, eI G 8 (fun _ => 0)), (i1r, .inr (6, [.int 0, .int 0, .int 0, .ref i1rkeys, .ref i1rsigns, .ref i1rnumbers, .ref i1rstack])), (i1rkeys, eI G 40 (fun _ => 0)), (i1rsigns, eI G 40 (fun _ => 0)), (i1rnumbers, eI G 40 (fun _ => 0)), (i1rstack, eI G 40 (fun _ => 0))] H _ := hw
    refine lv_icmp_eq (tgt := 1405) C.1 C.2.1 dL_law_1350 (by decide) (fun _ => ?_) (fun h9 => absurd (by decide) h9)
    refine lv_iinc (v := 6) (lv' := [(4, .int 6), (3, .ref qz), (2, .ref qm), (1, .ref qx), (0, .ref b)]) C.1 C.2.1 dL_law_1405 hl (k := 0) rfl (by decide) (by decide) rfl (fun ls hl => ?_)
    refine lv_goto (tgt := 23) C.1 C.2.1 dL_law_1408 (by decide) ?_
    exact law_tail C0 hw (Nat.le_of_ble_eq_true rfl) (Nat.le_of_ble_eq_true rfl) (lv_sub hl [0, 4] rfl)
  · skip
    refine lv_aload_n C.1 C.2.1 dL_law_1330 rfl (lv_at hl 3 rfl) ?_
    refine lv_aload_n C.1 C.2.1 dL_law_1331 rfl (lv_at hl 4 rfl) ?_
    refine lv_iload C.1 C.2.1 dL_law_1332 (lv_at hl 0 rfl) ?_
    refine lv_iconst (v := 1) C.1 C.2.1 dL_law_1334 (by decide) ?_
    refine lv_iadd C.1 C.2.1 dL_law_1335 ?_
    refine x_topi (z := 1) (by decide) ?_
    refine va_sld C.1 C.2.1 hX hbl hbA hw.2.2.2.1 (i := 1) (x_in rfl) dL_law_1336 ?_
    refine x_topi (z := 1) h0 ?_
    refine x_calliV (As := [.int 1]) (rest := []) (wr := [(i0, .inr (3, [.int 0, .ref i0s, .ref i0a, .ref i0r])), (i0s, .inr (4, [.int 0, .int 0, .int 0, .int 0, .int 1, .int 0, .int 40, .int 0, .int 0, .ref i0sslideNames, .ref i0spictures, .ref i0sheats, .ref i0safter, .ref i0shearerNames, .ref i0sneeds, .ref i0slikes, .ref i0shates, .ref i0snear])), (i0sslideNames, eJ G 6 (fun _ => 0)), (i0spictures, eI G 6 (fun _ => 0)), (i0sheats, eI G 6 (fun _ => 0)), (i0safter, eI G 6 (fun _ => 0)), (i0shearerNames, eJ G 8 (fun _ => 0)), (i0sneeds, eI G 8 (fun _ => 0)), (i0slikes, eI G 8 (fun _ => 0)), (i0shates, eI G 8 (fun _ => 0)), (i0snear, eI G 8 (fun _ => 0)), (i0a, .inr (7, [.int 0, .int 0, .int 0, .int 0, .int 0, .int 0, .int 0, .int 0, .ref i0apictures, .ref i0ashown, .ref i0asighed])), (i0apictures, eI G 6 (fun _ => 0)), (i0ashown, eI G 6 (fun _ => 0)), (i0asighed, eI G 8 (fun _ => 0)), (i0r, .inr (6, [.int 0, .int 0, .int 0, .ref i0rkeys, .ref i0rsigns, .ref i0rnumbers, .ref i0rstack])), (i0rkeys, eI G 40 (fun _ => 0)), (i0rsigns, eI G 40 (fun _ => 0)), (i0rnumbers, eI G 40 (fun _ => 0)), (i0rstack, eI G 40 (fun _ => 0)), (qm, .inr (10, [.int 0, .ref mtape, .int 0, .int 0, .int 0, .int 0, .int 0, .int 0, .int 0, .int 0, .int 0, .int 0, .long 0, .int 0, .ref mnow, .ref mread, .ref mkept, .ref msnaps, .ref maside, .ref mname, .ref mreadName, .ref mkeptName, .ref misKept, .ref monces, .int 0, .ref morder, .ref mordered, .int 0, .int 0, .int 0, .int (-1), .int (-1), .ref mtext, .int 0, .int 0, .ref mline, .ref mwritten, .int 0, .int 0, .ref mnode, .int 0, .int 0, .int 0, .int 0])), (mnow, eI G 339 nw0), (mkept, eI G 678 (fun _ => 0)), (mname, eJ G 14 (fun _ => 0)), (mkeptName, eJ G 28 (fun _ => 0)), (misKept, eZ G 2 (fun _ => 0))]) C hw (c_X10_image__1 qx qt qs qd qa qb qh qr qe qp qf qn qi qo sslideNames spictures sheats safter shearerNames sneeds slikes shates snear apictures ashown asighed rkeys rsigns rnumbers rstack i1 i1s i1a i1r i1sslideNames i1spictures i1sheats i1safter i1shearerNames i1sneeds i1slikes i1shates i1snear i1apictures i1ashown i1asighed i1rkeys i1rsigns i1rnumbers i1rstack i0) mwX10_image kw1078 [0, 1, 2, 3, 4, 5, 6, 7, 8, 9, 10, 11, 12, 13, 14, 15, 16, 17, 18, 19, 20, 47, 48, 49, 50, 51, 52, 53, 54, 55, 56, 57, 58, 59, 60, 61, 62, 63, 64, 65, 66] [21, 22, 23, 24, 25, 26, 27, 28, 29, 30, 31, 32, 33, 34, 35, 36, 37, 38, 39, 40, 41, 42, 43, 44, 45, 46] rfl rfl rfl rfl (by decide) 0 rfl rfl rfl rfl hl.1 rfl (Nat.le_of_ble_eq_true rfl) ⟨(Nat.le_of_ble_eq_true rfl), (Nat.le_of_ble_eq_true rfl)⟩ ⟨(Nat.le_of_ble_eq_true rfl), (Nat.le_of_ble_eq_true rfl)⟩ dL_law_1337 (fun r1 u9 H locs hp9 hw => ?_)
    obtain ⟨rfl, rfl⟩ := hp9
    have hw : Wd G s (fun q : Nat => s.heap.size ≤ q) [(i0, .inr (3, [.int 0, .ref i0s, .ref i0a, .ref i0r])), (i0s, .inr (4, [.int 0, .int 0, .int 0, .int 0, .int 1, .int 0, .int 40, .int 0, .int 0, .ref i0sslideNames, .ref i0spictures, .ref i0sheats, .ref i0safter, .ref i0shearerNames, .ref i0sneeds, .ref i0slikes, .ref i0shates, .ref i0snear])), (i0sslideNames, eJ G 6 (fun _ => 0)), (i0spictures, eI G 6 (fun _ => 0)), (i0sheats, eI G 6 (fun _ => 0)), (i0safter, eI G 6 (fun _ => 0)), (i0shearerNames, eJ G 8 (fun _ => 0)), (i0sneeds, eI G 8 (fun _ => 0)), (i0slikes, eI G 8 (fun _ => 0)), (i0shates, eI G 8 (fun _ => 0)), (i0snear, eI G 8 (fun _ => 0)), (i0a, .inr (7, [.int 0, .int 0, .int 0, .int 0, .int 0, .int 0, .int 0, .int 0, .ref i0apictures, .ref i0ashown, .ref i0asighed])), (i0apictures, eI G 6 (fun _ => 0)), (i0ashown, eI G 6 (fun _ => 0)), (i0asighed, eI G 8 (fun _ => 0)), (i0r, .inr (6, [.int 0, .int 0, .int 0, .ref i0rkeys, .ref i0rsigns, .ref i0rnumbers, .ref i0rstack])), (i0rkeys, eI G 40 (fun _ => 0)), (i0rsigns, eI G 40 (fun _ => 0)), (i0rnumbers, eI G 40 (fun _ => 0)), (i0rstack, eI G 40 (fun _ => 0)), (qm, .inr (10, [.int 0, .ref mtape, .int 0, .int 0, .int 0, .int 0, .int 0, .int 0, .int 0, .int 0, .int 0, .int 0, .long 0, .int 0, .ref mnow, .ref mread, .ref mkept, .ref msnaps, .ref maside, .ref mname, .ref mreadName, .ref mkeptName, .ref misKept, .ref monces, .int 0, .ref morder, .ref mordered, .int 0, .int 0, .int 0, .int (-1), .int (-1), .ref mtext, .int 0, .int 0, .ref mline, .ref mwritten, .int 0, .int 0, .ref mnode, .int 0, .int 0, .int 0, .int 0])), (mnow, eI G 339 nw0), (mkept, eI G 678 (fun _ => 0)), (mname, eJ G 14 (fun _ => 0)), (mkeptName, eJ G 28 (fun _ => 0)), (misKept, eZ G 2 (fun _ => 0))] H _ := hw
    refine lv_aload_n C.1 C.2.1 dL_law_1340 rfl (lv_at hl 2 rfl) ?_
    refine lv_aload_n C.1 C.2.1 dL_law_1341 rfl (lv_at hl 4 rfl) ?_
    refine lv_iload C.1 C.2.1 dL_law_1342 (lv_at hl 0 rfl) ?_
    refine lv_iconst (v := 1) C.1 C.2.1 dL_law_1344 (by decide) ?_
    refine lv_iadd C.1 C.2.1 dL_law_1345 ?_
    refine x_topi (z := 1) (by decide) ?_
    refine va_sld C.1 C.2.1 hX hbl hbA hw.2.2.2.1 (i := 1) (x_in rfl) dL_law_1346 ?_
    refine x_topi (z := 1) h0 ?_
    refine x_calliV (As := [.int 1]) (rest := [.int 1]) (wr := [(i0, .inr (3, [.int 0, .ref i0s, .ref i0a, .ref i0r])), (i0s, .inr (4, [.int 0, .int 0, .int 0, .int 0, .int 1, .int 0, .int 40, .int 0, .int 0, .ref i0sslideNames, .ref i0spictures, .ref i0sheats, .ref i0safter, .ref i0shearerNames, .ref i0sneeds, .ref i0slikes, .ref i0shates, .ref i0snear])), (i0sslideNames, eJ G 6 (fun _ => 0)), (i0spictures, eI G 6 (fun _ => 0)), (i0sheats, eI G 6 (fun _ => 0)), (i0safter, eI G 6 (fun _ => 0)), (i0shearerNames, eJ G 8 (fun _ => 0)), (i0sneeds, eI G 8 (fun _ => 0)), (i0slikes, eI G 8 (fun _ => 0)), (i0shates, eI G 8 (fun _ => 0)), (i0snear, eI G 8 (fun _ => 0)), (i0a, .inr (7, [.int 0, .int 0, .int 0, .int 0, .int 0, .int 0, .int 0, .int 0, .ref i0apictures, .ref i0ashown, .ref i0asighed])), (i0apictures, eI G 6 (fun _ => 0)), (i0ashown, eI G 6 (fun _ => 0)), (i0asighed, eI G 8 (fun _ => 0)), (i0r, .inr (6, [.int 0, .int 0, .int 0, .ref i0rkeys, .ref i0rsigns, .ref i0rnumbers, .ref i0rstack])), (i0rkeys, eI G 40 (fun _ => 0)), (i0rsigns, eI G 40 (fun _ => 0)), (i0rnumbers, eI G 40 (fun _ => 0)), (i0rstack, eI G 40 (fun _ => 0))]) C hw (c_X11_image__1 qm mtape mnow mread mkept msnaps maside mname mreadName mkeptName misKept monces morder mordered mtext mline mwritten mnode) mwX11_image kw1800 [20, 21, 22, 23, 24, 25] [0, 1, 2, 3, 4, 5, 6, 7, 8, 9, 10, 11, 12, 13, 14, 15, 16, 17, 18, 19] rfl rfl rfl rfl (by decide) 0 rfl rfl rfl rfl hl.1 rfl (Nat.le_of_ble_eq_true rfl) ⟨(Nat.le_of_ble_eq_true rfl), (Nat.le_of_ble_eq_true rfl)⟩ ⟨(Nat.le_of_ble_eq_true rfl), (Nat.le_of_ble_eq_true rfl)⟩ dL_law_1347 (fun r2 u9 H locs hp9 hw => ?_)
    obtain ⟨rfl, rfl⟩ := hp9
    have hw : Wd G s (fun q : Nat => s.heap.size ≤ q) [(i0, .inr (3, [.int 0, .ref i0s, .ref i0a, .ref i0r])), (i0s, .inr (4, [.int 0, .int 0, .int 0, .int 0, .int 1, .int 0, .int 40, .int 0, .int 0, .ref i0sslideNames, .ref i0spictures, .ref i0sheats, .ref i0safter, .ref i0shearerNames, .ref i0sneeds, .ref i0slikes, .ref i0shates, .ref i0snear])), (i0sslideNames, eJ G 6 (fun _ => 0)), (i0spictures, eI G 6 (fun _ => 0)), (i0sheats, eI G 6 (fun _ => 0)), (i0safter, eI G 6 (fun _ => 0)), (i0shearerNames, eJ G 8 (fun _ => 0)), (i0sneeds, eI G 8 (fun _ => 0)), (i0slikes, eI G 8 (fun _ => 0)), (i0shates, eI G 8 (fun _ => 0)), (i0snear, eI G 8 (fun _ => 0)), (i0a, .inr (7, [.int 0, .int 0, .int 0, .int 0, .int 0, .int 0, .int 0, .int 0, .ref i0apictures, .ref i0ashown, .ref i0asighed])), (i0apictures, eI G 6 (fun _ => 0)), (i0ashown, eI G 6 (fun _ => 0)), (i0asighed, eI G 8 (fun _ => 0)), (i0r, .inr (6, [.int 0, .int 0, .int 0, .ref i0rkeys, .ref i0rsigns, .ref i0rnumbers, .ref i0rstack])), (i0rkeys, eI G 40 (fun _ => 0)), (i0rsigns, eI G 40 (fun _ => 0)), (i0rnumbers, eI G 40 (fun _ => 0)), (i0rstack, eI G 40 (fun _ => 0))] H _ := hw
    refine lv_icmp_eq (tgt := 1405) C.1 C.2.1 dL_law_1350 (by decide) (fun _ => ?_) (fun h9 => absurd (by decide) h9)
    refine lv_iinc (v := 6) (lv' := [(4, .int 6), (3, .ref qz), (2, .ref qm), (1, .ref qx), (0, .ref b)]) C.1 C.2.1 dL_law_1405 hl (k := 0) rfl (by decide) (by decide) rfl (fun ls hl => ?_)
    refine lv_goto (tgt := 23) C.1 C.2.1 dL_law_1408 (by decide) ?_
    exact law_tail C0 hw (Nat.le_of_ble_eq_true rfl) (Nat.le_of_ble_eq_true rfl) (lv_sub hl [0, 4] rfl)
  · skip
    refine lv_aload_n C.1 C.2.1 dL_law_1330 rfl (lv_at hl 3 rfl) ?_
    refine lv_aload_n C.1 C.2.1 dL_law_1331 rfl (lv_at hl 4 rfl) ?_
    refine lv_iload C.1 C.2.1 dL_law_1332 (lv_at hl 0 rfl) ?_
    refine lv_iconst (v := 1) C.1 C.2.1 dL_law_1334 (by decide) ?_
    refine lv_iadd C.1 C.2.1 dL_law_1335 ?_
    refine x_topi (z := 1) (by decide) ?_
    refine va_sld C.1 C.2.1 hX hbl hbA hw.2.2.2.1 (i := 1) (x_in rfl) dL_law_1336 ?_
    refine x_topi (z := (xs 1)) rfl ?_
    refine x_calliV (As := [.int (xs 1)]) (rest := []) (wr := [(qs, .inr (4, [.int 0, .int 0, .int 0, .int 0, .int 1, .int 0, .int 40, .int 0, .int 0, .ref sslideNames, .ref spictures, .ref sheats, .ref safter, .ref shearerNames, .ref sneeds, .ref slikes, .ref shates, .ref snear])), (sslideNames, eJ G 6 (fun _ => 0)), (spictures, eI G 6 (fun _ => 0)), (sheats, eI G 6 (fun _ => 0)), (safter, eI G 6 (fun _ => 0)), (shearerNames, eJ G 8 (fun _ => 0)), (sneeds, eI G 8 (fun _ => 0)), (slikes, eI G 8 (fun _ => 0)), (shates, eI G 8 (fun _ => 0)), (snear, eI G 8 (fun _ => 0)), (qa, .inr (7, [.int 0, .int 0, .int 0, .int 0, .int 0, .int 0, .int 0, .int 0, .ref apictures, .ref ashown, .ref asighed])), (apictures, eI G 6 (fun _ => 0)), (ashown, eI G 6 (fun _ => 0)), (asighed, eI G 8 (fun _ => 0)), (qr, .inr (6, [.int 0, .int 0, .int 0, .ref rkeys, .ref rsigns, .ref rnumbers, .ref rstack])), (rkeys, eI G 40 (fun _ => 0)), (rsigns, eI G 40 (fun _ => 0)), (rnumbers, eI G 40 (fun _ => 0)), (rstack, eI G 40 (fun _ => 0)), (qi, eIm G 2 (va_up (va_up (fun _ => none) 0 (some i0)) 1 (some i1))), (i0, .inr (3, [.int 0, .ref i0s, .ref i0a, .ref i0r])), (i0s, .inr (4, [.int 0, .int 0, .int 0, .int 0, .int 1, .int 0, .int 40, .int 0, .int 0, .ref i0sslideNames, .ref i0spictures, .ref i0sheats, .ref i0safter, .ref i0shearerNames, .ref i0sneeds, .ref i0slikes, .ref i0shates, .ref i0snear])), (i0sslideNames, eJ G 6 (fun _ => 0)), (i0spictures, eI G 6 (fun _ => 0)), (i0sheats, eI G 6 (fun _ => 0)), (i0safter, eI G 6 (fun _ => 0)), (i0shearerNames, eJ G 8 (fun _ => 0)), (i0sneeds, eI G 8 (fun _ => 0)), (i0slikes, eI G 8 (fun _ => 0)), (i0shates, eI G 8 (fun _ => 0)), (i0snear, eI G 8 (fun _ => 0)), (i0a, .inr (7, [.int 0, .int 0, .int 0, .int 0, .int 0, .int 0, .int 0, .int 0, .ref i0apictures, .ref i0ashown, .ref i0asighed])), (i0apictures, eI G 6 (fun _ => 0)), (i0ashown, eI G 6 (fun _ => 0)), (i0asighed, eI G 8 (fun _ => 0)), (i0r, .inr (6, [.int 0, .int 0, .int 0, .ref i0rkeys, .ref i0rsigns, .ref i0rnumbers, .ref i0rstack])), (i0rkeys, eI G 40 (fun _ => 0)), (i0rsigns, eI G 40 (fun _ => 0)), (i0rnumbers, eI G 40 (fun _ => 0)), (i0rstack, eI G 40 (fun _ => 0)), (qm, .inr (10, [.int 0, .ref mtape, .int 0, .int 0, .int 0, .int 0, .int 0, .int 0, .int 0, .int 0, .int 0, .int 0, .long 0, .int 0, .ref mnow, .ref mread, .ref mkept, .ref msnaps, .ref maside, .ref mname, .ref mreadName, .ref mkeptName, .ref misKept, .ref monces, .int 0, .ref morder, .ref mordered, .int 0, .int 0, .int 0, .int (-1), .int (-1), .ref mtext, .int 0, .int 0, .ref mline, .ref mwritten, .int 0, .int 0, .ref mnode, .int 0, .int 0, .int 0, .int 0])), (mnow, eI G 339 nw0), (mkept, eI G 678 (fun _ => 0)), (mname, eJ G 14 (fun _ => 0)), (mkeptName, eJ G 28 (fun _ => 0)), (misKept, eZ G 2 (fun _ => 0)), (i1, .inr (3, [.int 0, .ref i1s, .ref i1a, .ref i1r])), (i1s, .inr (4, [.int 0, .int 0, .int 0, .int 0, .int 1, .int 0, .int 40, .int 0, .int 0, .ref i1sslideNames, .ref i1spictures, .ref i1sheats, .ref i1safter, .ref i1shearerNames, .ref i1sneeds, .ref i1slikes, .ref i1shates, .ref i1snear])), (i1sslideNames, eJ G 6 (fun _ => 0)), (i1spictures, eI G 6 (fun _ => 0)), (i1sheats, eI G 6 (fun _ => 0)), (i1safter, eI G 6 (fun _ => 0)), (i1shearerNames, eJ G 8 (fun _ => 0)), (i1sneeds, eI G 8 (fun _ => 0)), (i1slikes, eI G 8 (fun _ => 0)), (i1shates, eI G 8 (fun _ => 0)), (i1snear, eI G 8 (fun _ => 0)), (i1a, .inr (7, [.int 0, .int 0, .int 0, .int 0, .int 0, .int 0, .int 0, .int 0, .ref i1apictures, .ref i1ashown, .ref i1asighed])), (i1apictures, eI G 6 (fun _ => 0)), (i1ashown, eI G 6 (fun _ => 0)), (i1asighed, eI G 8 (fun _ => 0)), (i1r, .inr (6, [.int 0, .int 0, .int 0, .ref i1rkeys, .ref i1rsigns, .ref i1rnumbers, .ref i1rstack])), (i1rkeys, eI G 40 (fun _ => 0)), (i1rsigns, eI G 40 (fun _ => 0)), (i1rnumbers, eI G 40 (fun _ => 0)), (i1rstack, eI G 40 (fun _ => 0))]) C hw (c_X10_image__N qx (xs 1) qt qs qd qa qb qh qr qe qp qf qn qi qo h0 h1) mwX10_image kw1078 [0] [1, 2, 3, 4, 5, 6, 7, 8, 9, 10, 11, 12, 13, 14, 15, 16, 17, 18, 19, 20, 21, 22, 23, 24, 25, 26, 27, 28, 29, 30, 31, 32, 33, 34, 35, 36, 37, 38, 39, 40, 41, 42, 43, 44, 45, 46, 47, 48, 49, 50, 51, 52, 53, 54, 55, 56, 57, 58, 59, 60, 61, 62, 63, 64, 65, 66] rfl rfl rfl rfl (by decide) 0 rfl rfl rfl rfl hl.1 rfl (Nat.le_of_ble_eq_true rfl) ⟨(Nat.le_of_ble_eq_true rfl), (Nat.le_of_ble_eq_true rfl)⟩ ⟨(Nat.le_of_ble_eq_true rfl), (Nat.le_of_ble_eq_true rfl)⟩ dL_law_1337 (fun r1 u9 H locs hp9 hw => ?_)
    obtain ⟨rfl, rfl⟩ := hp9
    have hw : Wd G s (fun q : Nat => s.heap.size ≤ q) [(qs, .inr (4, [.int 0, .int 0, .int 0, .int 0, .int 1, .int 0, .int 40, .int 0, .int 0, .ref sslideNames, .ref spictures, .ref sheats, .ref safter, .ref shearerNames, .ref sneeds, .ref slikes, .ref shates, .ref snear])), (sslideNames, eJ G 6 (fun _ => 0)), (spictures, eI G 6 (fun _ => 0)), (sheats, eI G 6 (fun _ => 0)), (safter, eI G 6 (fun _ => 0)), (shearerNames, eJ G 8 (fun _ => 0)), (sneeds, eI G 8 (fun _ => 0)), (slikes, eI G 8 (fun _ => 0)), (shates, eI G 8 (fun _ => 0)), (snear, eI G 8 (fun _ => 0)), (qa, .inr (7, [.int 0, .int 0, .int 0, .int 0, .int 0, .int 0, .int 0, .int 0, .ref apictures, .ref ashown, .ref asighed])), (apictures, eI G 6 (fun _ => 0)), (ashown, eI G 6 (fun _ => 0)), (asighed, eI G 8 (fun _ => 0)), (qr, .inr (6, [.int 0, .int 0, .int 0, .ref rkeys, .ref rsigns, .ref rnumbers, .ref rstack])), (rkeys, eI G 40 (fun _ => 0)), (rsigns, eI G 40 (fun _ => 0)), (rnumbers, eI G 40 (fun _ => 0)), (rstack, eI G 40 (fun _ => 0)), (qi, eIm G 2 (va_up (va_up (fun _ => none) 0 (some i0)) 1 (some i1))), (i0, .inr (3, [.int 0, .ref i0s, .ref i0a, .ref i0r])), (i0s, .inr (4, [.int 0, .int 0, .int 0, .int 0, .int 1, .int 0, .int 40, .int 0, .int 0, .ref i0sslideNames, .ref i0spictures, .ref i0sheats, .ref i0safter, .ref i0shearerNames, .ref i0sneeds, .ref i0slikes, .ref i0shates, .ref i0snear])), (i0sslideNames, eJ G 6 (fun _ => 0)), (i0spictures, eI G 6 (fun _ => 0)), (i0sheats, eI G 6 (fun _ => 0)), (i0safter, eI G 6 (fun _ => 0)), (i0shearerNames, eJ G 8 (fun _ => 0)), (i0sneeds, eI G 8 (fun _ => 0)), (i0slikes, eI G 8 (fun _ => 0)), (i0shates, eI G 8 (fun _ => 0)), (i0snear, eI G 8 (fun _ => 0)), (i0a, .inr (7, [.int 0, .int 0, .int 0, .int 0, .int 0, .int 0, .int 0, .int 0, .ref i0apictures, .ref i0ashown, .ref i0asighed])), (i0apictures, eI G 6 (fun _ => 0)), (i0ashown, eI G 6 (fun _ => 0)), (i0asighed, eI G 8 (fun _ => 0)), (i0r, .inr (6, [.int 0, .int 0, .int 0, .ref i0rkeys, .ref i0rsigns, .ref i0rnumbers, .ref i0rstack])), (i0rkeys, eI G 40 (fun _ => 0)), (i0rsigns, eI G 40 (fun _ => 0)), (i0rnumbers, eI G 40 (fun _ => 0)), (i0rstack, eI G 40 (fun _ => 0)), (qm, .inr (10, [.int 0, .ref mtape, .int 0, .int 0, .int 0, .int 0, .int 0, .int 0, .int 0, .int 0, .int 0, .int 0, .long 0, .int 0, .ref mnow, .ref mread, .ref mkept, .ref msnaps, .ref maside, .ref mname, .ref mreadName, .ref mkeptName, .ref misKept, .ref monces, .int 0, .ref morder, .ref mordered, .int 0, .int 0, .int 0, .int (-1), .int (-1), .ref mtext, .int 0, .int 0, .ref mline, .ref mwritten, .int 0, .int 0, .ref mnode, .int 0, .int 0, .int 0, .int 0])), (mnow, eI G 339 nw0), (mkept, eI G 678 (fun _ => 0)), (mname, eJ G 14 (fun _ => 0)), (mkeptName, eJ G 28 (fun _ => 0)), (misKept, eZ G 2 (fun _ => 0)), (i1, .inr (3, [.int 0, .ref i1s, .ref i1a, .ref i1r])), (i1s, .inr (4, [.int 0, .int 0, .int 0, .int 0, .int 1, .int 0, .int 40, .int 0, .int 0, .ref i1sslideNames, .ref i1spictures, .ref i1sheats, .ref i1safter, .ref i1shearerNames, .ref i1sneeds, .ref i1slikes, .ref i1shates, .ref i1snear])), (i1sslideNames, eJ G 6 (fun _ => 0)), (i1spictures, eI G 6 (fun _ => 0)), (i1sheats, eI G 6 (fun _ => 0)), (i1safter, eI G 6 (fun _ => 0)), (i1shearerNames, eJ G 8 (fun _ => 0)), (i1sneeds, eI G 8 (fun _ => 0)), (i1slikes, eI G 8 (fun _ => 0)), (i1shates, eI G 8 (fun _ => 0)), (i1snear, eI G 8 (fun _ => 0)), (i1a, .inr (7, [.int 0, .int 0, .int 0, .int 0, .int 0, .int 0, .int 0, .int 0, .ref i1apictures, .ref i1ashown, .ref i1asighed])), (i1apictures, eI G 6 (fun _ => 0)), (i1ashown, eI G 6 (fun _ => 0)), (i1asighed, eI G 8 (fun _ => 0)), (i1r, .inr (6, [.int 0, .int 0, .int 0, .ref i1rkeys, .ref i1rsigns, .ref i1rnumbers, .ref i1rstack])), (i1rkeys, eI G 40 (fun _ => 0)), (i1rsigns, eI G 40 (fun _ => 0)), (i1rnumbers, eI G 40 (fun _ => 0)), (i1rstack, eI G 40 (fun _ => 0))] H _ := hw
    refine lv_aload_n C.1 C.2.1 dL_law_1340 rfl (lv_at hl 2 rfl) ?_
    refine lv_aload_n C.1 C.2.1 dL_law_1341 rfl (lv_at hl 4 rfl) ?_
    refine lv_iload C.1 C.2.1 dL_law_1342 (lv_at hl 0 rfl) ?_
    refine lv_iconst (v := 1) C.1 C.2.1 dL_law_1344 (by decide) ?_
    refine lv_iadd C.1 C.2.1 dL_law_1345 ?_
    refine x_topi (z := 1) (by decide) ?_
    refine va_sld C.1 C.2.1 hX hbl hbA hw.2.2.2.1 (i := 1) (x_in rfl) dL_law_1346 ?_
    refine x_topi (z := (xs 1)) rfl ?_
    refine x_calliV (As := [.int (xs 1)]) (rest := [.int 0]) (wr := [(qs, .inr (4, [.int 0, .int 0, .int 0, .int 0, .int 1, .int 0, .int 40, .int 0, .int 0, .ref sslideNames, .ref spictures, .ref sheats, .ref safter, .ref shearerNames, .ref sneeds, .ref slikes, .ref shates, .ref snear])), (sslideNames, eJ G 6 (fun _ => 0)), (spictures, eI G 6 (fun _ => 0)), (sheats, eI G 6 (fun _ => 0)), (safter, eI G 6 (fun _ => 0)), (shearerNames, eJ G 8 (fun _ => 0)), (sneeds, eI G 8 (fun _ => 0)), (slikes, eI G 8 (fun _ => 0)), (shates, eI G 8 (fun _ => 0)), (snear, eI G 8 (fun _ => 0)), (qa, .inr (7, [.int 0, .int 0, .int 0, .int 0, .int 0, .int 0, .int 0, .int 0, .ref apictures, .ref ashown, .ref asighed])), (apictures, eI G 6 (fun _ => 0)), (ashown, eI G 6 (fun _ => 0)), (asighed, eI G 8 (fun _ => 0)), (qr, .inr (6, [.int 0, .int 0, .int 0, .ref rkeys, .ref rsigns, .ref rnumbers, .ref rstack])), (rkeys, eI G 40 (fun _ => 0)), (rsigns, eI G 40 (fun _ => 0)), (rnumbers, eI G 40 (fun _ => 0)), (rstack, eI G 40 (fun _ => 0)), (qi, eIm G 2 (va_up (va_up (fun _ => none) 0 (some i0)) 1 (some i1))), (i0, .inr (3, [.int 0, .ref i0s, .ref i0a, .ref i0r])), (i0s, .inr (4, [.int 0, .int 0, .int 0, .int 0, .int 1, .int 0, .int 40, .int 0, .int 0, .ref i0sslideNames, .ref i0spictures, .ref i0sheats, .ref i0safter, .ref i0shearerNames, .ref i0sneeds, .ref i0slikes, .ref i0shates, .ref i0snear])), (i0sslideNames, eJ G 6 (fun _ => 0)), (i0spictures, eI G 6 (fun _ => 0)), (i0sheats, eI G 6 (fun _ => 0)), (i0safter, eI G 6 (fun _ => 0)), (i0shearerNames, eJ G 8 (fun _ => 0)), (i0sneeds, eI G 8 (fun _ => 0)), (i0slikes, eI G 8 (fun _ => 0)), (i0shates, eI G 8 (fun _ => 0)), (i0snear, eI G 8 (fun _ => 0)), (i0a, .inr (7, [.int 0, .int 0, .int 0, .int 0, .int 0, .int 0, .int 0, .int 0, .ref i0apictures, .ref i0ashown, .ref i0asighed])), (i0apictures, eI G 6 (fun _ => 0)), (i0ashown, eI G 6 (fun _ => 0)), (i0asighed, eI G 8 (fun _ => 0)), (i0r, .inr (6, [.int 0, .int 0, .int 0, .ref i0rkeys, .ref i0rsigns, .ref i0rnumbers, .ref i0rstack])), (i0rkeys, eI G 40 (fun _ => 0)), (i0rsigns, eI G 40 (fun _ => 0)), (i0rnumbers, eI G 40 (fun _ => 0)), (i0rstack, eI G 40 (fun _ => 0)), (mnow, eI G 339 nw0), (mkept, eI G 678 (fun _ => 0)), (mname, eJ G 14 (fun _ => 0)), (mkeptName, eJ G 28 (fun _ => 0)), (misKept, eZ G 2 (fun _ => 0)), (i1, .inr (3, [.int 0, .ref i1s, .ref i1a, .ref i1r])), (i1s, .inr (4, [.int 0, .int 0, .int 0, .int 0, .int 1, .int 0, .int 40, .int 0, .int 0, .ref i1sslideNames, .ref i1spictures, .ref i1sheats, .ref i1safter, .ref i1shearerNames, .ref i1sneeds, .ref i1slikes, .ref i1shates, .ref i1snear])), (i1sslideNames, eJ G 6 (fun _ => 0)), (i1spictures, eI G 6 (fun _ => 0)), (i1sheats, eI G 6 (fun _ => 0)), (i1safter, eI G 6 (fun _ => 0)), (i1shearerNames, eJ G 8 (fun _ => 0)), (i1sneeds, eI G 8 (fun _ => 0)), (i1slikes, eI G 8 (fun _ => 0)), (i1shates, eI G 8 (fun _ => 0)), (i1snear, eI G 8 (fun _ => 0)), (i1a, .inr (7, [.int 0, .int 0, .int 0, .int 0, .int 0, .int 0, .int 0, .int 0, .ref i1apictures, .ref i1ashown, .ref i1asighed])), (i1apictures, eI G 6 (fun _ => 0)), (i1ashown, eI G 6 (fun _ => 0)), (i1asighed, eI G 8 (fun _ => 0)), (i1r, .inr (6, [.int 0, .int 0, .int 0, .ref i1rkeys, .ref i1rsigns, .ref i1rnumbers, .ref i1rstack])), (i1rkeys, eI G 40 (fun _ => 0)), (i1rsigns, eI G 40 (fun _ => 0)), (i1rnumbers, eI G 40 (fun _ => 0)), (i1rstack, eI G 40 (fun _ => 0))]) C hw (c_X11_image__N qm (xs 1) mtape mnow mread mkept msnaps maside mname mreadName mkeptName misKept monces morder mordered mtext mline mwritten mnode (x_n01c h0 h1)) mwX11_image kw1800 [40] [0, 1, 2, 3, 4, 5, 6, 7, 8, 9, 10, 11, 12, 13, 14, 15, 16, 17, 18, 19, 20, 21, 22, 23, 24, 25, 26, 27, 28, 29, 30, 31, 32, 33, 34, 35, 36, 37, 38, 39, 41, 42, 43, 44, 45, 46, 47, 48, 49, 50, 51, 52, 53, 54, 55, 56, 57, 58, 59, 60, 61, 62, 63, 64, 65] rfl rfl rfl rfl (by decide) 0 rfl rfl rfl rfl hl.1 rfl (Nat.le_of_ble_eq_true rfl) ⟨(Nat.le_of_ble_eq_true rfl), (Nat.le_of_ble_eq_true rfl)⟩ ⟨(Nat.le_of_ble_eq_true rfl), (Nat.le_of_ble_eq_true rfl)⟩ dL_law_1347 (fun r2 u9 H locs hp9 hw => ?_)
    obtain ⟨rfl, rfl⟩ := hp9
    have hw : Wd G s (fun q : Nat => s.heap.size ≤ q) [(qs, .inr (4, [.int 0, .int 0, .int 0, .int 0, .int 1, .int 0, .int 40, .int 0, .int 0, .ref sslideNames, .ref spictures, .ref sheats, .ref safter, .ref shearerNames, .ref sneeds, .ref slikes, .ref shates, .ref snear])), (sslideNames, eJ G 6 (fun _ => 0)), (spictures, eI G 6 (fun _ => 0)), (sheats, eI G 6 (fun _ => 0)), (safter, eI G 6 (fun _ => 0)), (shearerNames, eJ G 8 (fun _ => 0)), (sneeds, eI G 8 (fun _ => 0)), (slikes, eI G 8 (fun _ => 0)), (shates, eI G 8 (fun _ => 0)), (snear, eI G 8 (fun _ => 0)), (qa, .inr (7, [.int 0, .int 0, .int 0, .int 0, .int 0, .int 0, .int 0, .int 0, .ref apictures, .ref ashown, .ref asighed])), (apictures, eI G 6 (fun _ => 0)), (ashown, eI G 6 (fun _ => 0)), (asighed, eI G 8 (fun _ => 0)), (qr, .inr (6, [.int 0, .int 0, .int 0, .ref rkeys, .ref rsigns, .ref rnumbers, .ref rstack])), (rkeys, eI G 40 (fun _ => 0)), (rsigns, eI G 40 (fun _ => 0)), (rnumbers, eI G 40 (fun _ => 0)), (rstack, eI G 40 (fun _ => 0)), (qi, eIm G 2 (va_up (va_up (fun _ => none) 0 (some i0)) 1 (some i1))), (i0, .inr (3, [.int 0, .ref i0s, .ref i0a, .ref i0r])), (i0s, .inr (4, [.int 0, .int 0, .int 0, .int 0, .int 1, .int 0, .int 40, .int 0, .int 0, .ref i0sslideNames, .ref i0spictures, .ref i0sheats, .ref i0safter, .ref i0shearerNames, .ref i0sneeds, .ref i0slikes, .ref i0shates, .ref i0snear])), (i0sslideNames, eJ G 6 (fun _ => 0)), (i0spictures, eI G 6 (fun _ => 0)), (i0sheats, eI G 6 (fun _ => 0)), (i0safter, eI G 6 (fun _ => 0)), (i0shearerNames, eJ G 8 (fun _ => 0)), (i0sneeds, eI G 8 (fun _ => 0)), (i0slikes, eI G 8 (fun _ => 0)), (i0shates, eI G 8 (fun _ => 0)), (i0snear, eI G 8 (fun _ => 0)), (i0a, .inr (7, [.int 0, .int 0, .int 0, .int 0, .int 0, .int 0, .int 0, .int 0, .ref i0apictures, .ref i0ashown, .ref i0asighed])), (i0apictures, eI G 6 (fun _ => 0)), (i0ashown, eI G 6 (fun _ => 0)), (i0asighed, eI G 8 (fun _ => 0)), (i0r, .inr (6, [.int 0, .int 0, .int 0, .ref i0rkeys, .ref i0rsigns, .ref i0rnumbers, .ref i0rstack])), (i0rkeys, eI G 40 (fun _ => 0)), (i0rsigns, eI G 40 (fun _ => 0)), (i0rnumbers, eI G 40 (fun _ => 0)), (i0rstack, eI G 40 (fun _ => 0)), (mnow, eI G 339 nw0), (mkept, eI G 678 (fun _ => 0)), (mname, eJ G 14 (fun _ => 0)), (mkeptName, eJ G 28 (fun _ => 0)), (misKept, eZ G 2 (fun _ => 0)), (i1, .inr (3, [.int 0, .ref i1s, .ref i1a, .ref i1r])), (i1s, .inr (4, [.int 0, .int 0, .int 0, .int 0, .int 1, .int 0, .int 40, .int 0, .int 0, .ref i1sslideNames, .ref i1spictures, .ref i1sheats, .ref i1safter, .ref i1shearerNames, .ref i1sneeds, .ref i1slikes, .ref i1shates, .ref i1snear])), (i1sslideNames, eJ G 6 (fun _ => 0)), (i1spictures, eI G 6 (fun _ => 0)), (i1sheats, eI G 6 (fun _ => 0)), (i1safter, eI G 6 (fun _ => 0)), (i1shearerNames, eJ G 8 (fun _ => 0)), (i1sneeds, eI G 8 (fun _ => 0)), (i1slikes, eI G 8 (fun _ => 0)), (i1shates, eI G 8 (fun _ => 0)), (i1snear, eI G 8 (fun _ => 0)), (i1a, .inr (7, [.int 0, .int 0, .int 0, .int 0, .int 0, .int 0, .int 0, .int 0, .ref i1apictures, .ref i1ashown, .ref i1asighed])), (i1apictures, eI G 6 (fun _ => 0)), (i1ashown, eI G 6 (fun _ => 0)), (i1asighed, eI G 8 (fun _ => 0)), (i1r, .inr (6, [.int 0, .int 0, .int 0, .ref i1rkeys, .ref i1rsigns, .ref i1rnumbers, .ref i1rstack])), (i1rkeys, eI G 40 (fun _ => 0)), (i1rsigns, eI G 40 (fun _ => 0)), (i1rnumbers, eI G 40 (fun _ => 0)), (i1rstack, eI G 40 (fun _ => 0))] H _ := hw
    refine lv_icmp_eq (tgt := 1405) C.1 C.2.1 dL_law_1350 (by decide) (fun _ => ?_) (fun h9 => absurd (by decide) h9)
    refine lv_iinc (v := 6) (lv' := [(4, .int 6), (3, .ref qz), (2, .ref qm), (1, .ref qx), (0, .ref b)]) C.1 C.2.1 dL_law_1405 hl (k := 0) rfl (by decide) (by decide) rfl (fun ls hl => ?_)
    refine lv_goto (tgt := 23) C.1 C.2.1 dL_law_1408 (by decide) ?_
    exact law_tail C0 hw (Nat.le_of_ble_eq_true rfl) (Nat.le_of_ble_eq_true rfl) (lv_sub hl [0, 4] rfl)
theorem dL_law_1355 : decode cL_law 1355 = .ok (.aload_n 1, 1) := by decide +kernel
theorem dL_law_1356 : decode cL_law 1356 = .ok (.aload_n 0, 1) := by decide +kernel
theorem dL_law_1357 : decode cL_law 1357 = .ok (.iload 4, 2) := by decide +kernel
theorem dL_law_1359 : decode cL_law 1359 = .ok (.iconst 1, 1) := by decide +kernel
theorem dL_law_1360 : decode cL_law 1360 = .ok (.iadd, 1) := by decide +kernel
theorem dL_law_1361 : decode cL_law 1361 = .ok (.iaload, 1) := by decide +kernel
theorem dL_law_1362 : decode cL_law 1362 = .ok (.invokevirtual 180, 3) := by decide +kernel
theorem mwX10_restore : MwV yX10_restore cX10_restore 2 (some .boolean) 1 := ⟨⟨kw1085, kw1, by decide +kernel⟩, kw1083, kw1084⟩
theorem dL_law_1365 : decode cL_law 1365 = .ok (.aload_n 2, 1) := by decide +kernel
theorem dL_law_1366 : decode cL_law 1366 = .ok (.aload_n 0, 1) := by decide +kernel
theorem dL_law_1367 : decode cL_law 1367 = .ok (.iload 4, 2) := by decide +kernel
theorem dL_law_1369 : decode cL_law 1369 = .ok (.iconst 1, 1) := by decide +kernel
theorem dL_law_1370 : decode cL_law 1370 = .ok (.iadd, 1) := by decide +kernel
theorem dL_law_1371 : decode cL_law 1371 = .ok (.iaload, 1) := by decide +kernel
theorem dL_law_1372 : decode cL_law 1372 = .ok (.invokevirtual 183, 3) := by decide +kernel
theorem mwX11_restore : MwV yX11_restore cX11_restore 3 (some .boolean) 1 := ⟨⟨kw1807, kw15, by decide +kernel⟩, kw1805, kw1806⟩
theorem dL_law_1375 : decode cL_law 1375 = .ok (.if_icmp .eq 30, 3) := by decide +kernel
set_option maxHeartbeats 4000000 in
set_option maxRecDepth 100000 in
theorem law_restore {p : Program} {l : Launch} {e : Env} {s : State} {m : MethodId} {below : List Frame} {meth : Method} {c : Code} {G : Gc} {b : Nat} {xs : Nat → Int32} (hst : l.stackTraces = false) (qx : Nat) (qm : Nat) (qz : Nat) (qt : Nat) (qs : Nat) (qd : Nat) (qa : Nat) (qb : Nat) (qh : Nat) (qr : Nat) (qe : Nat) (qp : Nat) (qf : Nat) (qn : Nat) (qi : Nat) (qo : Nat) (i0 : Nat) (i0s : Nat) (i0a : Nat) (i0r : Nat) (mtape : Nat) (mnow : Nat) (mread : Nat) (mkept : Nat) (msnaps : Nat) (maside : Nat) (mname : Nat) (mreadName : Nat) (mkeptName : Nat) (misKept : Nat) (monces : Nat) (morder : Nat) (mordered : Nat) (mtext : Nat) (mline : Nat) (mwritten : Nat) (mnode : Nat) (i1 : Nat) (i1s : Nat) (i1a : Nat) (i1r : Nat) {A : Nat → Prop} (eA : A = fun q : Nat => s.heap.size ≤ q) {H : Heap} {locs : List Loc} {ls : Array Slot} (C0 : lw_At p s m meth c b 6 xs) (hw : Wd G s A [(qx, .inr (9, [.ref qt, .ref qs, .ref qd, .ref qa, .ref qb, .ref qh, .ref qr, .ref qe, .ref qp, .ref qf, .ref qn, .ref qi, .ref qo, .int 0, .int 0, .int (-1), .int (-1)])), (qi, eIm G 2 (va_up (va_up (fun _ => none) 0 (some i0)) 1 (some i1))), (i0, .inr (3, [.int 0, .ref i0s, .ref i0a, .ref i0r])), (qm, .inr (10, [.int 0, .ref mtape, .int 0, .int 0, .int 0, .int 0, .int 0, .int 0, .int 0, .int 0, .int 0, .int 0, .long 0, .int 0, .ref mnow, .ref mread, .ref mkept, .ref msnaps, .ref maside, .ref mname, .ref mreadName, .ref mkeptName, .ref misKept, .ref monces, .int 0, .ref morder, .ref mordered, .int 0, .int 0, .int 0, .int (-1), .int (-1), .ref mtext, .int 0, .int 0, .ref mline, .ref mwritten, .int 0, .int 0, .ref mnode, .int 0, .int 0, .int 0, .int 0])), (misKept, eZ G 2 (fun _ => 0)), (i1, .inr (3, [.int 0, .ref i1s, .ref i1a, .ref i1r]))] H locs) (hl : lv_has ls 7 [(4, .int 0), (3, .ref qz), (2, .ref qm), (1, .ref qx), (0, .ref b)]) : W p l e room_1 s m #[Value.ref b] below meth c H locs 147 5480 (lw_Z below #[Value.ref b] s) (F0 m 1355 ls []) := by
  subst eA
  obtain ⟨hx, hb, hr, hml, hown, hts, hX, hbl, hlocks, hgv⟩ := id C0
  have hbA : ¬ (fun q : Nat => s.heap.size ≤ q) b := Nat.not_le.mpr hbl
  have C : CallFix p m c code 7 s #[Value.ref b] gw "LanternStateLaw" := ⟨hx, hb, hml, hown, fun w h => hts w (gw_sub w h)⟩
  rcases x_three (xs 1) with h0 | h0 | ⟨h0, h1⟩
  · skip
    refine lv_aload_n C.1 C.2.1 dL_law_1355 rfl (lv_at hl 3 rfl) ?_
    refine lv_aload_n C.1 C.2.1 dL_law_1356 rfl (lv_at hl 4 rfl) ?_
    refine lv_iload C.1 C.2.1 dL_law_1357 (lv_at hl 0 rfl) ?_
    refine lv_iconst (v := 1) C.1 C.2.1 dL_law_1359 (by decide) ?_
    refine lv_iadd C.1 C.2.1 dL_law_1360 ?_
    refine x_topi (z := 1) (by decide) ?_
    refine va_sld C.1 C.2.1 hX hbl hbA hw.2.2.2.1 (i := 1) (x_in rfl) dL_law_1361 ?_
    refine x_topi (z := 0) h0 ?_
    refine x_calliV (As := [.int 0]) (rest := []) (wr := [(qm, .inr (10, [.int 0, .ref mtape, .int 0, .int 0, .int 0, .int 0, .int 0, .int 0, .int 0, .int 0, .int 0, .int 0, .long 0, .int 0, .ref mnow, .ref mread, .ref mkept, .ref msnaps, .ref maside, .ref mname, .ref mreadName, .ref mkeptName, .ref misKept, .ref monces, .int 0, .ref morder, .ref mordered, .int 0, .int 0, .int 0, .int (-1), .int (-1), .ref mtext, .int 0, .int 0, .ref mline, .ref mwritten, .int 0, .int 0, .ref mnode, .int 0, .int 0, .int 0, .int 0])), (misKept, eZ G 2 (fun _ => 0)), (i1, .inr (3, [.int 0, .ref i1s, .ref i1a, .ref i1r]))]) C hw (c_X10_restore__0 qx qt qs qd qa qb qh qr qe qp qf qn qi qo i0 i0s i0a i0r i1) mwX10_restore kw1082 [0, 1, 2] [3, 4, 5] rfl rfl rfl rfl (by decide) 0 rfl rfl rfl rfl hl.1 rfl (Nat.le_of_ble_eq_true rfl) ⟨(Nat.le_of_ble_eq_true rfl), (Nat.le_of_ble_eq_true rfl)⟩ ⟨(Nat.le_of_ble_eq_true rfl), (Nat.le_of_ble_eq_true rfl)⟩ dL_law_1362 (fun r1 u9 H locs hp9 hw => ?_)
    obtain ⟨rfl, rfl⟩ := hp9
    have hw : Wd G s (fun q : Nat => s.heap.size ≤ q) [(qm, .inr (10, [.int 0, .ref mtape, .int 0, .int 0, .int 0, .int 0, .int 0, .int 0, .int 0, .int 0, .int 0, .int 0, .long 0, .int 0, .ref mnow, .ref mread, .ref mkept, .ref msnaps, .ref maside, .ref mname, .ref mreadName, .ref mkeptName, .ref misKept, .ref monces, .int 0, .ref morder, .ref mordered, .int 0, .int 0, .int 0, .int (-1), .int (-1), .ref mtext, .int 0, .int 0, .ref mline, .ref mwritten, .int 0, .int 0, .ref mnode, .int 0, .int 0, .int 0, .int 0])), (misKept, eZ G 2 (fun _ => 0)), (i1, .inr (3, [.int 0, .ref i1s, .ref i1a, .ref i1r]))] H _ := hw
    refine lv_aload_n C.1 C.2.1 dL_law_1365 rfl (lv_at hl 2 rfl) ?_
    refine lv_aload_n C.1 C.2.1 dL_law_1366 rfl (lv_at hl 4 rfl) ?_
    refine lv_iload C.1 C.2.1 dL_law_1367 (lv_at hl 0 rfl) ?_
    refine lv_iconst (v := 1) C.1 C.2.1 dL_law_1369 (by decide) ?_
    refine lv_iadd C.1 C.2.1 dL_law_1370 ?_
    refine x_topi (z := 1) (by decide) ?_
    refine va_sld C.1 C.2.1 hX hbl hbA hw.2.2.2.1 (i := 1) (x_in rfl) dL_law_1371 ?_
    refine x_topi (z := 0) h0 ?_
    refine x_calliV (As := [.int 0]) (rest := [.int 0]) (wr := [(i1, .inr (3, [.int 0, .ref i1s, .ref i1a, .ref i1r]))]) C hw (c_X11_restore__0 qm mtape mnow mread mkept msnaps maside mname mreadName mkeptName misKept monces morder mordered mtext mline mwritten mnode) mwX11_restore kw1804 [0, 1] [2] rfl rfl rfl rfl (by decide) 0 rfl rfl rfl rfl hl.1 rfl (Nat.le_of_ble_eq_true rfl) ⟨(Nat.le_of_ble_eq_true rfl), (Nat.le_of_ble_eq_true rfl)⟩ ⟨(Nat.le_of_ble_eq_true rfl), (Nat.le_of_ble_eq_true rfl)⟩ dL_law_1372 (fun r2 u9 H locs hp9 hw => ?_)
    obtain ⟨rfl, rfl⟩ := hp9
    have hw : Wd G s (fun q : Nat => s.heap.size ≤ q) [(i1, .inr (3, [.int 0, .ref i1s, .ref i1a, .ref i1r]))] H _ := hw
    refine lv_icmp_eq (tgt := 1405) C.1 C.2.1 dL_law_1375 (by decide) (fun _ => ?_) (fun h9 => absurd (by decide) h9)
    refine lv_iinc (v := 6) (lv' := [(4, .int 6), (3, .ref qz), (2, .ref qm), (1, .ref qx), (0, .ref b)]) C.1 C.2.1 dL_law_1405 hl (k := 0) rfl (by decide) (by decide) rfl (fun ls hl => ?_)
    refine lv_goto (tgt := 23) C.1 C.2.1 dL_law_1408 (by decide) ?_
    exact law_tail C0 hw (Nat.le_of_ble_eq_true rfl) (Nat.le_of_ble_eq_true rfl) (lv_sub hl [0, 4] rfl)
  · skip
    refine lv_aload_n C.1 C.2.1 dL_law_1355 rfl (lv_at hl 3 rfl) ?_
    refine lv_aload_n C.1 C.2.1 dL_law_1356 rfl (lv_at hl 4 rfl) ?_
    refine lv_iload C.1 C.2.1 dL_law_1357 (lv_at hl 0 rfl) ?_
    refine lv_iconst (v := 1) C.1 C.2.1 dL_law_1359 (by decide) ?_
    refine lv_iadd C.1 C.2.1 dL_law_1360 ?_
    refine x_topi (z := 1) (by decide) ?_
    refine va_sld C.1 C.2.1 hX hbl hbA hw.2.2.2.1 (i := 1) (x_in rfl) dL_law_1361 ?_
    refine x_topi (z := 1) h0 ?_
    refine x_calliV (As := [.int 1]) (rest := []) (wr := [(i0, .inr (3, [.int 0, .ref i0s, .ref i0a, .ref i0r])), (qm, .inr (10, [.int 0, .ref mtape, .int 0, .int 0, .int 0, .int 0, .int 0, .int 0, .int 0, .int 0, .int 0, .int 0, .long 0, .int 0, .ref mnow, .ref mread, .ref mkept, .ref msnaps, .ref maside, .ref mname, .ref mreadName, .ref mkeptName, .ref misKept, .ref monces, .int 0, .ref morder, .ref mordered, .int 0, .int 0, .int 0, .int (-1), .int (-1), .ref mtext, .int 0, .int 0, .ref mline, .ref mwritten, .int 0, .int 0, .ref mnode, .int 0, .int 0, .int 0, .int 0])), (misKept, eZ G 2 (fun _ => 0))]) C hw (c_X10_restore__1 qx qt qs qd qa qb qh qr qe qp qf qn qi qo i1 i1s i1a i1r i0) mwX10_restore kw1082 [0, 1, 5] [2, 3, 4] rfl rfl rfl rfl (by decide) 0 rfl rfl rfl rfl hl.1 rfl (Nat.le_of_ble_eq_true rfl) ⟨(Nat.le_of_ble_eq_true rfl), (Nat.le_of_ble_eq_true rfl)⟩ ⟨(Nat.le_of_ble_eq_true rfl), (Nat.le_of_ble_eq_true rfl)⟩ dL_law_1362 (fun r1 u9 H locs hp9 hw => ?_)
    obtain ⟨rfl, rfl⟩ := hp9
    have hw : Wd G s (fun q : Nat => s.heap.size ≤ q) [(i0, .inr (3, [.int 0, .ref i0s, .ref i0a, .ref i0r])), (qm, .inr (10, [.int 0, .ref mtape, .int 0, .int 0, .int 0, .int 0, .int 0, .int 0, .int 0, .int 0, .int 0, .int 0, .long 0, .int 0, .ref mnow, .ref mread, .ref mkept, .ref msnaps, .ref maside, .ref mname, .ref mreadName, .ref mkeptName, .ref misKept, .ref monces, .int 0, .ref morder, .ref mordered, .int 0, .int 0, .int 0, .int (-1), .int (-1), .ref mtext, .int 0, .int 0, .ref mline, .ref mwritten, .int 0, .int 0, .ref mnode, .int 0, .int 0, .int 0, .int 0])), (misKept, eZ G 2 (fun _ => 0))] H _ := hw
    refine lv_aload_n C.1 C.2.1 dL_law_1365 rfl (lv_at hl 2 rfl) ?_
    refine lv_aload_n C.1 C.2.1 dL_law_1366 rfl (lv_at hl 4 rfl) ?_
    refine lv_iload C.1 C.2.1 dL_law_1367 (lv_at hl 0 rfl) ?_
    refine lv_iconst (v := 1) C.1 C.2.1 dL_law_1369 (by decide) ?_
    refine lv_iadd C.1 C.2.1 dL_law_1370 ?_
    refine x_topi (z := 1) (by decide) ?_
    refine va_sld C.1 C.2.1 hX hbl hbA hw.2.2.2.1 (i := 1) (x_in rfl) dL_law_1371 ?_
    refine x_topi (z := 1) h0 ?_
    refine x_calliV (As := [.int 1]) (rest := [.int 0]) (wr := [(i0, .inr (3, [.int 0, .ref i0s, .ref i0a, .ref i0r]))]) C hw (c_X11_restore__1 qm mtape mnow mread mkept msnaps maside mname mreadName mkeptName misKept monces morder mordered mtext mline mwritten mnode) mwX11_restore kw1804 [1, 2] [0] rfl rfl rfl rfl (by decide) 0 rfl rfl rfl rfl hl.1 rfl (Nat.le_of_ble_eq_true rfl) ⟨(Nat.le_of_ble_eq_true rfl), (Nat.le_of_ble_eq_true rfl)⟩ ⟨(Nat.le_of_ble_eq_true rfl), (Nat.le_of_ble_eq_true rfl)⟩ dL_law_1372 (fun r2 u9 H locs hp9 hw => ?_)
    obtain ⟨rfl, rfl⟩ := hp9
    have hw : Wd G s (fun q : Nat => s.heap.size ≤ q) [(i0, .inr (3, [.int 0, .ref i0s, .ref i0a, .ref i0r]))] H _ := hw
    refine lv_icmp_eq (tgt := 1405) C.1 C.2.1 dL_law_1375 (by decide) (fun _ => ?_) (fun h9 => absurd (by decide) h9)
    refine lv_iinc (v := 6) (lv' := [(4, .int 6), (3, .ref qz), (2, .ref qm), (1, .ref qx), (0, .ref b)]) C.1 C.2.1 dL_law_1405 hl (k := 0) rfl (by decide) (by decide) rfl (fun ls hl => ?_)
    refine lv_goto (tgt := 23) C.1 C.2.1 dL_law_1408 (by decide) ?_
    exact law_tail C0 hw (Nat.le_of_ble_eq_true rfl) (Nat.le_of_ble_eq_true rfl) (lv_sub hl [0, 4] rfl)
  · skip
    refine lv_aload_n C.1 C.2.1 dL_law_1355 rfl (lv_at hl 3 rfl) ?_
    refine lv_aload_n C.1 C.2.1 dL_law_1356 rfl (lv_at hl 4 rfl) ?_
    refine lv_iload C.1 C.2.1 dL_law_1357 (lv_at hl 0 rfl) ?_
    refine lv_iconst (v := 1) C.1 C.2.1 dL_law_1359 (by decide) ?_
    refine lv_iadd C.1 C.2.1 dL_law_1360 ?_
    refine x_topi (z := 1) (by decide) ?_
    refine va_sld C.1 C.2.1 hX hbl hbA hw.2.2.2.1 (i := 1) (x_in rfl) dL_law_1361 ?_
    refine x_topi (z := (xs 1)) rfl ?_
    refine x_calliV (As := [.int (xs 1)]) (rest := []) (wr := [(qi, eIm G 2 (va_up (va_up (fun _ => none) 0 (some i0)) 1 (some i1))), (i0, .inr (3, [.int 0, .ref i0s, .ref i0a, .ref i0r])), (qm, .inr (10, [.int 0, .ref mtape, .int 0, .int 0, .int 0, .int 0, .int 0, .int 0, .int 0, .int 0, .int 0, .int 0, .long 0, .int 0, .ref mnow, .ref mread, .ref mkept, .ref msnaps, .ref maside, .ref mname, .ref mreadName, .ref mkeptName, .ref misKept, .ref monces, .int 0, .ref morder, .ref mordered, .int 0, .int 0, .int 0, .int (-1), .int (-1), .ref mtext, .int 0, .int 0, .ref mline, .ref mwritten, .int 0, .int 0, .ref mnode, .int 0, .int 0, .int 0, .int 0])), (misKept, eZ G 2 (fun _ => 0)), (i1, .inr (3, [.int 0, .ref i1s, .ref i1a, .ref i1r]))]) C hw (c_X10_restore__N qx (xs 1) qt qs qd qa qb qh qr qe qp qf qn qi qo h0 h1) mwX10_restore kw1082 [0] [1, 2, 3, 4, 5] rfl rfl rfl rfl (by decide) 0 rfl rfl rfl rfl hl.1 rfl (Nat.le_of_ble_eq_true rfl) ⟨(Nat.le_of_ble_eq_true rfl), (Nat.le_of_ble_eq_true rfl)⟩ ⟨(Nat.le_of_ble_eq_true rfl), (Nat.le_of_ble_eq_true rfl)⟩ dL_law_1362 (fun r1 u9 H locs hp9 hw => ?_)
    obtain ⟨rfl, rfl⟩ := hp9
    have hw : Wd G s (fun q : Nat => s.heap.size ≤ q) [(qi, eIm G 2 (va_up (va_up (fun _ => none) 0 (some i0)) 1 (some i1))), (i0, .inr (3, [.int 0, .ref i0s, .ref i0a, .ref i0r])), (qm, .inr (10, [.int 0, .ref mtape, .int 0, .int 0, .int 0, .int 0, .int 0, .int 0, .int 0, .int 0, .int 0, .int 0, .long 0, .int 0, .ref mnow, .ref mread, .ref mkept, .ref msnaps, .ref maside, .ref mname, .ref mreadName, .ref mkeptName, .ref misKept, .ref monces, .int 0, .ref morder, .ref mordered, .int 0, .int 0, .int 0, .int (-1), .int (-1), .ref mtext, .int 0, .int 0, .ref mline, .ref mwritten, .int 0, .int 0, .ref mnode, .int 0, .int 0, .int 0, .int 0])), (misKept, eZ G 2 (fun _ => 0)), (i1, .inr (3, [.int 0, .ref i1s, .ref i1a, .ref i1r]))] H _ := hw
    refine lv_aload_n C.1 C.2.1 dL_law_1365 rfl (lv_at hl 2 rfl) ?_
    refine lv_aload_n C.1 C.2.1 dL_law_1366 rfl (lv_at hl 4 rfl) ?_
    refine lv_iload C.1 C.2.1 dL_law_1367 (lv_at hl 0 rfl) ?_
    refine lv_iconst (v := 1) C.1 C.2.1 dL_law_1369 (by decide) ?_
    refine lv_iadd C.1 C.2.1 dL_law_1370 ?_
    refine x_topi (z := 1) (by decide) ?_
    refine va_sld C.1 C.2.1 hX hbl hbA hw.2.2.2.1 (i := 1) (x_in rfl) dL_law_1371 ?_
    refine x_topi (z := (xs 1)) rfl ?_
    refine x_calliV (As := [.int (xs 1)]) (rest := [.int 0]) (wr := [(qi, eIm G 2 (va_up (va_up (fun _ => none) 0 (some i0)) 1 (some i1))), (i0, .inr (3, [.int 0, .ref i0s, .ref i0a, .ref i0r])), (misKept, eZ G 2 (fun _ => 0)), (i1, .inr (3, [.int 0, .ref i1s, .ref i1a, .ref i1r]))]) C hw (c_X11_restore__N qm (xs 1) mtape mnow mread mkept msnaps maside mname mreadName mkeptName misKept monces morder mordered mtext mline mwritten mnode (x_n01c h0 h1)) mwX11_restore kw1804 [2] [0, 1, 3, 4] rfl rfl rfl rfl (by decide) 0 rfl rfl rfl rfl hl.1 rfl (Nat.le_of_ble_eq_true rfl) ⟨(Nat.le_of_ble_eq_true rfl), (Nat.le_of_ble_eq_true rfl)⟩ ⟨(Nat.le_of_ble_eq_true rfl), (Nat.le_of_ble_eq_true rfl)⟩ dL_law_1372 (fun r2 u9 H locs hp9 hw => ?_)
    obtain ⟨rfl, rfl⟩ := hp9
    have hw : Wd G s (fun q : Nat => s.heap.size ≤ q) [(qi, eIm G 2 (va_up (va_up (fun _ => none) 0 (some i0)) 1 (some i1))), (i0, .inr (3, [.int 0, .ref i0s, .ref i0a, .ref i0r])), (misKept, eZ G 2 (fun _ => 0)), (i1, .inr (3, [.int 0, .ref i1s, .ref i1a, .ref i1r]))] H _ := hw
    refine lv_icmp_eq (tgt := 1405) C.1 C.2.1 dL_law_1375 (by decide) (fun _ => ?_) (fun h9 => absurd (by decide) h9)
    refine lv_iinc (v := 6) (lv' := [(4, .int 6), (3, .ref qz), (2, .ref qm), (1, .ref qx), (0, .ref b)]) C.1 C.2.1 dL_law_1405 hl (k := 0) rfl (by decide) (by decide) rfl (fun ls hl => ?_)
    refine lv_goto (tgt := 23) C.1 C.2.1 dL_law_1408 (by decide) ?_
    exact law_tail C0 hw (Nat.le_of_ble_eq_true rfl) (Nat.le_of_ble_eq_true rfl) (lv_sub hl [0, 4] rfl)
theorem dL_law_1380 : decode cL_law 1380 = .ok (.aload_n 1, 1) := by decide +kernel
theorem dL_law_1381 : decode cL_law 1381 = .ok (.aload_n 0, 1) := by decide +kernel
theorem dL_law_1382 : decode cL_law 1382 = .ok (.iload 4, 2) := by decide +kernel
theorem dL_law_1384 : decode cL_law 1384 = .ok (.iconst 1, 1) := by decide +kernel
theorem dL_law_1385 : decode cL_law 1385 = .ok (.iadd, 1) := by decide +kernel
theorem dL_law_1386 : decode cL_law 1386 = .ok (.iaload, 1) := by decide +kernel
theorem dL_law_1387 : decode cL_law 1387 = .ok (.invokevirtual 184, 3) := by decide +kernel
theorem mwX10_count : MwV yX10_count cX10_count 2 (some .int) 1 := ⟨⟨kw1089, kw1, by decide +kernel⟩, kw1087, kw1088⟩
theorem dL_law_1390 : decode cL_law 1390 = .ok (.aload_n 2, 1) := by decide +kernel
theorem dL_law_1391 : decode cL_law 1391 = .ok (.aload_n 0, 1) := by decide +kernel
theorem dL_law_1392 : decode cL_law 1392 = .ok (.iload 4, 2) := by decide +kernel
theorem dL_law_1394 : decode cL_law 1394 = .ok (.iconst 1, 1) := by decide +kernel
theorem dL_law_1395 : decode cL_law 1395 = .ok (.iadd, 1) := by decide +kernel
theorem dL_law_1396 : decode cL_law 1396 = .ok (.iaload, 1) := by decide +kernel
theorem dL_law_1397 : decode cL_law 1397 = .ok (.invokevirtual 187, 3) := by decide +kernel
theorem mwX11_count : MwV yX11_count cX11_count 2 (some .int) 1 := ⟨⟨kw1811, kw15, by decide +kernel⟩, kw1809, kw1810⟩
theorem dL_law_1400 : decode cL_law 1400 = .ok (.if_icmp .eq 5, 3) := by decide +kernel
set_option maxHeartbeats 4000000 in
set_option maxRecDepth 100000 in
theorem law_count {p : Program} {l : Launch} {e : Env} {s : State} {m : MethodId} {below : List Frame} {meth : Method} {c : Code} {G : Gc} {b : Nat} {xs : Nat → Int32} (hst : l.stackTraces = false) (qx : Nat) (qm : Nat) (qz : Nat) (qt : Nat) (qs : Nat) (qd : Nat) (qa : Nat) (qb : Nat) (qh : Nat) (qr : Nat) (qe : Nat) (qp : Nat) (qf : Nat) (qn : Nat) (qi : Nat) (qo : Nat) (sslideNames : Nat) (spictures : Nat) (sheats : Nat) (safter : Nat) (shearerNames : Nat) (sneeds : Nat) (slikes : Nat) (shates : Nat) (snear : Nat) (kc : Nat) (bys : Nat) (mtape : Nat) (mnow : Nat) (mread : Nat) (mkept : Nat) (msnaps : Nat) (maside : Nat) (mname : Nat) (mreadName : Nat) (mkeptName : Nat) (misKept : Nat) (monces : Nat) (morder : Nat) (mordered : Nat) (mtext : Nat) (mline : Nat) (mwritten : Nat) (mnode : Nat) {A : Nat → Prop} (eA : A = fun q : Nat => s.heap.size ≤ q) {H : Heap} {locs : List Loc} {ls : Array Slot} (C0 : lw_At p s m meth c b 6 xs) (hw : Wd G s A [(qx, .inr (9, [.ref qt, .ref qs, .ref qd, .ref qa, .ref qb, .ref qh, .ref qr, .ref qe, .ref qp, .ref qf, .ref qn, .ref qi, .ref qo, .int 0, .int 0, .int (-1), .int (-1)])), (qs, .inr (4, [.int 0, .int 0, .int 0, .int 0, .int 1, .int 0, .int 40, .int 0, .int 0, .ref sslideNames, .ref spictures, .ref sheats, .ref safter, .ref shearerNames, .ref sneeds, .ref slikes, .ref shates, .ref snear])), (qt, .inr (8, [.ref kc, .ref bys, .int 0, .int 0, .int 0, .int 0, .int 0, .int 0, .long 0, .int 0, .int 0, .int 0])), (qm, .inr (10, [.int 0, .ref mtape, .int 0, .int 0, .int 0, .int 0, .int 0, .int 0, .int 0, .int 0, .int 0, .int 0, .long 0, .int 0, .ref mnow, .ref mread, .ref mkept, .ref msnaps, .ref maside, .ref mname, .ref mreadName, .ref mkeptName, .ref misKept, .ref monces, .int 0, .ref morder, .ref mordered, .int 0, .int 0, .int 0, .int (-1), .int (-1), .ref mtext, .int 0, .int 0, .ref mline, .ref mwritten, .int 0, .int 0, .ref mnode, .int 0, .int 0, .int 0, .int 0])), (mnow, eI G 339 nw0)] H locs) (hl : lv_has ls 7 [(4, .int 0), (3, .ref qz), (2, .ref qm), (1, .ref qx), (0, .ref b)]) : W p l e room_1 s m #[Value.ref b] below meth c H locs 147 5480 (lw_Z below #[Value.ref b] s) (F0 m 1380 ls []) := by
  subst eA
  obtain ⟨hx, hb, hr, hml, hown, hts, hX, hbl, hlocks, hgv⟩ := id C0
  have hbA : ¬ (fun q : Nat => s.heap.size ≤ q) b := Nat.not_le.mpr hbl
  have C : CallFix p m c code 7 s #[Value.ref b] gw "LanternStateLaw" := ⟨hx, hb, hml, hown, fun w h => hts w (gw_sub w h)⟩
  refine lv_aload_n C.1 C.2.1 dL_law_1380 rfl (lv_at hl 3 rfl) ?_
  refine lv_aload_n C.1 C.2.1 dL_law_1381 rfl (lv_at hl 4 rfl) ?_
  refine lv_iload C.1 C.2.1 dL_law_1382 (lv_at hl 0 rfl) ?_
  refine lv_iconst (v := 1) C.1 C.2.1 dL_law_1384 (by decide) ?_
  refine lv_iadd C.1 C.2.1 dL_law_1385 ?_
  refine x_topi (z := 1) (by decide) ?_
  refine va_sld C.1 C.2.1 hX hbl hbA hw.2.2.2.1 (i := 1) (x_in rfl) dL_law_1386 ?_
  refine x_topi (z := (xs 1)) rfl ?_
  refine x_calliV (As := [.int (xs 1)]) (rest := []) (wr := [(qm, .inr (10, [.int 0, .ref mtape, .int 0, .int 0, .int 0, .int 0, .int 0, .int 0, .int 0, .int 0, .int 0, .int 0, .long 0, .int 0, .ref mnow, .ref mread, .ref mkept, .ref msnaps, .ref maside, .ref mname, .ref mreadName, .ref mkeptName, .ref misKept, .ref monces, .int 0, .ref morder, .ref mordered, .int 0, .int 0, .int 0, .int (-1), .int (-1), .ref mtext, .int 0, .int 0, .ref mline, .ref mwritten, .int 0, .int 0, .ref mnode, .int 0, .int 0, .int 0, .int 0])), (mnow, eI G 339 nw0)]) C hw (c_X10_count qx (xs 1) qt qs qd qa qb qh qr qe qp qf qn qi qo sslideNames spictures sheats safter shearerNames sneeds slikes shates snear kc bys) mwX10_count kw1086 [0, 1, 2] [3, 4] rfl rfl rfl rfl (by decide) 0 rfl rfl rfl rfl hl.1 rfl (Nat.le_of_ble_eq_true rfl) ⟨(Nat.le_of_ble_eq_true rfl), (Nat.le_of_ble_eq_true rfl)⟩ ⟨(Nat.le_of_ble_eq_true rfl), (Nat.le_of_ble_eq_true rfl)⟩ dL_law_1387 (fun r1 u9 H locs hp9 hw => ?_)
  obtain ⟨rfl, rfl⟩ := hp9
  have hw : Wd G s (fun q : Nat => s.heap.size ≤ q) [(qm, .inr (10, [.int 0, .ref mtape, .int 0, .int 0, .int 0, .int 0, .int 0, .int 0, .int 0, .int 0, .int 0, .int 0, .long 0, .int 0, .ref mnow, .ref mread, .ref mkept, .ref msnaps, .ref maside, .ref mname, .ref mreadName, .ref mkeptName, .ref misKept, .ref monces, .int 0, .ref morder, .ref mordered, .int 0, .int 0, .int 0, .int (-1), .int (-1), .ref mtext, .int 0, .int 0, .ref mline, .ref mwritten, .int 0, .int 0, .ref mnode, .int 0, .int 0, .int 0, .int 0])), (mnow, eI G 339 nw0), (qx, .inr (9, [.ref qt, .ref qs, .ref qd, .ref qa, .ref qb, .ref qh, .ref qr, .ref qe, .ref qp, .ref qf, .ref qn, .ref qi, .ref qo, .int 0, .int 0, .int (-1), .int (-1)])), (qs, .inr (4, [.int 0, .int 0, .int 0, .int 0, .int 1, .int 0, .int 40, .int 0, .int 0, .ref sslideNames, .ref spictures, .ref sheats, .ref safter, .ref shearerNames, .ref sneeds, .ref slikes, .ref shates, .ref snear])), (qt, .inr (8, [.ref kc, .ref bys, .int 0, .int 0, .int 0, .int 0, .int 0, .int 0, .long 0, .int 0, .int 0, .int 0]))] H _ := hw
  refine lv_aload_n C.1 C.2.1 dL_law_1390 rfl (lv_at hl 2 rfl) ?_
  refine lv_aload_n C.1 C.2.1 dL_law_1391 rfl (lv_at hl 4 rfl) ?_
  refine lv_iload C.1 C.2.1 dL_law_1392 (lv_at hl 0 rfl) ?_
  refine lv_iconst (v := 1) C.1 C.2.1 dL_law_1394 (by decide) ?_
  refine lv_iadd C.1 C.2.1 dL_law_1395 ?_
  refine x_topi (z := 1) (by decide) ?_
  refine va_sld C.1 C.2.1 hX hbl hbA hw.2.2.2.1 (i := 1) (x_in rfl) dL_law_1396 ?_
  refine x_topi (z := (xs 1)) rfl ?_
  refine x_calliV (As := [.int (xs 1)]) (rest := [.int (countF (xs 1))]) (wr := [(qx, .inr (9, [.ref qt, .ref qs, .ref qd, .ref qa, .ref qb, .ref qh, .ref qr, .ref qe, .ref qp, .ref qf, .ref qn, .ref qi, .ref qo, .int 0, .int 0, .int (-1), .int (-1)])), (qs, .inr (4, [.int 0, .int 0, .int 0, .int 0, .int 1, .int 0, .int 40, .int 0, .int 0, .ref sslideNames, .ref spictures, .ref sheats, .ref safter, .ref shearerNames, .ref sneeds, .ref slikes, .ref shates, .ref snear])), (qt, .inr (8, [.ref kc, .ref bys, .int 0, .int 0, .int 0, .int 0, .int 0, .int 0, .long 0, .int 0, .int 0, .int 0]))]) C hw (c_X11_count qm (xs 1) mtape mnow mread mkept msnaps maside mname mreadName mkeptName misKept monces morder mordered mtext mline mwritten mnode) mwX11_count kw1808 [0, 1] [2, 3, 4] rfl rfl rfl rfl (by decide) 0 rfl rfl rfl rfl hl.1 rfl (Nat.le_of_ble_eq_true rfl) ⟨(Nat.le_of_ble_eq_true rfl), (Nat.le_of_ble_eq_true rfl)⟩ ⟨(Nat.le_of_ble_eq_true rfl), (Nat.le_of_ble_eq_true rfl)⟩ dL_law_1397 (fun r2 u9 H locs hp9 hw => ?_)
  obtain ⟨rfl, rfl⟩ := hp9
  have hw : Wd G s (fun q : Nat => s.heap.size ≤ q) [(qx, .inr (9, [.ref qt, .ref qs, .ref qd, .ref qa, .ref qb, .ref qh, .ref qr, .ref qe, .ref qp, .ref qf, .ref qn, .ref qi, .ref qo, .int 0, .int 0, .int (-1), .int (-1)])), (qs, .inr (4, [.int 0, .int 0, .int 0, .int 0, .int 1, .int 0, .int 40, .int 0, .int 0, .ref sslideNames, .ref spictures, .ref sheats, .ref safter, .ref shearerNames, .ref sneeds, .ref slikes, .ref shates, .ref snear])), (qt, .inr (8, [.ref kc, .ref bys, .int 0, .int 0, .int 0, .int 0, .int 0, .int 0, .long 0, .int 0, .int 0, .int 0]))] H _ := hw
  refine lv_icmp_eq (tgt := 1405) C.1 C.2.1 dL_law_1400 (by decide) (fun _ => ?_) (fun h9 => absurd rfl h9)
  refine lv_iinc (v := 6) (lv' := [(4, .int 6), (3, .ref qz), (2, .ref qm), (1, .ref qx), (0, .ref b)]) C.1 C.2.1 dL_law_1405 hl (k := 0) rfl (by decide) (by decide) rfl (fun ls hl => ?_)
  refine lv_goto (tgt := 23) C.1 C.2.1 dL_law_1408 (by decide) ?_
  exact law_tail C0 hw (Nat.le_of_ble_eq_true rfl) (Nat.le_of_ble_eq_true rfl) (lv_sub hl [0, 4] rfl)
