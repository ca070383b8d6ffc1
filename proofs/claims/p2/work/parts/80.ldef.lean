-- needs: 5
/-! THE CLAIM OUT OF ONE WALK OF THE LAW'S BODY. Your part is whole_start (and what it stands on); all else here is the same for every law, but numbers. -/
def R_law : String := "LanternStateLaw"
def lw_P (b : Addr) (xs : List Int32) (args : Array Value) (s : State) : Prop := args = #[.ref b] ∧ s.IntsAt b xs ∧ xs.length ≤ 3072 ∧ (Jvm.Cond.and given_1 narrow_1).before args s = true
def lw_Q (_ : Array Value) (s : State) (o : Outcome) (t : State) : Prop := o = .returned (some (.int 1)) ∧ Framed s o t [] 601024 7293034
def lw_Z (below : List Frame) (a : Array Value) (s : State) : State → Prop := fun t => ∃ o, t.status = .running ∧ Ended t below o ∧ lw_Q a s o t
/-- the law's own end, with 1 on the stack, nothing written that was there before, its room as the claim has it -/
theorem lw_ret {p : Program} {l : Launch} {e : Env} {s : State} {m : MethodId} {below : List Frame} {meth : Method} {c : Code} {b : Nat} (hx : p.tables.exec = Jvm.exec) (hb : c.code = code) (hr : meth.sig.returnType = ret) (hlocks : meth.locks = false) {pc : Nat} {H : Heap} {ls : Array Slot} (hdg : decode code pc = .ok (.ireturn, 1)) : W p l e room_1 s m #[Value.ref b] below meth c H [] 601024 7293034 (lw_Z below #[Value.ref b] s) (F0 m pc ls [.int 1]) := by
  intro T hT X
  obtain ⟨fs, hret, hrun, hended, hW, hframe⟩ := X.leave (v := some (.int 1)) (hlocks := hlocks) (fun h => by rw [hr] at h; cases h)
  have hmeth' : T.vm.method? m = some meth := X.method'
  refine ⟨T.setFrames fs, ?_, .returned (some (.int 1)), hrun, hended, rfl, ⟨_, rfl⟩, hW, hframe⟩
  jvm_step X.here [X.here.top, hx, hb, hdg, hmeth', hr, ret, narrow_b1]
  (try refine ⟨rfl, ?_⟩); (try refine ⟨rfl, ?_⟩)
  first | (intro acts; rw [hret _ acts rfl rfl rfl]) | rw [hret _ _ rfl rfl rfl]
  exact Steps.refl _
/-- what holds at the law's entry: the machine, the code, the tables' words (any of lw_tbl by 'hts w (by decide +kernel)'), the script of L ints xs at the cell b, what the Statement gives of the start (any of its parts by flat_of_before) -/
def lw_At (p : Program) (s : State) (m : MethodId) (meth : Method) (c : Code) (b L : Nat) (xs : Nat → Int32) : Prop :=
  p.tables.exec = Jvm.exec ∧ c.code = code ∧ meth.sig.returnType = ret ∧ c.maxLocals = 7 ∧ s.vm.findClass R_law = some m.cls ∧ (∀ w ∈ lw_tbl, w.before #[Value.ref b] s = true) ∧ va_X b L xs s s.heap ∧ b < s.heap.size ∧ meth.locks = false ∧ (Jvm.Cond.and given_1 narrow_1).before #[Value.ref b] s = true
structure LPX where
  qx_i : Nat → Int32
  qx_n : Nat → Nat → Int32
  qt_i : Nat → Int32
  qt_l : Nat → Int64
  qt_n : Nat → Nat → Int32
  qt_j : Nat → Nat → Int64
  qs_i : Nat → Int32
  qs_n : Nat → Nat → Int32
  qs_j : Nat → Nat → Int64
  qd_i : Nat → Int32
  qd_n : Nat → Nat → Int32
  qd_j : Nat → Nat → Int64
  qa_i : Nat → Int32
  qa_n : Nat → Nat → Int32
  qb_i : Nat → Int32
  qb_n : Nat → Nat → Int32
  qh_i : Nat → Int32
  qr_i : Nat → Int32
  qr_n : Nat → Nat → Int32
  qe_i : Nat → Int32
  qe_n : Nat → Nat → Int32
  qp_i : Nat → Int32
  qp_n : Nat → Nat → Int32
  qf_i : Nat → Int32
  qf_n : Nat → Nat → Int32
  qn_i : Nat → Int32
  qn_n : Nat → Nat → Int32
  i0_i : Nat → Int32
  i0s_i : Nat → Int32
  i0s_n : Nat → Nat → Int32
  i0s_j : Nat → Nat → Int64
  i0a_i : Nat → Int32
  i0a_n : Nat → Nat → Int32
  i0r_i : Nat → Int32
  i0r_n : Nat → Nat → Int32
  i1_i : Nat → Int32
  i1s_i : Nat → Int32
  i1s_n : Nat → Nat → Int32
  i1s_j : Nat → Nat → Int64
  i1a_i : Nat → Int32
  i1a_n : Nat → Nat → Int32
  i1r_i : Nat → Int32
  i1r_n : Nat → Nat → Int32
  hi : Nat → Nat → Int32
  hn : Nat → Nat → Nat → Int32
structure LPM where
  qm_i : Nat → Int32
  qm_l : Nat → Int64
  qm_n : Nat → Nat → Int32
  qm_j : Nat → Nat → Int64
def updF {α : Type} (f : Nat → α) (i : Nat) (v : α) : Nat → α := fun j => if j = i then v else f j
theorem updF_all {α : Type} {f : Nat → α} {Q : α → Prop} {i : Nat} {v : α} (h : ∀ k, k < 8 → Q (f k)) (hv : Q v) : ∀ k, k < 8 → Q (updF f i v k) := by
  intro k hk
  unfold updF
  split
  · exact hv
  · exact h k hk
structure LIX (P : LPX) : Prop where
  q_P_qx_i_13_P_qx_i_13 : 0 ≤ (P.qx_i 13).toInt ∧ (P.qx_i 13).toInt ≤ 1
  q_P_qt_i_2_P_qt_i_2 : 0 ≤ (P.qt_i 2).toInt ∧ (P.qt_i 2).toInt ≤ 940
  q_P_qs_i_0_P_qs_i_0 : 0 ≤ (P.qs_i 0).toInt ∧ (P.qs_i 0).toInt ≤ 6
  q_P_qs_i_1_P_qs_i_1 : 0 ≤ (P.qs_i 1).toInt ∧ (P.qs_i 1).toInt ≤ 8
  q_inA_6_1_5_P_qs_n_12 : inA 6 (-1) 5 (P.qs_n 12)
  q_P_qd_i_0_P_qd_i_0 : 0 ≤ (P.qd_i 0).toInt ∧ (P.qd_i 0).toInt ≤ 6
  q_P_qd_i_1_P_qd_i_1 : 0 ≤ (P.qd_i 1).toInt ∧ (P.qd_i 1).toInt ≤ 8
  q_inA_6_1_5_P_qd_n_12 : inA 6 (-1) 5 (P.qd_n 12)
  q_P_qa_i_2_P_qa_i_2 : 0 ≤ (P.qa_i 2).toInt ∧ (P.qa_i 2).toInt ≤ 1
  q_P_qb_i_2_P_qb_i_2 : 0 ≤ (P.qb_i 2).toInt ∧ (P.qb_i 2).toInt ≤ 1
  q_P_qh_i_1_P_qh_i_1 : 0 ≤ (P.qh_i 1).toInt ∧ (P.qh_i 1).toInt ≤ 7
  q_P_qh_i_2_P_qh_i_2 : 0 ≤ (P.qh_i 2).toInt ∧ (P.qh_i 2).toInt ≤ 8
  q_P_qr_i_0_P_qr_i_0 : 0 ≤ (P.qr_i 0).toInt ∧ (P.qr_i 0).toInt ≤ 1
  q_seI_P_qr_n_3_P_qr_n_5 : seI (P.qr_n 3) (P.qr_n 5)
  q_P_qe_i_0_P_qe_i_0 : 0 ≤ (P.qe_i 0).toInt ∧ (P.qe_i 0).toInt ≤ 1
  q_seI_P_qe_n_3_P_qe_n_5 : seI (P.qe_n 3) (P.qe_n 5)
  q_bkI_P_qp_n_0_P_qp_n_1_P_qp_n_2 : bkI (P.qp_n 0) (P.qp_n 1) (P.qp_n 2)
  q_P_qf_i_1_P_qf_i_1 : 0 ≤ (P.qf_i 1).toInt ∧ (P.qf_i 1).toInt ≤ 6
  q_P_qn_i_1_P_qn_i_1 : 0 ≤ (P.qn_i 1).toInt ∧ (P.qn_i 1).toInt ≤ 40
  q_P_i0_i_0_P_i0_i_0 : 0 ≤ (P.i0_i 0).toInt ∧ (P.i0_i 0).toInt ≤ 1
  q_P_i0s_i_0_P_i0s_i_0 : 0 ≤ (P.i0s_i 0).toInt ∧ (P.i0s_i 0).toInt ≤ 6
  q_P_i0s_i_1_P_i0s_i_1 : 0 ≤ (P.i0s_i 1).toInt ∧ (P.i0s_i 1).toInt ≤ 8
  q_inA_6_1_5_P_i0s_n_12 : inA 6 (-1) 5 (P.i0s_n 12)
  q_P_i0a_i_2_P_i0a_i_2 : 0 ≤ (P.i0a_i 2).toInt ∧ (P.i0a_i 2).toInt ≤ 1
  q_P_i0r_i_0_P_i0r_i_0 : 0 ≤ (P.i0r_i 0).toInt ∧ (P.i0r_i 0).toInt ≤ 1
  q_seI_P_i0r_n_3_P_i0r_n_5 : seI (P.i0r_n 3) (P.i0r_n 5)
  q_P_i1_i_0_P_i1_i_0 : 0 ≤ (P.i1_i 0).toInt ∧ (P.i1_i 0).toInt ≤ 1
  q_P_i1s_i_0_P_i1s_i_0 : 0 ≤ (P.i1s_i 0).toInt ∧ (P.i1s_i 0).toInt ≤ 6
  q_P_i1s_i_1_P_i1s_i_1 : 0 ≤ (P.i1s_i 1).toInt ∧ (P.i1s_i 1).toInt ≤ 8
  q_inA_6_1_5_P_i1s_n_12 : inA 6 (-1) 5 (P.i1s_n 12)
  q_P_i1a_i_2_P_i1a_i_2 : 0 ≤ (P.i1a_i 2).toInt ∧ (P.i1a_i 2).toInt ≤ 1
  q_P_i1r_i_0_P_i1r_i_0 : 0 ≤ (P.i1r_i 0).toInt ∧ (P.i1r_i 0).toInt ≤ 1
  q_seI_P_i1r_n_3_P_i1r_n_5 : seI (P.i1r_n 3) (P.i1r_n 5)
  q_hi : ∀ k, k < 8 → 0 ≤ (P.hi k 2).toInt ∧ (P.hi k 2).toInt ≤ 1
structure LIM (M : LPM) : Prop where
  q_M_qm_i_2_M_qm_i_2 : 0 ≤ (M.qm_i 2).toInt ∧ (M.qm_i 2).toInt ≤ 940
  q_M_qm_i_3_M_qm_i_3 : 0 ≤ (M.qm_i 3).toInt ∧ (M.qm_i 3).toInt ≤ 940
  q_M_qm_i_5_M_qm_i_5 : 0 ≤ (M.qm_i 5).toInt ∧ (M.qm_i 5).toInt ≤ 940
  q_slI_M_qm_n_14 : slI (M.qm_n 14)
  q_trI_M_qm_n_14 : trI (M.qm_n 14)
  q_slI_M_qm_n_15 : slI (M.qm_n 15)
  q_kpI_M_qm_n_16 : kpI (M.qm_n 16)
  q_M_qm_i_24_M_qm_i_24 : 0 ≤ (M.qm_i 24).toInt ∧ (M.qm_i 24).toInt ≤ 8
  q_M_qm_i_27_M_qm_i_27 : 0 ≤ (M.qm_i 27).toInt ∧ (M.qm_i 27).toInt ≤ 6
  q_M_qm_i_33_M_qm_i_33 : 0 ≤ (M.qm_i 33).toInt ∧ (M.qm_i 33).toInt ≤ 64
  q_lnI_M_qm_n_35 : lnI (M.qm_n 35)
  q_M_qm_i_37_M_qm_i_37 : 0 ≤ (M.qm_i 37).toInt ∧ (M.qm_i 37).toInt ≤ 40
  q_M_qm_i_38_M_qm_i_38 : 0 ≤ (M.qm_i 38).toInt ∧ (M.qm_i 38).toInt ≤ 1
  q_ndI_M_qm_n_39 : ndI (M.qm_n 39)
  q_M_qm_i_40_M_qm_i_40 : 0 ≤ (M.qm_i 40).toInt ∧ (M.qm_i 40).toInt ≤ 40
  q_M_qm_i_41_M_qm_i_41 : 0 ≤ (M.qm_i 41).toInt ∧ (M.qm_i 41).toInt ≤ 20
  q_M_qm_i_42_M_qm_i_42 : 0 ≤ (M.qm_i 42).toInt ∧ (M.qm_i 42).toInt ≤ 8
structure LRL (P : LPX) (M : LPM) : Prop where
  r_tape : (P.qt_i 2).toInt = (M.qm_i 2).toInt
  r_k0 : (P.i0_i 0).toInt = (M.qm_n 22 0).toInt
  r_k1 : (P.i1_i 0).toInt = (M.qm_n 22 1).toInt
abbrev LX (G : Gc) (qx : Nat) (ax : Nat → Nat) (hf : Nat → Option Nat) (P : LPX) : va_W := [(qx, .inr (9, [.ref (ax 0), .ref (ax 3), .ref (ax 13), .ref (ax 23), .ref (ax 27), .ref (ax 31), .ref (ax 65), .ref (ax 70), .ref (ax 75), .ref (ax 80), .ref (ax 83), .ref (ax 85), .ref (ax 86), .int (P.qx_i 13), .int (P.qx_i 14), .int (P.qx_i 15), .int (P.qx_i 16)])), ((ax 0), .inr (8, [.ref (ax 1), .ref (ax 2), .int (P.qt_i 2), .int (P.qt_i 3), .int (P.qt_i 4), .int (P.qt_i 5), .int (P.qt_i 6), .int (P.qt_i 7), .long (P.qt_l 8), .int (P.qt_i 9), .int (P.qt_i 10), .int (P.qt_i 11)])), ((ax 1), eJ G 27 (P.qt_j 0)), ((ax 2), eB G 940 (P.qt_n 1)), ((ax 3), .inr (4, [.int (P.qs_i 0), .int (P.qs_i 1), .int (P.qs_i 2), .int (P.qs_i 3), .int (P.qs_i 4), .int (P.qs_i 5), .int (P.qs_i 6), .int (P.qs_i 7), .int (P.qs_i 8), .ref (ax 4), .ref (ax 5), .ref (ax 6), .ref (ax 7), .ref (ax 8), .ref (ax 9), .ref (ax 10), .ref (ax 11), .ref (ax 12)])), ((ax 4), eJ G 6 (P.qs_j 9)), ((ax 5), eI G 6 (P.qs_n 10)), ((ax 6), eI G 6 (P.qs_n 11)), ((ax 7), eI G 6 (P.qs_n 12)), ((ax 8), eJ G 8 (P.qs_j 13)), ((ax 9), eI G 8 (P.qs_n 14)), ((ax 10), eI G 8 (P.qs_n 15)), ((ax 11), eI G 8 (P.qs_n 16)), ((ax 12), eI G 8 (P.qs_n 17)), ((ax 13), .inr (4, [.int (P.qd_i 0), .int (P.qd_i 1), .int (P.qd_i 2), .int (P.qd_i 3), .int (P.qd_i 4), .int (P.qd_i 5), .int (P.qd_i 6), .int (P.qd_i 7), .int (P.qd_i 8), .ref (ax 14), .ref (ax 15), .ref (ax 16), .ref (ax 17), .ref (ax 18), .ref (ax 19), .ref (ax 20), .ref (ax 21), .ref (ax 22)])), ((ax 14), eJ G 6 (P.qd_j 9)), ((ax 15), eI G 6 (P.qd_n 10)), ((ax 16), eI G 6 (P.qd_n 11)), ((ax 17), eI G 6 (P.qd_n 12)), ((ax 18), eJ G 8 (P.qd_j 13)), ((ax 19), eI G 8 (P.qd_n 14)), ((ax 20), eI G 8 (P.qd_n 15)), ((ax 21), eI G 8 (P.qd_n 16)), ((ax 22), eI G 8 (P.qd_n 17)), ((ax 23), .inr (7, [.int (P.qa_i 0), .int (P.qa_i 1), .int (P.qa_i 2), .int (P.qa_i 3), .int (P.qa_i 4), .int (P.qa_i 5), .int (P.qa_i 6), .int (P.qa_i 7), .ref (ax 24), .ref (ax 25), .ref (ax 26)])), ((ax 24), eI G 6 (P.qa_n 8)), ((ax 25), eI G 6 (P.qa_n 9)), ((ax 26), eI G 8 (P.qa_n 10)), ((ax 27), .inr (7, [.int (P.qb_i 0), .int (P.qb_i 1), .int (P.qb_i 2), .int (P.qb_i 3), .int (P.qb_i 4), .int (P.qb_i 5), .int (P.qb_i 6), .int (P.qb_i 7), .ref (ax 28), .ref (ax 29), .ref (ax 30)])), ((ax 28), eI G 6 (P.qb_n 8)), ((ax 29), eI G 6 (P.qb_n 9)), ((ax 30), eI G 8 (P.qb_n 10)), ((ax 31), .inr (2, [.ref (ax 32), .int (P.qh_i 1), .int (P.qh_i 2)])), ((ax 32), eSt G 8 hf), ((ax 65), .inr (6, [.int (P.qr_i 0), .int (P.qr_i 1), .int (P.qr_i 2), .ref (ax 66), .ref (ax 67), .ref (ax 68), .ref (ax 69)])), ((ax 66), eI G 40 (P.qr_n 3)), ((ax 67), eI G 40 (P.qr_n 4)), ((ax 68), eI G 40 (P.qr_n 5)), ((ax 69), eI G 40 (P.qr_n 6)), ((ax 70), .inr (6, [.int (P.qe_i 0), .int (P.qe_i 1), .int (P.qe_i 2), .ref (ax 71), .ref (ax 72), .ref (ax 73), .ref (ax 74)])), ((ax 71), eI G 40 (P.qe_n 3)), ((ax 72), eI G 40 (P.qe_n 4)), ((ax 73), eI G 40 (P.qe_n 5)), ((ax 74), eI G 40 (P.qe_n 6)), ((ax 75), .inr (1, [.ref (ax 76), .ref (ax 77), .ref (ax 78), .ref (ax 79), .int (P.qp_i 4), .int (P.qp_i 5)])), ((ax 76), eI G 40 (P.qp_n 0)), ((ax 77), eI G 40 (P.qp_n 1)), ((ax 78), eI G 40 (P.qp_n 2)), ((ax 79), eI G 40 (P.qp_n 3)), ((ax 80), .inr (5, [.ref (ax 81), .int (P.qf_i 1), .int (P.qf_i 2), .ref (ax 82), .int (P.qf_i 4), .int (P.qf_i 5), .int (P.qf_i 6)])), ((ax 81), eI G 6 (P.qf_n 0)), ((ax 82), eI G 6 (P.qf_n 3)), ((ax 83), .inr (0, [.ref (ax 84), .int (P.qn_i 1)])), ((ax 84), eC G 40 (P.qn_n 0)), ((ax 85), eIm G 2 (va_up (va_up (fun _ => none) 0 (some (ax 87))) 1 (some (ax 107)))), ((ax 86), eI G 4 (P.qx_n 12)), ((ax 87), .inr (3, [.int (P.i0_i 0), .ref (ax 88), .ref (ax 98), .ref (ax 102)])), ((ax 88), .inr (4, [.int (P.i0s_i 0), .int (P.i0s_i 1), .int (P.i0s_i 2), .int (P.i0s_i 3), .int (P.i0s_i 4), .int (P.i0s_i 5), .int (P.i0s_i 6), .int (P.i0s_i 7), .int (P.i0s_i 8), .ref (ax 89), .ref (ax 90), .ref (ax 91), .ref (ax 92), .ref (ax 93), .ref (ax 94), .ref (ax 95), .ref (ax 96), .ref (ax 97)])), ((ax 89), eJ G 6 (P.i0s_j 9)), ((ax 90), eI G 6 (P.i0s_n 10)), ((ax 91), eI G 6 (P.i0s_n 11)), ((ax 92), eI G 6 (P.i0s_n 12)), ((ax 93), eJ G 8 (P.i0s_j 13)), ((ax 94), eI G 8 (P.i0s_n 14)), ((ax 95), eI G 8 (P.i0s_n 15)), ((ax 96), eI G 8 (P.i0s_n 16)), ((ax 97), eI G 8 (P.i0s_n 17)), ((ax 98), .inr (7, [.int (P.i0a_i 0), .int (P.i0a_i 1), .int (P.i0a_i 2), .int (P.i0a_i 3), .int (P.i0a_i 4), .int (P.i0a_i 5), .int (P.i0a_i 6), .int (P.i0a_i 7), .ref (ax 99), .ref (ax 100), .ref (ax 101)])), ((ax 99), eI G 6 (P.i0a_n 8)), ((ax 100), eI G 6 (P.i0a_n 9)), ((ax 101), eI G 8 (P.i0a_n 10)), ((ax 102), .inr (6, [.int (P.i0r_i 0), .int (P.i0r_i 1), .int (P.i0r_i 2), .ref (ax 103), .ref (ax 104), .ref (ax 105), .ref (ax 106)])), ((ax 103), eI G 40 (P.i0r_n 3)), ((ax 104), eI G 40 (P.i0r_n 4)), ((ax 105), eI G 40 (P.i0r_n 5)), ((ax 106), eI G 40 (P.i0r_n 6)), ((ax 107), .inr (3, [.int (P.i1_i 0), .ref (ax 108), .ref (ax 118), .ref (ax 122)])), ((ax 108), .inr (4, [.int (P.i1s_i 0), .int (P.i1s_i 1), .int (P.i1s_i 2), .int (P.i1s_i 3), .int (P.i1s_i 4), .int (P.i1s_i 5), .int (P.i1s_i 6), .int (P.i1s_i 7), .int (P.i1s_i 8), .ref (ax 109), .ref (ax 110), .ref (ax 111), .ref (ax 112), .ref (ax 113), .ref (ax 114), .ref (ax 115), .ref (ax 116), .ref (ax 117)])), ((ax 109), eJ G 6 (P.i1s_j 9)), ((ax 110), eI G 6 (P.i1s_n 10)), ((ax 111), eI G 6 (P.i1s_n 11)), ((ax 112), eI G 6 (P.i1s_n 12)), ((ax 113), eJ G 8 (P.i1s_j 13)), ((ax 114), eI G 8 (P.i1s_n 14)), ((ax 115), eI G 8 (P.i1s_n 15)), ((ax 116), eI G 8 (P.i1s_n 16)), ((ax 117), eI G 8 (P.i1s_n 17)), ((ax 118), .inr (7, [.int (P.i1a_i 0), .int (P.i1a_i 1), .int (P.i1a_i 2), .int (P.i1a_i 3), .int (P.i1a_i 4), .int (P.i1a_i 5), .int (P.i1a_i 6), .int (P.i1a_i 7), .ref (ax 119), .ref (ax 120), .ref (ax 121)])), ((ax 119), eI G 6 (P.i1a_n 8)), ((ax 120), eI G 6 (P.i1a_n 9)), ((ax 121), eI G 8 (P.i1a_n 10)), ((ax 122), .inr (6, [.int (P.i1r_i 0), .int (P.i1r_i 1), .int (P.i1r_i 2), .ref (ax 123), .ref (ax 124), .ref (ax 125), .ref (ax 126)])), ((ax 123), eI G 40 (P.i1r_n 3)), ((ax 124), eI G 40 (P.i1r_n 4)), ((ax 125), eI G 40 (P.i1r_n 5)), ((ax 126), eI G 40 (P.i1r_n 6))]
abbrev LM (G : Gc) (qm : Nat) (am : Nat → Nat) (M : LPM) : va_W := [(qm, .inr (10, [.int (M.qm_i 0), .ref (am 0), .int (M.qm_i 2), .int (M.qm_i 3), .int (M.qm_i 4), .int (M.qm_i 5), .int (M.qm_i 6), .int (M.qm_i 7), .int (M.qm_i 8), .int (M.qm_i 9), .int (M.qm_i 10), .int (M.qm_i 11), .long (M.qm_l 12), .int (M.qm_i 13), .ref (am 1), .ref (am 2), .ref (am 3), .ref (am 4), .ref (am 5), .ref (am 6), .ref (am 7), .ref (am 8), .ref (am 9), .ref (am 10), .int (M.qm_i 24), .ref (am 11), .ref (am 12), .int (M.qm_i 27), .int (M.qm_i 28), .int (M.qm_i 29), .int (M.qm_i 30), .int (M.qm_i 31), .ref (am 13), .int (M.qm_i 33), .int (M.qm_i 34), .ref (am 14), .ref (am 15), .int (M.qm_i 37), .int (M.qm_i 38), .ref (am 16), .int (M.qm_i 40), .int (M.qm_i 41), .int (M.qm_i 42), .int (M.qm_i 43)])), ((am 0), eI G 940 (M.qm_n 1)), ((am 1), eI G 339 (M.qm_n 14)), ((am 2), eI G 64 (M.qm_n 15)), ((am 3), eI G 678 (M.qm_n 16)), ((am 4), eI G 264 (M.qm_n 17)), ((am 5), eI G 33 (M.qm_n 18)), ((am 6), eJ G 14 (M.qm_j 19)), ((am 7), eJ G 14 (M.qm_j 20)), ((am 8), eJ G 28 (M.qm_j 21)), ((am 9), eZ G 2 (M.qm_n 22)), ((am 10), eZ G 3 (M.qm_n 23)), ((am 11), eI G 6 (M.qm_n 25)), ((am 12), eI G 6 (M.qm_n 26)), ((am 13), eI G 64 (M.qm_n 32)), ((am 14), eI G 120 (M.qm_n 35)), ((am 15), eI G 4 (M.qm_n 36)), ((am 16), eI G 240 (M.qm_n 39))]
abbrev hsc (G : Gc) (ax : Nat → Nat) (k : Nat) (i : Nat → Int32) (n : Nat → Nat → Int32) : va_W := [((ax (33 + 4 * k)), .inr (7, [.int (i 0), .int (i 1), .int (i 2), .int (i 3), .int (i 4), .int (i 5), .int (i 6), .int (i 7), .ref (ax (33 + 4 * k + 1)), .ref (ax (33 + 4 * k + 2)), .ref (ax (33 + 4 * k + 3))])), ((ax (33 + 4 * k + 1)), eI G 6 (n 8)), ((ax (33 + 4 * k + 2)), eI G 6 (n 9)), ((ax (33 + 4 * k + 3)), eI G 8 (n 10))]
abbrev LH8 (G : Gc) (ax : Nat → Nat) (i : Nat → Nat → Int32) (n : Nat → Nat → Nat → Int32) : va_W := hsc G ax 0 (i 0) (n 0) ++ (hsc G ax 1 (i 1) (n 1) ++ (hsc G ax 2 (i 2) (n 2) ++ (hsc G ax 3 (i 3) (n 3) ++ (hsc G ax 4 (i 4) (n 4) ++ (hsc G ax 5 (i 5) (n 5) ++ (hsc G ax 6 (i 6) (n 6) ++ (hsc G ax 7 (i 7) (n 7))))))))
def sk (k j : Nat) : Nat := if j < k then j else j + 1
abbrev hoth (G : Gc) (ax : Nat → Nat) (i : Nat → Nat → Int32) (n : Nat → Nat → Nat → Int32) (k : Nat) : va_W := hsc G ax (sk k 0) (i (sk k 0)) (n (sk k 0)) ++ (hsc G ax (sk k 1) (i (sk k 1)) (n (sk k 1)) ++ (hsc G ax (sk k 2) (i (sk k 2)) (n (sk k 2)) ++ (hsc G ax (sk k 3) (i (sk k 3)) (n (sk k 3)) ++ (hsc G ax (sk k 4) (i (sk k 4)) (n (sk k 4)) ++ (hsc G ax (sk k 5) (i (sk k 5)) (n (sk k 5)) ++ (hsc G ax (sk k 6) (i (sk k 6)) (n (sk k 6))))))))
abbrev LW0 (G : Gc) (qx qm qz : Nat) (ax am : Nat → Nat) (hf : Nat → Option Nat) (P : LPX) (M : LPM) (z : Nat → Int64) : va_W := LX G qx ax hf P ++ (LM G qm am M ++ [(qz, eJ G 1 z)])
abbrev LW (G : Gc) (qx qm qz : Nat) (ax am : Nat → Nat) (hf : Nat → Option Nat) (P : LPX) (M : LPM) (z : Nat → Int64) : va_W := LW0 G qx qm qz ax am hf P M z ++ LH8 G ax P.hi P.hn
theorem Wd.perm {G : Gc} {s : State} {A : Nat → Prop} {w w' : va_W} {H : Heap} {locs : List Loc} (h : Wd G s A w H locs) (hp : w.Perm w') : Wd G s A w' H locs := by
  obtain ⟨hK, hP, hD, hS, hA, hE⟩ := h
  have up : ∀ (k : Nat) (q : Nat × va_E), w'[k]? = some q → ∃ k', w[k']? = some q := fun k q hk => List.getElem?_of_mem (hp.mem_iff.mpr (List.mem_of_getElem? hk))
  have hpw : w.Pairwise (fun p q => p.1 ≠ q.1) := List.pairwise_iff_getElem.mpr (fun i j hi hj hij he => absurd (hD.1 i j _ _ (List.getElem?_eq_getElem hi) (List.getElem?_eq_getElem hj) he) (Nat.ne_of_lt hij))
  have hpw' : w'.Pairwise (fun p q => p.1 ≠ q.1) := (hp.pairwise_iff (fun h => Ne.symm h)).mp hpw
  refine ⟨hK, ?_, ⟨?_, ?_⟩, hS, hA, hE⟩
  · intro k q hk
    obtain ⟨k', hk'⟩ := up k q hk
    exact hP k' q hk'
  · intro i j p q hi hj he
    obtain ⟨hi', rfl⟩ := List.getElem?_eq_some_iff.mp hi
    obtain ⟨hj', rfl⟩ := List.getElem?_eq_some_iff.mp hj
    rcases Nat.lt_trichotomy i j with h | h | h
    · exact absurd he (List.pairwise_iff_getElem.mp hpw' i j hi' hj' h)
    · exact h
    · exact absurd he.symm (List.pairwise_iff_getElem.mp hpw' j i hj' hi' h)
  · intro k q hk
    obtain ⟨k', hk'⟩ := up k q hk
    exact hD.2 k' q hk'
theorem x_three (a : Int32) : a = 0 ∨ a = 1 ∨ (¬ a = 0 ∧ ¬ a = 1) := by
  by_cases h0 : a = 0
  · exact Or.inl h0
  · by_cases h1 : a = 1
    · exact Or.inr (Or.inl h1)
    · exact Or.inr (Or.inr ⟨h0, h1⟩)
theorem x_out01 {a : Int32} (h0 : ¬ a = 0) (h1 : ¬ a = 1) : a.toInt < 0 ∨ 1 < a.toInt := by
  have e0 : a.toInt ≠ 0 := fun h => h0 (Int32.toInt_inj.mp (by rw [h]; rfl))
  have e1 : a.toInt ≠ 1 := fun h => h1 (Int32.toInt_inj.mp (by rw [h]; rfl))
  omega
set_option maxHeartbeats 4000000 in
theorem hist_perm (G : Gc) (ax : Nat → Nat) (i : Nat → Nat → Int32) (n : Nat → Nat → Nat → Int32) (k : Nat) (hk : k < 8) : (LH8 G ax i n).Perm (hsc G ax k (i k) (n k) ++ hoth G ax i n k) := by
  match k, hk with
  | 0, _ => exact List.perm_append_comm_assoc ([]) (hsc G ax 0 (i 0) (n 0)) (hsc G ax 1 (i 1) (n 1) ++ (hsc G ax 2 (i 2) (n 2) ++ (hsc G ax 3 (i 3) (n 3) ++ (hsc G ax 4 (i 4) (n 4) ++ (hsc G ax 5 (i 5) (n 5) ++ (hsc G ax 6 (i 6) (n 6) ++ (hsc G ax 7 (i 7) (n 7))))))))
  | 1, _ => exact List.perm_append_comm_assoc (hsc G ax 0 (i 0) (n 0)) (hsc G ax 1 (i 1) (n 1)) (hsc G ax 2 (i 2) (n 2) ++ (hsc G ax 3 (i 3) (n 3) ++ (hsc G ax 4 (i 4) (n 4) ++ (hsc G ax 5 (i 5) (n 5) ++ (hsc G ax 6 (i 6) (n 6) ++ (hsc G ax 7 (i 7) (n 7)))))))
  | 2, _ => exact List.perm_append_comm_assoc (hsc G ax 0 (i 0) (n 0) ++ (hsc G ax 1 (i 1) (n 1))) (hsc G ax 2 (i 2) (n 2)) (hsc G ax 3 (i 3) (n 3) ++ (hsc G ax 4 (i 4) (n 4) ++ (hsc G ax 5 (i 5) (n 5) ++ (hsc G ax 6 (i 6) (n 6) ++ (hsc G ax 7 (i 7) (n 7))))))
  | 3, _ => exact List.perm_append_comm_assoc (hsc G ax 0 (i 0) (n 0) ++ (hsc G ax 1 (i 1) (n 1) ++ (hsc G ax 2 (i 2) (n 2)))) (hsc G ax 3 (i 3) (n 3)) (hsc G ax 4 (i 4) (n 4) ++ (hsc G ax 5 (i 5) (n 5) ++ (hsc G ax 6 (i 6) (n 6) ++ (hsc G ax 7 (i 7) (n 7)))))
  | 4, _ => exact List.perm_append_comm_assoc (hsc G ax 0 (i 0) (n 0) ++ (hsc G ax 1 (i 1) (n 1) ++ (hsc G ax 2 (i 2) (n 2) ++ (hsc G ax 3 (i 3) (n 3))))) (hsc G ax 4 (i 4) (n 4)) (hsc G ax 5 (i 5) (n 5) ++ (hsc G ax 6 (i 6) (n 6) ++ (hsc G ax 7 (i 7) (n 7))))
  | 5, _ => exact List.perm_append_comm_assoc (hsc G ax 0 (i 0) (n 0) ++ (hsc G ax 1 (i 1) (n 1) ++ (hsc G ax 2 (i 2) (n 2) ++ (hsc G ax 3 (i 3) (n 3) ++ (hsc G ax 4 (i 4) (n 4)))))) (hsc G ax 5 (i 5) (n 5)) (hsc G ax 6 (i 6) (n 6) ++ (hsc G ax 7 (i 7) (n 7)))
  | 6, _ => exact List.perm_append_comm_assoc (hsc G ax 0 (i 0) (n 0) ++ (hsc G ax 1 (i 1) (n 1) ++ (hsc G ax 2 (i 2) (n 2) ++ (hsc G ax 3 (i 3) (n 3) ++ (hsc G ax 4 (i 4) (n 4) ++ (hsc G ax 5 (i 5) (n 5))))))) (hsc G ax 6 (i 6) (n 6)) (hsc G ax 7 (i 7) (n 7))
  | 7, _ => exact List.perm_append_comm_assoc (hsc G ax 0 (i 0) (n 0) ++ (hsc G ax 1 (i 1) (n 1) ++ (hsc G ax 2 (i 2) (n 2) ++ (hsc G ax 3 (i 3) (n 3) ++ (hsc G ax 4 (i 4) (n 4) ++ (hsc G ax 5 (i 5) (n 5) ++ (hsc G ax 6 (i 6) (n 6)))))))) (hsc G ax 7 (i 7) (n 7)) ([])
theorem hist_open {G : Gc} {s : State} {A : Nat → Prop} {w0 : va_W} {H : Heap} {locs : List Loc} {ax : Nat → Nat} {i : Nat → Nat → Int32} {n : Nat → Nat → Nat → Int32} (k : Nat) (hk : k < 8) (h : Wd G s A (w0 ++ LH8 G ax i n) H locs) : Wd G s A (w0 ++ (hsc G ax k (i k) (n k) ++ hoth G ax i n k)) H locs :=
  h.perm (List.Perm.append_left w0 (hist_perm G ax i n k hk))
theorem updF_self {α : Type} (f : Nat → α) (k : Nat) (v : α) : updF f k v k = v := if_pos rfl
theorem sk_ne (k j : Nat) : sk k j ≠ k := by unfold sk; split <;> omega
theorem updF_sk {α : Type} (f : Nat → α) (k j : Nat) (v : α) : updF f k v (sk k j) = f (sk k j) := if_neg (sk_ne k j)
theorem hist_close {G : Gc} {s : State} {A : Nat → Prop} (w0 : va_W) {H : Heap} {locs : List Loc} {ax : Nat → Nat} {i : Nat → Nat → Int32} {n : Nat → Nat → Nat → Int32} (k : Nat) (hk : k < 8) (i' : Nat → Int32) (n' : Nat → Nat → Int32) (h : Wd G s A (w0 ++ (hsc G ax k i' n' ++ hoth G ax i n k)) H locs) : Wd G s A (w0 ++ LH8 G ax (updF i k i') (updF n k n')) H locs := by
  have e : hsc G ax k i' n' ++ hoth G ax i n k = hsc G ax k (updF i k i' k) (updF n k n' k) ++ hoth G ax (updF i k i') (updF n k n') k := by
    unfold hoth
    simp only [updF_self, updF_sk]
  rw [e] at h
  exact h.perm (List.Perm.append_left w0 (hist_perm G ax _ _ k hk).symm)
def LKK (p : Program) (l : Launch) (e : Env) (s : State) (m : MethodId) (below : List Frame) (meth : Method) (c : Code) (G : Gc) (b : Nat) (A : Nat → Prop) (ax am : Nat → Nat) (hf : Nat → Option Nat) (qx qm qz : Nat) (i : Int32) (cells slots : Nat) : Prop := ∀ (P : LPX) (M : LPM) (z : Nat → Int64) (H : Heap) (locs : List Loc) (ls : Array Slot), LIX P → LIM M → LRL P M → Wd G s A (LW G qx qm qz ax am hf P M z) H locs → lv_has ls 7 [(4, .int i), (3, .ref qz), (2, .ref qm), (1, .ref qx), (0, .ref b)] → W p l e room_1 s m #[Value.ref b] below meth c H locs (cells + 1) (slots + 6) (lw_Z below #[Value.ref b] s) (F0 m 1349 ls [])
theorem sig_L_slide : ∀ sig, parseMethodDescriptor yL_slide.desc = some sig → 4 = sig.parameters.length := by
  intro sig h
  have h2 : (parseMethodDescriptor yL_slide.desc).map (fun d => d.parameters.length) = some 4 := by decide +kernel
  rw [h] at h2
  exact (Option.some.inj h2).symm
theorem sig_L_hearer : ∀ sig, parseMethodDescriptor yL_hearer.desc = some sig → 4 = sig.parameters.length := by
  intro sig h
  have h2 : (parseMethodDescriptor yL_hearer.desc).map (fun d => d.parameters.length) = some 4 := by decide +kernel
  rw [h] at h2
  exact (Option.some.inj h2).symm
