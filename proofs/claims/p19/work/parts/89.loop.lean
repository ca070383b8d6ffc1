-- needs: 1 4 5 6 7 8
theorem dL_law_23 : decode cL_law 23 = .ok (.iload 4, 2) := by decide +kernel
theorem dL_law_25 : decode cL_law 25 = .ok (.aload_n 0, 1) := by decide +kernel
theorem dL_law_26 : decode cL_law 26 = .ok (.arraylength, 1) := by decide +kernel
theorem dL_law_27 : decode cL_law 27 = .ok (.bipush 6, 2) := by decide +kernel
theorem dL_law_29 : decode cL_law 29 = .ok (.isub, 1) := by decide +kernel
theorem dL_law_30 : decode cL_law 30 = .ok (.if_icmp .gt 1325, 3) := by decide +kernel
theorem dL_law_33 : decode cL_law 33 = .ok (.aload_n 0, 1) := by decide +kernel
theorem dL_law_34 : decode cL_law 34 = .ok (.iload 4, 2) := by decide +kernel
theorem dL_law_36 : decode cL_law 36 = .ok (.iaload, 1) := by decide +kernel
theorem dL_law_37 : decode cL_law 37 = .ok (.bipush 63, 2) := by decide +kernel
theorem dL_law_39 : decode cL_law 39 = .ok (.iand, 1) := by decide +kernel
theorem dL_law_40 : decode cL_law 40 = .ok (.tableswitch 1309 0 38 #[172, 245, 270, 283, 296, 336, 397, 437, 486, 511, 548, 585, 634, 671, 696, 709, 746, 771, 796, 809, 834, 871, 884, 909, 922, 935, 960, 997, 1010, 1035, 1060, 1097, 1146, 1171, 1196, 1209, 1234, 1259, 1284], 172) := by decide +kernel
theorem dL_law_1349 : decode cL_law 1349 = .ok (.iinc 4 6, 3) := by decide +kernel
theorem dL_law_1352 : decode cL_law 1352 = .ok (.goto (-1329), 3) := by decide +kernel
theorem dL_law_1355 : decode cL_law 1355 = .ok (.iconst 1, 1) := by decide +kernel
theorem dL_law_1356 : decode cL_law 1356 = .ok (.ireturn, 1) := by decide +kernel
set_option maxHeartbeats 8000000 in
set_option maxRecDepth 100000 in
theorem law_loop {p : Program} {l : Launch} {e : Env} {s : State} {m : MethodId} {below : List Frame} {meth : Method} {c : Code} {G : Gc} {b L : Nat} {xs : Nat → Int32} (hst : l.stackTraces = false) (hL : L ≤ 3072) {A : Nat → Prop} {ax am : Nat → Nat} {hf : Nat → Option Nat} {qx qm qz : Nat} (C0 : lw_At p s m meth c b L xs) (hbA : ¬ A b) (hA9 : ∀ q, A q → s.heap.size ≤ q) (hhf : ∀ k, k < 8 → hf k = some (ax (33 + 4 * k))) : ∀ (n9 j9 : Nat), 512 - j9 < n9 → j9 ≤ 512 → ∀ (i : Int32) (cells slots : Nat) (P_qx_i : Nat → Int32) (P_qx_n : Nat → Nat → Int32) (P_qt_i : Nat → Int32) (P_qt_l : Nat → Int64) (P_qt_n : Nat → Nat → Int32) (P_qt_j : Nat → Nat → Int64) (P_qs_i : Nat → Int32) (P_qs_n : Nat → Nat → Int32) (P_qs_j : Nat → Nat → Int64) (P_qd_i : Nat → Int32) (P_qd_n : Nat → Nat → Int32) (P_qd_j : Nat → Nat → Int64) (P_qa_i : Nat → Int32) (P_qa_n : Nat → Nat → Int32) (P_qb_i : Nat → Int32) (P_qb_n : Nat → Nat → Int32) (P_qh_i : Nat → Int32) (P_qr_i : Nat → Int32) (P_qr_n : Nat → Nat → Int32) (P_qe_i : Nat → Int32) (P_qe_n : Nat → Nat → Int32) (P_qp_i : Nat → Int32) (P_qp_n : Nat → Nat → Int32) (P_qf_i : Nat → Int32) (P_qf_n : Nat → Nat → Int32) (P_qn_i : Nat → Int32) (P_qn_n : Nat → Nat → Int32) (P_i0_i : Nat → Int32) (P_i0s_i : Nat → Int32) (P_i0s_n : Nat → Nat → Int32) (P_i0s_j : Nat → Nat → Int64) (P_i0a_i : Nat → Int32) (P_i0a_n : Nat → Nat → Int32) (P_i0r_i : Nat → Int32) (P_i0r_n : Nat → Nat → Int32) (P_i1_i : Nat → Int32) (P_i1s_i : Nat → Int32) (P_i1s_n : Nat → Nat → Int32) (P_i1s_j : Nat → Nat → Int64) (P_i1a_i : Nat → Int32) (P_i1a_n : Nat → Nat → Int32) (P_i1r_i : Nat → Int32) (P_i1r_n : Nat → Nat → Int32) (P_hi : Nat → Nat → Int32) (P_hn : Nat → Nat → Nat → Int32) (M_qm_i : Nat → Int32) (M_qm_l : Nat → Int64) (M_qm_n : Nat → Nat → Int32) (M_qm_j : Nat → Nat → Int64) (z : Nat → Int64) (H : Heap) (locs : List Loc) (ls : Array Slot), cells = 147 + j9 → slots = 5480 + 6 * j9 → i.toInt = 6 * (j9 : Int) → LIX P_qx_i P_qx_n P_qt_i P_qt_l P_qt_n P_qt_j P_qs_i P_qs_n P_qs_j P_qd_i P_qd_n P_qd_j P_qa_i P_qa_n P_qb_i P_qb_n P_qh_i P_qr_i P_qr_n P_qe_i P_qe_n P_qp_i P_qp_n P_qf_i P_qf_n P_qn_i P_qn_n P_i0_i P_i0s_i P_i0s_n P_i0s_j P_i0a_i P_i0a_n P_i0r_i P_i0r_n P_i1_i P_i1s_i P_i1s_n P_i1s_j P_i1a_i P_i1a_n P_i1r_i P_i1r_n P_hi P_hn → LIM M_qm_i M_qm_l M_qm_n M_qm_j → LRL P_qx_i P_qx_n P_qt_i P_qt_l P_qt_n P_qt_j P_qs_i P_qs_n P_qs_j P_qd_i P_qd_n P_qd_j P_qa_i P_qa_n P_qb_i P_qb_n P_qh_i P_qr_i P_qr_n P_qe_i P_qe_n P_qp_i P_qp_n P_qf_i P_qf_n P_qn_i P_qn_n P_i0_i P_i0s_i P_i0s_n P_i0s_j P_i0a_i P_i0a_n P_i0r_i P_i0r_n P_i1_i P_i1s_i P_i1s_n P_i1s_j P_i1a_i P_i1a_n P_i1r_i P_i1r_n P_hi P_hn M_qm_i M_qm_l M_qm_n M_qm_j → Wd G s A (LW G qx qm qz ax am hf P_qx_i P_qx_n P_qt_i P_qt_l P_qt_n P_qt_j P_qs_i P_qs_n P_qs_j P_qd_i P_qd_n P_qd_j P_qa_i P_qa_n P_qb_i P_qb_n P_qh_i P_qr_i P_qr_n P_qe_i P_qe_n P_qp_i P_qp_n P_qf_i P_qf_n P_qn_i P_qn_n P_i0_i P_i0s_i P_i0s_n P_i0s_j P_i0a_i P_i0a_n P_i0r_i P_i0r_n P_i1_i P_i1s_i P_i1s_n P_i1s_j P_i1a_i P_i1a_n P_i1r_i P_i1r_n P_hi P_hn M_qm_i M_qm_l M_qm_n M_qm_j z) H locs → lv_has ls 7 [(4, .int i), (3, .ref qz), (2, .ref qm), (1, .ref qx), (0, .ref b)] → W p l e room_1 s m #[Value.ref b] below meth c H locs cells slots (lw_Z below #[Value.ref b] s) (F0 m 23 ls []) := by
  intro n9
  induction n9 with
  | zero => intro j9 h; exact absurd h (Nat.not_lt_zero _)
  | succ n9 ih =>
    intro j9 hn hj i cells slots P_qx_i P_qx_n P_qt_i P_qt_l P_qt_n P_qt_j P_qs_i P_qs_n P_qs_j P_qd_i P_qd_n P_qd_j P_qa_i P_qa_n P_qb_i P_qb_n P_qh_i P_qr_i P_qr_n P_qe_i P_qe_n P_qp_i P_qp_n P_qf_i P_qf_n P_qn_i P_qn_n P_i0_i P_i0s_i P_i0s_n P_i0s_j P_i0a_i P_i0a_n P_i0r_i P_i0r_n P_i1_i P_i1s_i P_i1s_n P_i1s_j P_i1a_i P_i1a_n P_i1r_i P_i1r_n P_hi P_hn M_qm_i M_qm_l M_qm_n M_qm_j z H locs ls hce hsl ei hI hM hR hw hl
    obtain ⟨hx, hb, hr, hml, hown, hts, hX, hbl, hlocks, hgv⟩ := id C0
    have C : CallFix p m c code 7 s #[Value.ref b] gw "LanternStateLaw" := ⟨hx, hb, hml, hown, fun w h => hts w (gw_sub w h)⟩
    refine lv_iload C.1 C.2.1 dL_law_23 (lv_at hl 0 rfl) ?_
    refine lv_aload_n C.1 C.2.1 dL_law_25 rfl (lv_at hl 4 rfl) ?_
    refine va_slen C.1 C.2.1 hX hbl hbA hw.2.2.2.1 dL_law_26 ?_
    refine lv_bipush (v := 6) C.1 C.2.1 dL_law_27 (by decide) ?_
    refine lv_isub C.1 C.2.1 dL_law_29 (x_genP (fun z : Int32 => z.toInt = (L : Int) - 6) (i_sub (X := (L : Int)) (Y := 6) (nI_toInt (by omega)) rfl (by omega) (by omega)) (fun v hv => ?_))
    refine lv_icmp_gt (tgt := 1355) C.1 C.2.1 dL_law_30 (by decide) (fun c1 => ?_) (fun c1 => ?_)
    · refine lv_iconst (v := 1) C.1 C.2.1 dL_law_1355 (by decide) ?_
      refine va_forget (fun q hq => hA9 _ (hw.2.2.2.1.2.2 q hq)) ?_
      refine W.widen (k := 601024) (n := 7293034) (by omega) (by omega) ?_
      exact lw_ret hx hb hr hlocks dL_law_1356
    · have c1 : i.toInt ≤ v.toInt := i_ltF (X := v.toInt) (Y := i.toInt) rfl rfl c1
      have e1 : (i + 1).toInt = i.toInt + 1 := i_add (X := i.toInt) (Y := 1) rfl rfl (by omega) (by omega)
      have hs1 : vp_in (i + 1) L ∧ xs (i + 1).toNatClampNeg = xs (i + 1).toNatClampNeg := ⟨i_in (by omega) (by omega), rfl⟩
      have e2 : (i + 2).toInt = i.toInt + 2 := i_add (X := i.toInt) (Y := 2) rfl rfl (by omega) (by omega)
      have hs2 : vp_in (i + 2) L ∧ xs (i + 2).toNatClampNeg = xs (i + 2).toNatClampNeg := ⟨i_in (by omega) (by omega), rfl⟩
      have e3 : (i + 3).toInt = i.toInt + 3 := i_add (X := i.toInt) (Y := 3) rfl rfl (by omega) (by omega)
      have hs3 : vp_in (i + 3) L ∧ xs (i + 3).toNatClampNeg = xs (i + 3).toNatClampNeg := ⟨i_in (by omega) (by omega), rfl⟩
      have e4 : (i + 4).toInt = i.toInt + 4 := i_add (X := i.toInt) (Y := 4) rfl rfl (by omega) (by omega)
      have hs4 : vp_in (i + 4) L ∧ xs (i + 4).toNatClampNeg = xs (i + 4).toNatClampNeg := ⟨i_in (by omega) (by omega), rfl⟩
      have e5 : (i + 5).toInt = i.toInt + 5 := i_add (X := i.toInt) (Y := 5) rfl rfl (by omega) (by omega)
      have hs5 : vp_in (i + 5) L ∧ xs (i + 5).toNatClampNeg = xs (i + 5).toNatClampNeg := ⟨i_in (by omega) (by omega), rfl⟩
      have hc1 : cells + 1 ≤ room_1.cells ∧ slots + 6 ≤ room_1.slots := ⟨(show cells + 1 ≤ 601024 by omega), (show slots + 6 ≤ 7293034 by omega)⟩
      have kk : LKK p l e s m below meth c G b A ax am hf qx qm qz i cells slots := by
        intro P_qx_i P_qx_n P_qt_i P_qt_l P_qt_n P_qt_j P_qs_i P_qs_n P_qs_j P_qd_i P_qd_n P_qd_j P_qa_i P_qa_n P_qb_i P_qb_n P_qh_i P_qr_i P_qr_n P_qe_i P_qe_n P_qp_i P_qp_n P_qf_i P_qf_n P_qn_i P_qn_n P_i0_i P_i0s_i P_i0s_n P_i0s_j P_i0a_i P_i0a_n P_i0r_i P_i0r_n P_i1_i P_i1s_i P_i1s_n P_i1s_j P_i1a_i P_i1a_n P_i1r_i P_i1r_n P_hi P_hn M_qm_i M_qm_l M_qm_n M_qm_j z H locs ls hI hM hR hw hl
        obtain ⟨i6, e6⟩ : ∃ z : Int32, i + 6 = z := ⟨_, rfl⟩
        have h6 : i6.toInt = i.toInt + 6 := by rw [← e6]; exact i_add (X := i.toInt) (Y := 6) rfl rfl (by omega) (by omega)
        refine lv_iinc (v := i6) (lv' := [(4, .int i6), (3, .ref qz), (2, .ref qm), (1, .ref qx), (0, .ref b)]) C.1 C.2.1 dL_law_1349 hl (k := 0) rfl e6 (by decide) rfl (fun ls hl => ?_)
        refine lv_goto (tgt := 23) C.1 C.2.1 dL_law_1352 (by decide) ?_
        exact ih (j9 + 1) (by omega) (by omega) i6 (cells + 1) (slots + 6) P_qx_i P_qx_n P_qt_i P_qt_l P_qt_n P_qt_j P_qs_i P_qs_n P_qs_j P_qd_i P_qd_n P_qd_j P_qa_i P_qa_n P_qb_i P_qb_n P_qh_i P_qr_i P_qr_n P_qe_i P_qe_n P_qp_i P_qp_n P_qf_i P_qf_n P_qn_i P_qn_n P_i0_i P_i0s_i P_i0s_n P_i0s_j P_i0a_i P_i0a_n P_i0r_i P_i0r_n P_i1_i P_i1s_i P_i1s_n P_i1s_j P_i1a_i P_i1a_n P_i1r_i P_i1r_n P_hi P_hn M_qm_i M_qm_l M_qm_n M_qm_j z _ _ _ (by omega) (by omega) (by omega) hI hM hR hw hl
      refine lv_aload_n C.1 C.2.1 dL_law_33 rfl (lv_at hl 4 rfl) ?_
      refine lv_iload C.1 C.2.1 dL_law_34 (lv_at hl 0 rfl) ?_
      refine va_sld C.1 C.2.1 hX hbl hbA hw.2.2.2.1 (i := i) (i_in (by omega) (by omega)) dL_law_36 ?_
      refine lv_bipush (v := 63) C.1 C.2.1 dL_law_37 (by decide) ?_
      refine lv_iand C.1 C.2.1 dL_law_39 ?_
      obtain ⟨j, hj, ej⟩ := pk_andE (xs i.toNatClampNeg) (m := 63) 6 (by decide)
      refine x_topi ej ?_
      match j, hj with
      | 0, _ =>
        refine lv_tableIn (off := 172) (tgt := 212) C.1 C.2.1 dL_law_40 (by decide) (by decide) rfl (by decide) ?_
        exact law_feed hst C0 hbA hhf hs1 hs2 hs3 hs4 hs5 hc1 P_qx_i P_qx_n P_qt_i P_qt_l P_qt_n P_qt_j P_qs_i P_qs_n P_qs_j P_qd_i P_qd_n P_qd_j P_qa_i P_qa_n P_qb_i P_qb_n P_qh_i P_qr_i P_qr_n P_qe_i P_qe_n P_qp_i P_qp_n P_qf_i P_qf_n P_qn_i P_qn_n P_i0_i P_i0s_i P_i0s_n P_i0s_j P_i0a_i P_i0a_n P_i0r_i P_i0r_n P_i1_i P_i1s_i P_i1s_n P_i1s_j P_i1a_i P_i1a_n P_i1r_i P_i1r_n P_hi P_hn M_qm_i M_qm_l M_qm_n M_qm_j z hI hM hR hw hl kk
      | 1, _ =>
        refine lv_tableIn (off := 245) (tgt := 285) C.1 C.2.1 dL_law_40 (by decide) (by decide) rfl (by decide) ?_
        exact law_end hst C0 hbA hhf hs1 hs2 hs3 hs4 hs5 hc1 P_qx_i P_qx_n P_qt_i P_qt_l P_qt_n P_qt_j P_qs_i P_qs_n P_qs_j P_qd_i P_qd_n P_qd_j P_qa_i P_qa_n P_qb_i P_qb_n P_qh_i P_qr_i P_qr_n P_qe_i P_qe_n P_qp_i P_qp_n P_qf_i P_qf_n P_qn_i P_qn_n P_i0_i P_i0s_i P_i0s_n P_i0s_j P_i0a_i P_i0a_n P_i0r_i P_i0r_n P_i1_i P_i1s_i P_i1s_n P_i1s_j P_i1a_i P_i1a_n P_i1r_i P_i1r_n P_hi P_hn M_qm_i M_qm_l M_qm_n M_qm_j z hI hM hR hw hl kk
      | 2, _ =>
        refine lv_tableIn (off := 270) (tgt := 310) C.1 C.2.1 dL_law_40 (by decide) (by decide) rfl (by decide) ?_
        exact law_session hst C0 hbA hhf hs1 hs2 hs3 hs4 hs5 hc1 P_qx_i P_qx_n P_qt_i P_qt_l P_qt_n P_qt_j P_qs_i P_qs_n P_qs_j P_qd_i P_qd_n P_qd_j P_qa_i P_qa_n P_qb_i P_qb_n P_qh_i P_qr_i P_qr_n P_qe_i P_qe_n P_qp_i P_qp_n P_qf_i P_qf_n P_qn_i P_qn_n P_i0_i P_i0s_i P_i0s_n P_i0s_j P_i0a_i P_i0a_n P_i0r_i P_i0r_n P_i1_i P_i1s_i P_i1s_n P_i1s_j P_i1a_i P_i1a_n P_i1r_i P_i1r_n P_hi P_hn M_qm_i M_qm_l M_qm_n M_qm_j z hI hM hR hw hl kk
      | 3, _ =>
        refine lv_tableIn (off := 283) (tgt := 323) C.1 C.2.1 dL_law_40 (by decide) (by decide) rfl (by decide) ?_
        exact law_fault hst C0 hbA hhf hs1 hs2 hs3 hs4 hs5 hc1 P_qx_i P_qx_n P_qt_i P_qt_l P_qt_n P_qt_j P_qs_i P_qs_n P_qs_j P_qd_i P_qd_n P_qd_j P_qa_i P_qa_n P_qb_i P_qb_n P_qh_i P_qr_i P_qr_n P_qe_i P_qe_n P_qp_i P_qp_n P_qf_i P_qf_n P_qn_i P_qn_n P_i0_i P_i0s_i P_i0s_n P_i0s_j P_i0a_i P_i0a_n P_i0r_i P_i0r_n P_i1_i P_i1s_i P_i1s_n P_i1s_j P_i1a_i P_i1a_n P_i1r_i P_i1r_n P_hi P_hn M_qm_i M_qm_l M_qm_n M_qm_j z hI hM hR hw hl kk
      | 4, _ =>
        refine lv_tableIn (off := 296) (tgt := 336) C.1 C.2.1 dL_law_40 (by decide) (by decide) rfl (by decide) ?_
        exact law_slide hst C0 hbA hhf hs1 hs2 hs3 hs4 hs5 hc1 P_qx_i P_qx_n P_qt_i P_qt_l P_qt_n P_qt_j P_qs_i P_qs_n P_qs_j P_qd_i P_qd_n P_qd_j P_qa_i P_qa_n P_qb_i P_qb_n P_qh_i P_qr_i P_qr_n P_qe_i P_qe_n P_qp_i P_qp_n P_qf_i P_qf_n P_qn_i P_qn_n P_i0_i P_i0s_i P_i0s_n P_i0s_j P_i0a_i P_i0a_n P_i0r_i P_i0r_n P_i1_i P_i1s_i P_i1s_n P_i1s_j P_i1a_i P_i1a_n P_i1r_i P_i1r_n P_hi P_hn M_qm_i M_qm_l M_qm_n M_qm_j z hI hM hR hw hl kk
      | 5, _ =>
        refine lv_tableIn (off := 336) (tgt := 376) C.1 C.2.1 dL_law_40 (by decide) (by decide) rfl (by decide) ?_
        exact law_row hst C0 hbA hhf hs1 hs2 hs3 hs4 hs5 hc1 P_qx_i P_qx_n P_qt_i P_qt_l P_qt_n P_qt_j P_qs_i P_qs_n P_qs_j P_qd_i P_qd_n P_qd_j P_qa_i P_qa_n P_qb_i P_qb_n P_qh_i P_qr_i P_qr_n P_qe_i P_qe_n P_qp_i P_qp_n P_qf_i P_qf_n P_qn_i P_qn_n P_i0_i P_i0s_i P_i0s_n P_i0s_j P_i0a_i P_i0a_n P_i0r_i P_i0r_n P_i1_i P_i1s_i P_i1s_n P_i1s_j P_i1a_i P_i1a_n P_i1r_i P_i1r_n P_hi P_hn M_qm_i M_qm_l M_qm_n M_qm_j z hI hM hR hw hl kk
      | 6, _ =>
        refine lv_tableIn (off := 397) (tgt := 437) C.1 C.2.1 dL_law_40 (by decide) (by decide) rfl (by decide) ?_
        exact law_hearer hst C0 hbA hhf hs1 hs2 hs3 hs4 hs5 hc1 P_qx_i P_qx_n P_qt_i P_qt_l P_qt_n P_qt_j P_qs_i P_qs_n P_qs_j P_qd_i P_qd_n P_qd_j P_qa_i P_qa_n P_qb_i P_qb_n P_qh_i P_qr_i P_qr_n P_qe_i P_qe_n P_qp_i P_qp_n P_qf_i P_qf_n P_qn_i P_qn_n P_i0_i P_i0s_i P_i0s_n P_i0s_j P_i0a_i P_i0a_n P_i0r_i P_i0r_n P_i1_i P_i1s_i P_i1s_n P_i1s_j P_i1a_i P_i1a_n P_i1r_i P_i1r_n P_hi P_hn M_qm_i M_qm_l M_qm_n M_qm_j z hI hM hR hw hl kk
      | 7, _ =>
        refine lv_tableIn (off := 437) (tgt := 477) C.1 C.2.1 dL_law_40 (by decide) (by decide) rfl (by decide) ?_
        exact law_thinks hst C0 hbA hhf hs1 hs2 hs3 hs4 hs5 hc1 P_qx_i P_qx_n P_qt_i P_qt_l P_qt_n P_qt_j P_qs_i P_qs_n P_qs_j P_qd_i P_qd_n P_qd_j P_qa_i P_qa_n P_qb_i P_qb_n P_qh_i P_qr_i P_qr_n P_qe_i P_qe_n P_qp_i P_qp_n P_qf_i P_qf_n P_qn_i P_qn_n P_i0_i P_i0s_i P_i0s_n P_i0s_j P_i0a_i P_i0a_n P_i0r_i P_i0r_n P_i1_i P_i1s_i P_i1s_n P_i1s_j P_i1a_i P_i1a_n P_i1r_i P_i1r_n P_hi P_hn M_qm_i M_qm_l M_qm_n M_qm_j z hI hM hR hw hl kk
      | 8, _ =>
        refine lv_tableIn (off := 486) (tgt := 526) C.1 C.2.1 dL_law_40 (by decide) (by decide) rfl (by decide) ?_
        exact law_now hst C0 hbA hhf hs1 hs2 hs3 hs4 hs5 hc1 P_qx_i P_qx_n P_qt_i P_qt_l P_qt_n P_qt_j P_qs_i P_qs_n P_qs_j P_qd_i P_qd_n P_qd_j P_qa_i P_qa_n P_qb_i P_qb_n P_qh_i P_qr_i P_qr_n P_qe_i P_qe_n P_qp_i P_qp_n P_qf_i P_qf_n P_qn_i P_qn_n P_i0_i P_i0s_i P_i0s_n P_i0s_j P_i0a_i P_i0a_n P_i0r_i P_i0r_n P_i1_i P_i1s_i P_i1s_n P_i1s_j P_i1a_i P_i1a_n P_i1r_i P_i1r_n P_hi P_hn M_qm_i M_qm_l M_qm_n M_qm_j z hI hM hR hw hl kk
      | 9, _ =>
        refine lv_tableIn (off := 511) (tgt := 551) C.1 C.2.1 dL_law_40 (by decide) (by decide) rfl (by decide) ?_
        exact law_show hst C0 hbA hhf hs1 hs2 hs3 hs4 hs5 hc1 P_qx_i P_qx_n P_qt_i P_qt_l P_qt_n P_qt_j P_qs_i P_qs_n P_qs_j P_qd_i P_qd_n P_qd_j P_qa_i P_qa_n P_qb_i P_qb_n P_qh_i P_qr_i P_qr_n P_qe_i P_qe_n P_qp_i P_qp_n P_qf_i P_qf_n P_qn_i P_qn_n P_i0_i P_i0s_i P_i0s_n P_i0s_j P_i0a_i P_i0a_n P_i0r_i P_i0r_n P_i1_i P_i1s_i P_i1s_n P_i1s_j P_i1a_i P_i1a_n P_i1r_i P_i1r_n P_hi P_hn M_qm_i M_qm_l M_qm_n M_qm_j z hI hM hR hw hl kk
      | 10, _ =>
        refine lv_tableIn (off := 548) (tgt := 588) C.1 C.2.1 dL_law_40 (by decide) (by decide) rfl (by decide) ?_
        exact law_over hst C0 hbA hhf hs1 hs2 hs3 hs4 hs5 hc1 P_qx_i P_qx_n P_qt_i P_qt_l P_qt_n P_qt_j P_qs_i P_qs_n P_qs_j P_qd_i P_qd_n P_qd_j P_qa_i P_qa_n P_qb_i P_qb_n P_qh_i P_qr_i P_qr_n P_qe_i P_qe_n P_qp_i P_qp_n P_qf_i P_qf_n P_qn_i P_qn_n P_i0_i P_i0s_i P_i0s_n P_i0s_j P_i0a_i P_i0a_n P_i0r_i P_i0r_n P_i1_i P_i1s_i P_i1s_n P_i1s_j P_i1a_i P_i1a_n P_i1r_i P_i1r_n P_hi P_hn M_qm_i M_qm_l M_qm_n M_qm_j z hI hM hR hw hl kk
      | 11, _ =>
        refine lv_tableIn (off := 585) (tgt := 625) C.1 C.2.1 dL_law_40 (by decide) (by decide) rfl (by decide) ?_
        exact law_scratch hst C0 hbA hhf hs1 hs2 hs3 hs4 hs5 hc1 P_qx_i P_qx_n P_qt_i P_qt_l P_qt_n P_qt_j P_qs_i P_qs_n P_qs_j P_qd_i P_qd_n P_qd_j P_qa_i P_qa_n P_qb_i P_qb_n P_qh_i P_qr_i P_qr_n P_qe_i P_qe_n P_qp_i P_qp_n P_qf_i P_qf_n P_qn_i P_qn_n P_i0_i P_i0s_i P_i0s_n P_i0s_j P_i0a_i P_i0a_n P_i0r_i P_i0r_n P_i1_i P_i1s_i P_i1s_n P_i1s_j P_i1a_i P_i1a_n P_i1r_i P_i1r_n P_hi P_hn M_qm_i M_qm_l M_qm_n M_qm_j z hI hM hR hw hl kk
      | 12, _ =>
        refine lv_tableIn (off := 634) (tgt := 674) C.1 C.2.1 dL_law_40 (by decide) (by decide) rfl (by decide) ?_
        exact law_sit hst C0 hbA hhf hs1 hs2 hs3 hs4 hs5 hc1 P_qx_i P_qx_n P_qt_i P_qt_l P_qt_n P_qt_j P_qs_i P_qs_n P_qs_j P_qd_i P_qd_n P_qd_j P_qa_i P_qa_n P_qb_i P_qb_n P_qh_i P_qr_i P_qr_n P_qe_i P_qe_n P_qp_i P_qp_n P_qf_i P_qf_n P_qn_i P_qn_n P_i0_i P_i0s_i P_i0s_n P_i0s_j P_i0a_i P_i0a_n P_i0r_i P_i0r_n P_i1_i P_i1s_i P_i1s_n P_i1s_j P_i1a_i P_i1a_n P_i1r_i P_i1r_n P_hi P_hn M_qm_i M_qm_l M_qm_n M_qm_j z hI hM hR hw hl kk
      | 13, _ =>
        refine lv_tableIn (off := 671) (tgt := 711) C.1 C.2.1 dL_law_40 (by decide) (by decide) rfl (by decide) ?_
        exact law_hours hst C0 hbA hhf hs1 hs2 hs3 hs4 hs5 hc1 P_qx_i P_qx_n P_qt_i P_qt_l P_qt_n P_qt_j P_qs_i P_qs_n P_qs_j P_qd_i P_qd_n P_qd_j P_qa_i P_qa_n P_qb_i P_qb_n P_qh_i P_qr_i P_qr_n P_qe_i P_qe_n P_qp_i P_qp_n P_qf_i P_qf_n P_qn_i P_qn_n P_i0_i P_i0s_i P_i0s_n P_i0s_j P_i0a_i P_i0a_n P_i0r_i P_i0r_n P_i1_i P_i1s_i P_i1s_n P_i1s_j P_i1a_i P_i1a_n P_i1r_i P_i1r_n P_hi P_hn M_qm_i M_qm_l M_qm_n M_qm_j z hI hM hR hw hl kk
      | 14, _ =>
        refine lv_tableIn (off := 696) (tgt := 736) C.1 C.2.1 dL_law_40 (by decide) (by decide) rfl (by decide) ?_
        exact law_undo hst C0 hbA hhf hs1 hs2 hs3 hs4 hs5 hc1 P_qx_i P_qx_n P_qt_i P_qt_l P_qt_n P_qt_j P_qs_i P_qs_n P_qs_j P_qd_i P_qd_n P_qd_j P_qa_i P_qa_n P_qb_i P_qb_n P_qh_i P_qr_i P_qr_n P_qe_i P_qe_n P_qp_i P_qp_n P_qf_i P_qf_n P_qn_i P_qn_n P_i0_i P_i0s_i P_i0s_n P_i0s_j P_i0a_i P_i0a_n P_i0r_i P_i0r_n P_i1_i P_i1s_i P_i1s_n P_i1s_j P_i1a_i P_i1a_n P_i1r_i P_i1r_n P_hi P_hn M_qm_i M_qm_l M_qm_n M_qm_j z hI hM hR hw hl kk
      | 15, _ =>
        refine lv_tableIn (off := 709) (tgt := 749) C.1 C.2.1 dL_law_40 (by decide) (by decide) rfl (by decide) ?_
        exact law_sighs hst C0 hbA hhf hs1 hs2 hs3 hs4 hs5 hc1 P_qx_i P_qx_n P_qt_i P_qt_l P_qt_n P_qt_j P_qs_i P_qs_n P_qs_j P_qd_i P_qd_n P_qd_j P_qa_i P_qa_n P_qb_i P_qb_n P_qh_i P_qr_i P_qr_n P_qe_i P_qe_n P_qp_i P_qp_n P_qf_i P_qf_n P_qn_i P_qn_n P_i0_i P_i0s_i P_i0s_n P_i0s_j P_i0a_i P_i0a_n P_i0r_i P_i0r_n P_i1_i P_i1s_i P_i1s_n P_i1s_j P_i1a_i P_i1a_n P_i1r_i P_i1r_n P_hi P_hn M_qm_i M_qm_l M_qm_n M_qm_j z hI hM hR hw hl kk
      | 16, _ =>
        refine lv_tableIn (off := 746) (tgt := 786) C.1 C.2.1 dL_law_40 (by decide) (by decide) rfl (by decide) ?_
        exact law_best hst C0 hbA hhf hs1 hs2 hs3 hs4 hs5 hc1 P_qx_i P_qx_n P_qt_i P_qt_l P_qt_n P_qt_j P_qs_i P_qs_n P_qs_j P_qd_i P_qd_n P_qd_j P_qa_i P_qa_n P_qb_i P_qb_n P_qh_i P_qr_i P_qr_n P_qe_i P_qe_n P_qp_i P_qp_n P_qf_i P_qf_n P_qn_i P_qn_n P_i0_i P_i0s_i P_i0s_n P_i0s_j P_i0a_i P_i0a_n P_i0r_i P_i0r_n P_i1_i P_i1s_i P_i1s_n P_i1s_j P_i1a_i P_i1a_n P_i1r_i P_i1r_n P_hi P_hn M_qm_i M_qm_l M_qm_n M_qm_j z hI hM hR hw hl kk
      | 17, _ =>
        refine lv_tableIn (off := 771) (tgt := 811) C.1 C.2.1 dL_law_40 (by decide) (by decide) rfl (by decide) ?_
        exact law_spreads hst C0 hbA hhf hs1 hs2 hs3 hs4 hs5 hc1 P_qx_i P_qx_n P_qt_i P_qt_l P_qt_n P_qt_j P_qs_i P_qs_n P_qs_j P_qd_i P_qd_n P_qd_j P_qa_i P_qa_n P_qb_i P_qb_n P_qh_i P_qr_i P_qr_n P_qe_i P_qe_n P_qp_i P_qp_n P_qf_i P_qf_n P_qn_i P_qn_n P_i0_i P_i0s_i P_i0s_n P_i0s_j P_i0a_i P_i0a_n P_i0r_i P_i0r_n P_i1_i P_i1s_i P_i1s_n P_i1s_j P_i1a_i P_i1a_n P_i1r_i P_i1r_n P_hi P_hn M_qm_i M_qm_l M_qm_n M_qm_j z hI hM hR hw hl kk
      | 18, _ =>
        refine lv_tableIn (off := 796) (tgt := 836) C.1 C.2.1 dL_law_40 (by decide) (by decide) rfl (by decide) ?_
        exact law_order hst C0 hbA hhf hs1 hs2 hs3 hs4 hs5 hc1 P_qx_i P_qx_n P_qt_i P_qt_l P_qt_n P_qt_j P_qs_i P_qs_n P_qs_j P_qd_i P_qd_n P_qd_j P_qa_i P_qa_n P_qb_i P_qb_n P_qh_i P_qr_i P_qr_n P_qe_i P_qe_n P_qp_i P_qp_n P_qf_i P_qf_n P_qn_i P_qn_n P_i0_i P_i0s_i P_i0s_n P_i0s_j P_i0a_i P_i0a_n P_i0r_i P_i0r_n P_i1_i P_i1s_i P_i1s_n P_i1s_j P_i1a_i P_i1a_n P_i1r_i P_i1r_n P_hi P_hn M_qm_i M_qm_l M_qm_n M_qm_j z hI hM hR hw hl kk
      | 19, _ =>
        refine lv_tableIn (off := 809) (tgt := 849) C.1 C.2.1 dL_law_40 (by decide) (by decide) rfl (by decide) ?_
        exact law_orderAt hst C0 hbA hhf hs1 hs2 hs3 hs4 hs5 hc1 P_qx_i P_qx_n P_qt_i P_qt_l P_qt_n P_qt_j P_qs_i P_qs_n P_qs_j P_qd_i P_qd_n P_qd_j P_qa_i P_qa_n P_qb_i P_qb_n P_qh_i P_qr_i P_qr_n P_qe_i P_qe_n P_qp_i P_qp_n P_qf_i P_qf_n P_qn_i P_qn_n P_i0_i P_i0s_i P_i0s_n P_i0s_j P_i0a_i P_i0a_n P_i0r_i P_i0r_n P_i1_i P_i1s_i P_i1s_n P_i1s_j P_i1a_i P_i1a_n P_i1r_i P_i1r_n P_hi P_hn M_qm_i M_qm_l M_qm_n M_qm_j z hI hM hR hw hl kk
      | 20, _ =>
        refine lv_tableIn (off := 834) (tgt := 874) C.1 C.2.1 dL_law_40 (by decide) (by decide) rfl (by decide) ?_
        exact law_moved hst C0 hbA hhf hs1 hs2 hs3 hs4 hs5 hc1 P_qx_i P_qx_n P_qt_i P_qt_l P_qt_n P_qt_j P_qs_i P_qs_n P_qs_j P_qd_i P_qd_n P_qd_j P_qa_i P_qa_n P_qb_i P_qb_n P_qh_i P_qr_i P_qr_n P_qe_i P_qe_n P_qp_i P_qp_n P_qf_i P_qf_n P_qn_i P_qn_n P_i0_i P_i0s_i P_i0s_n P_i0s_j P_i0a_i P_i0a_n P_i0r_i P_i0r_n P_i1_i P_i1s_i P_i1s_n P_i1s_j P_i1a_i P_i1a_n P_i1r_i P_i1r_n P_hi P_hn M_qm_i M_qm_l M_qm_n M_qm_j z hI hM hR hw hl kk
      | 21, _ =>
        refine lv_tableIn (off := 871) (tgt := 911) C.1 C.2.1 dL_law_40 (by decide) (by decide) rfl (by decide) ?_
        exact law_movedWho hst C0 hbA hhf hs1 hs2 hs3 hs4 hs5 hc1 P_qx_i P_qx_n P_qt_i P_qt_l P_qt_n P_qt_j P_qs_i P_qs_n P_qs_j P_qd_i P_qd_n P_qd_j P_qa_i P_qa_n P_qb_i P_qb_n P_qh_i P_qr_i P_qr_n P_qe_i P_qe_n P_qp_i P_qp_n P_qf_i P_qf_n P_qn_i P_qn_n P_i0_i P_i0s_i P_i0s_n P_i0s_j P_i0a_i P_i0a_n P_i0r_i P_i0r_n P_i1_i P_i1s_i P_i1s_n P_i1s_j P_i1a_i P_i1a_n P_i1r_i P_i1r_n P_hi P_hn M_qm_i M_qm_l M_qm_n M_qm_j z hI hM hR hw hl kk
      | 22, _ =>
        refine lv_tableIn (off := 884) (tgt := 924) C.1 C.2.1 dL_law_40 (by decide) (by decide) rfl (by decide) ?_
        exact law_scratches hst C0 hbA hhf hs1 hs2 hs3 hs4 hs5 hc1 P_qx_i P_qx_n P_qt_i P_qt_l P_qt_n P_qt_j P_qs_i P_qs_n P_qs_j P_qd_i P_qd_n P_qd_j P_qa_i P_qa_n P_qb_i P_qb_n P_qh_i P_qr_i P_qr_n P_qe_i P_qe_n P_qp_i P_qp_n P_qf_i P_qf_n P_qn_i P_qn_n P_i0_i P_i0s_i P_i0s_n P_i0s_j P_i0a_i P_i0a_n P_i0r_i P_i0r_n P_i1_i P_i1s_i P_i1s_n P_i1s_j P_i1a_i P_i1a_n P_i1r_i P_i1r_n P_hi P_hn M_qm_i M_qm_l M_qm_n M_qm_j z hI hM hR hw hl kk
      | 23, _ =>
        refine lv_tableIn (off := 909) (tgt := 949) C.1 C.2.1 dL_law_40 (by decide) (by decide) rfl (by decide) ?_
        exact law_scratched hst C0 hbA hhf hs1 hs2 hs3 hs4 hs5 hc1 P_qx_i P_qx_n P_qt_i P_qt_l P_qt_n P_qt_j P_qs_i P_qs_n P_qs_j P_qd_i P_qd_n P_qd_j P_qa_i P_qa_n P_qb_i P_qb_n P_qh_i P_qr_i P_qr_n P_qe_i P_qe_n P_qp_i P_qp_n P_qf_i P_qf_n P_qn_i P_qn_n P_i0_i P_i0s_i P_i0s_n P_i0s_j P_i0a_i P_i0a_n P_i0r_i P_i0r_n P_i1_i P_i1s_i P_i1s_n P_i1s_j P_i1a_i P_i1a_n P_i1r_i P_i1r_n P_hi P_hn M_qm_i M_qm_l M_qm_n M_qm_j z hI hM hR hw hl kk
      | 24, _ =>
        refine lv_tableIn (off := 922) (tgt := 962) C.1 C.2.1 dL_law_40 (by decide) (by decide) rfl (by decide) ?_
        exact law_seen hst C0 hbA hhf hs1 hs2 hs3 hs4 hs5 hc1 P_qx_i P_qx_n P_qt_i P_qt_l P_qt_n P_qt_j P_qs_i P_qs_n P_qs_j P_qd_i P_qd_n P_qd_j P_qa_i P_qa_n P_qb_i P_qb_n P_qh_i P_qr_i P_qr_n P_qe_i P_qe_n P_qp_i P_qp_n P_qf_i P_qf_n P_qn_i P_qn_n P_i0_i P_i0s_i P_i0s_n P_i0s_j P_i0a_i P_i0a_n P_i0r_i P_i0r_n P_i1_i P_i1s_i P_i1s_n P_i1s_j P_i1a_i P_i1a_n P_i1r_i P_i1r_n P_hi P_hn M_qm_i M_qm_l M_qm_n M_qm_j z hI hM hR hw hl kk
      | 25, _ =>
        refine lv_tableIn (off := 935) (tgt := 975) C.1 C.2.1 dL_law_40 (by decide) (by decide) rfl (by decide) ?_
        exact law_alike hst C0 hbA hhf hs1 hs2 hs3 hs4 hs5 hc1 P_qx_i P_qx_n P_qt_i P_qt_l P_qt_n P_qt_j P_qs_i P_qs_n P_qs_j P_qd_i P_qd_n P_qd_j P_qa_i P_qa_n P_qb_i P_qb_n P_qh_i P_qr_i P_qr_n P_qe_i P_qe_n P_qp_i P_qp_n P_qf_i P_qf_n P_qn_i P_qn_n P_i0_i P_i0s_i P_i0s_n P_i0s_j P_i0a_i P_i0a_n P_i0r_i P_i0r_n P_i1_i P_i1s_i P_i1s_n P_i1s_j P_i1a_i P_i1a_n P_i1r_i P_i1r_n P_hi P_hn M_qm_i M_qm_l M_qm_n M_qm_j z hI hM hR hw hl kk
      | 26, _ =>
        refine lv_tableIn (off := 960) (tgt := 1000) C.1 C.2.1 dL_law_40 (by decide) (by decide) rfl (by decide) ?_
        exact law_differ hst C0 hbA hhf hs1 hs2 hs3 hs4 hs5 hc1 P_qx_i P_qx_n P_qt_i P_qt_l P_qt_n P_qt_j P_qs_i P_qs_n P_qs_j P_qd_i P_qd_n P_qd_j P_qa_i P_qa_n P_qb_i P_qb_n P_qh_i P_qr_i P_qr_n P_qe_i P_qe_n P_qp_i P_qp_n P_qf_i P_qf_n P_qn_i P_qn_n P_i0_i P_i0s_i P_i0s_n P_i0s_j P_i0a_i P_i0a_n P_i0r_i P_i0r_n P_i1_i P_i1s_i P_i1s_n P_i1s_j P_i1a_i P_i1a_n P_i1r_i P_i1r_n P_hi P_hn M_qm_i M_qm_l M_qm_n M_qm_j z hI hM hR hw hl kk
      | 27, _ =>
        refine lv_tableIn (off := 997) (tgt := 1037) C.1 C.2.1 dL_law_40 (by decide) (by decide) rfl (by decide) ?_
        exact law_parts hst C0 hbA hhf hs1 hs2 hs3 hs4 hs5 hc1 P_qx_i P_qx_n P_qt_i P_qt_l P_qt_n P_qt_j P_qs_i P_qs_n P_qs_j P_qd_i P_qd_n P_qd_j P_qa_i P_qa_n P_qb_i P_qb_n P_qh_i P_qr_i P_qr_n P_qe_i P_qe_n P_qp_i P_qp_n P_qf_i P_qf_n P_qn_i P_qn_n P_i0_i P_i0s_i P_i0s_n P_i0s_j P_i0a_i P_i0a_n P_i0r_i P_i0r_n P_i1_i P_i1s_i P_i1s_n P_i1s_j P_i1a_i P_i1a_n P_i1r_i P_i1r_n P_hi P_hn M_qm_i M_qm_l M_qm_n M_qm_j z hI hM hR hw hl kk
      | 28, _ =>
        refine lv_tableIn (off := 1010) (tgt := 1050) C.1 C.2.1 dL_law_40 (by decide) (by decide) rfl (by decide) ?_
        exact law_bill hst C0 hbA hhf hs1 hs2 hs3 hs4 hs5 hc1 P_qx_i P_qx_n P_qt_i P_qt_l P_qt_n P_qt_j P_qs_i P_qs_n P_qs_j P_qd_i P_qd_n P_qd_j P_qa_i P_qa_n P_qb_i P_qb_n P_qh_i P_qr_i P_qr_n P_qe_i P_qe_n P_qp_i P_qp_n P_qf_i P_qf_n P_qn_i P_qn_n P_i0_i P_i0s_i P_i0s_n P_i0s_j P_i0a_i P_i0a_n P_i0r_i P_i0r_n P_i1_i P_i1s_i P_i1s_n P_i1s_j P_i1a_i P_i1a_n P_i1r_i P_i1r_n P_hi P_hn M_qm_i M_qm_l M_qm_n M_qm_j z hI hM hR hw hl kk
      | 29, _ =>
        refine lv_tableIn (off := 1035) (tgt := 1075) C.1 C.2.1 dL_law_40 (by decide) (by decide) rfl (by decide) ?_
        exact law_byteAt hst C0 hbA hhf hs1 hs2 hs3 hs4 hs5 hc1 P_qx_i P_qx_n P_qt_i P_qt_l P_qt_n P_qt_j P_qs_i P_qs_n P_qs_j P_qd_i P_qd_n P_qd_j P_qa_i P_qa_n P_qb_i P_qb_n P_qh_i P_qr_i P_qr_n P_qe_i P_qe_n P_qp_i P_qp_n P_qf_i P_qf_n P_qn_i P_qn_n P_i0_i P_i0s_i P_i0s_n P_i0s_j P_i0a_i P_i0a_n P_i0r_i P_i0r_n P_i1_i P_i1s_i P_i1s_n P_i1s_j P_i1a_i P_i1a_n P_i1r_i P_i1r_n P_hi P_hn M_qm_i M_qm_l M_qm_n M_qm_j z hI hM hR hw hl kk
      | 30, _ =>
        refine lv_tableIn (off := 1060) (tgt := 1100) C.1 C.2.1 dL_law_40 (by decide) (by decide) rfl (by decide) ?_
        exact law_drawn hst C0 hbA hhf hs1 hs2 hs3 hs4 hs5 hc1 P_qx_i P_qx_n P_qt_i P_qt_l P_qt_n P_qt_j P_qs_i P_qs_n P_qs_j P_qd_i P_qd_n P_qd_j P_qa_i P_qa_n P_qb_i P_qb_n P_qh_i P_qr_i P_qr_n P_qe_i P_qe_n P_qp_i P_qp_n P_qf_i P_qf_n P_qn_i P_qn_n P_i0_i P_i0s_i P_i0s_n P_i0s_j P_i0a_i P_i0a_n P_i0r_i P_i0r_n P_i1_i P_i1s_i P_i1s_n P_i1s_j P_i1a_i P_i1a_n P_i1r_i P_i1r_n P_hi P_hn M_qm_i M_qm_l M_qm_n M_qm_j z hI hM hR hw hl kk
      | 31, _ =>
        refine lv_tableIn (off := 1097) (tgt := 1137) C.1 C.2.1 dL_law_40 (by decide) (by decide) rfl (by decide) ?_
        exact law_odds hst C0 hbA hhf hs1 hs2 hs3 hs4 hs5 hc1 P_qx_i P_qx_n P_qt_i P_qt_l P_qt_n P_qt_j P_qs_i P_qs_n P_qs_j P_qd_i P_qd_n P_qd_j P_qa_i P_qa_n P_qb_i P_qb_n P_qh_i P_qr_i P_qr_n P_qe_i P_qe_n P_qp_i P_qp_n P_qf_i P_qf_n P_qn_i P_qn_n P_i0_i P_i0s_i P_i0s_n P_i0s_j P_i0a_i P_i0a_n P_i0r_i P_i0r_n P_i1_i P_i1s_i P_i1s_n P_i1s_j P_i1a_i P_i1a_n P_i1r_i P_i1r_n P_hi P_hn M_qm_i M_qm_l M_qm_n M_qm_j z hI hM hR hw hl kk
      | 32, _ =>
        refine lv_tableIn (off := 1146) (tgt := 1186) C.1 C.2.1 dL_law_40 (by decide) (by decide) rfl (by decide) ?_
        exact law_book hst C0 hbA hhf hs1 hs2 hs3 hs4 hs5 hc1 P_qx_i P_qx_n P_qt_i P_qt_l P_qt_n P_qt_j P_qs_i P_qs_n P_qs_j P_qd_i P_qd_n P_qd_j P_qa_i P_qa_n P_qb_i P_qb_n P_qh_i P_qr_i P_qr_n P_qe_i P_qe_n P_qp_i P_qp_n P_qf_i P_qf_n P_qn_i P_qn_n P_i0_i P_i0s_i P_i0s_n P_i0s_j P_i0a_i P_i0a_n P_i0r_i P_i0r_n P_i1_i P_i1s_i P_i1s_n P_i1s_j P_i1a_i P_i1a_n P_i1r_i P_i1r_n P_hi P_hn M_qm_i M_qm_l M_qm_n M_qm_j z hI hM hR hw hl kk
      | 33, _ =>
        refine lv_tableIn (off := 1171) (tgt := 1211) C.1 C.2.1 dL_law_40 (by decide) (by decide) rfl (by decide) ?_
        exact law_told hst C0 hbA hhf hs1 hs2 hs3 hs4 hs5 hc1 P_qx_i P_qx_n P_qt_i P_qt_l P_qt_n P_qt_j P_qs_i P_qs_n P_qs_j P_qd_i P_qd_n P_qd_j P_qa_i P_qa_n P_qb_i P_qb_n P_qh_i P_qr_i P_qr_n P_qe_i P_qe_n P_qp_i P_qp_n P_qf_i P_qf_n P_qn_i P_qn_n P_i0_i P_i0s_i P_i0s_n P_i0s_j P_i0a_i P_i0a_n P_i0r_i P_i0r_n P_i1_i P_i1s_i P_i1s_n P_i1s_j P_i1a_i P_i1a_n P_i1r_i P_i1r_n P_hi P_hn M_qm_i M_qm_l M_qm_n M_qm_j z hI hM hR hw hl kk
      | 34, _ =>
        refine lv_tableIn (off := 1196) (tgt := 1236) C.1 C.2.1 dL_law_40 (by decide) (by decide) rfl (by decide) ?_
        exact law_sentence hst C0 hbA hhf hs1 hs2 hs3 hs4 hs5 hc1 P_qx_i P_qx_n P_qt_i P_qt_l P_qt_n P_qt_j P_qs_i P_qs_n P_qs_j P_qd_i P_qd_n P_qd_j P_qa_i P_qa_n P_qb_i P_qb_n P_qh_i P_qr_i P_qr_n P_qe_i P_qe_n P_qp_i P_qp_n P_qf_i P_qf_n P_qn_i P_qn_n P_i0_i P_i0s_i P_i0s_n P_i0s_j P_i0a_i P_i0a_n P_i0r_i P_i0r_n P_i1_i P_i1s_i P_i1s_n P_i1s_j P_i1a_i P_i1a_n P_i1r_i P_i1r_n P_hi P_hn M_qm_i M_qm_l M_qm_n M_qm_j z hI hM hR hw hl kk
      | 35, _ =>
        refine lv_tableIn (off := 1209) (tgt := 1249) C.1 C.2.1 dL_law_40 (by decide) (by decide) rfl (by decide) ?_
        exact law_said hst C0 hbA hhf hs1 hs2 hs3 hs4 hs5 hc1 P_qx_i P_qx_n P_qt_i P_qt_l P_qt_n P_qt_j P_qs_i P_qs_n P_qs_j P_qd_i P_qd_n P_qd_j P_qa_i P_qa_n P_qb_i P_qb_n P_qh_i P_qr_i P_qr_n P_qe_i P_qe_n P_qp_i P_qp_n P_qf_i P_qf_n P_qn_i P_qn_n P_i0_i P_i0s_i P_i0s_n P_i0s_j P_i0a_i P_i0a_n P_i0r_i P_i0r_n P_i1_i P_i1s_i P_i1s_n P_i1s_j P_i1a_i P_i1a_n P_i1r_i P_i1r_n P_hi P_hn M_qm_i M_qm_l M_qm_n M_qm_j z hI hM hR hw hl kk
      | 36, _ =>
        refine lv_tableIn (off := 1234) (tgt := 1274) C.1 C.2.1 dL_law_40 (by decide) (by decide) rfl (by decide) ?_
        exact law_image hst C0 hbA hhf hs1 hs2 hs3 hs4 hs5 hc1 P_qx_i P_qx_n P_qt_i P_qt_l P_qt_n P_qt_j P_qs_i P_qs_n P_qs_j P_qd_i P_qd_n P_qd_j P_qa_i P_qa_n P_qb_i P_qb_n P_qh_i P_qr_i P_qr_n P_qe_i P_qe_n P_qp_i P_qp_n P_qf_i P_qf_n P_qn_i P_qn_n P_i0_i P_i0s_i P_i0s_n P_i0s_j P_i0a_i P_i0a_n P_i0r_i P_i0r_n P_i1_i P_i1s_i P_i1s_n P_i1s_j P_i1a_i P_i1a_n P_i1r_i P_i1r_n P_hi P_hn M_qm_i M_qm_l M_qm_n M_qm_j z hI hM hR hw hl kk
      | 37, _ =>
        refine lv_tableIn (off := 1259) (tgt := 1299) C.1 C.2.1 dL_law_40 (by decide) (by decide) rfl (by decide) ?_
        exact law_restore hst C0 hbA hhf hs1 hs2 hs3 hs4 hs5 hc1 P_qx_i P_qx_n P_qt_i P_qt_l P_qt_n P_qt_j P_qs_i P_qs_n P_qs_j P_qd_i P_qd_n P_qd_j P_qa_i P_qa_n P_qb_i P_qb_n P_qh_i P_qr_i P_qr_n P_qe_i P_qe_n P_qp_i P_qp_n P_qf_i P_qf_n P_qn_i P_qn_n P_i0_i P_i0s_i P_i0s_n P_i0s_j P_i0a_i P_i0a_n P_i0r_i P_i0r_n P_i1_i P_i1s_i P_i1s_n P_i1s_j P_i1a_i P_i1a_n P_i1r_i P_i1r_n P_hi P_hn M_qm_i M_qm_l M_qm_n M_qm_j z hI hM hR hw hl kk
      | 38, _ =>
        refine lv_tableIn (off := 1284) (tgt := 1324) C.1 C.2.1 dL_law_40 (by decide) (by decide) rfl (by decide) ?_
        exact law_count hst C0 hbA hhf hs1 hs2 hs3 hs4 hs5 hc1 P_qx_i P_qx_n P_qt_i P_qt_l P_qt_n P_qt_j P_qs_i P_qs_n P_qs_j P_qd_i P_qd_n P_qd_j P_qa_i P_qa_n P_qb_i P_qb_n P_qh_i P_qr_i P_qr_n P_qe_i P_qe_n P_qp_i P_qp_n P_qf_i P_qf_n P_qn_i P_qn_n P_i0_i P_i0s_i P_i0s_n P_i0s_j P_i0a_i P_i0a_n P_i0r_i P_i0r_n P_i1_i P_i1s_i P_i1s_n P_i1s_j P_i1a_i P_i1a_n P_i1r_i P_i1r_n P_hi P_hn M_qm_i M_qm_l M_qm_n M_qm_j z hI hM hR hw hl kk
      | j + 39, hj =>
        refine lv_tableOut (tgt := 1349) C.1 C.2.1 dL_law_40 (Or.inr (by rw [nI_toInt (by omega)]; omega)) (by decide) ?_
        exact W.widen (Nat.le_add_right _ 1) (Nat.le_add_right _ 6) (kk P_qx_i P_qx_n P_qt_i P_qt_l P_qt_n P_qt_j P_qs_i P_qs_n P_qs_j P_qd_i P_qd_n P_qd_j P_qa_i P_qa_n P_qb_i P_qb_n P_qh_i P_qr_i P_qr_n P_qe_i P_qe_n P_qp_i P_qp_n P_qf_i P_qf_n P_qn_i P_qn_n P_i0_i P_i0s_i P_i0s_n P_i0s_j P_i0a_i P_i0a_n P_i0r_i P_i0r_n P_i1_i P_i1s_i P_i1s_n P_i1s_j P_i1a_i P_i1a_n P_i1r_i P_i1r_n P_hi P_hn M_qm_i M_qm_l M_qm_n M_qm_j z _ _ _ hI hM hR hw hl)
theorem inA0 : inA 6 (-1) 5 (fun _ => 0) := fun k _ => (by show -1 ≤ (0 : Int32).toInt ∧ (0 : Int32).toInt ≤ 5; decide)
theorem seI0 : seI (fun _ => 0) (fun _ => 0) := fun k _ h => absurd h (show ¬ (0 : Int32).toInt = 22 by decide)
theorem bkI0 : bkI (fun _ => 0) (fun _ => 0) (fun _ => 0) := fun k _ => ⟨fun h => absurd h.1 (show ¬ 11 ≤ (0 : Int32).toInt by decide), fun h => absurd h (show ¬ (0 : Int32).toInt = 12 by decide)⟩
theorem slI_of {f : Nat → Int32} (h0 : 0 ≤ (f 0).toInt ∧ (f 0).toInt ≤ 6) (h1 : 0 ≤ (f 1).toInt ∧ (f 1).toInt ≤ 8) (h2 : ∀ k, k < 6 → -1 ≤ (f (18 + k)).toInt ∧ (f (18 + k)).toInt ≤ 5) : slI f := by
  intro k
  refine ⟨fun h => by subst h; exact h0, fun h => by subst h; exact h1, fun h => ?_⟩
  have := h2 (k - 18) (by omega)
  rwa [show 18 + (k - 18) = k by omega] at this
theorem slI_rd0 : slI rd0 := slI_of (by decide +kernel) (by decide +kernel) (by decide +kernel)
theorem slI_nw0 : slI nw0 := slI_of (by decide +kernel) (by decide +kernel) (by decide +kernel)
theorem slI0 : slI (fun _ => 0) := slI_of (by decide +kernel) (by decide +kernel) (by decide +kernel)
theorem ndI_z {f : Nat → Int32} (h : ∀ j, f j = 0) : ndI f := by
  intro k _
  rw [h, h, h]
  show ndOk 0 0 0 k
  exact ⟨fun h => by omega, fun h => by omega, fun h => by omega⟩
theorem ndI0 : ndI (fun _ => 0) := ndI_z (fun _ => rfl)
theorem trI_nw0 : trI nw0 := ⟨by decide +kernel, ndI_z (fun j => by unfold nw0 va_cpy; exact if_neg (by omega))⟩
theorem trI0 : trI (fun _ => 0) := ⟨by decide +kernel, ndI0⟩
theorem kpI0 : kpI (fun _ => 0) := ⟨⟨slI0, trI0⟩, slI0, trI0⟩
theorem lnI0 : lnI (fun _ => 0) := fun k _ => ⟨fun _ => (by show -1 ≤ (0 : Int32).toInt ∧ (0 : Int32).toInt ≤ 7; decide), fun _ => (by show -1 ≤ (0 : Int32).toInt ∧ (0 : Int32).toInt ≤ 24; decide)⟩
theorem scR0 : scR 0 0 0 1 0 40 (fun _ => 0) (fun _ => 0) (fun _ => 0) nw0 := ⟨by decide +kernel, fun j _ h => absurd h (show ¬ (j : Int) < 0 by omega)⟩
