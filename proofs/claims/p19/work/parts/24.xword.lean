theorem dX11_isDigit_0 : decode cX11_isDigit 0 = .ok (.iload_n 0, 1) := by decide +kernel
theorem dX11_isDigit_1 : decode cX11_isDigit 1 = .ok (.bipush 48, 2) := by decide +kernel
theorem dX11_isDigit_3 : decode cX11_isDigit 3 = .ok (.if_icmp .lt 13, 3) := by decide +kernel
theorem dX11_isDigit_16 : decode cX11_isDigit 16 = .ok (.iconst 0, 1) := by decide +kernel
theorem dX11_isDigit_17 : decode cX11_isDigit 17 = .ok (.ireturn, 1) := by decide +kernel
theorem dX11_isDigit_6 : decode cX11_isDigit 6 = .ok (.iload_n 0, 1) := by decide +kernel
theorem dX11_isDigit_7 : decode cX11_isDigit 7 = .ok (.bipush 57, 2) := by decide +kernel
theorem dX11_isDigit_9 : decode cX11_isDigit 9 = .ok (.if_icmp .gt 7, 3) := by decide +kernel
theorem dX11_isDigit_12 : decode cX11_isDigit 12 = .ok (.iconst 1, 1) := by decide +kernel
theorem dX11_isDigit_13 : decode cX11_isDigit 13 = .ok (.goto 4, 3) := by decide +kernel
set_option maxHeartbeats 4000000 in
set_option maxRecDepth 100000 in
theorem e_X11_isDigit {l : Launch} {G : Gc} (a1 : Int32)  : Ci l yX11_isDigit cX11_isDigit 1 (some .boolean) 0 0 0 G [.int a1] [] (fun (r9 : Int32) (u9 : va_W) => (r9 = 0 ∧ u9 = [] ∧ (a1.toInt < 48 ∨ 57 < a1.toInt)) ∨ (r9 = 1 ∧ u9 = [] ∧ (48 ≤ a1.toInt ∧ a1.toInt ≤ 57))) := by
  refine Ci.ofQ (by decide) (Nat.le_of_ble_eq_true rfl) ?_
  intro p e s m below meth c ls A args Q hQ B hw hl
  have C : CallFix p m c cX11_isDigit 1 s args gw "LanternStateModel" := B.1
  have hl : lv_has ls 1 [(0, .int a1)] := hl
  refine lv_iload_n C.1 C.2.1 dX11_isDigit_0 rfl (lv_at hl 0 rfl) ?_
  refine lv_bipush (v := 48) C.1 C.2.1 dX11_isDigit_1 (by decide) ?_
  refine lv_icmp_lt (tgt := 16) C.1 C.2.1 dX11_isDigit_3 (by decide) (fun c1 => ?_) (fun c1 => ?_)
  · skip
    have c1 : a1.toInt < 48 := i_ltT (X := a1.toInt) (Y := 48) rfl rfl c1
    have bc1_a1 := i_bd a1
    refine lv_iconst (v := 0) C.1 C.2.1 dX11_isDigit_16 (by decide) ?_
    exact x_retzQ hQ B hw rfl (Or.inl ⟨rfl, rfl, (by first | omega)⟩) (Nat.le_of_ble_eq_true rfl) (Nat.le_of_ble_eq_true rfl) dX11_isDigit_17
  · skip
    have c1 : 48 ≤ a1.toInt := i_ltF (X := a1.toInt) (Y := 48) rfl rfl c1
    have bc1_a1 := i_bd a1
    refine lv_iload_n C.1 C.2.1 dX11_isDigit_6 rfl (lv_at hl 0 rfl) ?_
    refine lv_bipush (v := 57) C.1 C.2.1 dX11_isDigit_7 (by decide) ?_
    refine lv_icmp_gt (tgt := 16) C.1 C.2.1 dX11_isDigit_9 (by decide) (fun c2 => ?_) (fun c2 => ?_)
    · skip
      have c2 : 57 < a1.toInt := i_ltT (X := 57) (Y := a1.toInt) rfl rfl c2
      have bc2_a1 := i_bd a1
      refine lv_iconst (v := 0) C.1 C.2.1 dX11_isDigit_16 (by decide) ?_
      exact x_retzQ hQ B hw rfl (Or.inl ⟨rfl, rfl, (by first | omega)⟩) (Nat.le_of_ble_eq_true rfl) (Nat.le_of_ble_eq_true rfl) dX11_isDigit_17
    · skip
      have c2 : a1.toInt ≤ 57 := i_ltF (X := 57) (Y := a1.toInt) rfl rfl c2
      have bc2_a1 := i_bd a1
      refine lv_iconst (v := 1) C.1 C.2.1 dX11_isDigit_12 (by decide) ?_
      refine lv_goto (tgt := 17) C.1 C.2.1 dX11_isDigit_13 (by decide) ?_
      exact x_retzQ hQ B hw rfl (Or.inr ⟨rfl, rfl, (by omega)⟩) (Nat.le_of_ble_eq_true rfl) (Nat.le_of_ble_eq_true rfl) dX11_isDigit_17
theorem dX11_isLetter_0 : decode cX11_isLetter 0 = .ok (.iload_n 0, 1) := by decide +kernel
theorem dX11_isLetter_1 : decode cX11_isLetter 1 = .ok (.bipush 97, 2) := by decide +kernel
theorem dX11_isLetter_3 : decode cX11_isLetter 3 = .ok (.if_icmp .lt 13, 3) := by decide +kernel
theorem dX11_isLetter_16 : decode cX11_isLetter 16 = .ok (.iconst 0, 1) := by decide +kernel
theorem dX11_isLetter_17 : decode cX11_isLetter 17 = .ok (.ireturn, 1) := by decide +kernel
theorem dX11_isLetter_6 : decode cX11_isLetter 6 = .ok (.iload_n 0, 1) := by decide +kernel
theorem dX11_isLetter_7 : decode cX11_isLetter 7 = .ok (.bipush 122, 2) := by decide +kernel
theorem dX11_isLetter_9 : decode cX11_isLetter 9 = .ok (.if_icmp .gt 7, 3) := by decide +kernel
theorem dX11_isLetter_12 : decode cX11_isLetter 12 = .ok (.iconst 1, 1) := by decide +kernel
theorem dX11_isLetter_13 : decode cX11_isLetter 13 = .ok (.goto 4, 3) := by decide +kernel
set_option maxHeartbeats 4000000 in
set_option maxRecDepth 100000 in
theorem e_X11_isLetter {l : Launch} {G : Gc} (a1 : Int32)  : Ci l yX11_isLetter cX11_isLetter 1 (some .boolean) 0 0 0 G [.int a1] [] (fun (r9 : Int32) (u9 : va_W) => (r9 = 0 ∧ u9 = [] ∧ (a1.toInt < 97 ∨ 122 < a1.toInt)) ∨ (r9 = 1 ∧ u9 = [] ∧ (97 ≤ a1.toInt ∧ a1.toInt ≤ 122))) := by
  refine Ci.ofQ (by decide) (Nat.le_of_ble_eq_true rfl) ?_
  intro p e s m below meth c ls A args Q hQ B hw hl
  have C : CallFix p m c cX11_isLetter 1 s args gw "LanternStateModel" := B.1
  have hl : lv_has ls 1 [(0, .int a1)] := hl
  refine lv_iload_n C.1 C.2.1 dX11_isLetter_0 rfl (lv_at hl 0 rfl) ?_
  refine lv_bipush (v := 97) C.1 C.2.1 dX11_isLetter_1 (by decide) ?_
  refine lv_icmp_lt (tgt := 16) C.1 C.2.1 dX11_isLetter_3 (by decide) (fun c1 => ?_) (fun c1 => ?_)
  · skip
    have c1 : a1.toInt < 97 := i_ltT (X := a1.toInt) (Y := 97) rfl rfl c1
    have bc1_a1 := i_bd a1
    refine lv_iconst (v := 0) C.1 C.2.1 dX11_isLetter_16 (by decide) ?_
    exact x_retzQ hQ B hw rfl (Or.inl ⟨rfl, rfl, (by first | omega)⟩) (Nat.le_of_ble_eq_true rfl) (Nat.le_of_ble_eq_true rfl) dX11_isLetter_17
  · skip
    have c1 : 97 ≤ a1.toInt := i_ltF (X := a1.toInt) (Y := 97) rfl rfl c1
    have bc1_a1 := i_bd a1
    refine lv_iload_n C.1 C.2.1 dX11_isLetter_6 rfl (lv_at hl 0 rfl) ?_
    refine lv_bipush (v := 122) C.1 C.2.1 dX11_isLetter_7 (by decide) ?_
    refine lv_icmp_gt (tgt := 16) C.1 C.2.1 dX11_isLetter_9 (by decide) (fun c2 => ?_) (fun c2 => ?_)
    · skip
      have c2 : 122 < a1.toInt := i_ltT (X := 122) (Y := a1.toInt) rfl rfl c2
      have bc2_a1 := i_bd a1
      refine lv_iconst (v := 0) C.1 C.2.1 dX11_isLetter_16 (by decide) ?_
      exact x_retzQ hQ B hw rfl (Or.inl ⟨rfl, rfl, (by first | omega)⟩) (Nat.le_of_ble_eq_true rfl) (Nat.le_of_ble_eq_true rfl) dX11_isLetter_17
    · skip
      have c2 : a1.toInt ≤ 122 := i_ltF (X := 122) (Y := a1.toInt) rfl rfl c2
      have bc2_a1 := i_bd a1
      refine lv_iconst (v := 1) C.1 C.2.1 dX11_isLetter_12 (by decide) ?_
      refine lv_goto (tgt := 17) C.1 C.2.1 dX11_isLetter_13 (by decide) ?_
      exact x_retzQ hQ B hw rfl (Or.inr ⟨rfl, rfl, (by omega)⟩) (Nat.le_of_ble_eq_true rfl) (Nat.le_of_ble_eq_true rfl) dX11_isLetter_17
theorem dX11_isIn_0 : decode cX11_isIn 0 = .ok (.iload_n 0, 1) := by decide +kernel
theorem dX11_isIn_1 : decode cX11_isIn 1 = .ok (.iload_n 1, 1) := by decide +kernel
theorem dX11_isIn_2 : decode cX11_isIn 2 = .ok (.if_icmp .lt 12, 3) := by decide +kernel
theorem dX11_isIn_14 : decode cX11_isIn 14 = .ok (.iconst 0, 1) := by decide +kernel
theorem dX11_isIn_15 : decode cX11_isIn 15 = .ok (.ireturn, 1) := by decide +kernel
theorem dX11_isIn_5 : decode cX11_isIn 5 = .ok (.iload_n 0, 1) := by decide +kernel
theorem dX11_isIn_6 : decode cX11_isIn 6 = .ok (.iload_n 2, 1) := by decide +kernel
theorem dX11_isIn_7 : decode cX11_isIn 7 = .ok (.if_icmp .gt 7, 3) := by decide +kernel
theorem dX11_isIn_10 : decode cX11_isIn 10 = .ok (.iconst 1, 1) := by decide +kernel
theorem dX11_isIn_11 : decode cX11_isIn 11 = .ok (.goto 4, 3) := by decide +kernel
set_option maxHeartbeats 4000000 in
set_option maxRecDepth 100000 in
theorem e_X11_isIn {l : Launch} {G : Gc} (a1 : Int32) (a2 : Int32) (a3 : Int32)  : Ci l yX11_isIn cX11_isIn 3 (some .boolean) 0 0 0 G [.int a1, .int a2, .int a3] [] (fun (r9 : Int32) (u9 : va_W) => (r9 = 0 ∧ u9 = [] ∧ (a1.toInt < a2.toInt ∨ a3.toInt < a1.toInt)) ∨ (r9 = 1 ∧ u9 = [] ∧ (a2.toInt ≤ a1.toInt ∧ a1.toInt ≤ a3.toInt))) := by
  refine Ci.ofQ (by decide) (Nat.le_of_ble_eq_true rfl) ?_
  intro p e s m below meth c ls A args Q hQ B hw hl
  have C : CallFix p m c cX11_isIn 3 s args gw "LanternStateModel" := B.1
  have hl : lv_has ls 3 [(0, .int a1), (1, .int a2), (2, .int a3)] := hl
  refine lv_iload_n C.1 C.2.1 dX11_isIn_0 rfl (lv_at hl 0 rfl) ?_
  refine lv_iload_n C.1 C.2.1 dX11_isIn_1 rfl (lv_at hl 1 rfl) ?_
  refine lv_icmp_lt (tgt := 14) C.1 C.2.1 dX11_isIn_2 (by decide) (fun c1 => ?_) (fun c1 => ?_)
  · skip
    have c1 : a1.toInt < a2.toInt := i_ltT (X := a1.toInt) (Y := a2.toInt) rfl rfl c1
    have bc1_a1 := i_bd a1
    have bc1_a2 := i_bd a2
    refine lv_iconst (v := 0) C.1 C.2.1 dX11_isIn_14 (by decide) ?_
    exact x_retzQ hQ B hw rfl (Or.inl ⟨rfl, rfl, (by first | omega)⟩) (Nat.le_of_ble_eq_true rfl) (Nat.le_of_ble_eq_true rfl) dX11_isIn_15
  · skip
    have c1 : a2.toInt ≤ a1.toInt := i_ltF (X := a1.toInt) (Y := a2.toInt) rfl rfl c1
    have bc1_a1 := i_bd a1
    have bc1_a2 := i_bd a2
    refine lv_iload_n C.1 C.2.1 dX11_isIn_5 rfl (lv_at hl 0 rfl) ?_
    refine lv_iload_n C.1 C.2.1 dX11_isIn_6 rfl (lv_at hl 2 rfl) ?_
    refine lv_icmp_gt (tgt := 14) C.1 C.2.1 dX11_isIn_7 (by decide) (fun c2 => ?_) (fun c2 => ?_)
    · skip
      have c2 : a3.toInt < a1.toInt := i_ltT (X := a3.toInt) (Y := a1.toInt) rfl rfl c2
      have bc2_a1 := i_bd a1
      have bc2_a3 := i_bd a3
      refine lv_iconst (v := 0) C.1 C.2.1 dX11_isIn_14 (by decide) ?_
      exact x_retzQ hQ B hw rfl (Or.inl ⟨rfl, rfl, (by first | omega)⟩) (Nat.le_of_ble_eq_true rfl) (Nat.le_of_ble_eq_true rfl) dX11_isIn_15
    · skip
      have c2 : a1.toInt ≤ a3.toInt := i_ltF (X := a3.toInt) (Y := a1.toInt) rfl rfl c2
      have bc2_a1 := i_bd a1
      have bc2_a3 := i_bd a3
      refine lv_iconst (v := 1) C.1 C.2.1 dX11_isIn_10 (by decide) ?_
      refine lv_goto (tgt := 15) C.1 C.2.1 dX11_isIn_11 (by decide) ?_
      exact x_retzQ hQ B hw rfl (Or.inr ⟨rfl, rfl, (by first | omega)⟩) (Nat.le_of_ble_eq_true rfl) (Nat.le_of_ble_eq_true rfl) dX11_isIn_15
theorem dX11_tapeAt_0 : decode cX11_tapeAt 0 = .ok (.iload_n 1, 1) := by decide +kernel
theorem dX11_tapeAt_1 : decode cX11_tapeAt 1 = .ok (.aload_n 0, 1) := by decide +kernel
theorem dX11_tapeAt_2 : decode cX11_tapeAt 2 = .ok (.getfield 18, 3) := by decide +kernel
theorem dX11_tapeAt_5 : decode cX11_tapeAt 5 = .ok (.if_icmp .ge 12, 3) := by decide +kernel
theorem dX11_tapeAt_17 : decode cX11_tapeAt 17 = .ok (.iconst 0, 1) := by decide +kernel
theorem dX11_tapeAt_18 : decode cX11_tapeAt 18 = .ok (.ireturn, 1) := by decide +kernel
theorem dX11_tapeAt_8 : decode cX11_tapeAt 8 = .ok (.aload_n 0, 1) := by decide +kernel
theorem dX11_tapeAt_9 : decode cX11_tapeAt 9 = .ok (.getfield 7, 3) := by decide +kernel
theorem dX11_tapeAt_12 : decode cX11_tapeAt 12 = .ok (.iload_n 1, 1) := by decide +kernel
theorem dX11_tapeAt_13 : decode cX11_tapeAt 13 = .ok (.iaload, 1) := by decide +kernel
theorem dX11_tapeAt_14 : decode cX11_tapeAt 14 = .ok (.goto 4, 3) := by decide +kernel
set_option maxHeartbeats 4000000 in
set_option maxRecDepth 100000 in
theorem e_X11_tapeAt {l : Launch} {G : Gc} (qm : Nat) (a1 : Int32) (qm_thrown : Int32) (qm_tape : Nat) (qm_taped : Int32) (qm_size : Int32) (qm_limit : Int32) (qm_to : Int32) (qm_from : Int32) (qm_kind : Int32) (qm_number : Int32) (qm_sign : Int32) (qm_fault : Int32) (qm_place : Int32) (qm_word : Int64) (qm_told : Int32) (qm_now : Nat) (qm_read : Nat) (qm_kept : Nat) (qm_snaps : Nat) (qm_aside : Nat) (qm_name : Nat) (qm_readName : Nat) (qm_keptName : Nat) (qm_isKept : Nat) (qm_onces : Nat) (qm_snapMany : Int32) (qm_order : Nat) (qm_ordered : Nat) (qm_orderMany : Int32) (qm_orderMost : Int32) (qm_passing : Int32) (qm_movedWho : Int32) (qm_scratched : Int32) (qm_text : Nat) (qm_texts : Int32) (qm_seed : Int32) (qm_line : Nat) (qm_written : Nat) (qm_lineMany : Int32) (qm_hasWritten : Int32) (qm_node : Nat) (qm_nodes : Int32) (qm_onesMany : Int32) (qm_within : Int32) (qm_top : Int32) (qm_tape_c : Nat → Int32) (b : Int → Int) (hi_a1 : 0 ≤ a1.toInt ∧ a1.toInt ≤ 940) (hi_qm_size : 0 ≤ qm_size.toInt ∧ qm_size.toInt ≤ 940) (hr_0 : tbR b qm_tape_c qm_size) : Ci l yX11_tapeAt cX11_tapeAt 2 (some .int) 0 0 0 G [.ref qm, .int a1] [(qm, .inr (10, [.int qm_thrown, .ref qm_tape, .int qm_taped, .int qm_size, .int qm_limit, .int qm_to, .int qm_from, .int qm_kind, .int qm_number, .int qm_sign, .int qm_fault, .int qm_place, .long qm_word, .int qm_told, .ref qm_now, .ref qm_read, .ref qm_kept, .ref qm_snaps, .ref qm_aside, .ref qm_name, .ref qm_readName, .ref qm_keptName, .ref qm_isKept, .ref qm_onces, .int qm_snapMany, .ref qm_order, .ref qm_ordered, .int qm_orderMany, .int qm_orderMost, .int qm_passing, .int qm_movedWho, .int qm_scratched, .ref qm_text, .int qm_texts, .int qm_seed, .ref qm_line, .ref qm_written, .int qm_lineMany, .int qm_hasWritten, .ref qm_node, .int qm_nodes, .int qm_onesMany, .int qm_within, .int qm_top])), (qm_tape, eI G 940 qm_tape_c)] (fun (r9 : Int32) (u9 : va_W) => ∃ (r_x : Int32), r9 = r_x ∧ u9 = [(qm, .inr (10, [.int qm_thrown, .ref qm_tape, .int qm_taped, .int qm_size, .int qm_limit, .int qm_to, .int qm_from, .int qm_kind, .int qm_number, .int qm_sign, .int qm_fault, .int qm_place, .long qm_word, .int qm_told, .ref qm_now, .ref qm_read, .ref qm_kept, .ref qm_snaps, .ref qm_aside, .ref qm_name, .ref qm_readName, .ref qm_keptName, .ref qm_isKept, .ref qm_onces, .int qm_snapMany, .ref qm_order, .ref qm_ordered, .int qm_orderMany, .int qm_orderMost, .int qm_passing, .int qm_movedWho, .int qm_scratched, .ref qm_text, .int qm_texts, .int qm_seed, .ref qm_line, .ref qm_written, .int qm_lineMany, .int qm_hasWritten, .ref qm_node, .int qm_nodes, .int qm_onesMany, .int qm_within, .int qm_top])), (qm_tape, eI G 940 qm_tape_c)] ∧ (a1.toInt < qm_size.toInt → r_x.toInt = b a1.toInt) ∧ (qm_size.toInt ≤ a1.toInt → r_x.toInt = 0)) := by
  refine Ci.ofQ (by decide) (Nat.le_of_ble_eq_true rfl) ?_
  intro p e s m below meth c ls A args Q hQ B hw hl
  have C : CallFix p m c cX11_tapeAt 2 s args gw "LanternStateModel" := B.1
  have hl : lv_has ls 2 [(0, .ref qm), (1, .int a1)] := hl
  refine lv_iload_n C.1 C.2.1 dX11_tapeAt_0 rfl (lv_at hl 1 rfl) ?_
  refine lv_aload_n C.1 C.2.1 dX11_tapeAt_1 rfl (lv_at hl 0 rfl) ?_
  refine x_get C hw iwX11 10 rfl 0 rfl 3 (by decide) kw1196 rfl dX11_tapeAt_2 ?_
  refine lv_icmp_ge (tgt := 17) C.1 C.2.1 dX11_tapeAt_5 (by decide) (fun c1 => ?_) (fun c1 => ?_)
  · skip
    have c1 : qm_size.toInt ≤ a1.toInt := i_leT (X := qm_size.toInt) (Y := a1.toInt) rfl rfl c1
    refine lv_iconst (v := 0) C.1 C.2.1 dX11_tapeAt_17 (by decide) ?_
    exact x_retiQ hQ B hw ⟨0, rfl, rfl, (by have e0 : (0 : Int32).toInt = 0 := rfl; first | omega), (by have e0 : (0 : Int32).toInt = 0 := rfl; first | omega)⟩ (Nat.le_of_ble_eq_true rfl) (Nat.le_of_ble_eq_true rfl) dX11_tapeAt_18
  · skip
    have c1 : a1.toInt < qm_size.toInt := i_leF (X := qm_size.toInt) (Y := a1.toInt) rfl rfl c1
    refine lv_aload_n C.1 C.2.1 dX11_tapeAt_8 rfl (lv_at hl 0 rfl) ?_
    refine x_get C hw iwX11 10 rfl 0 rfl 1 (by decide) kw1194 rfl dX11_tapeAt_9 ?_
    refine lv_iload_n C.1 C.2.1 dX11_tapeAt_12 rfl (lv_at hl 1 rfl) ?_
    refine x_iald (v := (qm_tape_c a1.toNatClampNeg)) C hw 1 rfl (i_in (by omega) (by omega)) rfl dX11_tapeAt_13 (x_genP (fun z : Int32 => (z.toInt = b a1.toInt) ∧ z = qm_tape_c (a1.toInt.toNat) ∧ z.toInt = (qm_tape_c (a1.toInt.toNat)).toInt) ⟨(hr_0 a1.toInt (by omega) (by omega)).symm, rfl, rfl⟩ (fun v2 hv2 => ?_))
    refine lv_goto (tgt := 18) C.1 C.2.1 dX11_tapeAt_14 (by decide) ?_
    exact x_retiQ hQ B hw ⟨v2, rfl, rfl, (by first | omega), (by first | omega)⟩ (Nat.le_of_ble_eq_true rfl) (Nat.le_of_ble_eq_true rfl) dX11_tapeAt_18
theorem dX11_bad_0 : decode cX11_bad 0 = .ok (.aload_n 0, 1) := by decide +kernel
theorem dX11_bad_1 : decode cX11_bad 1 = .ok (.aload_n 0, 1) := by decide +kernel
theorem dX11_bad_2 : decode cX11_bad 2 = .ok (.getfield 30, 3) := by decide +kernel
theorem dX11_bad_5 : decode cX11_bad 5 = .ok (.iconst 1, 1) := by decide +kernel
theorem dX11_bad_6 : decode cX11_bad 6 = .ok (.if_icmp .ne 7, 3) := by decide +kernel
theorem dX11_bad_13 : decode cX11_bad 13 = .ok (.iload_n 1, 1) := by decide +kernel
theorem dX11_bad_14 : decode cX11_bad 14 = .ok (.putfield 66, 3) := by decide +kernel
theorem dX11_bad_17 : decode cX11_bad 17 = .ok (.aload_n 0, 1) := by decide +kernel
theorem dX11_bad_18 : decode cX11_bad 18 = .ok (.aload_n 0, 1) := by decide +kernel
theorem dX11_bad_19 : decode cX11_bad 19 = .ok (.getfield 24, 3) := by decide +kernel
theorem dX11_bad_22 : decode cX11_bad 22 = .ok (.putfield 69, 3) := by decide +kernel
theorem dX11_bad_25 : decode cX11_bad 25 = .ok (.iconst 0, 1) := by decide +kernel
theorem dX11_bad_26 : decode cX11_bad 26 = .ok (.ireturn, 1) := by decide +kernel
theorem dX11_bad_9 : decode cX11_bad 9 = .ok (.iconst 1, 1) := by decide +kernel
theorem dX11_bad_10 : decode cX11_bad 10 = .ok (.goto 4, 3) := by decide +kernel
set_option maxHeartbeats 4000000 in
set_option maxRecDepth 100000 in
theorem e_X11_bad {l : Launch} {G : Gc} (qm : Nat) (a1 : Int32) (qm_thrown : Int32) (qm_tape : Nat) (qm_taped : Int32) (qm_size : Int32) (qm_limit : Int32) (qm_to : Int32) (qm_from : Int32) (qm_kind : Int32) (qm_number : Int32) (qm_sign : Int32) (qm_fault : Int32) (qm_place : Int32) (qm_word : Int64) (qm_told : Int32) (qm_now : Nat) (qm_read : Nat) (qm_kept : Nat) (qm_snaps : Nat) (qm_aside : Nat) (qm_name : Nat) (qm_readName : Nat) (qm_keptName : Nat) (qm_isKept : Nat) (qm_onces : Nat) (qm_snapMany : Int32) (qm_order : Nat) (qm_ordered : Nat) (qm_orderMany : Int32) (qm_orderMost : Int32) (qm_passing : Int32) (qm_movedWho : Int32) (qm_scratched : Int32) (qm_text : Nat) (qm_texts : Int32) (qm_seed : Int32) (qm_line : Nat) (qm_written : Nat) (qm_lineMany : Int32) (qm_hasWritten : Int32) (qm_node : Nat) (qm_nodes : Int32) (qm_onesMany : Int32) (qm_within : Int32) (qm_top : Int32) (hi_a1 : 1 ≤ a1.toInt ∧ a1.toInt ≤ 4) : Ci l yX11_bad cX11_bad 2 (some .boolean) 0 0 0 G [.ref qm, .int a1] [(qm, .inr (10, [.int qm_thrown, .ref qm_tape, .int qm_taped, .int qm_size, .int qm_limit, .int qm_to, .int qm_from, .int qm_kind, .int qm_number, .int qm_sign, .int qm_fault, .int qm_place, .long qm_word, .int qm_told, .ref qm_now, .ref qm_read, .ref qm_kept, .ref qm_snaps, .ref qm_aside, .ref qm_name, .ref qm_readName, .ref qm_keptName, .ref qm_isKept, .ref qm_onces, .int qm_snapMany, .ref qm_order, .ref qm_ordered, .int qm_orderMany, .int qm_orderMost, .int qm_passing, .int qm_movedWho, .int qm_scratched, .ref qm_text, .int qm_texts, .int qm_seed, .ref qm_line, .ref qm_written, .int qm_lineMany, .int qm_hasWritten, .ref qm_node, .int qm_nodes, .int qm_onesMany, .int qm_within, .int qm_top]))] (fun (r9 : Int32) (u9 : va_W) => ∃ (x0_qm_fault : Int32), r9 = 0 ∧ u9 = [(qm, .inr (10, [.int qm_thrown, .ref qm_tape, .int qm_taped, .int qm_size, .int qm_limit, .int qm_to, .int qm_from, .int qm_kind, .int qm_number, .int qm_sign, .int x0_qm_fault, .int qm_from, .long qm_word, .int qm_told, .ref qm_now, .ref qm_read, .ref qm_kept, .ref qm_snaps, .ref qm_aside, .ref qm_name, .ref qm_readName, .ref qm_keptName, .ref qm_isKept, .ref qm_onces, .int qm_snapMany, .ref qm_order, .ref qm_ordered, .int qm_orderMany, .int qm_orderMost, .int qm_passing, .int qm_movedWho, .int qm_scratched, .ref qm_text, .int qm_texts, .int qm_seed, .ref qm_line, .ref qm_written, .int qm_lineMany, .int qm_hasWritten, .ref qm_node, .int qm_nodes, .int qm_onesMany, .int qm_within, .int qm_top]))] ∧ (1 ≤ x0_qm_fault.toInt ∧ x0_qm_fault.toInt ≤ 4) ∧ ((qm_kind.toInt = 1 ∧ x0_qm_fault.toInt = 1) ∨ (qm_kind.toInt ≠ 1 ∧ x0_qm_fault.toInt = a1.toInt))) := by
  refine Ci.ofQ (by decide) (Nat.le_of_ble_eq_true rfl) ?_
  intro p e s m below meth c ls A args Q hQ B hw hl
  have C : CallFix p m c cX11_bad 2 s args gw "LanternStateModel" := B.1
  have hl : lv_has ls 2 [(0, .ref qm), (1, .int a1)] := hl
  refine lv_aload_n C.1 C.2.1 dX11_bad_0 rfl (lv_at hl 0 rfl) ?_
  refine lv_aload_n C.1 C.2.1 dX11_bad_1 rfl (lv_at hl 0 rfl) ?_
  refine x_get C hw iwX11 10 rfl 0 rfl 7 (by decide) kw1200 rfl dX11_bad_2 ?_
  refine lv_iconst (v := 1) C.1 C.2.1 dX11_bad_5 (by decide) ?_
  refine lv_icmp_ne (tgt := 13) C.1 C.2.1 dX11_bad_6 (by decide) (fun c1 => ?_) (fun c1 => ?_)
  · skip
    have c1 : qm_kind.toInt ≠ 1 := i_eqF (X := qm_kind.toInt) (Y := 1) rfl rfl c1
    have bc1_qm_kind := i_bd qm_kind
    refine lv_iload_n C.1 C.2.1 dX11_bad_13 rfl (lv_at hl 1 rfl) ?_
    refine x_put (w' := [(qm, .inr (10, [.int qm_thrown, .ref qm_tape, .int qm_taped, .int qm_size, .int qm_limit, .int qm_to, .int qm_from, .int qm_kind, .int qm_number, .int qm_sign, .int a1, .int qm_place, .long qm_word, .int qm_told, .ref qm_now, .ref qm_read, .ref qm_kept, .ref qm_snaps, .ref qm_aside, .ref qm_name, .ref qm_readName, .ref qm_keptName, .ref qm_isKept, .ref qm_onces, .int qm_snapMany, .ref qm_order, .ref qm_ordered, .int qm_orderMany, .int qm_orderMost, .int qm_passing, .int qm_movedWho, .int qm_scratched, .ref qm_text, .int qm_texts, .int qm_seed, .ref qm_line, .ref qm_written, .int qm_lineMany, .int qm_hasWritten, .ref qm_node, .int qm_nodes, .int qm_onesMany, .int qm_within, .int qm_top]))]) C hw iwX11 tyX11_ok nmX11 10 rfl 0 rfl 10 (by decide) kw1203 rfl rfl rfl (Nat.le_of_ble_eq_true rfl) rfl dX11_bad_14 (fun H locs hw => ?_)
    refine lv_aload_n C.1 C.2.1 dX11_bad_17 rfl (lv_at hl 0 rfl) ?_
    refine lv_aload_n C.1 C.2.1 dX11_bad_18 rfl (lv_at hl 0 rfl) ?_
    refine x_get C hw iwX11 10 rfl 0 rfl 6 (by decide) kw1199 rfl dX11_bad_19 ?_
    refine x_put (w' := [(qm, .inr (10, [.int qm_thrown, .ref qm_tape, .int qm_taped, .int qm_size, .int qm_limit, .int qm_to, .int qm_from, .int qm_kind, .int qm_number, .int qm_sign, .int a1, .int qm_from, .long qm_word, .int qm_told, .ref qm_now, .ref qm_read, .ref qm_kept, .ref qm_snaps, .ref qm_aside, .ref qm_name, .ref qm_readName, .ref qm_keptName, .ref qm_isKept, .ref qm_onces, .int qm_snapMany, .ref qm_order, .ref qm_ordered, .int qm_orderMany, .int qm_orderMost, .int qm_passing, .int qm_movedWho, .int qm_scratched, .ref qm_text, .int qm_texts, .int qm_seed, .ref qm_line, .ref qm_written, .int qm_lineMany, .int qm_hasWritten, .ref qm_node, .int qm_nodes, .int qm_onesMany, .int qm_within, .int qm_top]))]) C hw iwX11 tyX11_ok nmX11 10 rfl 0 rfl 11 (by decide) kw1204 rfl rfl rfl (Nat.le_of_ble_eq_true rfl) rfl dX11_bad_22 (fun H locs hw => ?_)
    refine lv_iconst (v := 0) C.1 C.2.1 dX11_bad_25 (by decide) ?_
    exact x_retzQ hQ B hw rfl ⟨a1, rfl, rfl, (by omega), (by first | omega)⟩ (Nat.le_of_ble_eq_true rfl) (Nat.le_of_ble_eq_true rfl) dX11_bad_26
  · skip
    have c1 : qm_kind.toInt = 1 := i_eqT (X := qm_kind.toInt) (Y := 1) rfl rfl c1
    have bc1_qm_kind := i_bd qm_kind
    refine lv_iconst (v := 1) C.1 C.2.1 dX11_bad_9 (by decide) ?_
    refine lv_goto (tgt := 14) C.1 C.2.1 dX11_bad_10 (by decide) ?_
    refine x_put (w' := [(qm, .inr (10, [.int qm_thrown, .ref qm_tape, .int qm_taped, .int qm_size, .int qm_limit, .int qm_to, .int qm_from, .int qm_kind, .int qm_number, .int qm_sign, .int 1, .int qm_place, .long qm_word, .int qm_told, .ref qm_now, .ref qm_read, .ref qm_kept, .ref qm_snaps, .ref qm_aside, .ref qm_name, .ref qm_readName, .ref qm_keptName, .ref qm_isKept, .ref qm_onces, .int qm_snapMany, .ref qm_order, .ref qm_ordered, .int qm_orderMany, .int qm_orderMost, .int qm_passing, .int qm_movedWho, .int qm_scratched, .ref qm_text, .int qm_texts, .int qm_seed, .ref qm_line, .ref qm_written, .int qm_lineMany, .int qm_hasWritten, .ref qm_node, .int qm_nodes, .int qm_onesMany, .int qm_within, .int qm_top]))]) C hw iwX11 tyX11_ok nmX11 10 rfl 0 rfl 10 (by decide) kw1203 rfl rfl rfl (Nat.le_of_ble_eq_true rfl) rfl dX11_bad_14 (fun H locs hw => ?_)
    refine lv_aload_n C.1 C.2.1 dX11_bad_17 rfl (lv_at hl 0 rfl) ?_
    refine lv_aload_n C.1 C.2.1 dX11_bad_18 rfl (lv_at hl 0 rfl) ?_
    refine x_get C hw iwX11 10 rfl 0 rfl 6 (by decide) kw1199 rfl dX11_bad_19 ?_
    refine x_put (w' := [(qm, .inr (10, [.int qm_thrown, .ref qm_tape, .int qm_taped, .int qm_size, .int qm_limit, .int qm_to, .int qm_from, .int qm_kind, .int qm_number, .int qm_sign, .int 1, .int qm_from, .long qm_word, .int qm_told, .ref qm_now, .ref qm_read, .ref qm_kept, .ref qm_snaps, .ref qm_aside, .ref qm_name, .ref qm_readName, .ref qm_keptName, .ref qm_isKept, .ref qm_onces, .int qm_snapMany, .ref qm_order, .ref qm_ordered, .int qm_orderMany, .int qm_orderMost, .int qm_passing, .int qm_movedWho, .int qm_scratched, .ref qm_text, .int qm_texts, .int qm_seed, .ref qm_line, .ref qm_written, .int qm_lineMany, .int qm_hasWritten, .ref qm_node, .int qm_nodes, .int qm_onesMany, .int qm_within, .int qm_top]))]) C hw iwX11 tyX11_ok nmX11 10 rfl 0 rfl 11 (by decide) kw1204 rfl rfl rfl (Nat.le_of_ble_eq_true rfl) rfl dX11_bad_22 (fun H locs hw => ?_)
    refine lv_iconst (v := 0) C.1 C.2.1 dX11_bad_25 (by decide) ?_
    exact x_retzQ hQ B hw rfl ⟨1, rfl, rfl, (by decide), (by have e0 : (1 : Int32).toInt = 1 := rfl; first | omega)⟩ (Nat.le_of_ble_eq_true rfl) (Nat.le_of_ble_eq_true rfl) dX11_bad_26
theorem dX11_isSign_0 : decode cX11_isSign 0 = .ok (.aload_n 0, 1) := by decide +kernel
theorem dX11_isSign_1 : decode cX11_isSign 1 = .ok (.getfield 30, 3) := by decide +kernel
theorem dX11_isSign_4 : decode cX11_isSign 4 = .ok (.iconst 4, 1) := by decide +kernel
theorem dX11_isSign_5 : decode cX11_isSign 5 = .ok (.if_icmp .ne 15, 3) := by decide +kernel
theorem dX11_isSign_20 : decode cX11_isSign 20 = .ok (.iconst 0, 1) := by decide +kernel
theorem dX11_isSign_21 : decode cX11_isSign 21 = .ok (.ireturn, 1) := by decide +kernel
theorem dX11_isSign_8 : decode cX11_isSign 8 = .ok (.aload_n 0, 1) := by decide +kernel
theorem dX11_isSign_9 : decode cX11_isSign 9 = .ok (.getfield 40, 3) := by decide +kernel
theorem dX11_isSign_12 : decode cX11_isSign 12 = .ok (.iload_n 1, 1) := by decide +kernel
theorem dX11_isSign_13 : decode cX11_isSign 13 = .ok (.if_icmp .ne 7, 3) := by decide +kernel
theorem dX11_isSign_16 : decode cX11_isSign 16 = .ok (.iconst 1, 1) := by decide +kernel
theorem dX11_isSign_17 : decode cX11_isSign 17 = .ok (.goto 4, 3) := by decide +kernel
set_option maxHeartbeats 4000000 in
set_option maxRecDepth 100000 in
theorem e_X11_isSign {l : Launch} {G : Gc} (qm : Nat) (a1 : Int32) (qm_thrown : Int32) (qm_tape : Nat) (qm_taped : Int32) (qm_size : Int32) (qm_limit : Int32) (qm_to : Int32) (qm_from : Int32) (qm_kind : Int32) (qm_number : Int32) (qm_sign : Int32) (qm_fault : Int32) (qm_place : Int32) (qm_word : Int64) (qm_told : Int32) (qm_now : Nat) (qm_read : Nat) (qm_kept : Nat) (qm_snaps : Nat) (qm_aside : Nat) (qm_name : Nat) (qm_readName : Nat) (qm_keptName : Nat) (qm_isKept : Nat) (qm_onces : Nat) (qm_snapMany : Int32) (qm_order : Nat) (qm_ordered : Nat) (qm_orderMany : Int32) (qm_orderMost : Int32) (qm_passing : Int32) (qm_movedWho : Int32) (qm_scratched : Int32) (qm_text : Nat) (qm_texts : Int32) (qm_seed : Int32) (qm_line : Nat) (qm_written : Nat) (qm_lineMany : Int32) (qm_hasWritten : Int32) (qm_node : Nat) (qm_nodes : Int32) (qm_onesMany : Int32) (qm_within : Int32) (qm_top : Int32)  : Ci l yX11_isSign cX11_isSign 2 (some .boolean) 0 0 0 G [.ref qm, .int a1] [(qm, .inr (10, [.int qm_thrown, .ref qm_tape, .int qm_taped, .int qm_size, .int qm_limit, .int qm_to, .int qm_from, .int qm_kind, .int qm_number, .int qm_sign, .int qm_fault, .int qm_place, .long qm_word, .int qm_told, .ref qm_now, .ref qm_read, .ref qm_kept, .ref qm_snaps, .ref qm_aside, .ref qm_name, .ref qm_readName, .ref qm_keptName, .ref qm_isKept, .ref qm_onces, .int qm_snapMany, .ref qm_order, .ref qm_ordered, .int qm_orderMany, .int qm_orderMost, .int qm_passing, .int qm_movedWho, .int qm_scratched, .ref qm_text, .int qm_texts, .int qm_seed, .ref qm_line, .ref qm_written, .int qm_lineMany, .int qm_hasWritten, .ref qm_node, .int qm_nodes, .int qm_onesMany, .int qm_within, .int qm_top]))] (fun (r9 : Int32) (u9 : va_W) => (r9 = 0 ∧ u9 = [(qm, .inr (10, [.int qm_thrown, .ref qm_tape, .int qm_taped, .int qm_size, .int qm_limit, .int qm_to, .int qm_from, .int qm_kind, .int qm_number, .int qm_sign, .int qm_fault, .int qm_place, .long qm_word, .int qm_told, .ref qm_now, .ref qm_read, .ref qm_kept, .ref qm_snaps, .ref qm_aside, .ref qm_name, .ref qm_readName, .ref qm_keptName, .ref qm_isKept, .ref qm_onces, .int qm_snapMany, .ref qm_order, .ref qm_ordered, .int qm_orderMany, .int qm_orderMost, .int qm_passing, .int qm_movedWho, .int qm_scratched, .ref qm_text, .int qm_texts, .int qm_seed, .ref qm_line, .ref qm_written, .int qm_lineMany, .int qm_hasWritten, .ref qm_node, .int qm_nodes, .int qm_onesMany, .int qm_within, .int qm_top]))] ∧ (¬ (qm_kind.toInt = 4 ∧ qm_sign.toInt = a1.toInt))) ∨ (r9 = 1 ∧ u9 = [(qm, .inr (10, [.int qm_thrown, .ref qm_tape, .int qm_taped, .int qm_size, .int qm_limit, .int qm_to, .int qm_from, .int qm_kind, .int qm_number, .int qm_sign, .int qm_fault, .int qm_place, .long qm_word, .int qm_told, .ref qm_now, .ref qm_read, .ref qm_kept, .ref qm_snaps, .ref qm_aside, .ref qm_name, .ref qm_readName, .ref qm_keptName, .ref qm_isKept, .ref qm_onces, .int qm_snapMany, .ref qm_order, .ref qm_ordered, .int qm_orderMany, .int qm_orderMost, .int qm_passing, .int qm_movedWho, .int qm_scratched, .ref qm_text, .int qm_texts, .int qm_seed, .ref qm_line, .ref qm_written, .int qm_lineMany, .int qm_hasWritten, .ref qm_node, .int qm_nodes, .int qm_onesMany, .int qm_within, .int qm_top]))] ∧ (qm_kind.toInt = 4 ∧ qm_sign.toInt = a1.toInt))) := by
  refine Ci.ofQ (by decide) (Nat.le_of_ble_eq_true rfl) ?_
  intro p e s m below meth c ls A args Q hQ B hw hl
  have C : CallFix p m c cX11_isSign 2 s args gw "LanternStateModel" := B.1
  have hl : lv_has ls 2 [(0, .ref qm), (1, .int a1)] := hl
  refine lv_aload_n C.1 C.2.1 dX11_isSign_0 rfl (lv_at hl 0 rfl) ?_
  refine x_get C hw iwX11 10 rfl 0 rfl 7 (by decide) kw1200 rfl dX11_isSign_1 ?_
  refine lv_iconst (v := 4) C.1 C.2.1 dX11_isSign_4 (by decide) ?_
  refine lv_icmp_ne (tgt := 20) C.1 C.2.1 dX11_isSign_5 (by decide) (fun c1 => ?_) (fun c1 => ?_)
  · skip
    have c1 : qm_kind.toInt ≠ 4 := i_eqF (X := qm_kind.toInt) (Y := 4) rfl rfl c1
    have bc1_qm_kind := i_bd qm_kind
    refine lv_iconst (v := 0) C.1 C.2.1 dX11_isSign_20 (by decide) ?_
    exact x_retzQ hQ B hw rfl (Or.inl ⟨rfl, rfl, (by first | omega)⟩) (Nat.le_of_ble_eq_true rfl) (Nat.le_of_ble_eq_true rfl) dX11_isSign_21
  · skip
    have c1 : qm_kind.toInt = 4 := i_eqT (X := qm_kind.toInt) (Y := 4) rfl rfl c1
    have bc1_qm_kind := i_bd qm_kind
    refine lv_aload_n C.1 C.2.1 dX11_isSign_8 rfl (lv_at hl 0 rfl) ?_
    refine x_get C hw iwX11 10 rfl 0 rfl 9 (by decide) kw1202 rfl dX11_isSign_9 ?_
    refine lv_iload_n C.1 C.2.1 dX11_isSign_12 rfl (lv_at hl 1 rfl) ?_
    refine lv_icmp_ne (tgt := 20) C.1 C.2.1 dX11_isSign_13 (by decide) (fun c2 => ?_) (fun c2 => ?_)
    · skip
      have c2 : qm_sign.toInt ≠ a1.toInt := i_eqF (X := qm_sign.toInt) (Y := a1.toInt) rfl rfl c2
      have bc2_qm_sign := i_bd qm_sign
      have bc2_a1 := i_bd a1
      refine lv_iconst (v := 0) C.1 C.2.1 dX11_isSign_20 (by decide) ?_
      exact x_retzQ hQ B hw rfl (Or.inl ⟨rfl, rfl, (by first | omega)⟩) (Nat.le_of_ble_eq_true rfl) (Nat.le_of_ble_eq_true rfl) dX11_isSign_21
    · skip
      have c2 : qm_sign.toInt = a1.toInt := i_eqT (X := qm_sign.toInt) (Y := a1.toInt) rfl rfl c2
      have bc2_qm_sign := i_bd qm_sign
      have bc2_a1 := i_bd a1
      refine lv_iconst (v := 1) C.1 C.2.1 dX11_isSign_16 (by decide) ?_
      refine lv_goto (tgt := 21) C.1 C.2.1 dX11_isSign_17 (by decide) ?_
      exact x_retzQ hQ B hw rfl (Or.inr ⟨rfl, rfl, (by first | omega)⟩) (Nat.le_of_ble_eq_true rfl) (Nat.le_of_ble_eq_true rfl) dX11_isSign_21
theorem dX11_take_0 : decode cX11_take 0 = .ok (.aload_n 0, 1) := by decide +kernel
theorem dX11_take_1 : decode cX11_take 1 = .ok (.getfield 11, 3) := by decide +kernel
theorem dX11_take_4 : decode cX11_take 4 = .ok (.istore_n 1, 1) := by decide +kernel
theorem dX11_take_5 : decode cX11_take 5 = .ok (.aload_n 0, 1) := by decide +kernel
theorem dX11_take_6 : decode cX11_take 6 = .ok (.iconst 0, 1) := by decide +kernel
theorem dX11_take_7 : decode cX11_take 7 = .ok (.putfield 11, 3) := by decide +kernel
theorem dX11_take_10 : decode cX11_take 10 = .ok (.iload_n 1, 1) := by decide +kernel
theorem dX11_take_11 : decode cX11_take 11 = .ok (.ireturn, 1) := by decide +kernel
set_option maxHeartbeats 4000000 in
set_option maxRecDepth 100000 in
theorem e_X11_take {l : Launch} {G : Gc} (qm : Nat) (qm_thrown : Int32) (qm_tape : Nat) (qm_taped : Int32) (qm_size : Int32) (qm_limit : Int32) (qm_to : Int32) (qm_from : Int32) (qm_kind : Int32) (qm_number : Int32) (qm_sign : Int32) (qm_fault : Int32) (qm_place : Int32) (qm_word : Int64) (qm_told : Int32) (qm_now : Nat) (qm_read : Nat) (qm_kept : Nat) (qm_snaps : Nat) (qm_aside : Nat) (qm_name : Nat) (qm_readName : Nat) (qm_keptName : Nat) (qm_isKept : Nat) (qm_onces : Nat) (qm_snapMany : Int32) (qm_order : Nat) (qm_ordered : Nat) (qm_orderMany : Int32) (qm_orderMost : Int32) (qm_passing : Int32) (qm_movedWho : Int32) (qm_scratched : Int32) (qm_text : Nat) (qm_texts : Int32) (qm_seed : Int32) (qm_line : Nat) (qm_written : Nat) (qm_lineMany : Int32) (qm_hasWritten : Int32) (qm_node : Nat) (qm_nodes : Int32) (qm_onesMany : Int32) (qm_within : Int32) (qm_top : Int32) (hi_qm_taped : 0 ≤ qm_taped.toInt ∧ qm_taped.toInt ≤ 940) : Ci l yX11_take cX11_take 2 (some .int) 0 0 0 G [.ref qm] [(qm, .inr (10, [.int qm_thrown, .ref qm_tape, .int qm_taped, .int qm_size, .int qm_limit, .int qm_to, .int qm_from, .int qm_kind, .int qm_number, .int qm_sign, .int qm_fault, .int qm_place, .long qm_word, .int qm_told, .ref qm_now, .ref qm_read, .ref qm_kept, .ref qm_snaps, .ref qm_aside, .ref qm_name, .ref qm_readName, .ref qm_keptName, .ref qm_isKept, .ref qm_onces, .int qm_snapMany, .ref qm_order, .ref qm_ordered, .int qm_orderMany, .int qm_orderMost, .int qm_passing, .int qm_movedWho, .int qm_scratched, .ref qm_text, .int qm_texts, .int qm_seed, .ref qm_line, .ref qm_written, .int qm_lineMany, .int qm_hasWritten, .ref qm_node, .int qm_nodes, .int qm_onesMany, .int qm_within, .int qm_top]))] (fun (r9 : Int32) (u9 : va_W) => r9 = qm_taped ∧ u9 = [(qm, .inr (10, [.int qm_thrown, .ref qm_tape, .int 0, .int qm_size, .int qm_limit, .int qm_to, .int qm_from, .int qm_kind, .int qm_number, .int qm_sign, .int qm_fault, .int qm_place, .long qm_word, .int qm_told, .ref qm_now, .ref qm_read, .ref qm_kept, .ref qm_snaps, .ref qm_aside, .ref qm_name, .ref qm_readName, .ref qm_keptName, .ref qm_isKept, .ref qm_onces, .int qm_snapMany, .ref qm_order, .ref qm_ordered, .int qm_orderMany, .int qm_orderMost, .int qm_passing, .int qm_movedWho, .int qm_scratched, .ref qm_text, .int qm_texts, .int qm_seed, .ref qm_line, .ref qm_written, .int qm_lineMany, .int qm_hasWritten, .ref qm_node, .int qm_nodes, .int qm_onesMany, .int qm_within, .int qm_top]))]) := by
  refine Ci.ofQ (by decide) (Nat.le_of_ble_eq_true rfl) ?_
  intro p e s m below meth c ls A args Q hQ B hw hl
  have C : CallFix p m c cX11_take 2 s args gw "LanternStateModel" := B.1
  have hl : lv_has ls 2 [(0, .ref qm)] := hl
  refine lv_aload_n C.1 C.2.1 dX11_take_0 rfl (lv_at hl 0 rfl) ?_
  refine x_get C hw iwX11 10 rfl 0 rfl 2 (by decide) kw1195 rfl dX11_take_1 ?_
  refine lv_istore_n (lv' := [(1, .int qm_taped), (0, .ref qm)]) C.1 C.2.1 dX11_take_4 rfl hl (by decide) rfl (fun ls hl => ?_)
  refine lv_aload_n C.1 C.2.1 dX11_take_5 rfl (lv_at hl 1 rfl) ?_
  refine lv_iconst (v := 0) C.1 C.2.1 dX11_take_6 (by decide) ?_
  refine x_put (w' := [(qm, .inr (10, [.int qm_thrown, .ref qm_tape, .int 0, .int qm_size, .int qm_limit, .int qm_to, .int qm_from, .int qm_kind, .int qm_number, .int qm_sign, .int qm_fault, .int qm_place, .long qm_word, .int qm_told, .ref qm_now, .ref qm_read, .ref qm_kept, .ref qm_snaps, .ref qm_aside, .ref qm_name, .ref qm_readName, .ref qm_keptName, .ref qm_isKept, .ref qm_onces, .int qm_snapMany, .ref qm_order, .ref qm_ordered, .int qm_orderMany, .int qm_orderMost, .int qm_passing, .int qm_movedWho, .int qm_scratched, .ref qm_text, .int qm_texts, .int qm_seed, .ref qm_line, .ref qm_written, .int qm_lineMany, .int qm_hasWritten, .ref qm_node, .int qm_nodes, .int qm_onesMany, .int qm_within, .int qm_top]))]) C hw iwX11 tyX11_ok nmX11 10 rfl 0 rfl 2 (by decide) kw1195 rfl rfl rfl (Nat.le_of_ble_eq_true rfl) rfl dX11_take_7 (fun H locs hw => ?_)
  refine lv_iload_n C.1 C.2.1 dX11_take_10 rfl (lv_at hl 0 rfl) ?_
  exact x_retiQ hQ B hw ⟨rfl, rfl⟩ (Nat.le_of_ble_eq_true rfl) (Nat.le_of_ble_eq_true rfl) dX11_take_11
theorem dX11_spelt_0 : decode cX11_spelt 0 = .ok (.ldc2_w 54, 3) := by decide +kernel
theorem dX11_spelt_3 : decode cX11_spelt 3 = .ok (.iload_n 0, 1) := by decide +kernel
theorem dX11_spelt_4 : decode cX11_spelt 4 = .ok (.i2l, 1) := by decide +kernel
theorem dX11_spelt_5 : decode cX11_spelt 5 = .ok (.ldc2_w 56, 3) := by decide +kernel
theorem dX11_spelt_8 : decode cX11_spelt 8 = .ok (.lsub, 1) := by decide +kernel
theorem dX11_spelt_9 : decode cX11_spelt 9 = .ok (.lmul, 1) := by decide +kernel
theorem dX11_spelt_10 : decode cX11_spelt 10 = .ok (.iload_n 1, 1) := by decide +kernel
theorem dX11_spelt_11 : decode cX11_spelt 11 = .ok (.i2l, 1) := by decide +kernel
theorem dX11_spelt_12 : decode cX11_spelt 12 = .ok (.ladd, 1) := by decide +kernel
theorem dX11_spelt_13 : decode cX11_spelt 13 = .ok (.ldc2_w 56, 3) := by decide +kernel
theorem dX11_spelt_16 : decode cX11_spelt 16 = .ok (.lsub, 1) := by decide +kernel
theorem dX11_spelt_17 : decode cX11_spelt 17 = .ok (.lstore 7, 2) := by decide +kernel
theorem dX11_spelt_19 : decode cX11_spelt 19 = .ok (.iload_n 2, 1) := by decide +kernel
theorem dX11_spelt_20 : decode cX11_spelt 20 = .ok (.ifCond .le 18, 3) := by decide +kernel
theorem dX11_spelt_23 : decode cX11_spelt 23 = .ok (.ldc2_w 54, 3) := by decide +kernel
theorem dX11_spelt_26 : decode cX11_spelt 26 = .ok (.lload 7, 2) := by decide +kernel
theorem dX11_spelt_28 : decode cX11_spelt 28 = .ok (.lmul, 1) := by decide +kernel
theorem dX11_spelt_29 : decode cX11_spelt 29 = .ok (.iload_n 2, 1) := by decide +kernel
theorem dX11_spelt_30 : decode cX11_spelt 30 = .ok (.i2l, 1) := by decide +kernel
theorem dX11_spelt_31 : decode cX11_spelt 31 = .ok (.ladd, 1) := by decide +kernel
theorem dX11_spelt_32 : decode cX11_spelt 32 = .ok (.ldc2_w 56, 3) := by decide +kernel
theorem dX11_spelt_35 : decode cX11_spelt 35 = .ok (.lsub, 1) := by decide +kernel
theorem dX11_spelt_36 : decode cX11_spelt 36 = .ok (.lstore 7, 2) := by decide +kernel
theorem dX11_spelt_38 : decode cX11_spelt 38 = .ok (.iload_n 3, 1) := by decide +kernel
theorem dX11_spelt_39 : decode cX11_spelt 39 = .ok (.ifCond .le 18, 3) := by decide +kernel
theorem dX11_spelt_42 : decode cX11_spelt 42 = .ok (.ldc2_w 54, 3) := by decide +kernel
theorem dX11_spelt_45 : decode cX11_spelt 45 = .ok (.lload 7, 2) := by decide +kernel
theorem dX11_spelt_47 : decode cX11_spelt 47 = .ok (.lmul, 1) := by decide +kernel
theorem dX11_spelt_48 : decode cX11_spelt 48 = .ok (.iload_n 3, 1) := by decide +kernel
theorem dX11_spelt_49 : decode cX11_spelt 49 = .ok (.i2l, 1) := by decide +kernel
theorem dX11_spelt_50 : decode cX11_spelt 50 = .ok (.ladd, 1) := by decide +kernel
theorem dX11_spelt_51 : decode cX11_spelt 51 = .ok (.ldc2_w 56, 3) := by decide +kernel
theorem dX11_spelt_54 : decode cX11_spelt 54 = .ok (.lsub, 1) := by decide +kernel
theorem dX11_spelt_55 : decode cX11_spelt 55 = .ok (.lstore 7, 2) := by decide +kernel
theorem dX11_spelt_57 : decode cX11_spelt 57 = .ok (.iload 4, 2) := by decide +kernel
theorem dX11_spelt_59 : decode cX11_spelt 59 = .ok (.ifCond .le 19, 3) := by decide +kernel
theorem dX11_spelt_62 : decode cX11_spelt 62 = .ok (.ldc2_w 54, 3) := by decide +kernel
theorem dX11_spelt_65 : decode cX11_spelt 65 = .ok (.lload 7, 2) := by decide +kernel
theorem dX11_spelt_67 : decode cX11_spelt 67 = .ok (.lmul, 1) := by decide +kernel
theorem dX11_spelt_68 : decode cX11_spelt 68 = .ok (.iload 4, 2) := by decide +kernel
theorem dX11_spelt_70 : decode cX11_spelt 70 = .ok (.i2l, 1) := by decide +kernel
theorem dX11_spelt_71 : decode cX11_spelt 71 = .ok (.ladd, 1) := by decide +kernel
theorem dX11_spelt_72 : decode cX11_spelt 72 = .ok (.ldc2_w 56, 3) := by decide +kernel
theorem dX11_spelt_75 : decode cX11_spelt 75 = .ok (.lsub, 1) := by decide +kernel
theorem dX11_spelt_76 : decode cX11_spelt 76 = .ok (.lstore 7, 2) := by decide +kernel
theorem dX11_spelt_78 : decode cX11_spelt 78 = .ok (.iload 5, 2) := by decide +kernel
theorem dX11_spelt_80 : decode cX11_spelt 80 = .ok (.ifCond .le 19, 3) := by decide +kernel
theorem dX11_spelt_99 : decode cX11_spelt 99 = .ok (.iload 6, 2) := by decide +kernel
theorem dX11_spelt_101 : decode cX11_spelt 101 = .ok (.ifCond .le 19, 3) := by decide +kernel
theorem dX11_spelt_120 : decode cX11_spelt 120 = .ok (.lload 7, 2) := by decide +kernel
theorem dX11_spelt_122 : decode cX11_spelt 122 = .ok (.lreturn, 1) := by decide +kernel
set_option maxHeartbeats 4000000 in
set_option maxRecDepth 100000 in
theorem e_spelt_0 {l : Launch} {G : Gc}   : Cl l yX11_spelt cX11_spelt 9 0 0 0 G [.int 115, .int 108, .int 105, .int 100, .int 101, .int 0, .int 0] [] (fun (r9 : Int64) (u9 : va_W) => r9 = 10340249 ∧ u9 = []) := by
  refine Cl.ofQ (by decide) (Nat.le_of_ble_eq_true rfl) ?_
  intro p e s m below meth c ls A args Q hQ B hw hl
  have C : CallFix p m c cX11_spelt 9 s args gw "LanternStateModel" := B.1
  have hl : lv_has ls 9 [(0, .int 115), (1, .int 108), (2, .int 105), (3, .int 100), (4, .int 101), (5, .int 0), (6, .int 0)] := hl
  refine lv_ldc2 (v := 27) C.1 C.2.1 C.2.2.2.1 (C.2.2.2.2 _ kw1353) dX11_spelt_0 ?_
  refine lv_iload_n C.1 C.2.1 dX11_spelt_3 rfl (lv_at hl 0 rfl) ?_
  refine lv_i2l (v := 115) C.1 C.2.1 dX11_spelt_4 (by decide) ?_
  refine lv_ldc2 (v := 96) C.1 C.2.1 C.2.2.2.1 (C.2.2.2.2 _ kw1354) dX11_spelt_5 ?_
  refine lv_lsub C.1 C.2.1 dX11_spelt_8 ?_
  refine x_topl (z := 19) (by decide) ?_
  refine lv_lmul C.1 C.2.1 dX11_spelt_9 ?_
  refine x_topl (z := 513) (by decide) ?_
  refine lv_iload_n C.1 C.2.1 dX11_spelt_10 rfl (lv_at hl 1 rfl) ?_
  refine lv_i2l (v := 108) C.1 C.2.1 dX11_spelt_11 (by decide) ?_
  refine lv_ladd C.1 C.2.1 dX11_spelt_12 ?_
  refine x_topl (z := 621) (by decide) ?_
  refine lv_ldc2 (v := 96) C.1 C.2.1 C.2.2.2.1 (C.2.2.2.2 _ kw1354) dX11_spelt_13 ?_
  refine lv_lsub C.1 C.2.1 dX11_spelt_16 ?_
  refine x_topl (z := 525) (by decide) ?_
  refine lv_lstore (lv' := [(7, .long 525), (0, .int 115), (1, .int 108), (2, .int 105), (3, .int 100), (4, .int 101), (5, .int 0), (6, .int 0)]) C.1 C.2.1 dX11_spelt_17 hl (by decide) rfl (fun ls hl => ?_)
  refine lv_iload_n C.1 C.2.1 dX11_spelt_19 rfl (lv_at hl 3 rfl) ?_
  refine lv_if_le (tgt := 38) C.1 C.2.1 dX11_spelt_20 (by decide) (fun h9 => absurd h9 (by decide)) (fun _ => ?_)
  refine lv_ldc2 (v := 27) C.1 C.2.1 C.2.2.2.1 (C.2.2.2.2 _ kw1353) dX11_spelt_23 ?_
  refine lv_lload C.1 C.2.1 dX11_spelt_26 (lv_at hl 0 rfl) ?_
  refine lv_lmul C.1 C.2.1 dX11_spelt_28 ?_
  refine x_topl (z := 14175) (by decide) ?_
  refine lv_iload_n C.1 C.2.1 dX11_spelt_29 rfl (lv_at hl 3 rfl) ?_
  refine lv_i2l (v := 105) C.1 C.2.1 dX11_spelt_30 (by decide) ?_
  refine lv_ladd C.1 C.2.1 dX11_spelt_31 ?_
  refine x_topl (z := 14280) (by decide) ?_
  refine lv_ldc2 (v := 96) C.1 C.2.1 C.2.2.2.1 (C.2.2.2.2 _ kw1354) dX11_spelt_32 ?_
  refine lv_lsub C.1 C.2.1 dX11_spelt_35 ?_
  refine x_topl (z := 14184) (by decide) ?_
  refine lv_lstore (lv' := [(7, .long 14184), (0, .int 115), (1, .int 108), (2, .int 105), (3, .int 100), (4, .int 101), (5, .int 0), (6, .int 0)]) C.1 C.2.1 dX11_spelt_36 hl (by decide) rfl (fun ls hl => ?_)
  refine lv_iload_n C.1 C.2.1 dX11_spelt_38 rfl (lv_at hl 4 rfl) ?_
  refine lv_if_le (tgt := 57) C.1 C.2.1 dX11_spelt_39 (by decide) (fun h9 => absurd h9 (by decide)) (fun _ => ?_)
  refine lv_ldc2 (v := 27) C.1 C.2.1 C.2.2.2.1 (C.2.2.2.2 _ kw1353) dX11_spelt_42 ?_
  refine lv_lload C.1 C.2.1 dX11_spelt_45 (lv_at hl 0 rfl) ?_
  refine lv_lmul C.1 C.2.1 dX11_spelt_47 ?_
  refine x_topl (z := 382968) (by decide) ?_
  refine lv_iload_n C.1 C.2.1 dX11_spelt_48 rfl (lv_at hl 4 rfl) ?_
  refine lv_i2l (v := 100) C.1 C.2.1 dX11_spelt_49 (by decide) ?_
  refine lv_ladd C.1 C.2.1 dX11_spelt_50 ?_
  refine x_topl (z := 383068) (by decide) ?_
  refine lv_ldc2 (v := 96) C.1 C.2.1 C.2.2.2.1 (C.2.2.2.2 _ kw1354) dX11_spelt_51 ?_
  refine lv_lsub C.1 C.2.1 dX11_spelt_54 ?_
  refine x_topl (z := 382972) (by decide) ?_
  refine lv_lstore (lv' := [(7, .long 382972), (0, .int 115), (1, .int 108), (2, .int 105), (3, .int 100), (4, .int 101), (5, .int 0), (6, .int 0)]) C.1 C.2.1 dX11_spelt_55 hl (by decide) rfl (fun ls hl => ?_)
  refine lv_iload C.1 C.2.1 dX11_spelt_57 (lv_at hl 5 rfl) ?_
  refine lv_if_le (tgt := 78) C.1 C.2.1 dX11_spelt_59 (by decide) (fun h9 => absurd h9 (by decide)) (fun _ => ?_)
  refine lv_ldc2 (v := 27) C.1 C.2.1 C.2.2.2.1 (C.2.2.2.2 _ kw1353) dX11_spelt_62 ?_
  refine lv_lload C.1 C.2.1 dX11_spelt_65 (lv_at hl 0 rfl) ?_
  refine lv_lmul C.1 C.2.1 dX11_spelt_67 ?_
  refine x_topl (z := 10340244) (by decide) ?_
  refine lv_iload C.1 C.2.1 dX11_spelt_68 (lv_at hl 5 rfl) ?_
  refine lv_i2l (v := 101) C.1 C.2.1 dX11_spelt_70 (by decide) ?_
  refine lv_ladd C.1 C.2.1 dX11_spelt_71 ?_
  refine x_topl (z := 10340345) (by decide) ?_
  refine lv_ldc2 (v := 96) C.1 C.2.1 C.2.2.2.1 (C.2.2.2.2 _ kw1354) dX11_spelt_72 ?_
  refine lv_lsub C.1 C.2.1 dX11_spelt_75 ?_
  refine x_topl (z := 10340249) (by decide) ?_
  refine lv_lstore (lv' := [(7, .long 10340249), (0, .int 115), (1, .int 108), (2, .int 105), (3, .int 100), (4, .int 101), (5, .int 0), (6, .int 0)]) C.1 C.2.1 dX11_spelt_76 hl (by decide) rfl (fun ls hl => ?_)
  refine lv_iload C.1 C.2.1 dX11_spelt_78 (lv_at hl 6 rfl) ?_
  refine lv_if_le (tgt := 99) C.1 C.2.1 dX11_spelt_80 (by decide) (fun _ => ?_) (fun h9 => absurd (by decide) h9)
  refine lv_iload C.1 C.2.1 dX11_spelt_99 (lv_at hl 7 rfl) ?_
  refine lv_if_le (tgt := 120) C.1 C.2.1 dX11_spelt_101 (by decide) (fun _ => ?_) (fun h9 => absurd (by decide) h9)
  refine lv_lload C.1 C.2.1 dX11_spelt_120 (lv_at hl 0 rfl) ?_
  exact x_retlQ hQ B hw ⟨rfl, rfl⟩ (Nat.le_of_ble_eq_true rfl) (Nat.le_of_ble_eq_true rfl) dX11_spelt_122
theorem dX11_wordOf_0 : decode cX11_wordOf 0 = .ok (.iload_n 0, 1) := by decide +kernel
theorem dX11_wordOf_1 : decode cX11_wordOf 1 = .ok (.tableswitch 523 0 25 #[119, 135, 152, 168, 185, 201, 217, 232, 248, 263, 280, 295, 311, 326, 344, 359, 374, 387, 401, 415, 428, 446, 461, 476, 492, 507], 119) := by decide +kernel
theorem dX11_wordOf_120 : decode cX11_wordOf 120 = .ok (.bipush 115, 2) := by decide +kernel
theorem dX11_wordOf_122 : decode cX11_wordOf 122 = .ok (.bipush 108, 2) := by decide +kernel
theorem dX11_wordOf_124 : decode cX11_wordOf 124 = .ok (.bipush 105, 2) := by decide +kernel
theorem dX11_wordOf_126 : decode cX11_wordOf 126 = .ok (.bipush 100, 2) := by decide +kernel
theorem dX11_wordOf_128 : decode cX11_wordOf 128 = .ok (.bipush 101, 2) := by decide +kernel
theorem dX11_wordOf_130 : decode cX11_wordOf 130 = .ok (.iconst 0, 1) := by decide +kernel
theorem dX11_wordOf_131 : decode cX11_wordOf 131 = .ok (.iconst 0, 1) := by decide +kernel
theorem dX11_wordOf_132 : decode cX11_wordOf 132 = .ok (.invokestatic 58, 3) := by decide +kernel
theorem mwX11_spelt : MwS yX11_spelt cX11_spelt 9 (some .long) 7 := ⟨⟨kw1368, kw15, by decide +kernel⟩, kw1367⟩
theorem dX11_wordOf_135 : decode cX11_wordOf 135 = .ok (.lreturn, 1) := by decide +kernel
set_option maxHeartbeats 4000000 in
set_option maxRecDepth 100000 in
theorem e_wordOf_0 {l : Launch} {G : Gc}   : Cl l yX11_wordOf cX11_wordOf 1 1 0 0 G [.int 0] [] (fun (r9 : Int64) (u9 : va_W) => r9 = 10340249 ∧ u9 = []) := by
  refine Cl.ofQ (by decide) (Nat.le_of_ble_eq_true rfl) ?_
  intro p e s m below meth c ls A args Q hQ B hw hl
  have C : CallFix p m c cX11_wordOf 1 s args gw "LanternStateModel" := B.1
  have hl : lv_has ls 1 [(0, .int 0)] := hl
  refine lv_iload_n C.1 C.2.1 dX11_wordOf_0 rfl (lv_at hl 0 rfl) ?_
  refine lv_tableIn (off := 119) (tgt := 120) C.1 C.2.1 dX11_wordOf_1 (by decide) (by decide) rfl (by decide) ?_
  refine lv_bipush (v := 115) C.1 C.2.1 dX11_wordOf_120 (by decide) ?_
  refine lv_bipush (v := 108) C.1 C.2.1 dX11_wordOf_122 (by decide) ?_
  refine lv_bipush (v := 105) C.1 C.2.1 dX11_wordOf_124 (by decide) ?_
  refine lv_bipush (v := 100) C.1 C.2.1 dX11_wordOf_126 (by decide) ?_
  refine lv_bipush (v := 101) C.1 C.2.1 dX11_wordOf_128 (by decide) ?_
  refine lv_iconst (v := 0) C.1 C.2.1 dX11_wordOf_130 (by decide) ?_
  refine lv_iconst (v := 0) C.1 C.2.1 dX11_wordOf_131 (by decide) ?_
  refine x_calllS (As := [.int 115, .int 108, .int 105, .int 100, .int 101, .int 0, .int 0]) (rest := []) (wr := []) C hw e_spelt_0 mwX11_spelt kw1366 [] [] rfl rfl rfl rfl (by decide) rfl hl.1 rfl (Nat.le_of_ble_eq_true rfl) ⟨(Nat.le_of_ble_eq_true rfl), (Nat.le_of_ble_eq_true rfl)⟩ ⟨(Nat.le_of_ble_eq_true rfl), (Nat.le_of_ble_eq_true rfl)⟩ dX11_wordOf_132 (fun r1 u9 H locs hp9 hw => ?_)
  obtain ⟨rfl, rfl⟩ := hp9
  have hw : Wd G s A [] H _ := hw
  exact x_retlQ hQ B hw ⟨rfl, rfl⟩ (Nat.le_of_ble_eq_true rfl) (Nat.le_of_ble_eq_true rfl) dX11_wordOf_135
theorem dX11_spelt_83 : decode cX11_spelt 83 = .ok (.ldc2_w 54, 3) := by decide +kernel
theorem dX11_spelt_86 : decode cX11_spelt 86 = .ok (.lload 7, 2) := by decide +kernel
theorem dX11_spelt_88 : decode cX11_spelt 88 = .ok (.lmul, 1) := by decide +kernel
theorem dX11_spelt_89 : decode cX11_spelt 89 = .ok (.iload 5, 2) := by decide +kernel
theorem dX11_spelt_91 : decode cX11_spelt 91 = .ok (.i2l, 1) := by decide +kernel
theorem dX11_spelt_92 : decode cX11_spelt 92 = .ok (.ladd, 1) := by decide +kernel
theorem dX11_spelt_93 : decode cX11_spelt 93 = .ok (.ldc2_w 56, 3) := by decide +kernel
theorem dX11_spelt_96 : decode cX11_spelt 96 = .ok (.lsub, 1) := by decide +kernel
theorem dX11_spelt_97 : decode cX11_spelt 97 = .ok (.lstore 7, 2) := by decide +kernel
set_option maxHeartbeats 4000000 in
set_option maxRecDepth 100000 in
theorem e_spelt_1 {l : Launch} {G : Gc}   : Cl l yX11_spelt cX11_spelt 9 0 0 0 G [.int 104, .int 101, .int 97, .int 114, .int 101, .int 114, .int 0] [] (fun (r9 : Int64) (u9 : va_W) => r9 = 117481419 ∧ u9 = []) := by
  refine Cl.ofQ (by decide) (Nat.le_of_ble_eq_true rfl) ?_
  intro p e s m below meth c ls A args Q hQ B hw hl
  have C : CallFix p m c cX11_spelt 9 s args gw "LanternStateModel" := B.1
  have hl : lv_has ls 9 [(0, .int 104), (1, .int 101), (2, .int 97), (3, .int 114), (4, .int 101), (5, .int 114), (6, .int 0)] := hl
  refine lv_ldc2 (v := 27) C.1 C.2.1 C.2.2.2.1 (C.2.2.2.2 _ kw1353) dX11_spelt_0 ?_
  refine lv_iload_n C.1 C.2.1 dX11_spelt_3 rfl (lv_at hl 0 rfl) ?_
  refine lv_i2l (v := 104) C.1 C.2.1 dX11_spelt_4 (by decide) ?_
  refine lv_ldc2 (v := 96) C.1 C.2.1 C.2.2.2.1 (C.2.2.2.2 _ kw1354) dX11_spelt_5 ?_
  refine lv_lsub C.1 C.2.1 dX11_spelt_8 ?_
  refine x_topl (z := 8) (by decide) ?_
  refine lv_lmul C.1 C.2.1 dX11_spelt_9 ?_
  refine x_topl (z := 216) (by decide) ?_
  refine lv_iload_n C.1 C.2.1 dX11_spelt_10 rfl (lv_at hl 1 rfl) ?_
  refine lv_i2l (v := 101) C.1 C.2.1 dX11_spelt_11 (by decide) ?_
  refine lv_ladd C.1 C.2.1 dX11_spelt_12 ?_
  refine x_topl (z := 317) (by decide) ?_
  refine lv_ldc2 (v := 96) C.1 C.2.1 C.2.2.2.1 (C.2.2.2.2 _ kw1354) dX11_spelt_13 ?_
  refine lv_lsub C.1 C.2.1 dX11_spelt_16 ?_
  refine x_topl (z := 221) (by decide) ?_
  refine lv_lstore (lv' := [(7, .long 221), (0, .int 104), (1, .int 101), (2, .int 97), (3, .int 114), (4, .int 101), (5, .int 114), (6, .int 0)]) C.1 C.2.1 dX11_spelt_17 hl (by decide) rfl (fun ls hl => ?_)
  refine lv_iload_n C.1 C.2.1 dX11_spelt_19 rfl (lv_at hl 3 rfl) ?_
  refine lv_if_le (tgt := 38) C.1 C.2.1 dX11_spelt_20 (by decide) (fun h9 => absurd h9 (by decide)) (fun _ => ?_)
  refine lv_ldc2 (v := 27) C.1 C.2.1 C.2.2.2.1 (C.2.2.2.2 _ kw1353) dX11_spelt_23 ?_
  refine lv_lload C.1 C.2.1 dX11_spelt_26 (lv_at hl 0 rfl) ?_
  refine lv_lmul C.1 C.2.1 dX11_spelt_28 ?_
  refine x_topl (z := 5967) (by decide) ?_
  refine lv_iload_n C.1 C.2.1 dX11_spelt_29 rfl (lv_at hl 3 rfl) ?_
  refine lv_i2l (v := 97) C.1 C.2.1 dX11_spelt_30 (by decide) ?_
  refine lv_ladd C.1 C.2.1 dX11_spelt_31 ?_
  refine x_topl (z := 6064) (by decide) ?_
  refine lv_ldc2 (v := 96) C.1 C.2.1 C.2.2.2.1 (C.2.2.2.2 _ kw1354) dX11_spelt_32 ?_
  refine lv_lsub C.1 C.2.1 dX11_spelt_35 ?_
  refine x_topl (z := 5968) (by decide) ?_
  refine lv_lstore (lv' := [(7, .long 5968), (0, .int 104), (1, .int 101), (2, .int 97), (3, .int 114), (4, .int 101), (5, .int 114), (6, .int 0)]) C.1 C.2.1 dX11_spelt_36 hl (by decide) rfl (fun ls hl => ?_)
  refine lv_iload_n C.1 C.2.1 dX11_spelt_38 rfl (lv_at hl 4 rfl) ?_
  refine lv_if_le (tgt := 57) C.1 C.2.1 dX11_spelt_39 (by decide) (fun h9 => absurd h9 (by decide)) (fun _ => ?_)
  refine lv_ldc2 (v := 27) C.1 C.2.1 C.2.2.2.1 (C.2.2.2.2 _ kw1353) dX11_spelt_42 ?_
  refine lv_lload C.1 C.2.1 dX11_spelt_45 (lv_at hl 0 rfl) ?_
  refine lv_lmul C.1 C.2.1 dX11_spelt_47 ?_
  refine x_topl (z := 161136) (by decide) ?_
  refine lv_iload_n C.1 C.2.1 dX11_spelt_48 rfl (lv_at hl 4 rfl) ?_
  refine lv_i2l (v := 114) C.1 C.2.1 dX11_spelt_49 (by decide) ?_
  refine lv_ladd C.1 C.2.1 dX11_spelt_50 ?_
  refine x_topl (z := 161250) (by decide) ?_
  refine lv_ldc2 (v := 96) C.1 C.2.1 C.2.2.2.1 (C.2.2.2.2 _ kw1354) dX11_spelt_51 ?_
  refine lv_lsub C.1 C.2.1 dX11_spelt_54 ?_
  refine x_topl (z := 161154) (by decide) ?_
  refine lv_lstore (lv' := [(7, .long 161154), (0, .int 104), (1, .int 101), (2, .int 97), (3, .int 114), (4, .int 101), (5, .int 114), (6, .int 0)]) C.1 C.2.1 dX11_spelt_55 hl (by decide) rfl (fun ls hl => ?_)
  refine lv_iload C.1 C.2.1 dX11_spelt_57 (lv_at hl 5 rfl) ?_
  refine lv_if_le (tgt := 78) C.1 C.2.1 dX11_spelt_59 (by decide) (fun h9 => absurd h9 (by decide)) (fun _ => ?_)
  refine lv_ldc2 (v := 27) C.1 C.2.1 C.2.2.2.1 (C.2.2.2.2 _ kw1353) dX11_spelt_62 ?_
  refine lv_lload C.1 C.2.1 dX11_spelt_65 (lv_at hl 0 rfl) ?_
  refine lv_lmul C.1 C.2.1 dX11_spelt_67 ?_
  refine x_topl (z := 4351158) (by decide) ?_
  refine lv_iload C.1 C.2.1 dX11_spelt_68 (lv_at hl 5 rfl) ?_
  refine lv_i2l (v := 101) C.1 C.2.1 dX11_spelt_70 (by decide) ?_
  refine lv_ladd C.1 C.2.1 dX11_spelt_71 ?_
  refine x_topl (z := 4351259) (by decide) ?_
  refine lv_ldc2 (v := 96) C.1 C.2.1 C.2.2.2.1 (C.2.2.2.2 _ kw1354) dX11_spelt_72 ?_
  refine lv_lsub C.1 C.2.1 dX11_spelt_75 ?_
  refine x_topl (z := 4351163) (by decide) ?_
  refine lv_lstore (lv' := [(7, .long 4351163), (0, .int 104), (1, .int 101), (2, .int 97), (3, .int 114), (4, .int 101), (5, .int 114), (6, .int 0)]) C.1 C.2.1 dX11_spelt_76 hl (by decide) rfl (fun ls hl => ?_)
  refine lv_iload C.1 C.2.1 dX11_spelt_78 (lv_at hl 6 rfl) ?_
  refine lv_if_le (tgt := 99) C.1 C.2.1 dX11_spelt_80 (by decide) (fun h9 => absurd h9 (by decide)) (fun _ => ?_)
  refine lv_ldc2 (v := 27) C.1 C.2.1 C.2.2.2.1 (C.2.2.2.2 _ kw1353) dX11_spelt_83 ?_
  refine lv_lload C.1 C.2.1 dX11_spelt_86 (lv_at hl 0 rfl) ?_
  refine lv_lmul C.1 C.2.1 dX11_spelt_88 ?_
  refine x_topl (z := 117481401) (by decide) ?_
  refine lv_iload C.1 C.2.1 dX11_spelt_89 (lv_at hl 6 rfl) ?_
  refine lv_i2l (v := 114) C.1 C.2.1 dX11_spelt_91 (by decide) ?_
  refine lv_ladd C.1 C.2.1 dX11_spelt_92 ?_
  refine x_topl (z := 117481515) (by decide) ?_
  refine lv_ldc2 (v := 96) C.1 C.2.1 C.2.2.2.1 (C.2.2.2.2 _ kw1354) dX11_spelt_93 ?_
  refine lv_lsub C.1 C.2.1 dX11_spelt_96 ?_
  refine x_topl (z := 117481419) (by decide) ?_
  refine lv_lstore (lv' := [(7, .long 117481419), (0, .int 104), (1, .int 101), (2, .int 97), (3, .int 114), (4, .int 101), (5, .int 114), (6, .int 0)]) C.1 C.2.1 dX11_spelt_97 hl (by decide) rfl (fun ls hl => ?_)
  refine lv_iload C.1 C.2.1 dX11_spelt_99 (lv_at hl 7 rfl) ?_
  refine lv_if_le (tgt := 120) C.1 C.2.1 dX11_spelt_101 (by decide) (fun _ => ?_) (fun h9 => absurd (by decide) h9)
  refine lv_lload C.1 C.2.1 dX11_spelt_120 (lv_at hl 0 rfl) ?_
  exact x_retlQ hQ B hw ⟨rfl, rfl⟩ (Nat.le_of_ble_eq_true rfl) (Nat.le_of_ble_eq_true rfl) dX11_spelt_122
theorem dX11_wordOf_136 : decode cX11_wordOf 136 = .ok (.bipush 104, 2) := by decide +kernel
theorem dX11_wordOf_138 : decode cX11_wordOf 138 = .ok (.bipush 101, 2) := by decide +kernel
theorem dX11_wordOf_140 : decode cX11_wordOf 140 = .ok (.bipush 97, 2) := by decide +kernel
theorem dX11_wordOf_142 : decode cX11_wordOf 142 = .ok (.bipush 114, 2) := by decide +kernel
theorem dX11_wordOf_144 : decode cX11_wordOf 144 = .ok (.bipush 101, 2) := by decide +kernel
theorem dX11_wordOf_146 : decode cX11_wordOf 146 = .ok (.bipush 114, 2) := by decide +kernel
theorem dX11_wordOf_148 : decode cX11_wordOf 148 = .ok (.iconst 0, 1) := by decide +kernel
theorem dX11_wordOf_149 : decode cX11_wordOf 149 = .ok (.invokestatic 58, 3) := by decide +kernel
theorem dX11_wordOf_152 : decode cX11_wordOf 152 = .ok (.lreturn, 1) := by decide +kernel
set_option maxHeartbeats 4000000 in
set_option maxRecDepth 100000 in
theorem e_wordOf_1 {l : Launch} {G : Gc}   : Cl l yX11_wordOf cX11_wordOf 1 1 0 0 G [.int 1] [] (fun (r9 : Int64) (u9 : va_W) => r9 = 117481419 ∧ u9 = []) := by
  refine Cl.ofQ (by decide) (Nat.le_of_ble_eq_true rfl) ?_
  intro p e s m below meth c ls A args Q hQ B hw hl
  have C : CallFix p m c cX11_wordOf 1 s args gw "LanternStateModel" := B.1
  have hl : lv_has ls 1 [(0, .int 1)] := hl
  refine lv_iload_n C.1 C.2.1 dX11_wordOf_0 rfl (lv_at hl 0 rfl) ?_
  refine lv_tableIn (off := 135) (tgt := 136) C.1 C.2.1 dX11_wordOf_1 (by decide) (by decide) rfl (by decide) ?_
  refine lv_bipush (v := 104) C.1 C.2.1 dX11_wordOf_136 (by decide) ?_
  refine lv_bipush (v := 101) C.1 C.2.1 dX11_wordOf_138 (by decide) ?_
  refine lv_bipush (v := 97) C.1 C.2.1 dX11_wordOf_140 (by decide) ?_
  refine lv_bipush (v := 114) C.1 C.2.1 dX11_wordOf_142 (by decide) ?_
  refine lv_bipush (v := 101) C.1 C.2.1 dX11_wordOf_144 (by decide) ?_
  refine lv_bipush (v := 114) C.1 C.2.1 dX11_wordOf_146 (by decide) ?_
  refine lv_iconst (v := 0) C.1 C.2.1 dX11_wordOf_148 (by decide) ?_
  refine x_calllS (As := [.int 104, .int 101, .int 97, .int 114, .int 101, .int 114, .int 0]) (rest := []) (wr := []) C hw e_spelt_1 mwX11_spelt kw1366 [] [] rfl rfl rfl rfl (by decide) rfl hl.1 rfl (Nat.le_of_ble_eq_true rfl) ⟨(Nat.le_of_ble_eq_true rfl), (Nat.le_of_ble_eq_true rfl)⟩ ⟨(Nat.le_of_ble_eq_true rfl), (Nat.le_of_ble_eq_true rfl)⟩ dX11_wordOf_149 (fun r1 u9 H locs hp9 hw => ?_)
  obtain ⟨rfl, rfl⟩ := hp9
  have hw : Wd G s A [] H _ := hw
  exact x_retlQ hQ B hw ⟨rfl, rfl⟩ (Nat.le_of_ble_eq_true rfl) (Nat.le_of_ble_eq_true rfl) dX11_wordOf_152
set_option maxHeartbeats 4000000 in
set_option maxRecDepth 100000 in
theorem e_spelt_2 {l : Launch} {G : Gc}   : Cl l yX11_spelt cX11_spelt 9 0 0 0 G [.int 102, .int 114, .int 111, .int 110, .int 116, .int 0, .int 0] [] (fun (r9 : Int64) (u9 : va_W) => r9 = 3554273 ∧ u9 = []) := by
  refine Cl.ofQ (by decide) (Nat.le_of_ble_eq_true rfl) ?_
  intro p e s m below meth c ls A args Q hQ B hw hl
  have C : CallFix p m c cX11_spelt 9 s args gw "LanternStateModel" := B.1
  have hl : lv_has ls 9 [(0, .int 102), (1, .int 114), (2, .int 111), (3, .int 110), (4, .int 116), (5, .int 0), (6, .int 0)] := hl
  refine lv_ldc2 (v := 27) C.1 C.2.1 C.2.2.2.1 (C.2.2.2.2 _ kw1353) dX11_spelt_0 ?_
  refine lv_iload_n C.1 C.2.1 dX11_spelt_3 rfl (lv_at hl 0 rfl) ?_
  refine lv_i2l (v := 102) C.1 C.2.1 dX11_spelt_4 (by decide) ?_
  refine lv_ldc2 (v := 96) C.1 C.2.1 C.2.2.2.1 (C.2.2.2.2 _ kw1354) dX11_spelt_5 ?_
  refine lv_lsub C.1 C.2.1 dX11_spelt_8 ?_
  refine x_topl (z := 6) (by decide) ?_
  refine lv_lmul C.1 C.2.1 dX11_spelt_9 ?_
  refine x_topl (z := 162) (by decide) ?_
  refine lv_iload_n C.1 C.2.1 dX11_spelt_10 rfl (lv_at hl 1 rfl) ?_
  refine lv_i2l (v := 114) C.1 C.2.1 dX11_spelt_11 (by decide) ?_
  refine lv_ladd C.1 C.2.1 dX11_spelt_12 ?_
  refine x_topl (z := 276) (by decide) ?_
  refine lv_ldc2 (v := 96) C.1 C.2.1 C.2.2.2.1 (C.2.2.2.2 _ kw1354) dX11_spelt_13 ?_
  refine lv_lsub C.1 C.2.1 dX11_spelt_16 ?_
  refine x_topl (z := 180) (by decide) ?_
  refine lv_lstore (lv' := [(7, .long 180), (0, .int 102), (1, .int 114), (2, .int 111), (3, .int 110), (4, .int 116), (5, .int 0), (6, .int 0)]) C.1 C.2.1 dX11_spelt_17 hl (by decide) rfl (fun ls hl => ?_)
  refine lv_iload_n C.1 C.2.1 dX11_spelt_19 rfl (lv_at hl 3 rfl) ?_
  refine lv_if_le (tgt := 38) C.1 C.2.1 dX11_spelt_20 (by decide) (fun h9 => absurd h9 (by decide)) (fun _ => ?_)
  refine lv_ldc2 (v := 27) C.1 C.2.1 C.2.2.2.1 (C.2.2.2.2 _ kw1353) dX11_spelt_23 ?_
  refine lv_lload C.1 C.2.1 dX11_spelt_26 (lv_at hl 0 rfl) ?_
  refine lv_lmul C.1 C.2.1 dX11_spelt_28 ?_
  refine x_topl (z := 4860) (by decide) ?_
  refine lv_iload_n C.1 C.2.1 dX11_spelt_29 rfl (lv_at hl 3 rfl) ?_
  refine lv_i2l (v := 111) C.1 C.2.1 dX11_spelt_30 (by decide) ?_
  refine lv_ladd C.1 C.2.1 dX11_spelt_31 ?_
  refine x_topl (z := 4971) (by decide) ?_
  refine lv_ldc2 (v := 96) C.1 C.2.1 C.2.2.2.1 (C.2.2.2.2 _ kw1354) dX11_spelt_32 ?_
  refine lv_lsub C.1 C.2.1 dX11_spelt_35 ?_
  refine x_topl (z := 4875) (by decide) ?_
  refine lv_lstore (lv' := [(7, .long 4875), (0, .int 102), (1, .int 114), (2, .int 111), (3, .int 110), (4, .int 116), (5, .int 0), (6, .int 0)]) C.1 C.2.1 dX11_spelt_36 hl (by decide) rfl (fun ls hl => ?_)
  refine lv_iload_n C.1 C.2.1 dX11_spelt_38 rfl (lv_at hl 4 rfl) ?_
  refine lv_if_le (tgt := 57) C.1 C.2.1 dX11_spelt_39 (by decide) (fun h9 => absurd h9 (by decide)) (fun _ => ?_)
  refine lv_ldc2 (v := 27) C.1 C.2.1 C.2.2.2.1 (C.2.2.2.2 _ kw1353) dX11_spelt_42 ?_
  refine lv_lload C.1 C.2.1 dX11_spelt_45 (lv_at hl 0 rfl) ?_
  refine lv_lmul C.1 C.2.1 dX11_spelt_47 ?_
  refine x_topl (z := 131625) (by decide) ?_
  refine lv_iload_n C.1 C.2.1 dX11_spelt_48 rfl (lv_at hl 4 rfl) ?_
  refine lv_i2l (v := 110) C.1 C.2.1 dX11_spelt_49 (by decide) ?_
  refine lv_ladd C.1 C.2.1 dX11_spelt_50 ?_
  refine x_topl (z := 131735) (by decide) ?_
  refine lv_ldc2 (v := 96) C.1 C.2.1 C.2.2.2.1 (C.2.2.2.2 _ kw1354) dX11_spelt_51 ?_
  refine lv_lsub C.1 C.2.1 dX11_spelt_54 ?_
  refine x_topl (z := 131639) (by decide) ?_
  refine lv_lstore (lv' := [(7, .long 131639), (0, .int 102), (1, .int 114), (2, .int 111), (3, .int 110), (4, .int 116), (5, .int 0), (6, .int 0)]) C.1 C.2.1 dX11_spelt_55 hl (by decide) rfl (fun ls hl => ?_)
  refine lv_iload C.1 C.2.1 dX11_spelt_57 (lv_at hl 5 rfl) ?_
  refine lv_if_le (tgt := 78) C.1 C.2.1 dX11_spelt_59 (by decide) (fun h9 => absurd h9 (by decide)) (fun _ => ?_)
  refine lv_ldc2 (v := 27) C.1 C.2.1 C.2.2.2.1 (C.2.2.2.2 _ kw1353) dX11_spelt_62 ?_
  refine lv_lload C.1 C.2.1 dX11_spelt_65 (lv_at hl 0 rfl) ?_
  refine lv_lmul C.1 C.2.1 dX11_spelt_67 ?_
  refine x_topl (z := 3554253) (by decide) ?_
  refine lv_iload C.1 C.2.1 dX11_spelt_68 (lv_at hl 5 rfl) ?_
  refine lv_i2l (v := 116) C.1 C.2.1 dX11_spelt_70 (by decide) ?_
  refine lv_ladd C.1 C.2.1 dX11_spelt_71 ?_
  refine x_topl (z := 3554369) (by decide) ?_
  refine lv_ldc2 (v := 96) C.1 C.2.1 C.2.2.2.1 (C.2.2.2.2 _ kw1354) dX11_spelt_72 ?_
  refine lv_lsub C.1 C.2.1 dX11_spelt_75 ?_
  refine x_topl (z := 3554273) (by decide) ?_
  refine lv_lstore (lv' := [(7, .long 3554273), (0, .int 102), (1, .int 114), (2, .int 111), (3, .int 110), (4, .int 116), (5, .int 0), (6, .int 0)]) C.1 C.2.1 dX11_spelt_76 hl (by decide) rfl (fun ls hl => ?_)
  refine lv_iload C.1 C.2.1 dX11_spelt_78 (lv_at hl 6 rfl) ?_
  refine lv_if_le (tgt := 99) C.1 C.2.1 dX11_spelt_80 (by decide) (fun _ => ?_) (fun h9 => absurd (by decide) h9)
  refine lv_iload C.1 C.2.1 dX11_spelt_99 (lv_at hl 7 rfl) ?_
  refine lv_if_le (tgt := 120) C.1 C.2.1 dX11_spelt_101 (by decide) (fun _ => ?_) (fun h9 => absurd (by decide) h9)
  refine lv_lload C.1 C.2.1 dX11_spelt_120 (lv_at hl 0 rfl) ?_
  exact x_retlQ hQ B hw ⟨rfl, rfl⟩ (Nat.le_of_ble_eq_true rfl) (Nat.le_of_ble_eq_true rfl) dX11_spelt_122
theorem dX11_wordOf_153 : decode cX11_wordOf 153 = .ok (.bipush 102, 2) := by decide +kernel
theorem dX11_wordOf_155 : decode cX11_wordOf 155 = .ok (.bipush 114, 2) := by decide +kernel
theorem dX11_wordOf_157 : decode cX11_wordOf 157 = .ok (.bipush 111, 2) := by decide +kernel
theorem dX11_wordOf_159 : decode cX11_wordOf 159 = .ok (.bipush 110, 2) := by decide +kernel
theorem dX11_wordOf_161 : decode cX11_wordOf 161 = .ok (.bipush 116, 2) := by decide +kernel
theorem dX11_wordOf_163 : decode cX11_wordOf 163 = .ok (.iconst 0, 1) := by decide +kernel
theorem dX11_wordOf_164 : decode cX11_wordOf 164 = .ok (.iconst 0, 1) := by decide +kernel
theorem dX11_wordOf_165 : decode cX11_wordOf 165 = .ok (.invokestatic 58, 3) := by decide +kernel
theorem dX11_wordOf_168 : decode cX11_wordOf 168 = .ok (.lreturn, 1) := by decide +kernel
set_option maxHeartbeats 4000000 in
set_option maxRecDepth 100000 in
theorem e_wordOf_2 {l : Launch} {G : Gc}   : Cl l yX11_wordOf cX11_wordOf 1 1 0 0 G [.int 2] [] (fun (r9 : Int64) (u9 : va_W) => r9 = 3554273 ∧ u9 = []) := by
  refine Cl.ofQ (by decide) (Nat.le_of_ble_eq_true rfl) ?_
  intro p e s m below meth c ls A args Q hQ B hw hl
  have C : CallFix p m c cX11_wordOf 1 s args gw "LanternStateModel" := B.1
  have hl : lv_has ls 1 [(0, .int 2)] := hl
  refine lv_iload_n C.1 C.2.1 dX11_wordOf_0 rfl (lv_at hl 0 rfl) ?_
  refine lv_tableIn (off := 152) (tgt := 153) C.1 C.2.1 dX11_wordOf_1 (by decide) (by decide) rfl (by decide) ?_
  refine lv_bipush (v := 102) C.1 C.2.1 dX11_wordOf_153 (by decide) ?_
  refine lv_bipush (v := 114) C.1 C.2.1 dX11_wordOf_155 (by decide) ?_
  refine lv_bipush (v := 111) C.1 C.2.1 dX11_wordOf_157 (by decide) ?_
  refine lv_bipush (v := 110) C.1 C.2.1 dX11_wordOf_159 (by decide) ?_
  refine lv_bipush (v := 116) C.1 C.2.1 dX11_wordOf_161 (by decide) ?_
  refine lv_iconst (v := 0) C.1 C.2.1 dX11_wordOf_163 (by decide) ?_
  refine lv_iconst (v := 0) C.1 C.2.1 dX11_wordOf_164 (by decide) ?_
  refine x_calllS (As := [.int 102, .int 114, .int 111, .int 110, .int 116, .int 0, .int 0]) (rest := []) (wr := []) C hw e_spelt_2 mwX11_spelt kw1366 [] [] rfl rfl rfl rfl (by decide) rfl hl.1 rfl (Nat.le_of_ble_eq_true rfl) ⟨(Nat.le_of_ble_eq_true rfl), (Nat.le_of_ble_eq_true rfl)⟩ ⟨(Nat.le_of_ble_eq_true rfl), (Nat.le_of_ble_eq_true rfl)⟩ dX11_wordOf_165 (fun r1 u9 H locs hp9 hw => ?_)
  obtain ⟨rfl, rfl⟩ := hp9
  have hw : Wd G s A [] H _ := hw
  exact x_retlQ hQ B hw ⟨rfl, rfl⟩ (Nat.le_of_ble_eq_true rfl) (Nat.le_of_ble_eq_true rfl) dX11_wordOf_168
set_option maxHeartbeats 4000000 in
set_option maxRecDepth 100000 in
theorem e_spelt_3 {l : Launch} {G : Gc}   : Cl l yX11_spelt cX11_spelt 9 0 0 0 G [.int 98, .int 101, .int 104, .int 105, .int 110, .int 100, .int 0] [] (fun (r9 : Int64) (u9 : va_W) => r9 = 31519426 ∧ u9 = []) := by
  refine Cl.ofQ (by decide) (Nat.le_of_ble_eq_true rfl) ?_
  intro p e s m below meth c ls A args Q hQ B hw hl
  have C : CallFix p m c cX11_spelt 9 s args gw "LanternStateModel" := B.1
  have hl : lv_has ls 9 [(0, .int 98), (1, .int 101), (2, .int 104), (3, .int 105), (4, .int 110), (5, .int 100), (6, .int 0)] := hl
  refine lv_ldc2 (v := 27) C.1 C.2.1 C.2.2.2.1 (C.2.2.2.2 _ kw1353) dX11_spelt_0 ?_
  refine lv_iload_n C.1 C.2.1 dX11_spelt_3 rfl (lv_at hl 0 rfl) ?_
  refine lv_i2l (v := 98) C.1 C.2.1 dX11_spelt_4 (by decide) ?_
  refine lv_ldc2 (v := 96) C.1 C.2.1 C.2.2.2.1 (C.2.2.2.2 _ kw1354) dX11_spelt_5 ?_
  refine lv_lsub C.1 C.2.1 dX11_spelt_8 ?_
  refine x_topl (z := 2) (by decide) ?_
  refine lv_lmul C.1 C.2.1 dX11_spelt_9 ?_
  refine x_topl (z := 54) (by decide) ?_
  refine lv_iload_n C.1 C.2.1 dX11_spelt_10 rfl (lv_at hl 1 rfl) ?_
  refine lv_i2l (v := 101) C.1 C.2.1 dX11_spelt_11 (by decide) ?_
  refine lv_ladd C.1 C.2.1 dX11_spelt_12 ?_
  refine x_topl (z := 155) (by decide) ?_
  refine lv_ldc2 (v := 96) C.1 C.2.1 C.2.2.2.1 (C.2.2.2.2 _ kw1354) dX11_spelt_13 ?_
  refine lv_lsub C.1 C.2.1 dX11_spelt_16 ?_
  refine x_topl (z := 59) (by decide) ?_
  refine lv_lstore (lv' := [(7, .long 59), (0, .int 98), (1, .int 101), (2, .int 104), (3, .int 105), (4, .int 110), (5, .int 100), (6, .int 0)]) C.1 C.2.1 dX11_spelt_17 hl (by decide) rfl (fun ls hl => ?_)
  refine lv_iload_n C.1 C.2.1 dX11_spelt_19 rfl (lv_at hl 3 rfl) ?_
  refine lv_if_le (tgt := 38) C.1 C.2.1 dX11_spelt_20 (by decide) (fun h9 => absurd h9 (by decide)) (fun _ => ?_)
  refine lv_ldc2 (v := 27) C.1 C.2.1 C.2.2.2.1 (C.2.2.2.2 _ kw1353) dX11_spelt_23 ?_
  refine lv_lload C.1 C.2.1 dX11_spelt_26 (lv_at hl 0 rfl) ?_
  refine lv_lmul C.1 C.2.1 dX11_spelt_28 ?_
  refine x_topl (z := 1593) (by decide) ?_
  refine lv_iload_n C.1 C.2.1 dX11_spelt_29 rfl (lv_at hl 3 rfl) ?_
  refine lv_i2l (v := 104) C.1 C.2.1 dX11_spelt_30 (by decide) ?_
  refine lv_ladd C.1 C.2.1 dX11_spelt_31 ?_
  refine x_topl (z := 1697) (by decide) ?_
  refine lv_ldc2 (v := 96) C.1 C.2.1 C.2.2.2.1 (C.2.2.2.2 _ kw1354) dX11_spelt_32 ?_
  refine lv_lsub C.1 C.2.1 dX11_spelt_35 ?_
  refine x_topl (z := 1601) (by decide) ?_
  refine lv_lstore (lv' := [(7, .long 1601), (0, .int 98), (1, .int 101), (2, .int 104), (3, .int 105), (4, .int 110), (5, .int 100), (6, .int 0)]) C.1 C.2.1 dX11_spelt_36 hl (by decide) rfl (fun ls hl => ?_)
  refine lv_iload_n C.1 C.2.1 dX11_spelt_38 rfl (lv_at hl 4 rfl) ?_
  refine lv_if_le (tgt := 57) C.1 C.2.1 dX11_spelt_39 (by decide) (fun h9 => absurd h9 (by decide)) (fun _ => ?_)
  refine lv_ldc2 (v := 27) C.1 C.2.1 C.2.2.2.1 (C.2.2.2.2 _ kw1353) dX11_spelt_42 ?_
  refine lv_lload C.1 C.2.1 dX11_spelt_45 (lv_at hl 0 rfl) ?_
  refine lv_lmul C.1 C.2.1 dX11_spelt_47 ?_
  refine x_topl (z := 43227) (by decide) ?_
  refine lv_iload_n C.1 C.2.1 dX11_spelt_48 rfl (lv_at hl 4 rfl) ?_
  refine lv_i2l (v := 105) C.1 C.2.1 dX11_spelt_49 (by decide) ?_
  refine lv_ladd C.1 C.2.1 dX11_spelt_50 ?_
  refine x_topl (z := 43332) (by decide) ?_
  refine lv_ldc2 (v := 96) C.1 C.2.1 C.2.2.2.1 (C.2.2.2.2 _ kw1354) dX11_spelt_51 ?_
  refine lv_lsub C.1 C.2.1 dX11_spelt_54 ?_
  refine x_topl (z := 43236) (by decide) ?_
  refine lv_lstore (lv' := [(7, .long 43236), (0, .int 98), (1, .int 101), (2, .int 104), (3, .int 105), (4, .int 110), (5, .int 100), (6, .int 0)]) C.1 C.2.1 dX11_spelt_55 hl (by decide) rfl (fun ls hl => ?_)
  refine lv_iload C.1 C.2.1 dX11_spelt_57 (lv_at hl 5 rfl) ?_
  refine lv_if_le (tgt := 78) C.1 C.2.1 dX11_spelt_59 (by decide) (fun h9 => absurd h9 (by decide)) (fun _ => ?_)
  refine lv_ldc2 (v := 27) C.1 C.2.1 C.2.2.2.1 (C.2.2.2.2 _ kw1353) dX11_spelt_62 ?_
  refine lv_lload C.1 C.2.1 dX11_spelt_65 (lv_at hl 0 rfl) ?_
  refine lv_lmul C.1 C.2.1 dX11_spelt_67 ?_
  refine x_topl (z := 1167372) (by decide) ?_
  refine lv_iload C.1 C.2.1 dX11_spelt_68 (lv_at hl 5 rfl) ?_
  refine lv_i2l (v := 110) C.1 C.2.1 dX11_spelt_70 (by decide) ?_
  refine lv_ladd C.1 C.2.1 dX11_spelt_71 ?_
  refine x_topl (z := 1167482) (by decide) ?_
  refine lv_ldc2 (v := 96) C.1 C.2.1 C.2.2.2.1 (C.2.2.2.2 _ kw1354) dX11_spelt_72 ?_
  refine lv_lsub C.1 C.2.1 dX11_spelt_75 ?_
  refine x_topl (z := 1167386) (by decide) ?_
  refine lv_lstore (lv' := [(7, .long 1167386), (0, .int 98), (1, .int 101), (2, .int 104), (3, .int 105), (4, .int 110), (5, .int 100), (6, .int 0)]) C.1 C.2.1 dX11_spelt_76 hl (by decide) rfl (fun ls hl => ?_)
  refine lv_iload C.1 C.2.1 dX11_spelt_78 (lv_at hl 6 rfl) ?_
  refine lv_if_le (tgt := 99) C.1 C.2.1 dX11_spelt_80 (by decide) (fun h9 => absurd h9 (by decide)) (fun _ => ?_)
  refine lv_ldc2 (v := 27) C.1 C.2.1 C.2.2.2.1 (C.2.2.2.2 _ kw1353) dX11_spelt_83 ?_
  refine lv_lload C.1 C.2.1 dX11_spelt_86 (lv_at hl 0 rfl) ?_
  refine lv_lmul C.1 C.2.1 dX11_spelt_88 ?_
  refine x_topl (z := 31519422) (by decide) ?_
  refine lv_iload C.1 C.2.1 dX11_spelt_89 (lv_at hl 6 rfl) ?_
  refine lv_i2l (v := 100) C.1 C.2.1 dX11_spelt_91 (by decide) ?_
  refine lv_ladd C.1 C.2.1 dX11_spelt_92 ?_
  refine x_topl (z := 31519522) (by decide) ?_
  refine lv_ldc2 (v := 96) C.1 C.2.1 C.2.2.2.1 (C.2.2.2.2 _ kw1354) dX11_spelt_93 ?_
  refine lv_lsub C.1 C.2.1 dX11_spelt_96 ?_
  refine x_topl (z := 31519426) (by decide) ?_
  refine lv_lstore (lv' := [(7, .long 31519426), (0, .int 98), (1, .int 101), (2, .int 104), (3, .int 105), (4, .int 110), (5, .int 100), (6, .int 0)]) C.1 C.2.1 dX11_spelt_97 hl (by decide) rfl (fun ls hl => ?_)
  refine lv_iload C.1 C.2.1 dX11_spelt_99 (lv_at hl 7 rfl) ?_
  refine lv_if_le (tgt := 120) C.1 C.2.1 dX11_spelt_101 (by decide) (fun _ => ?_) (fun h9 => absurd (by decide) h9)
  refine lv_lload C.1 C.2.1 dX11_spelt_120 (lv_at hl 0 rfl) ?_
  exact x_retlQ hQ B hw ⟨rfl, rfl⟩ (Nat.le_of_ble_eq_true rfl) (Nat.le_of_ble_eq_true rfl) dX11_spelt_122
theorem dX11_wordOf_169 : decode cX11_wordOf 169 = .ok (.bipush 98, 2) := by decide +kernel
theorem dX11_wordOf_171 : decode cX11_wordOf 171 = .ok (.bipush 101, 2) := by decide +kernel
theorem dX11_wordOf_173 : decode cX11_wordOf 173 = .ok (.bipush 104, 2) := by decide +kernel
theorem dX11_wordOf_175 : decode cX11_wordOf 175 = .ok (.bipush 105, 2) := by decide +kernel
theorem dX11_wordOf_177 : decode cX11_wordOf 177 = .ok (.bipush 110, 2) := by decide +kernel
theorem dX11_wordOf_179 : decode cX11_wordOf 179 = .ok (.bipush 100, 2) := by decide +kernel
theorem dX11_wordOf_181 : decode cX11_wordOf 181 = .ok (.iconst 0, 1) := by decide +kernel
theorem dX11_wordOf_182 : decode cX11_wordOf 182 = .ok (.invokestatic 58, 3) := by decide +kernel
theorem dX11_wordOf_185 : decode cX11_wordOf 185 = .ok (.lreturn, 1) := by decide +kernel
set_option maxHeartbeats 4000000 in
set_option maxRecDepth 100000 in
theorem e_wordOf_3 {l : Launch} {G : Gc}   : Cl l yX11_wordOf cX11_wordOf 1 1 0 0 G [.int 3] [] (fun (r9 : Int64) (u9 : va_W) => r9 = 31519426 ∧ u9 = []) := by
  refine Cl.ofQ (by decide) (Nat.le_of_ble_eq_true rfl) ?_
  intro p e s m below meth c ls A args Q hQ B hw hl
  have C : CallFix p m c cX11_wordOf 1 s args gw "LanternStateModel" := B.1
  have hl : lv_has ls 1 [(0, .int 3)] := hl
  refine lv_iload_n C.1 C.2.1 dX11_wordOf_0 rfl (lv_at hl 0 rfl) ?_
  refine lv_tableIn (off := 168) (tgt := 169) C.1 C.2.1 dX11_wordOf_1 (by decide) (by decide) rfl (by decide) ?_
  refine lv_bipush (v := 98) C.1 C.2.1 dX11_wordOf_169 (by decide) ?_
  refine lv_bipush (v := 101) C.1 C.2.1 dX11_wordOf_171 (by decide) ?_
  refine lv_bipush (v := 104) C.1 C.2.1 dX11_wordOf_173 (by decide) ?_
  refine lv_bipush (v := 105) C.1 C.2.1 dX11_wordOf_175 (by decide) ?_
  refine lv_bipush (v := 110) C.1 C.2.1 dX11_wordOf_177 (by decide) ?_
  refine lv_bipush (v := 100) C.1 C.2.1 dX11_wordOf_179 (by decide) ?_
  refine lv_iconst (v := 0) C.1 C.2.1 dX11_wordOf_181 (by decide) ?_
  refine x_calllS (As := [.int 98, .int 101, .int 104, .int 105, .int 110, .int 100, .int 0]) (rest := []) (wr := []) C hw e_spelt_3 mwX11_spelt kw1366 [] [] rfl rfl rfl rfl (by decide) rfl hl.1 rfl (Nat.le_of_ble_eq_true rfl) ⟨(Nat.le_of_ble_eq_true rfl), (Nat.le_of_ble_eq_true rfl)⟩ ⟨(Nat.le_of_ble_eq_true rfl), (Nat.le_of_ble_eq_true rfl)⟩ dX11_wordOf_182 (fun r1 u9 H locs hp9 hw => ?_)
  obtain ⟨rfl, rfl⟩ := hp9
  have hw : Wd G s A [] H _ := hw
  exact x_retlQ hQ B hw ⟨rfl, rfl⟩ (Nat.le_of_ble_eq_true rfl) (Nat.le_of_ble_eq_true rfl) dX11_wordOf_185
set_option maxHeartbeats 4000000 in
set_option maxRecDepth 100000 in
theorem e_spelt_4 {l : Launch} {G : Gc}   : Cl l yX11_spelt cX11_spelt 9 0 0 0 G [.int 108, .int 105, .int 107, .int 101, .int 115, .int 0, .int 0] [] (fun (r9 : Int64) (u9 : va_W) => r9 = 6562612 ∧ u9 = []) := by
  refine Cl.ofQ (by decide) (Nat.le_of_ble_eq_true rfl) ?_
  intro p e s m below meth c ls A args Q hQ B hw hl
  have C : CallFix p m c cX11_spelt 9 s args gw "LanternStateModel" := B.1
  have hl : lv_has ls 9 [(0, .int 108), (1, .int 105), (2, .int 107), (3, .int 101), (4, .int 115), (5, .int 0), (6, .int 0)] := hl
  refine lv_ldc2 (v := 27) C.1 C.2.1 C.2.2.2.1 (C.2.2.2.2 _ kw1353) dX11_spelt_0 ?_
  refine lv_iload_n C.1 C.2.1 dX11_spelt_3 rfl (lv_at hl 0 rfl) ?_
  refine lv_i2l (v := 108) C.1 C.2.1 dX11_spelt_4 (by decide) ?_
  refine lv_ldc2 (v := 96) C.1 C.2.1 C.2.2.2.1 (C.2.2.2.2 _ kw1354) dX11_spelt_5 ?_
  refine lv_lsub C.1 C.2.1 dX11_spelt_8 ?_
  refine x_topl (z := 12) (by decide) ?_
  refine lv_lmul C.1 C.2.1 dX11_spelt_9 ?_
  refine x_topl (z := 324) (by decide) ?_
  refine lv_iload_n C.1 C.2.1 dX11_spelt_10 rfl (lv_at hl 1 rfl) ?_
  refine lv_i2l (v := 105) C.1 C.2.1 dX11_spelt_11 (by decide) ?_
  refine lv_ladd C.1 C.2.1 dX11_spelt_12 ?_
  refine x_topl (z := 429) (by decide) ?_
  refine lv_ldc2 (v := 96) C.1 C.2.1 C.2.2.2.1 (C.2.2.2.2 _ kw1354) dX11_spelt_13 ?_
  refine lv_lsub C.1 C.2.1 dX11_spelt_16 ?_
  refine x_topl (z := 333) (by decide) ?_
  refine lv_lstore (lv' := [(7, .long 333), (0, .int 108), (1, .int 105), (2, .int 107), (3, .int 101), (4, .int 115), (5, .int 0), (6, .int 0)]) C.1 C.2.1 dX11_spelt_17 hl (by decide) rfl (fun ls hl => ?_)
  refine lv_iload_n C.1 C.2.1 dX11_spelt_19 rfl (lv_at hl 3 rfl) ?_
  refine lv_if_le (tgt := 38) C.1 C.2.1 dX11_spelt_20 (by decide) (fun h9 => absurd h9 (by decide)) (fun _ => ?_)
  refine lv_ldc2 (v := 27) C.1 C.2.1 C.2.2.2.1 (C.2.2.2.2 _ kw1353) dX11_spelt_23 ?_
  refine lv_lload C.1 C.2.1 dX11_spelt_26 (lv_at hl 0 rfl) ?_
  refine lv_lmul C.1 C.2.1 dX11_spelt_28 ?_
  refine x_topl (z := 8991) (by decide) ?_
  refine lv_iload_n C.1 C.2.1 dX11_spelt_29 rfl (lv_at hl 3 rfl) ?_
  refine lv_i2l (v := 107) C.1 C.2.1 dX11_spelt_30 (by decide) ?_
  refine lv_ladd C.1 C.2.1 dX11_spelt_31 ?_
  refine x_topl (z := 9098) (by decide) ?_
  refine lv_ldc2 (v := 96) C.1 C.2.1 C.2.2.2.1 (C.2.2.2.2 _ kw1354) dX11_spelt_32 ?_
  refine lv_lsub C.1 C.2.1 dX11_spelt_35 ?_
  refine x_topl (z := 9002) (by decide) ?_
  refine lv_lstore (lv' := [(7, .long 9002), (0, .int 108), (1, .int 105), (2, .int 107), (3, .int 101), (4, .int 115), (5, .int 0), (6, .int 0)]) C.1 C.2.1 dX11_spelt_36 hl (by decide) rfl (fun ls hl => ?_)
  refine lv_iload_n C.1 C.2.1 dX11_spelt_38 rfl (lv_at hl 4 rfl) ?_
  refine lv_if_le (tgt := 57) C.1 C.2.1 dX11_spelt_39 (by decide) (fun h9 => absurd h9 (by decide)) (fun _ => ?_)
  refine lv_ldc2 (v := 27) C.1 C.2.1 C.2.2.2.1 (C.2.2.2.2 _ kw1353) dX11_spelt_42 ?_
  refine lv_lload C.1 C.2.1 dX11_spelt_45 (lv_at hl 0 rfl) ?_
  refine lv_lmul C.1 C.2.1 dX11_spelt_47 ?_
  refine x_topl (z := 243054) (by decide) ?_
  refine lv_iload_n C.1 C.2.1 dX11_spelt_48 rfl (lv_at hl 4 rfl) ?_
  refine lv_i2l (v := 101) C.1 C.2.1 dX11_spelt_49 (by decide) ?_
  refine lv_ladd C.1 C.2.1 dX11_spelt_50 ?_
  refine x_topl (z := 243155) (by decide) ?_
  refine lv_ldc2 (v := 96) C.1 C.2.1 C.2.2.2.1 (C.2.2.2.2 _ kw1354) dX11_spelt_51 ?_
  refine lv_lsub C.1 C.2.1 dX11_spelt_54 ?_
  refine x_topl (z := 243059) (by decide) ?_
  refine lv_lstore (lv' := [(7, .long 243059), (0, .int 108), (1, .int 105), (2, .int 107), (3, .int 101), (4, .int 115), (5, .int 0), (6, .int 0)]) C.1 C.2.1 dX11_spelt_55 hl (by decide) rfl (fun ls hl => ?_)
  refine lv_iload C.1 C.2.1 dX11_spelt_57 (lv_at hl 5 rfl) ?_
  refine lv_if_le (tgt := 78) C.1 C.2.1 dX11_spelt_59 (by decide) (fun h9 => absurd h9 (by decide)) (fun _ => ?_)
  refine lv_ldc2 (v := 27) C.1 C.2.1 C.2.2.2.1 (C.2.2.2.2 _ kw1353) dX11_spelt_62 ?_
  refine lv_lload C.1 C.2.1 dX11_spelt_65 (lv_at hl 0 rfl) ?_
  refine lv_lmul C.1 C.2.1 dX11_spelt_67 ?_
  refine x_topl (z := 6562593) (by decide) ?_
  refine lv_iload C.1 C.2.1 dX11_spelt_68 (lv_at hl 5 rfl) ?_
  refine lv_i2l (v := 115) C.1 C.2.1 dX11_spelt_70 (by decide) ?_
  refine lv_ladd C.1 C.2.1 dX11_spelt_71 ?_
  refine x_topl (z := 6562708) (by decide) ?_
  refine lv_ldc2 (v := 96) C.1 C.2.1 C.2.2.2.1 (C.2.2.2.2 _ kw1354) dX11_spelt_72 ?_
  refine lv_lsub C.1 C.2.1 dX11_spelt_75 ?_
  refine x_topl (z := 6562612) (by decide) ?_
  refine lv_lstore (lv' := [(7, .long 6562612), (0, .int 108), (1, .int 105), (2, .int 107), (3, .int 101), (4, .int 115), (5, .int 0), (6, .int 0)]) C.1 C.2.1 dX11_spelt_76 hl (by decide) rfl (fun ls hl => ?_)
  refine lv_iload C.1 C.2.1 dX11_spelt_78 (lv_at hl 6 rfl) ?_
  refine lv_if_le (tgt := 99) C.1 C.2.1 dX11_spelt_80 (by decide) (fun _ => ?_) (fun h9 => absurd (by decide) h9)
  refine lv_iload C.1 C.2.1 dX11_spelt_99 (lv_at hl 7 rfl) ?_
  refine lv_if_le (tgt := 120) C.1 C.2.1 dX11_spelt_101 (by decide) (fun _ => ?_) (fun h9 => absurd (by decide) h9)
  refine lv_lload C.1 C.2.1 dX11_spelt_120 (lv_at hl 0 rfl) ?_
  exact x_retlQ hQ B hw ⟨rfl, rfl⟩ (Nat.le_of_ble_eq_true rfl) (Nat.le_of_ble_eq_true rfl) dX11_spelt_122
theorem dX11_wordOf_186 : decode cX11_wordOf 186 = .ok (.bipush 108, 2) := by decide +kernel
theorem dX11_wordOf_188 : decode cX11_wordOf 188 = .ok (.bipush 105, 2) := by decide +kernel
theorem dX11_wordOf_190 : decode cX11_wordOf 190 = .ok (.bipush 107, 2) := by decide +kernel
theorem dX11_wordOf_192 : decode cX11_wordOf 192 = .ok (.bipush 101, 2) := by decide +kernel
theorem dX11_wordOf_194 : decode cX11_wordOf 194 = .ok (.bipush 115, 2) := by decide +kernel
theorem dX11_wordOf_196 : decode cX11_wordOf 196 = .ok (.iconst 0, 1) := by decide +kernel
theorem dX11_wordOf_197 : decode cX11_wordOf 197 = .ok (.iconst 0, 1) := by decide +kernel
theorem dX11_wordOf_198 : decode cX11_wordOf 198 = .ok (.invokestatic 58, 3) := by decide +kernel
theorem dX11_wordOf_201 : decode cX11_wordOf 201 = .ok (.lreturn, 1) := by decide +kernel
set_option maxHeartbeats 4000000 in
set_option maxRecDepth 100000 in
theorem e_wordOf_4 {l : Launch} {G : Gc}   : Cl l yX11_wordOf cX11_wordOf 1 1 0 0 G [.int 4] [] (fun (r9 : Int64) (u9 : va_W) => r9 = 6562612 ∧ u9 = []) := by
  refine Cl.ofQ (by decide) (Nat.le_of_ble_eq_true rfl) ?_
  intro p e s m below meth c ls A args Q hQ B hw hl
  have C : CallFix p m c cX11_wordOf 1 s args gw "LanternStateModel" := B.1
  have hl : lv_has ls 1 [(0, .int 4)] := hl
  refine lv_iload_n C.1 C.2.1 dX11_wordOf_0 rfl (lv_at hl 0 rfl) ?_
  refine lv_tableIn (off := 185) (tgt := 186) C.1 C.2.1 dX11_wordOf_1 (by decide) (by decide) rfl (by decide) ?_
  refine lv_bipush (v := 108) C.1 C.2.1 dX11_wordOf_186 (by decide) ?_
  refine lv_bipush (v := 105) C.1 C.2.1 dX11_wordOf_188 (by decide) ?_
  refine lv_bipush (v := 107) C.1 C.2.1 dX11_wordOf_190 (by decide) ?_
  refine lv_bipush (v := 101) C.1 C.2.1 dX11_wordOf_192 (by decide) ?_
  refine lv_bipush (v := 115) C.1 C.2.1 dX11_wordOf_194 (by decide) ?_
  refine lv_iconst (v := 0) C.1 C.2.1 dX11_wordOf_196 (by decide) ?_
  refine lv_iconst (v := 0) C.1 C.2.1 dX11_wordOf_197 (by decide) ?_
  refine x_calllS (As := [.int 108, .int 105, .int 107, .int 101, .int 115, .int 0, .int 0]) (rest := []) (wr := []) C hw e_spelt_4 mwX11_spelt kw1366 [] [] rfl rfl rfl rfl (by decide) rfl hl.1 rfl (Nat.le_of_ble_eq_true rfl) ⟨(Nat.le_of_ble_eq_true rfl), (Nat.le_of_ble_eq_true rfl)⟩ ⟨(Nat.le_of_ble_eq_true rfl), (Nat.le_of_ble_eq_true rfl)⟩ dX11_wordOf_198 (fun r1 u9 H locs hp9 hw => ?_)
  obtain ⟨rfl, rfl⟩ := hp9
  have hw : Wd G s A [] H _ := hw
  exact x_retlQ hQ B hw ⟨rfl, rfl⟩ (Nat.le_of_ble_eq_true rfl) (Nat.le_of_ble_eq_true rfl) dX11_wordOf_201
set_option maxHeartbeats 4000000 in
set_option maxRecDepth 100000 in
theorem e_spelt_5 {l : Launch} {G : Gc}   : Cl l yX11_spelt cX11_spelt 9 0 0 0 G [.int 104, .int 97, .int 116, .int 101, .int 115, .int 0, .int 0] [] (fun (r9 : Int64) (u9 : va_W) => r9 = 4285945 ∧ u9 = []) := by
  refine Cl.ofQ (by decide) (Nat.le_of_ble_eq_true rfl) ?_
  intro p e s m below meth c ls A args Q hQ B hw hl
  have C : CallFix p m c cX11_spelt 9 s args gw "LanternStateModel" := B.1
  have hl : lv_has ls 9 [(0, .int 104), (1, .int 97), (2, .int 116), (3, .int 101), (4, .int 115), (5, .int 0), (6, .int 0)] := hl
  refine lv_ldc2 (v := 27) C.1 C.2.1 C.2.2.2.1 (C.2.2.2.2 _ kw1353) dX11_spelt_0 ?_
  refine lv_iload_n C.1 C.2.1 dX11_spelt_3 rfl (lv_at hl 0 rfl) ?_
  refine lv_i2l (v := 104) C.1 C.2.1 dX11_spelt_4 (by decide) ?_
  refine lv_ldc2 (v := 96) C.1 C.2.1 C.2.2.2.1 (C.2.2.2.2 _ kw1354) dX11_spelt_5 ?_
  refine lv_lsub C.1 C.2.1 dX11_spelt_8 ?_
  refine x_topl (z := 8) (by decide) ?_
  refine lv_lmul C.1 C.2.1 dX11_spelt_9 ?_
  refine x_topl (z := 216) (by decide) ?_
  refine lv_iload_n C.1 C.2.1 dX11_spelt_10 rfl (lv_at hl 1 rfl) ?_
  refine lv_i2l (v := 97) C.1 C.2.1 dX11_spelt_11 (by decide) ?_
  refine lv_ladd C.1 C.2.1 dX11_spelt_12 ?_
  refine x_topl (z := 313) (by decide) ?_
  refine lv_ldc2 (v := 96) C.1 C.2.1 C.2.2.2.1 (C.2.2.2.2 _ kw1354) dX11_spelt_13 ?_
  refine lv_lsub C.1 C.2.1 dX11_spelt_16 ?_
  refine x_topl (z := 217) (by decide) ?_
  refine lv_lstore (lv' := [(7, .long 217), (0, .int 104), (1, .int 97), (2, .int 116), (3, .int 101), (4, .int 115), (5, .int 0), (6, .int 0)]) C.1 C.2.1 dX11_spelt_17 hl (by decide) rfl (fun ls hl => ?_)
  refine lv_iload_n C.1 C.2.1 dX11_spelt_19 rfl (lv_at hl 3 rfl) ?_
  refine lv_if_le (tgt := 38) C.1 C.2.1 dX11_spelt_20 (by decide) (fun h9 => absurd h9 (by decide)) (fun _ => ?_)
  refine lv_ldc2 (v := 27) C.1 C.2.1 C.2.2.2.1 (C.2.2.2.2 _ kw1353) dX11_spelt_23 ?_
  refine lv_lload C.1 C.2.1 dX11_spelt_26 (lv_at hl 0 rfl) ?_
  refine lv_lmul C.1 C.2.1 dX11_spelt_28 ?_
  refine x_topl (z := 5859) (by decide) ?_
  refine lv_iload_n C.1 C.2.1 dX11_spelt_29 rfl (lv_at hl 3 rfl) ?_
  refine lv_i2l (v := 116) C.1 C.2.1 dX11_spelt_30 (by decide) ?_
  refine lv_ladd C.1 C.2.1 dX11_spelt_31 ?_
  refine x_topl (z := 5975) (by decide) ?_
  refine lv_ldc2 (v := 96) C.1 C.2.1 C.2.2.2.1 (C.2.2.2.2 _ kw1354) dX11_spelt_32 ?_
  refine lv_lsub C.1 C.2.1 dX11_spelt_35 ?_
  refine x_topl (z := 5879) (by decide) ?_
  refine lv_lstore (lv' := [(7, .long 5879), (0, .int 104), (1, .int 97), (2, .int 116), (3, .int 101), (4, .int 115), (5, .int 0), (6, .int 0)]) C.1 C.2.1 dX11_spelt_36 hl (by decide) rfl (fun ls hl => ?_)
  refine lv_iload_n C.1 C.2.1 dX11_spelt_38 rfl (lv_at hl 4 rfl) ?_
  refine lv_if_le (tgt := 57) C.1 C.2.1 dX11_spelt_39 (by decide) (fun h9 => absurd h9 (by decide)) (fun _ => ?_)
  refine lv_ldc2 (v := 27) C.1 C.2.1 C.2.2.2.1 (C.2.2.2.2 _ kw1353) dX11_spelt_42 ?_
  refine lv_lload C.1 C.2.1 dX11_spelt_45 (lv_at hl 0 rfl) ?_
  refine lv_lmul C.1 C.2.1 dX11_spelt_47 ?_
  refine x_topl (z := 158733) (by decide) ?_
  refine lv_iload_n C.1 C.2.1 dX11_spelt_48 rfl (lv_at hl 4 rfl) ?_
  refine lv_i2l (v := 101) C.1 C.2.1 dX11_spelt_49 (by decide) ?_
  refine lv_ladd C.1 C.2.1 dX11_spelt_50 ?_
  refine x_topl (z := 158834) (by decide) ?_
  refine lv_ldc2 (v := 96) C.1 C.2.1 C.2.2.2.1 (C.2.2.2.2 _ kw1354) dX11_spelt_51 ?_
  refine lv_lsub C.1 C.2.1 dX11_spelt_54 ?_
  refine x_topl (z := 158738) (by decide) ?_
  refine lv_lstore (lv' := [(7, .long 158738), (0, .int 104), (1, .int 97), (2, .int 116), (3, .int 101), (4, .int 115), (5, .int 0), (6, .int 0)]) C.1 C.2.1 dX11_spelt_55 hl (by decide) rfl (fun ls hl => ?_)
  refine lv_iload C.1 C.2.1 dX11_spelt_57 (lv_at hl 5 rfl) ?_
  refine lv_if_le (tgt := 78) C.1 C.2.1 dX11_spelt_59 (by decide) (fun h9 => absurd h9 (by decide)) (fun _ => ?_)
  refine lv_ldc2 (v := 27) C.1 C.2.1 C.2.2.2.1 (C.2.2.2.2 _ kw1353) dX11_spelt_62 ?_
  refine lv_lload C.1 C.2.1 dX11_spelt_65 (lv_at hl 0 rfl) ?_
  refine lv_lmul C.1 C.2.1 dX11_spelt_67 ?_
  refine x_topl (z := 4285926) (by decide) ?_
  refine lv_iload C.1 C.2.1 dX11_spelt_68 (lv_at hl 5 rfl) ?_
  refine lv_i2l (v := 115) C.1 C.2.1 dX11_spelt_70 (by decide) ?_
  refine lv_ladd C.1 C.2.1 dX11_spelt_71 ?_
  refine x_topl (z := 4286041) (by decide) ?_
  refine lv_ldc2 (v := 96) C.1 C.2.1 C.2.2.2.1 (C.2.2.2.2 _ kw1354) dX11_spelt_72 ?_
  refine lv_lsub C.1 C.2.1 dX11_spelt_75 ?_
  refine x_topl (z := 4285945) (by decide) ?_
  refine lv_lstore (lv' := [(7, .long 4285945), (0, .int 104), (1, .int 97), (2, .int 116), (3, .int 101), (4, .int 115), (5, .int 0), (6, .int 0)]) C.1 C.2.1 dX11_spelt_76 hl (by decide) rfl (fun ls hl => ?_)
  refine lv_iload C.1 C.2.1 dX11_spelt_78 (lv_at hl 6 rfl) ?_
  refine lv_if_le (tgt := 99) C.1 C.2.1 dX11_spelt_80 (by decide) (fun _ => ?_) (fun h9 => absurd (by decide) h9)
  refine lv_iload C.1 C.2.1 dX11_spelt_99 (lv_at hl 7 rfl) ?_
  refine lv_if_le (tgt := 120) C.1 C.2.1 dX11_spelt_101 (by decide) (fun _ => ?_) (fun h9 => absurd (by decide) h9)
  refine lv_lload C.1 C.2.1 dX11_spelt_120 (lv_at hl 0 rfl) ?_
  exact x_retlQ hQ B hw ⟨rfl, rfl⟩ (Nat.le_of_ble_eq_true rfl) (Nat.le_of_ble_eq_true rfl) dX11_spelt_122
theorem dX11_wordOf_202 : decode cX11_wordOf 202 = .ok (.bipush 104, 2) := by decide +kernel
theorem dX11_wordOf_204 : decode cX11_wordOf 204 = .ok (.bipush 97, 2) := by decide +kernel
theorem dX11_wordOf_206 : decode cX11_wordOf 206 = .ok (.bipush 116, 2) := by decide +kernel
theorem dX11_wordOf_208 : decode cX11_wordOf 208 = .ok (.bipush 101, 2) := by decide +kernel
theorem dX11_wordOf_210 : decode cX11_wordOf 210 = .ok (.bipush 115, 2) := by decide +kernel
theorem dX11_wordOf_212 : decode cX11_wordOf 212 = .ok (.iconst 0, 1) := by decide +kernel
theorem dX11_wordOf_213 : decode cX11_wordOf 213 = .ok (.iconst 0, 1) := by decide +kernel
theorem dX11_wordOf_214 : decode cX11_wordOf 214 = .ok (.invokestatic 58, 3) := by decide +kernel
theorem dX11_wordOf_217 : decode cX11_wordOf 217 = .ok (.lreturn, 1) := by decide +kernel
set_option maxHeartbeats 4000000 in
set_option maxRecDepth 100000 in
theorem e_wordOf_5 {l : Launch} {G : Gc}   : Cl l yX11_wordOf cX11_wordOf 1 1 0 0 G [.int 5] [] (fun (r9 : Int64) (u9 : va_W) => r9 = 4285945 ∧ u9 = []) := by
  refine Cl.ofQ (by decide) (Nat.le_of_ble_eq_true rfl) ?_
  intro p e s m below meth c ls A args Q hQ B hw hl
  have C : CallFix p m c cX11_wordOf 1 s args gw "LanternStateModel" := B.1
  have hl : lv_has ls 1 [(0, .int 5)] := hl
  refine lv_iload_n C.1 C.2.1 dX11_wordOf_0 rfl (lv_at hl 0 rfl) ?_
  refine lv_tableIn (off := 201) (tgt := 202) C.1 C.2.1 dX11_wordOf_1 (by decide) (by decide) rfl (by decide) ?_
  refine lv_bipush (v := 104) C.1 C.2.1 dX11_wordOf_202 (by decide) ?_
  refine lv_bipush (v := 97) C.1 C.2.1 dX11_wordOf_204 (by decide) ?_
  refine lv_bipush (v := 116) C.1 C.2.1 dX11_wordOf_206 (by decide) ?_
  refine lv_bipush (v := 101) C.1 C.2.1 dX11_wordOf_208 (by decide) ?_
  refine lv_bipush (v := 115) C.1 C.2.1 dX11_wordOf_210 (by decide) ?_
  refine lv_iconst (v := 0) C.1 C.2.1 dX11_wordOf_212 (by decide) ?_
  refine lv_iconst (v := 0) C.1 C.2.1 dX11_wordOf_213 (by decide) ?_
  refine x_calllS (As := [.int 104, .int 97, .int 116, .int 101, .int 115, .int 0, .int 0]) (rest := []) (wr := []) C hw e_spelt_5 mwX11_spelt kw1366 [] [] rfl rfl rfl rfl (by decide) rfl hl.1 rfl (Nat.le_of_ble_eq_true rfl) ⟨(Nat.le_of_ble_eq_true rfl), (Nat.le_of_ble_eq_true rfl)⟩ ⟨(Nat.le_of_ble_eq_true rfl), (Nat.le_of_ble_eq_true rfl)⟩ dX11_wordOf_214 (fun r1 u9 H locs hp9 hw => ?_)
  obtain ⟨rfl, rfl⟩ := hp9
  have hw : Wd G s A [] H _ := hw
  exact x_retlQ hQ B hw ⟨rfl, rfl⟩ (Nat.le_of_ble_eq_true rfl) (Nat.le_of_ble_eq_true rfl) dX11_wordOf_217
set_option maxHeartbeats 4000000 in
set_option maxRecDepth 100000 in
theorem e_spelt_6 {l : Launch} {G : Gc}   : Cl l yX11_spelt cX11_spelt 9 0 0 0 G [.int 110, .int 101, .int 97, .int 114, .int 0, .int 0, .int 0] [] (fun (r9 : Int64) (u9 : va_W) => r9 = 279252 ∧ u9 = []) := by
  refine Cl.ofQ (by decide) (Nat.le_of_ble_eq_true rfl) ?_
  intro p e s m below meth c ls A args Q hQ B hw hl
  have C : CallFix p m c cX11_spelt 9 s args gw "LanternStateModel" := B.1
  have hl : lv_has ls 9 [(0, .int 110), (1, .int 101), (2, .int 97), (3, .int 114), (4, .int 0), (5, .int 0), (6, .int 0)] := hl
  refine lv_ldc2 (v := 27) C.1 C.2.1 C.2.2.2.1 (C.2.2.2.2 _ kw1353) dX11_spelt_0 ?_
  refine lv_iload_n C.1 C.2.1 dX11_spelt_3 rfl (lv_at hl 0 rfl) ?_
  refine lv_i2l (v := 110) C.1 C.2.1 dX11_spelt_4 (by decide) ?_
  refine lv_ldc2 (v := 96) C.1 C.2.1 C.2.2.2.1 (C.2.2.2.2 _ kw1354) dX11_spelt_5 ?_
  refine lv_lsub C.1 C.2.1 dX11_spelt_8 ?_
  refine x_topl (z := 14) (by decide) ?_
  refine lv_lmul C.1 C.2.1 dX11_spelt_9 ?_
  refine x_topl (z := 378) (by decide) ?_
  refine lv_iload_n C.1 C.2.1 dX11_spelt_10 rfl (lv_at hl 1 rfl) ?_
  refine lv_i2l (v := 101) C.1 C.2.1 dX11_spelt_11 (by decide) ?_
  refine lv_ladd C.1 C.2.1 dX11_spelt_12 ?_
  refine x_topl (z := 479) (by decide) ?_
  refine lv_ldc2 (v := 96) C.1 C.2.1 C.2.2.2.1 (C.2.2.2.2 _ kw1354) dX11_spelt_13 ?_
  refine lv_lsub C.1 C.2.1 dX11_spelt_16 ?_
  refine x_topl (z := 383) (by decide) ?_
  refine lv_lstore (lv' := [(7, .long 383), (0, .int 110), (1, .int 101), (2, .int 97), (3, .int 114), (4, .int 0), (5, .int 0), (6, .int 0)]) C.1 C.2.1 dX11_spelt_17 hl (by decide) rfl (fun ls hl => ?_)
  refine lv_iload_n C.1 C.2.1 dX11_spelt_19 rfl (lv_at hl 3 rfl) ?_
  refine lv_if_le (tgt := 38) C.1 C.2.1 dX11_spelt_20 (by decide) (fun h9 => absurd h9 (by decide)) (fun _ => ?_)
  refine lv_ldc2 (v := 27) C.1 C.2.1 C.2.2.2.1 (C.2.2.2.2 _ kw1353) dX11_spelt_23 ?_
  refine lv_lload C.1 C.2.1 dX11_spelt_26 (lv_at hl 0 rfl) ?_
  refine lv_lmul C.1 C.2.1 dX11_spelt_28 ?_
  refine x_topl (z := 10341) (by decide) ?_
  refine lv_iload_n C.1 C.2.1 dX11_spelt_29 rfl (lv_at hl 3 rfl) ?_
  refine lv_i2l (v := 97) C.1 C.2.1 dX11_spelt_30 (by decide) ?_
  refine lv_ladd C.1 C.2.1 dX11_spelt_31 ?_
  refine x_topl (z := 10438) (by decide) ?_
  refine lv_ldc2 (v := 96) C.1 C.2.1 C.2.2.2.1 (C.2.2.2.2 _ kw1354) dX11_spelt_32 ?_
  refine lv_lsub C.1 C.2.1 dX11_spelt_35 ?_
  refine x_topl (z := 10342) (by decide) ?_
  refine lv_lstore (lv' := [(7, .long 10342), (0, .int 110), (1, .int 101), (2, .int 97), (3, .int 114), (4, .int 0), (5, .int 0), (6, .int 0)]) C.1 C.2.1 dX11_spelt_36 hl (by decide) rfl (fun ls hl => ?_)
  refine lv_iload_n C.1 C.2.1 dX11_spelt_38 rfl (lv_at hl 4 rfl) ?_
  refine lv_if_le (tgt := 57) C.1 C.2.1 dX11_spelt_39 (by decide) (fun h9 => absurd h9 (by decide)) (fun _ => ?_)
  refine lv_ldc2 (v := 27) C.1 C.2.1 C.2.2.2.1 (C.2.2.2.2 _ kw1353) dX11_spelt_42 ?_
  refine lv_lload C.1 C.2.1 dX11_spelt_45 (lv_at hl 0 rfl) ?_
  refine lv_lmul C.1 C.2.1 dX11_spelt_47 ?_
  refine x_topl (z := 279234) (by decide) ?_
  refine lv_iload_n C.1 C.2.1 dX11_spelt_48 rfl (lv_at hl 4 rfl) ?_
  refine lv_i2l (v := 114) C.1 C.2.1 dX11_spelt_49 (by decide) ?_
  refine lv_ladd C.1 C.2.1 dX11_spelt_50 ?_
  refine x_topl (z := 279348) (by decide) ?_
  refine lv_ldc2 (v := 96) C.1 C.2.1 C.2.2.2.1 (C.2.2.2.2 _ kw1354) dX11_spelt_51 ?_
  refine lv_lsub C.1 C.2.1 dX11_spelt_54 ?_
  refine x_topl (z := 279252) (by decide) ?_
  refine lv_lstore (lv' := [(7, .long 279252), (0, .int 110), (1, .int 101), (2, .int 97), (3, .int 114), (4, .int 0), (5, .int 0), (6, .int 0)]) C.1 C.2.1 dX11_spelt_55 hl (by decide) rfl (fun ls hl => ?_)
  refine lv_iload C.1 C.2.1 dX11_spelt_57 (lv_at hl 5 rfl) ?_
  refine lv_if_le (tgt := 78) C.1 C.2.1 dX11_spelt_59 (by decide) (fun _ => ?_) (fun h9 => absurd (by decide) h9)
  refine lv_iload C.1 C.2.1 dX11_spelt_78 (lv_at hl 6 rfl) ?_
  refine lv_if_le (tgt := 99) C.1 C.2.1 dX11_spelt_80 (by decide) (fun _ => ?_) (fun h9 => absurd (by decide) h9)
  refine lv_iload C.1 C.2.1 dX11_spelt_99 (lv_at hl 7 rfl) ?_
  refine lv_if_le (tgt := 120) C.1 C.2.1 dX11_spelt_101 (by decide) (fun _ => ?_) (fun h9 => absurd (by decide) h9)
  refine lv_lload C.1 C.2.1 dX11_spelt_120 (lv_at hl 0 rfl) ?_
  exact x_retlQ hQ B hw ⟨rfl, rfl⟩ (Nat.le_of_ble_eq_true rfl) (Nat.le_of_ble_eq_true rfl) dX11_spelt_122
theorem dX11_wordOf_218 : decode cX11_wordOf 218 = .ok (.bipush 110, 2) := by decide +kernel
theorem dX11_wordOf_220 : decode cX11_wordOf 220 = .ok (.bipush 101, 2) := by decide +kernel
theorem dX11_wordOf_222 : decode cX11_wordOf 222 = .ok (.bipush 97, 2) := by decide +kernel
theorem dX11_wordOf_224 : decode cX11_wordOf 224 = .ok (.bipush 114, 2) := by decide +kernel
theorem dX11_wordOf_226 : decode cX11_wordOf 226 = .ok (.iconst 0, 1) := by decide +kernel
theorem dX11_wordOf_227 : decode cX11_wordOf 227 = .ok (.iconst 0, 1) := by decide +kernel
theorem dX11_wordOf_228 : decode cX11_wordOf 228 = .ok (.iconst 0, 1) := by decide +kernel
theorem dX11_wordOf_229 : decode cX11_wordOf 229 = .ok (.invokestatic 58, 3) := by decide +kernel
theorem dX11_wordOf_232 : decode cX11_wordOf 232 = .ok (.lreturn, 1) := by decide +kernel
set_option maxHeartbeats 4000000 in
set_option maxRecDepth 100000 in
theorem e_wordOf_6 {l : Launch} {G : Gc}   : Cl l yX11_wordOf cX11_wordOf 1 1 0 0 G [.int 6] [] (fun (r9 : Int64) (u9 : va_W) => r9 = 279252 ∧ u9 = []) := by
  refine Cl.ofQ (by decide) (Nat.le_of_ble_eq_true rfl) ?_
  intro p e s m below meth c ls A args Q hQ B hw hl
  have C : CallFix p m c cX11_wordOf 1 s args gw "LanternStateModel" := B.1
  have hl : lv_has ls 1 [(0, .int 6)] := hl
  refine lv_iload_n C.1 C.2.1 dX11_wordOf_0 rfl (lv_at hl 0 rfl) ?_
  refine lv_tableIn (off := 217) (tgt := 218) C.1 C.2.1 dX11_wordOf_1 (by decide) (by decide) rfl (by decide) ?_
  refine lv_bipush (v := 110) C.1 C.2.1 dX11_wordOf_218 (by decide) ?_
  refine lv_bipush (v := 101) C.1 C.2.1 dX11_wordOf_220 (by decide) ?_
  refine lv_bipush (v := 97) C.1 C.2.1 dX11_wordOf_222 (by decide) ?_
  refine lv_bipush (v := 114) C.1 C.2.1 dX11_wordOf_224 (by decide) ?_
  refine lv_iconst (v := 0) C.1 C.2.1 dX11_wordOf_226 (by decide) ?_
  refine lv_iconst (v := 0) C.1 C.2.1 dX11_wordOf_227 (by decide) ?_
  refine lv_iconst (v := 0) C.1 C.2.1 dX11_wordOf_228 (by decide) ?_
  refine x_calllS (As := [.int 110, .int 101, .int 97, .int 114, .int 0, .int 0, .int 0]) (rest := []) (wr := []) C hw e_spelt_6 mwX11_spelt kw1366 [] [] rfl rfl rfl rfl (by decide) rfl hl.1 rfl (Nat.le_of_ble_eq_true rfl) ⟨(Nat.le_of_ble_eq_true rfl), (Nat.le_of_ble_eq_true rfl)⟩ ⟨(Nat.le_of_ble_eq_true rfl), (Nat.le_of_ble_eq_true rfl)⟩ dX11_wordOf_229 (fun r1 u9 H locs hp9 hw => ?_)
  obtain ⟨rfl, rfl⟩ := hp9
  have hw : Wd G s A [] H _ := hw
  exact x_retlQ hQ B hw ⟨rfl, rfl⟩ (Nat.le_of_ble_eq_true rfl) (Nat.le_of_ble_eq_true rfl) dX11_wordOf_232
set_option maxHeartbeats 4000000 in
set_option maxRecDepth 100000 in
theorem e_spelt_7 {l : Launch} {G : Gc}   : Cl l yX11_spelt cX11_spelt 9 0 0 0 G [.int 97, .int 102, .int 116, .int 101, .int 114, .int 0, .int 0] [] (fun (r9 : Int64) (u9 : va_W) => r9 = 664272 ∧ u9 = []) := by
  refine Cl.ofQ (by decide) (Nat.le_of_ble_eq_true rfl) ?_
  intro p e s m below meth c ls A args Q hQ B hw hl
  have C : CallFix p m c cX11_spelt 9 s args gw "LanternStateModel" := B.1
  have hl : lv_has ls 9 [(0, .int 97), (1, .int 102), (2, .int 116), (3, .int 101), (4, .int 114), (5, .int 0), (6, .int 0)] := hl
  refine lv_ldc2 (v := 27) C.1 C.2.1 C.2.2.2.1 (C.2.2.2.2 _ kw1353) dX11_spelt_0 ?_
  refine lv_iload_n C.1 C.2.1 dX11_spelt_3 rfl (lv_at hl 0 rfl) ?_
  refine lv_i2l (v := 97) C.1 C.2.1 dX11_spelt_4 (by decide) ?_
  refine lv_ldc2 (v := 96) C.1 C.2.1 C.2.2.2.1 (C.2.2.2.2 _ kw1354) dX11_spelt_5 ?_
  refine lv_lsub C.1 C.2.1 dX11_spelt_8 ?_
  refine x_topl (z := 1) (by decide) ?_
  refine lv_lmul C.1 C.2.1 dX11_spelt_9 ?_
  refine x_topl (z := 27) (by decide) ?_
  refine lv_iload_n C.1 C.2.1 dX11_spelt_10 rfl (lv_at hl 1 rfl) ?_
  refine lv_i2l (v := 102) C.1 C.2.1 dX11_spelt_11 (by decide) ?_
  refine lv_ladd C.1 C.2.1 dX11_spelt_12 ?_
  refine x_topl (z := 129) (by decide) ?_
  refine lv_ldc2 (v := 96) C.1 C.2.1 C.2.2.2.1 (C.2.2.2.2 _ kw1354) dX11_spelt_13 ?_
  refine lv_lsub C.1 C.2.1 dX11_spelt_16 ?_
  refine x_topl (z := 33) (by decide) ?_
  refine lv_lstore (lv' := [(7, .long 33), (0, .int 97), (1, .int 102), (2, .int 116), (3, .int 101), (4, .int 114), (5, .int 0), (6, .int 0)]) C.1 C.2.1 dX11_spelt_17 hl (by decide) rfl (fun ls hl => ?_)
  refine lv_iload_n C.1 C.2.1 dX11_spelt_19 rfl (lv_at hl 3 rfl) ?_
  refine lv_if_le (tgt := 38) C.1 C.2.1 dX11_spelt_20 (by decide) (fun h9 => absurd h9 (by decide)) (fun _ => ?_)
  refine lv_ldc2 (v := 27) C.1 C.2.1 C.2.2.2.1 (C.2.2.2.2 _ kw1353) dX11_spelt_23 ?_
  refine lv_lload C.1 C.2.1 dX11_spelt_26 (lv_at hl 0 rfl) ?_
  refine lv_lmul C.1 C.2.1 dX11_spelt_28 ?_
  refine x_topl (z := 891) (by decide) ?_
  refine lv_iload_n C.1 C.2.1 dX11_spelt_29 rfl (lv_at hl 3 rfl) ?_
  refine lv_i2l (v := 116) C.1 C.2.1 dX11_spelt_30 (by decide) ?_
  refine lv_ladd C.1 C.2.1 dX11_spelt_31 ?_
  refine x_topl (z := 1007) (by decide) ?_
  refine lv_ldc2 (v := 96) C.1 C.2.1 C.2.2.2.1 (C.2.2.2.2 _ kw1354) dX11_spelt_32 ?_
  refine lv_lsub C.1 C.2.1 dX11_spelt_35 ?_
  refine x_topl (z := 911) (by decide) ?_
  refine lv_lstore (lv' := [(7, .long 911), (0, .int 97), (1, .int 102), (2, .int 116), (3, .int 101), (4, .int 114), (5, .int 0), (6, .int 0)]) C.1 C.2.1 dX11_spelt_36 hl (by decide) rfl (fun ls hl => ?_)
  refine lv_iload_n C.1 C.2.1 dX11_spelt_38 rfl (lv_at hl 4 rfl) ?_
  refine lv_if_le (tgt := 57) C.1 C.2.1 dX11_spelt_39 (by decide) (fun h9 => absurd h9 (by decide)) (fun _ => ?_)
  refine lv_ldc2 (v := 27) C.1 C.2.1 C.2.2.2.1 (C.2.2.2.2 _ kw1353) dX11_spelt_42 ?_
  refine lv_lload C.1 C.2.1 dX11_spelt_45 (lv_at hl 0 rfl) ?_
  refine lv_lmul C.1 C.2.1 dX11_spelt_47 ?_
  refine x_topl (z := 24597) (by decide) ?_
  refine lv_iload_n C.1 C.2.1 dX11_spelt_48 rfl (lv_at hl 4 rfl) ?_
  refine lv_i2l (v := 101) C.1 C.2.1 dX11_spelt_49 (by decide) ?_
  refine lv_ladd C.1 C.2.1 dX11_spelt_50 ?_
  refine x_topl (z := 24698) (by decide) ?_
  refine lv_ldc2 (v := 96) C.1 C.2.1 C.2.2.2.1 (C.2.2.2.2 _ kw1354) dX11_spelt_51 ?_
  refine lv_lsub C.1 C.2.1 dX11_spelt_54 ?_
  refine x_topl (z := 24602) (by decide) ?_
  refine lv_lstore (lv' := [(7, .long 24602), (0, .int 97), (1, .int 102), (2, .int 116), (3, .int 101), (4, .int 114), (5, .int 0), (6, .int 0)]) C.1 C.2.1 dX11_spelt_55 hl (by decide) rfl (fun ls hl => ?_)
  refine lv_iload C.1 C.2.1 dX11_spelt_57 (lv_at hl 5 rfl) ?_
  refine lv_if_le (tgt := 78) C.1 C.2.1 dX11_spelt_59 (by decide) (fun h9 => absurd h9 (by decide)) (fun _ => ?_)
  refine lv_ldc2 (v := 27) C.1 C.2.1 C.2.2.2.1 (C.2.2.2.2 _ kw1353) dX11_spelt_62 ?_
  refine lv_lload C.1 C.2.1 dX11_spelt_65 (lv_at hl 0 rfl) ?_
  refine lv_lmul C.1 C.2.1 dX11_spelt_67 ?_
  refine x_topl (z := 664254) (by decide) ?_
  refine lv_iload C.1 C.2.1 dX11_spelt_68 (lv_at hl 5 rfl) ?_
  refine lv_i2l (v := 114) C.1 C.2.1 dX11_spelt_70 (by decide) ?_
  refine lv_ladd C.1 C.2.1 dX11_spelt_71 ?_
  refine x_topl (z := 664368) (by decide) ?_
  refine lv_ldc2 (v := 96) C.1 C.2.1 C.2.2.2.1 (C.2.2.2.2 _ kw1354) dX11_spelt_72 ?_
  refine lv_lsub C.1 C.2.1 dX11_spelt_75 ?_
  refine x_topl (z := 664272) (by decide) ?_
  refine lv_lstore (lv' := [(7, .long 664272), (0, .int 97), (1, .int 102), (2, .int 116), (3, .int 101), (4, .int 114), (5, .int 0), (6, .int 0)]) C.1 C.2.1 dX11_spelt_76 hl (by decide) rfl (fun ls hl => ?_)
  refine lv_iload C.1 C.2.1 dX11_spelt_78 (lv_at hl 6 rfl) ?_
  refine lv_if_le (tgt := 99) C.1 C.2.1 dX11_spelt_80 (by decide) (fun _ => ?_) (fun h9 => absurd (by decide) h9)
  refine lv_iload C.1 C.2.1 dX11_spelt_99 (lv_at hl 7 rfl) ?_
  refine lv_if_le (tgt := 120) C.1 C.2.1 dX11_spelt_101 (by decide) (fun _ => ?_) (fun h9 => absurd (by decide) h9)
  refine lv_lload C.1 C.2.1 dX11_spelt_120 (lv_at hl 0 rfl) ?_
  exact x_retlQ hQ B hw ⟨rfl, rfl⟩ (Nat.le_of_ble_eq_true rfl) (Nat.le_of_ble_eq_true rfl) dX11_spelt_122
theorem dX11_wordOf_233 : decode cX11_wordOf 233 = .ok (.bipush 97, 2) := by decide +kernel
theorem dX11_wordOf_235 : decode cX11_wordOf 235 = .ok (.bipush 102, 2) := by decide +kernel
theorem dX11_wordOf_237 : decode cX11_wordOf 237 = .ok (.bipush 116, 2) := by decide +kernel
theorem dX11_wordOf_239 : decode cX11_wordOf 239 = .ok (.bipush 101, 2) := by decide +kernel
theorem dX11_wordOf_241 : decode cX11_wordOf 241 = .ok (.bipush 114, 2) := by decide +kernel
theorem dX11_wordOf_243 : decode cX11_wordOf 243 = .ok (.iconst 0, 1) := by decide +kernel
theorem dX11_wordOf_244 : decode cX11_wordOf 244 = .ok (.iconst 0, 1) := by decide +kernel
theorem dX11_wordOf_245 : decode cX11_wordOf 245 = .ok (.invokestatic 58, 3) := by decide +kernel
theorem dX11_wordOf_248 : decode cX11_wordOf 248 = .ok (.lreturn, 1) := by decide +kernel
set_option maxHeartbeats 4000000 in
set_option maxRecDepth 100000 in
theorem e_wordOf_7 {l : Launch} {G : Gc}   : Cl l yX11_wordOf cX11_wordOf 1 1 0 0 G [.int 7] [] (fun (r9 : Int64) (u9 : va_W) => r9 = 664272 ∧ u9 = []) := by
  refine Cl.ofQ (by decide) (Nat.le_of_ble_eq_true rfl) ?_
  intro p e s m below meth c ls A args Q hQ B hw hl
  have C : CallFix p m c cX11_wordOf 1 s args gw "LanternStateModel" := B.1
  have hl : lv_has ls 1 [(0, .int 7)] := hl
  refine lv_iload_n C.1 C.2.1 dX11_wordOf_0 rfl (lv_at hl 0 rfl) ?_
  refine lv_tableIn (off := 232) (tgt := 233) C.1 C.2.1 dX11_wordOf_1 (by decide) (by decide) rfl (by decide) ?_
  refine lv_bipush (v := 97) C.1 C.2.1 dX11_wordOf_233 (by decide) ?_
  refine lv_bipush (v := 102) C.1 C.2.1 dX11_wordOf_235 (by decide) ?_
  refine lv_bipush (v := 116) C.1 C.2.1 dX11_wordOf_237 (by decide) ?_
  refine lv_bipush (v := 101) C.1 C.2.1 dX11_wordOf_239 (by decide) ?_
  refine lv_bipush (v := 114) C.1 C.2.1 dX11_wordOf_241 (by decide) ?_
  refine lv_iconst (v := 0) C.1 C.2.1 dX11_wordOf_243 (by decide) ?_
  refine lv_iconst (v := 0) C.1 C.2.1 dX11_wordOf_244 (by decide) ?_
  refine x_calllS (As := [.int 97, .int 102, .int 116, .int 101, .int 114, .int 0, .int 0]) (rest := []) (wr := []) C hw e_spelt_7 mwX11_spelt kw1366 [] [] rfl rfl rfl rfl (by decide) rfl hl.1 rfl (Nat.le_of_ble_eq_true rfl) ⟨(Nat.le_of_ble_eq_true rfl), (Nat.le_of_ble_eq_true rfl)⟩ ⟨(Nat.le_of_ble_eq_true rfl), (Nat.le_of_ble_eq_true rfl)⟩ dX11_wordOf_245 (fun r1 u9 H locs hp9 hw => ?_)
  obtain ⟨rfl, rfl⟩ := hp9
  have hw : Wd G s A [] H _ := hw
  exact x_retlQ hQ B hw ⟨rfl, rfl⟩ (Nat.le_of_ble_eq_true rfl) (Nat.le_of_ble_eq_true rfl) dX11_wordOf_248
set_option maxHeartbeats 4000000 in
set_option maxRecDepth 100000 in
theorem e_spelt_8 {l : Launch} {G : Gc}   : Cl l yX11_spelt cX11_spelt 9 0 0 0 G [.int 112, .int 97, .int 115, .int 115, .int 0, .int 0, .int 0] [] (fun (r9 : Int64) (u9 : va_W) => r9 = 316189 ∧ u9 = []) := by
  refine Cl.ofQ (by decide) (Nat.le_of_ble_eq_true rfl) ?_
  intro p e s m below meth c ls A args Q hQ B hw hl
  have C : CallFix p m c cX11_spelt 9 s args gw "LanternStateModel" := B.1
  have hl : lv_has ls 9 [(0, .int 112), (1, .int 97), (2, .int 115), (3, .int 115), (4, .int 0), (5, .int 0), (6, .int 0)] := hl
  refine lv_ldc2 (v := 27) C.1 C.2.1 C.2.2.2.1 (C.2.2.2.2 _ kw1353) dX11_spelt_0 ?_
  refine lv_iload_n C.1 C.2.1 dX11_spelt_3 rfl (lv_at hl 0 rfl) ?_
  refine lv_i2l (v := 112) C.1 C.2.1 dX11_spelt_4 (by decide) ?_
  refine lv_ldc2 (v := 96) C.1 C.2.1 C.2.2.2.1 (C.2.2.2.2 _ kw1354) dX11_spelt_5 ?_
  refine lv_lsub C.1 C.2.1 dX11_spelt_8 ?_
  refine x_topl (z := 16) (by decide) ?_
  refine lv_lmul C.1 C.2.1 dX11_spelt_9 ?_
  refine x_topl (z := 432) (by decide) ?_
  refine lv_iload_n C.1 C.2.1 dX11_spelt_10 rfl (lv_at hl 1 rfl) ?_
  refine lv_i2l (v := 97) C.1 C.2.1 dX11_spelt_11 (by decide) ?_
  refine lv_ladd C.1 C.2.1 dX11_spelt_12 ?_
  refine x_topl (z := 529) (by decide) ?_
  refine lv_ldc2 (v := 96) C.1 C.2.1 C.2.2.2.1 (C.2.2.2.2 _ kw1354) dX11_spelt_13 ?_
  refine lv_lsub C.1 C.2.1 dX11_spelt_16 ?_
  refine x_topl (z := 433) (by decide) ?_
  refine lv_lstore (lv' := [(7, .long 433), (0, .int 112), (1, .int 97), (2, .int 115), (3, .int 115), (4, .int 0), (5, .int 0), (6, .int 0)]) C.1 C.2.1 dX11_spelt_17 hl (by decide) rfl (fun ls hl => ?_)
  refine lv_iload_n C.1 C.2.1 dX11_spelt_19 rfl (lv_at hl 3 rfl) ?_
  refine lv_if_le (tgt := 38) C.1 C.2.1 dX11_spelt_20 (by decide) (fun h9 => absurd h9 (by decide)) (fun _ => ?_)
  refine lv_ldc2 (v := 27) C.1 C.2.1 C.2.2.2.1 (C.2.2.2.2 _ kw1353) dX11_spelt_23 ?_
  refine lv_lload C.1 C.2.1 dX11_spelt_26 (lv_at hl 0 rfl) ?_
  refine lv_lmul C.1 C.2.1 dX11_spelt_28 ?_
  refine x_topl (z := 11691) (by decide) ?_
  refine lv_iload_n C.1 C.2.1 dX11_spelt_29 rfl (lv_at hl 3 rfl) ?_
  refine lv_i2l (v := 115) C.1 C.2.1 dX11_spelt_30 (by decide) ?_
  refine lv_ladd C.1 C.2.1 dX11_spelt_31 ?_
  refine x_topl (z := 11806) (by decide) ?_
  refine lv_ldc2 (v := 96) C.1 C.2.1 C.2.2.2.1 (C.2.2.2.2 _ kw1354) dX11_spelt_32 ?_
  refine lv_lsub C.1 C.2.1 dX11_spelt_35 ?_
  refine x_topl (z := 11710) (by decide) ?_
  refine lv_lstore (lv' := [(7, .long 11710), (0, .int 112), (1, .int 97), (2, .int 115), (3, .int 115), (4, .int 0), (5, .int 0), (6, .int 0)]) C.1 C.2.1 dX11_spelt_36 hl (by decide) rfl (fun ls hl => ?_)
  refine lv_iload_n C.1 C.2.1 dX11_spelt_38 rfl (lv_at hl 4 rfl) ?_
  refine lv_if_le (tgt := 57) C.1 C.2.1 dX11_spelt_39 (by decide) (fun h9 => absurd h9 (by decide)) (fun _ => ?_)
  refine lv_ldc2 (v := 27) C.1 C.2.1 C.2.2.2.1 (C.2.2.2.2 _ kw1353) dX11_spelt_42 ?_
  refine lv_lload C.1 C.2.1 dX11_spelt_45 (lv_at hl 0 rfl) ?_
  refine lv_lmul C.1 C.2.1 dX11_spelt_47 ?_
  refine x_topl (z := 316170) (by decide) ?_
  refine lv_iload_n C.1 C.2.1 dX11_spelt_48 rfl (lv_at hl 4 rfl) ?_
  refine lv_i2l (v := 115) C.1 C.2.1 dX11_spelt_49 (by decide) ?_
  refine lv_ladd C.1 C.2.1 dX11_spelt_50 ?_
  refine x_topl (z := 316285) (by decide) ?_
  refine lv_ldc2 (v := 96) C.1 C.2.1 C.2.2.2.1 (C.2.2.2.2 _ kw1354) dX11_spelt_51 ?_
  refine lv_lsub C.1 C.2.1 dX11_spelt_54 ?_
  refine x_topl (z := 316189) (by decide) ?_
  refine lv_lstore (lv' := [(7, .long 316189), (0, .int 112), (1, .int 97), (2, .int 115), (3, .int 115), (4, .int 0), (5, .int 0), (6, .int 0)]) C.1 C.2.1 dX11_spelt_55 hl (by decide) rfl (fun ls hl => ?_)
  refine lv_iload C.1 C.2.1 dX11_spelt_57 (lv_at hl 5 rfl) ?_
  refine lv_if_le (tgt := 78) C.1 C.2.1 dX11_spelt_59 (by decide) (fun _ => ?_) (fun h9 => absurd (by decide) h9)
  refine lv_iload C.1 C.2.1 dX11_spelt_78 (lv_at hl 6 rfl) ?_
  refine lv_if_le (tgt := 99) C.1 C.2.1 dX11_spelt_80 (by decide) (fun _ => ?_) (fun h9 => absurd (by decide) h9)
  refine lv_iload C.1 C.2.1 dX11_spelt_99 (lv_at hl 7 rfl) ?_
  refine lv_if_le (tgt := 120) C.1 C.2.1 dX11_spelt_101 (by decide) (fun _ => ?_) (fun h9 => absurd (by decide) h9)
  refine lv_lload C.1 C.2.1 dX11_spelt_120 (lv_at hl 0 rfl) ?_
  exact x_retlQ hQ B hw ⟨rfl, rfl⟩ (Nat.le_of_ble_eq_true rfl) (Nat.le_of_ble_eq_true rfl) dX11_spelt_122
theorem dX11_wordOf_249 : decode cX11_wordOf 249 = .ok (.bipush 112, 2) := by decide +kernel
theorem dX11_wordOf_251 : decode cX11_wordOf 251 = .ok (.bipush 97, 2) := by decide +kernel
theorem dX11_wordOf_253 : decode cX11_wordOf 253 = .ok (.bipush 115, 2) := by decide +kernel
theorem dX11_wordOf_255 : decode cX11_wordOf 255 = .ok (.bipush 115, 2) := by decide +kernel
theorem dX11_wordOf_257 : decode cX11_wordOf 257 = .ok (.iconst 0, 1) := by decide +kernel
theorem dX11_wordOf_258 : decode cX11_wordOf 258 = .ok (.iconst 0, 1) := by decide +kernel
theorem dX11_wordOf_259 : decode cX11_wordOf 259 = .ok (.iconst 0, 1) := by decide +kernel
theorem dX11_wordOf_260 : decode cX11_wordOf 260 = .ok (.invokestatic 58, 3) := by decide +kernel
theorem dX11_wordOf_263 : decode cX11_wordOf 263 = .ok (.lreturn, 1) := by decide +kernel
set_option maxHeartbeats 4000000 in
set_option maxRecDepth 100000 in
theorem e_wordOf_8 {l : Launch} {G : Gc}   : Cl l yX11_wordOf cX11_wordOf 1 1 0 0 G [.int 8] [] (fun (r9 : Int64) (u9 : va_W) => r9 = 316189 ∧ u9 = []) := by
  refine Cl.ofQ (by decide) (Nat.le_of_ble_eq_true rfl) ?_
  intro p e s m below meth c ls A args Q hQ B hw hl
  have C : CallFix p m c cX11_wordOf 1 s args gw "LanternStateModel" := B.1
  have hl : lv_has ls 1 [(0, .int 8)] := hl
  refine lv_iload_n C.1 C.2.1 dX11_wordOf_0 rfl (lv_at hl 0 rfl) ?_
  refine lv_tableIn (off := 248) (tgt := 249) C.1 C.2.1 dX11_wordOf_1 (by decide) (by decide) rfl (by decide) ?_
  refine lv_bipush (v := 112) C.1 C.2.1 dX11_wordOf_249 (by decide) ?_
  refine lv_bipush (v := 97) C.1 C.2.1 dX11_wordOf_251 (by decide) ?_
  refine lv_bipush (v := 115) C.1 C.2.1 dX11_wordOf_253 (by decide) ?_
  refine lv_bipush (v := 115) C.1 C.2.1 dX11_wordOf_255 (by decide) ?_
  refine lv_iconst (v := 0) C.1 C.2.1 dX11_wordOf_257 (by decide) ?_
  refine lv_iconst (v := 0) C.1 C.2.1 dX11_wordOf_258 (by decide) ?_
  refine lv_iconst (v := 0) C.1 C.2.1 dX11_wordOf_259 (by decide) ?_
  refine x_calllS (As := [.int 112, .int 97, .int 115, .int 115, .int 0, .int 0, .int 0]) (rest := []) (wr := []) C hw e_spelt_8 mwX11_spelt kw1366 [] [] rfl rfl rfl rfl (by decide) rfl hl.1 rfl (Nat.le_of_ble_eq_true rfl) ⟨(Nat.le_of_ble_eq_true rfl), (Nat.le_of_ble_eq_true rfl)⟩ ⟨(Nat.le_of_ble_eq_true rfl), (Nat.le_of_ble_eq_true rfl)⟩ dX11_wordOf_260 (fun r1 u9 H locs hp9 hw => ?_)
  obtain ⟨rfl, rfl⟩ := hp9
  have hw : Wd G s A [] H _ := hw
  exact x_retlQ hQ B hw ⟨rfl, rfl⟩ (Nat.le_of_ble_eq_true rfl) (Nat.le_of_ble_eq_true rfl) dX11_wordOf_263
set_option maxHeartbeats 4000000 in
set_option maxRecDepth 100000 in
theorem e_spelt_9 {l : Launch} {G : Gc}   : Cl l yX11_spelt cX11_spelt 9 0 0 0 G [.int 115, .int 112, .int 114, .int 101, .int 97, .int 100, .int 0] [] (fun (r9 : Int64) (u9 : va_W) => r9 = 281490259 ∧ u9 = []) := by
  refine Cl.ofQ (by decide) (Nat.le_of_ble_eq_true rfl) ?_
  intro p e s m below meth c ls A args Q hQ B hw hl
  have C : CallFix p m c cX11_spelt 9 s args gw "LanternStateModel" := B.1
  have hl : lv_has ls 9 [(0, .int 115), (1, .int 112), (2, .int 114), (3, .int 101), (4, .int 97), (5, .int 100), (6, .int 0)] := hl
  refine lv_ldc2 (v := 27) C.1 C.2.1 C.2.2.2.1 (C.2.2.2.2 _ kw1353) dX11_spelt_0 ?_
  refine lv_iload_n C.1 C.2.1 dX11_spelt_3 rfl (lv_at hl 0 rfl) ?_
  refine lv_i2l (v := 115) C.1 C.2.1 dX11_spelt_4 (by decide) ?_
  refine lv_ldc2 (v := 96) C.1 C.2.1 C.2.2.2.1 (C.2.2.2.2 _ kw1354) dX11_spelt_5 ?_
  refine lv_lsub C.1 C.2.1 dX11_spelt_8 ?_
  refine x_topl (z := 19) (by decide) ?_
  refine lv_lmul C.1 C.2.1 dX11_spelt_9 ?_
  refine x_topl (z := 513) (by decide) ?_
  refine lv_iload_n C.1 C.2.1 dX11_spelt_10 rfl (lv_at hl 1 rfl) ?_
  refine lv_i2l (v := 112) C.1 C.2.1 dX11_spelt_11 (by decide) ?_
  refine lv_ladd C.1 C.2.1 dX11_spelt_12 ?_
  refine x_topl (z := 625) (by decide) ?_
  refine lv_ldc2 (v := 96) C.1 C.2.1 C.2.2.2.1 (C.2.2.2.2 _ kw1354) dX11_spelt_13 ?_
  refine lv_lsub C.1 C.2.1 dX11_spelt_16 ?_
  refine x_topl (z := 529) (by decide) ?_
  refine lv_lstore (lv' := [(7, .long 529), (0, .int 115), (1, .int 112), (2, .int 114), (3, .int 101), (4, .int 97), (5, .int 100), (6, .int 0)]) C.1 C.2.1 dX11_spelt_17 hl (by decide) rfl (fun ls hl => ?_)
  refine lv_iload_n C.1 C.2.1 dX11_spelt_19 rfl (lv_at hl 3 rfl) ?_
  refine lv_if_le (tgt := 38) C.1 C.2.1 dX11_spelt_20 (by decide) (fun h9 => absurd h9 (by decide)) (fun _ => ?_)
  refine lv_ldc2 (v := 27) C.1 C.2.1 C.2.2.2.1 (C.2.2.2.2 _ kw1353) dX11_spelt_23 ?_
  refine lv_lload C.1 C.2.1 dX11_spelt_26 (lv_at hl 0 rfl) ?_
  refine lv_lmul C.1 C.2.1 dX11_spelt_28 ?_
  refine x_topl (z := 14283) (by decide) ?_
  refine lv_iload_n C.1 C.2.1 dX11_spelt_29 rfl (lv_at hl 3 rfl) ?_
  refine lv_i2l (v := 114) C.1 C.2.1 dX11_spelt_30 (by decide) ?_
  refine lv_ladd C.1 C.2.1 dX11_spelt_31 ?_
  refine x_topl (z := 14397) (by decide) ?_
  refine lv_ldc2 (v := 96) C.1 C.2.1 C.2.2.2.1 (C.2.2.2.2 _ kw1354) dX11_spelt_32 ?_
  refine lv_lsub C.1 C.2.1 dX11_spelt_35 ?_
  refine x_topl (z := 14301) (by decide) ?_
  refine lv_lstore (lv' := [(7, .long 14301), (0, .int 115), (1, .int 112), (2, .int 114), (3, .int 101), (4, .int 97), (5, .int 100), (6, .int 0)]) C.1 C.2.1 dX11_spelt_36 hl (by decide) rfl (fun ls hl => ?_)
  refine lv_iload_n C.1 C.2.1 dX11_spelt_38 rfl (lv_at hl 4 rfl) ?_
  refine lv_if_le (tgt := 57) C.1 C.2.1 dX11_spelt_39 (by decide) (fun h9 => absurd h9 (by decide)) (fun _ => ?_)
  refine lv_ldc2 (v := 27) C.1 C.2.1 C.2.2.2.1 (C.2.2.2.2 _ kw1353) dX11_spelt_42 ?_
  refine lv_lload C.1 C.2.1 dX11_spelt_45 (lv_at hl 0 rfl) ?_
  refine lv_lmul C.1 C.2.1 dX11_spelt_47 ?_
  refine x_topl (z := 386127) (by decide) ?_
  refine lv_iload_n C.1 C.2.1 dX11_spelt_48 rfl (lv_at hl 4 rfl) ?_
  refine lv_i2l (v := 101) C.1 C.2.1 dX11_spelt_49 (by decide) ?_
  refine lv_ladd C.1 C.2.1 dX11_spelt_50 ?_
  refine x_topl (z := 386228) (by decide) ?_
  refine lv_ldc2 (v := 96) C.1 C.2.1 C.2.2.2.1 (C.2.2.2.2 _ kw1354) dX11_spelt_51 ?_
  refine lv_lsub C.1 C.2.1 dX11_spelt_54 ?_
  refine x_topl (z := 386132) (by decide) ?_
  refine lv_lstore (lv' := [(7, .long 386132), (0, .int 115), (1, .int 112), (2, .int 114), (3, .int 101), (4, .int 97), (5, .int 100), (6, .int 0)]) C.1 C.2.1 dX11_spelt_55 hl (by decide) rfl (fun ls hl => ?_)
  refine lv_iload C.1 C.2.1 dX11_spelt_57 (lv_at hl 5 rfl) ?_
  refine lv_if_le (tgt := 78) C.1 C.2.1 dX11_spelt_59 (by decide) (fun h9 => absurd h9 (by decide)) (fun _ => ?_)
  refine lv_ldc2 (v := 27) C.1 C.2.1 C.2.2.2.1 (C.2.2.2.2 _ kw1353) dX11_spelt_62 ?_
  refine lv_lload C.1 C.2.1 dX11_spelt_65 (lv_at hl 0 rfl) ?_
  refine lv_lmul C.1 C.2.1 dX11_spelt_67 ?_
  refine x_topl (z := 10425564) (by decide) ?_
  refine lv_iload C.1 C.2.1 dX11_spelt_68 (lv_at hl 5 rfl) ?_
  refine lv_i2l (v := 97) C.1 C.2.1 dX11_spelt_70 (by decide) ?_
  refine lv_ladd C.1 C.2.1 dX11_spelt_71 ?_
  refine x_topl (z := 10425661) (by decide) ?_
  refine lv_ldc2 (v := 96) C.1 C.2.1 C.2.2.2.1 (C.2.2.2.2 _ kw1354) dX11_spelt_72 ?_
  refine lv_lsub C.1 C.2.1 dX11_spelt_75 ?_
  refine x_topl (z := 10425565) (by decide) ?_
  refine lv_lstore (lv' := [(7, .long 10425565), (0, .int 115), (1, .int 112), (2, .int 114), (3, .int 101), (4, .int 97), (5, .int 100), (6, .int 0)]) C.1 C.2.1 dX11_spelt_76 hl (by decide) rfl (fun ls hl => ?_)
  refine lv_iload C.1 C.2.1 dX11_spelt_78 (lv_at hl 6 rfl) ?_
  refine lv_if_le (tgt := 99) C.1 C.2.1 dX11_spelt_80 (by decide) (fun h9 => absurd h9 (by decide)) (fun _ => ?_)
  refine lv_ldc2 (v := 27) C.1 C.2.1 C.2.2.2.1 (C.2.2.2.2 _ kw1353) dX11_spelt_83 ?_
  refine lv_lload C.1 C.2.1 dX11_spelt_86 (lv_at hl 0 rfl) ?_
  refine lv_lmul C.1 C.2.1 dX11_spelt_88 ?_
  refine x_topl (z := 281490255) (by decide) ?_
  refine lv_iload C.1 C.2.1 dX11_spelt_89 (lv_at hl 6 rfl) ?_
  refine lv_i2l (v := 100) C.1 C.2.1 dX11_spelt_91 (by decide) ?_
  refine lv_ladd C.1 C.2.1 dX11_spelt_92 ?_
  refine x_topl (z := 281490355) (by decide) ?_
  refine lv_ldc2 (v := 96) C.1 C.2.1 C.2.2.2.1 (C.2.2.2.2 _ kw1354) dX11_spelt_93 ?_
  refine lv_lsub C.1 C.2.1 dX11_spelt_96 ?_
  refine x_topl (z := 281490259) (by decide) ?_
  refine lv_lstore (lv' := [(7, .long 281490259), (0, .int 115), (1, .int 112), (2, .int 114), (3, .int 101), (4, .int 97), (5, .int 100), (6, .int 0)]) C.1 C.2.1 dX11_spelt_97 hl (by decide) rfl (fun ls hl => ?_)
  refine lv_iload C.1 C.2.1 dX11_spelt_99 (lv_at hl 7 rfl) ?_
  refine lv_if_le (tgt := 120) C.1 C.2.1 dX11_spelt_101 (by decide) (fun _ => ?_) (fun h9 => absurd (by decide) h9)
  refine lv_lload C.1 C.2.1 dX11_spelt_120 (lv_at hl 0 rfl) ?_
  exact x_retlQ hQ B hw ⟨rfl, rfl⟩ (Nat.le_of_ble_eq_true rfl) (Nat.le_of_ble_eq_true rfl) dX11_spelt_122
theorem dX11_wordOf_264 : decode cX11_wordOf 264 = .ok (.bipush 115, 2) := by decide +kernel
theorem dX11_wordOf_266 : decode cX11_wordOf 266 = .ok (.bipush 112, 2) := by decide +kernel
theorem dX11_wordOf_268 : decode cX11_wordOf 268 = .ok (.bipush 114, 2) := by decide +kernel
theorem dX11_wordOf_270 : decode cX11_wordOf 270 = .ok (.bipush 101, 2) := by decide +kernel
theorem dX11_wordOf_272 : decode cX11_wordOf 272 = .ok (.bipush 97, 2) := by decide +kernel
theorem dX11_wordOf_274 : decode cX11_wordOf 274 = .ok (.bipush 100, 2) := by decide +kernel
theorem dX11_wordOf_276 : decode cX11_wordOf 276 = .ok (.iconst 0, 1) := by decide +kernel
theorem dX11_wordOf_277 : decode cX11_wordOf 277 = .ok (.invokestatic 58, 3) := by decide +kernel
theorem dX11_wordOf_280 : decode cX11_wordOf 280 = .ok (.lreturn, 1) := by decide +kernel
set_option maxHeartbeats 4000000 in
set_option maxRecDepth 100000 in
theorem e_wordOf_9 {l : Launch} {G : Gc}   : Cl l yX11_wordOf cX11_wordOf 1 1 0 0 G [.int 9] [] (fun (r9 : Int64) (u9 : va_W) => r9 = 281490259 ∧ u9 = []) := by
  refine Cl.ofQ (by decide) (Nat.le_of_ble_eq_true rfl) ?_
  intro p e s m below meth c ls A args Q hQ B hw hl
  have C : CallFix p m c cX11_wordOf 1 s args gw "LanternStateModel" := B.1
  have hl : lv_has ls 1 [(0, .int 9)] := hl
  refine lv_iload_n C.1 C.2.1 dX11_wordOf_0 rfl (lv_at hl 0 rfl) ?_
  refine lv_tableIn (off := 263) (tgt := 264) C.1 C.2.1 dX11_wordOf_1 (by decide) (by decide) rfl (by decide) ?_
  refine lv_bipush (v := 115) C.1 C.2.1 dX11_wordOf_264 (by decide) ?_
  refine lv_bipush (v := 112) C.1 C.2.1 dX11_wordOf_266 (by decide) ?_
  refine lv_bipush (v := 114) C.1 C.2.1 dX11_wordOf_268 (by decide) ?_
  refine lv_bipush (v := 101) C.1 C.2.1 dX11_wordOf_270 (by decide) ?_
  refine lv_bipush (v := 97) C.1 C.2.1 dX11_wordOf_272 (by decide) ?_
  refine lv_bipush (v := 100) C.1 C.2.1 dX11_wordOf_274 (by decide) ?_
  refine lv_iconst (v := 0) C.1 C.2.1 dX11_wordOf_276 (by decide) ?_
  refine x_calllS (As := [.int 115, .int 112, .int 114, .int 101, .int 97, .int 100, .int 0]) (rest := []) (wr := []) C hw e_spelt_9 mwX11_spelt kw1366 [] [] rfl rfl rfl rfl (by decide) rfl hl.1 rfl (Nat.le_of_ble_eq_true rfl) ⟨(Nat.le_of_ble_eq_true rfl), (Nat.le_of_ble_eq_true rfl)⟩ ⟨(Nat.le_of_ble_eq_true rfl), (Nat.le_of_ble_eq_true rfl)⟩ dX11_wordOf_277 (fun r1 u9 H locs hp9 hw => ?_)
  obtain ⟨rfl, rfl⟩ := hp9
  have hw : Wd G s A [] H _ := hw
  exact x_retlQ hQ B hw ⟨rfl, rfl⟩ (Nat.le_of_ble_eq_true rfl) (Nat.le_of_ble_eq_true rfl) dX11_wordOf_280
set_option maxHeartbeats 4000000 in
set_option maxRecDepth 100000 in
theorem e_spelt_10 {l : Launch} {G : Gc}   : Cl l yX11_spelt cX11_spelt 9 0 0 0 G [.int 108, .int 97, .int 109, .int 112, .int 0, .int 0, .int 0] [] (fun (r9 : Int64) (u9 : va_W) => r9 = 237292 ∧ u9 = []) := by
  refine Cl.ofQ (by decide) (Nat.le_of_ble_eq_true rfl) ?_
  intro p e s m below meth c ls A args Q hQ B hw hl
  have C : CallFix p m c cX11_spelt 9 s args gw "LanternStateModel" := B.1
  have hl : lv_has ls 9 [(0, .int 108), (1, .int 97), (2, .int 109), (3, .int 112), (4, .int 0), (5, .int 0), (6, .int 0)] := hl
  refine lv_ldc2 (v := 27) C.1 C.2.1 C.2.2.2.1 (C.2.2.2.2 _ kw1353) dX11_spelt_0 ?_
  refine lv_iload_n C.1 C.2.1 dX11_spelt_3 rfl (lv_at hl 0 rfl) ?_
  refine lv_i2l (v := 108) C.1 C.2.1 dX11_spelt_4 (by decide) ?_
  refine lv_ldc2 (v := 96) C.1 C.2.1 C.2.2.2.1 (C.2.2.2.2 _ kw1354) dX11_spelt_5 ?_
  refine lv_lsub C.1 C.2.1 dX11_spelt_8 ?_
  refine x_topl (z := 12) (by decide) ?_
  refine lv_lmul C.1 C.2.1 dX11_spelt_9 ?_
  refine x_topl (z := 324) (by decide) ?_
  refine lv_iload_n C.1 C.2.1 dX11_spelt_10 rfl (lv_at hl 1 rfl) ?_
  refine lv_i2l (v := 97) C.1 C.2.1 dX11_spelt_11 (by decide) ?_
  refine lv_ladd C.1 C.2.1 dX11_spelt_12 ?_
  refine x_topl (z := 421) (by decide) ?_
  refine lv_ldc2 (v := 96) C.1 C.2.1 C.2.2.2.1 (C.2.2.2.2 _ kw1354) dX11_spelt_13 ?_
  refine lv_lsub C.1 C.2.1 dX11_spelt_16 ?_
  refine x_topl (z := 325) (by decide) ?_
  refine lv_lstore (lv' := [(7, .long 325), (0, .int 108), (1, .int 97), (2, .int 109), (3, .int 112), (4, .int 0), (5, .int 0), (6, .int 0)]) C.1 C.2.1 dX11_spelt_17 hl (by decide) rfl (fun ls hl => ?_)
  refine lv_iload_n C.1 C.2.1 dX11_spelt_19 rfl (lv_at hl 3 rfl) ?_
  refine lv_if_le (tgt := 38) C.1 C.2.1 dX11_spelt_20 (by decide) (fun h9 => absurd h9 (by decide)) (fun _ => ?_)
  refine lv_ldc2 (v := 27) C.1 C.2.1 C.2.2.2.1 (C.2.2.2.2 _ kw1353) dX11_spelt_23 ?_
  refine lv_lload C.1 C.2.1 dX11_spelt_26 (lv_at hl 0 rfl) ?_
  refine lv_lmul C.1 C.2.1 dX11_spelt_28 ?_
  refine x_topl (z := 8775) (by decide) ?_
  refine lv_iload_n C.1 C.2.1 dX11_spelt_29 rfl (lv_at hl 3 rfl) ?_
  refine lv_i2l (v := 109) C.1 C.2.1 dX11_spelt_30 (by decide) ?_
  refine lv_ladd C.1 C.2.1 dX11_spelt_31 ?_
  refine x_topl (z := 8884) (by decide) ?_
  refine lv_ldc2 (v := 96) C.1 C.2.1 C.2.2.2.1 (C.2.2.2.2 _ kw1354) dX11_spelt_32 ?_
  refine lv_lsub C.1 C.2.1 dX11_spelt_35 ?_
  refine x_topl (z := 8788) (by decide) ?_
  refine lv_lstore (lv' := [(7, .long 8788), (0, .int 108), (1, .int 97), (2, .int 109), (3, .int 112), (4, .int 0), (5, .int 0), (6, .int 0)]) C.1 C.2.1 dX11_spelt_36 hl (by decide) rfl (fun ls hl => ?_)
  refine lv_iload_n C.1 C.2.1 dX11_spelt_38 rfl (lv_at hl 4 rfl) ?_
  refine lv_if_le (tgt := 57) C.1 C.2.1 dX11_spelt_39 (by decide) (fun h9 => absurd h9 (by decide)) (fun _ => ?_)
  refine lv_ldc2 (v := 27) C.1 C.2.1 C.2.2.2.1 (C.2.2.2.2 _ kw1353) dX11_spelt_42 ?_
  refine lv_lload C.1 C.2.1 dX11_spelt_45 (lv_at hl 0 rfl) ?_
  refine lv_lmul C.1 C.2.1 dX11_spelt_47 ?_
  refine x_topl (z := 237276) (by decide) ?_
  refine lv_iload_n C.1 C.2.1 dX11_spelt_48 rfl (lv_at hl 4 rfl) ?_
  refine lv_i2l (v := 112) C.1 C.2.1 dX11_spelt_49 (by decide) ?_
  refine lv_ladd C.1 C.2.1 dX11_spelt_50 ?_
  refine x_topl (z := 237388) (by decide) ?_
  refine lv_ldc2 (v := 96) C.1 C.2.1 C.2.2.2.1 (C.2.2.2.2 _ kw1354) dX11_spelt_51 ?_
  refine lv_lsub C.1 C.2.1 dX11_spelt_54 ?_
  refine x_topl (z := 237292) (by decide) ?_
  refine lv_lstore (lv' := [(7, .long 237292), (0, .int 108), (1, .int 97), (2, .int 109), (3, .int 112), (4, .int 0), (5, .int 0), (6, .int 0)]) C.1 C.2.1 dX11_spelt_55 hl (by decide) rfl (fun ls hl => ?_)
  refine lv_iload C.1 C.2.1 dX11_spelt_57 (lv_at hl 5 rfl) ?_
  refine lv_if_le (tgt := 78) C.1 C.2.1 dX11_spelt_59 (by decide) (fun _ => ?_) (fun h9 => absurd (by decide) h9)
  refine lv_iload C.1 C.2.1 dX11_spelt_78 (lv_at hl 6 rfl) ?_
  refine lv_if_le (tgt := 99) C.1 C.2.1 dX11_spelt_80 (by decide) (fun _ => ?_) (fun h9 => absurd (by decide) h9)
  refine lv_iload C.1 C.2.1 dX11_spelt_99 (lv_at hl 7 rfl) ?_
  refine lv_if_le (tgt := 120) C.1 C.2.1 dX11_spelt_101 (by decide) (fun _ => ?_) (fun h9 => absurd (by decide) h9)
  refine lv_lload C.1 C.2.1 dX11_spelt_120 (lv_at hl 0 rfl) ?_
  exact x_retlQ hQ B hw ⟨rfl, rfl⟩ (Nat.le_of_ble_eq_true rfl) (Nat.le_of_ble_eq_true rfl) dX11_spelt_122
theorem dX11_wordOf_281 : decode cX11_wordOf 281 = .ok (.bipush 108, 2) := by decide +kernel
theorem dX11_wordOf_283 : decode cX11_wordOf 283 = .ok (.bipush 97, 2) := by decide +kernel
theorem dX11_wordOf_285 : decode cX11_wordOf 285 = .ok (.bipush 109, 2) := by decide +kernel
theorem dX11_wordOf_287 : decode cX11_wordOf 287 = .ok (.bipush 112, 2) := by decide +kernel
theorem dX11_wordOf_289 : decode cX11_wordOf 289 = .ok (.iconst 0, 1) := by decide +kernel
theorem dX11_wordOf_290 : decode cX11_wordOf 290 = .ok (.iconst 0, 1) := by decide +kernel
theorem dX11_wordOf_291 : decode cX11_wordOf 291 = .ok (.iconst 0, 1) := by decide +kernel
theorem dX11_wordOf_292 : decode cX11_wordOf 292 = .ok (.invokestatic 58, 3) := by decide +kernel
theorem dX11_wordOf_295 : decode cX11_wordOf 295 = .ok (.lreturn, 1) := by decide +kernel
set_option maxHeartbeats 4000000 in
set_option maxRecDepth 100000 in
theorem e_wordOf_10 {l : Launch} {G : Gc}   : Cl l yX11_wordOf cX11_wordOf 1 1 0 0 G [.int 10] [] (fun (r9 : Int64) (u9 : va_W) => r9 = 237292 ∧ u9 = []) := by
  refine Cl.ofQ (by decide) (Nat.le_of_ble_eq_true rfl) ?_
  intro p e s m below meth c ls A args Q hQ B hw hl
  have C : CallFix p m c cX11_wordOf 1 s args gw "LanternStateModel" := B.1
  have hl : lv_has ls 1 [(0, .int 10)] := hl
  refine lv_iload_n C.1 C.2.1 dX11_wordOf_0 rfl (lv_at hl 0 rfl) ?_
  refine lv_tableIn (off := 280) (tgt := 281) C.1 C.2.1 dX11_wordOf_1 (by decide) (by decide) rfl (by decide) ?_
  refine lv_bipush (v := 108) C.1 C.2.1 dX11_wordOf_281 (by decide) ?_
  refine lv_bipush (v := 97) C.1 C.2.1 dX11_wordOf_283 (by decide) ?_
  refine lv_bipush (v := 109) C.1 C.2.1 dX11_wordOf_285 (by decide) ?_
  refine lv_bipush (v := 112) C.1 C.2.1 dX11_wordOf_287 (by decide) ?_
  refine lv_iconst (v := 0) C.1 C.2.1 dX11_wordOf_289 (by decide) ?_
  refine lv_iconst (v := 0) C.1 C.2.1 dX11_wordOf_290 (by decide) ?_
  refine lv_iconst (v := 0) C.1 C.2.1 dX11_wordOf_291 (by decide) ?_
  refine x_calllS (As := [.int 108, .int 97, .int 109, .int 112, .int 0, .int 0, .int 0]) (rest := []) (wr := []) C hw e_spelt_10 mwX11_spelt kw1366 [] [] rfl rfl rfl rfl (by decide) rfl hl.1 rfl (Nat.le_of_ble_eq_true rfl) ⟨(Nat.le_of_ble_eq_true rfl), (Nat.le_of_ble_eq_true rfl)⟩ ⟨(Nat.le_of_ble_eq_true rfl), (Nat.le_of_ble_eq_true rfl)⟩ dX11_wordOf_292 (fun r1 u9 H locs hp9 hw => ?_)
  obtain ⟨rfl, rfl⟩ := hp9
  have hw : Wd G s A [] H _ := hw
  exact x_retlQ hQ B hw ⟨rfl, rfl⟩ (Nat.le_of_ble_eq_true rfl) (Nat.le_of_ble_eq_true rfl) dX11_wordOf_295
set_option maxHeartbeats 4000000 in
set_option maxRecDepth 100000 in
theorem e_spelt_11 {l : Launch} {G : Gc}   : Cl l yX11_spelt cX11_spelt 9 0 0 0 G [.int 115, .int 104, .int 111, .int 119, .int 110, .int 0, .int 0] [] (fun (r9 : Int64) (u9 : va_W) => r9 = 10266413 ∧ u9 = []) := by
  refine Cl.ofQ (by decide) (Nat.le_of_ble_eq_true rfl) ?_
  intro p e s m below meth c ls A args Q hQ B hw hl
  have C : CallFix p m c cX11_spelt 9 s args gw "LanternStateModel" := B.1
  have hl : lv_has ls 9 [(0, .int 115), (1, .int 104), (2, .int 111), (3, .int 119), (4, .int 110), (5, .int 0), (6, .int 0)] := hl
  refine lv_ldc2 (v := 27) C.1 C.2.1 C.2.2.2.1 (C.2.2.2.2 _ kw1353) dX11_spelt_0 ?_
  refine lv_iload_n C.1 C.2.1 dX11_spelt_3 rfl (lv_at hl 0 rfl) ?_
  refine lv_i2l (v := 115) C.1 C.2.1 dX11_spelt_4 (by decide) ?_
  refine lv_ldc2 (v := 96) C.1 C.2.1 C.2.2.2.1 (C.2.2.2.2 _ kw1354) dX11_spelt_5 ?_
  refine lv_lsub C.1 C.2.1 dX11_spelt_8 ?_
  refine x_topl (z := 19) (by decide) ?_
  refine lv_lmul C.1 C.2.1 dX11_spelt_9 ?_
  refine x_topl (z := 513) (by decide) ?_
  refine lv_iload_n C.1 C.2.1 dX11_spelt_10 rfl (lv_at hl 1 rfl) ?_
  refine lv_i2l (v := 104) C.1 C.2.1 dX11_spelt_11 (by decide) ?_
  refine lv_ladd C.1 C.2.1 dX11_spelt_12 ?_
  refine x_topl (z := 617) (by decide) ?_
  refine lv_ldc2 (v := 96) C.1 C.2.1 C.2.2.2.1 (C.2.2.2.2 _ kw1354) dX11_spelt_13 ?_
  refine lv_lsub C.1 C.2.1 dX11_spelt_16 ?_
  refine x_topl (z := 521) (by decide) ?_
  refine lv_lstore (lv' := [(7, .long 521), (0, .int 115), (1, .int 104), (2, .int 111), (3, .int 119), (4, .int 110), (5, .int 0), (6, .int 0)]) C.1 C.2.1 dX11_spelt_17 hl (by decide) rfl (fun ls hl => ?_)
  refine lv_iload_n C.1 C.2.1 dX11_spelt_19 rfl (lv_at hl 3 rfl) ?_
  refine lv_if_le (tgt := 38) C.1 C.2.1 dX11_spelt_20 (by decide) (fun h9 => absurd h9 (by decide)) (fun _ => ?_)
  refine lv_ldc2 (v := 27) C.1 C.2.1 C.2.2.2.1 (C.2.2.2.2 _ kw1353) dX11_spelt_23 ?_
  refine lv_lload C.1 C.2.1 dX11_spelt_26 (lv_at hl 0 rfl) ?_
  refine lv_lmul C.1 C.2.1 dX11_spelt_28 ?_
  refine x_topl (z := 14067) (by decide) ?_
  refine lv_iload_n C.1 C.2.1 dX11_spelt_29 rfl (lv_at hl 3 rfl) ?_
  refine lv_i2l (v := 111) C.1 C.2.1 dX11_spelt_30 (by decide) ?_
  refine lv_ladd C.1 C.2.1 dX11_spelt_31 ?_
  refine x_topl (z := 14178) (by decide) ?_
  refine lv_ldc2 (v := 96) C.1 C.2.1 C.2.2.2.1 (C.2.2.2.2 _ kw1354) dX11_spelt_32 ?_
  refine lv_lsub C.1 C.2.1 dX11_spelt_35 ?_
  refine x_topl (z := 14082) (by decide) ?_
  refine lv_lstore (lv' := [(7, .long 14082), (0, .int 115), (1, .int 104), (2, .int 111), (3, .int 119), (4, .int 110), (5, .int 0), (6, .int 0)]) C.1 C.2.1 dX11_spelt_36 hl (by decide) rfl (fun ls hl => ?_)
  refine lv_iload_n C.1 C.2.1 dX11_spelt_38 rfl (lv_at hl 4 rfl) ?_
  refine lv_if_le (tgt := 57) C.1 C.2.1 dX11_spelt_39 (by decide) (fun h9 => absurd h9 (by decide)) (fun _ => ?_)
  refine lv_ldc2 (v := 27) C.1 C.2.1 C.2.2.2.1 (C.2.2.2.2 _ kw1353) dX11_spelt_42 ?_
  refine lv_lload C.1 C.2.1 dX11_spelt_45 (lv_at hl 0 rfl) ?_
  refine lv_lmul C.1 C.2.1 dX11_spelt_47 ?_
  refine x_topl (z := 380214) (by decide) ?_
  refine lv_iload_n C.1 C.2.1 dX11_spelt_48 rfl (lv_at hl 4 rfl) ?_
  refine lv_i2l (v := 119) C.1 C.2.1 dX11_spelt_49 (by decide) ?_
  refine lv_ladd C.1 C.2.1 dX11_spelt_50 ?_
  refine x_topl (z := 380333) (by decide) ?_
  refine lv_ldc2 (v := 96) C.1 C.2.1 C.2.2.2.1 (C.2.2.2.2 _ kw1354) dX11_spelt_51 ?_
  refine lv_lsub C.1 C.2.1 dX11_spelt_54 ?_
  refine x_topl (z := 380237) (by decide) ?_
  refine lv_lstore (lv' := [(7, .long 380237), (0, .int 115), (1, .int 104), (2, .int 111), (3, .int 119), (4, .int 110), (5, .int 0), (6, .int 0)]) C.1 C.2.1 dX11_spelt_55 hl (by decide) rfl (fun ls hl => ?_)
  refine lv_iload C.1 C.2.1 dX11_spelt_57 (lv_at hl 5 rfl) ?_
  refine lv_if_le (tgt := 78) C.1 C.2.1 dX11_spelt_59 (by decide) (fun h9 => absurd h9 (by decide)) (fun _ => ?_)
  refine lv_ldc2 (v := 27) C.1 C.2.1 C.2.2.2.1 (C.2.2.2.2 _ kw1353) dX11_spelt_62 ?_
  refine lv_lload C.1 C.2.1 dX11_spelt_65 (lv_at hl 0 rfl) ?_
  refine lv_lmul C.1 C.2.1 dX11_spelt_67 ?_
  refine x_topl (z := 10266399) (by decide) ?_
  refine lv_iload C.1 C.2.1 dX11_spelt_68 (lv_at hl 5 rfl) ?_
  refine lv_i2l (v := 110) C.1 C.2.1 dX11_spelt_70 (by decide) ?_
  refine lv_ladd C.1 C.2.1 dX11_spelt_71 ?_
  refine x_topl (z := 10266509) (by decide) ?_
  refine lv_ldc2 (v := 96) C.1 C.2.1 C.2.2.2.1 (C.2.2.2.2 _ kw1354) dX11_spelt_72 ?_
  refine lv_lsub C.1 C.2.1 dX11_spelt_75 ?_
  refine x_topl (z := 10266413) (by decide) ?_
  refine lv_lstore (lv' := [(7, .long 10266413), (0, .int 115), (1, .int 104), (2, .int 111), (3, .int 119), (4, .int 110), (5, .int 0), (6, .int 0)]) C.1 C.2.1 dX11_spelt_76 hl (by decide) rfl (fun ls hl => ?_)
  refine lv_iload C.1 C.2.1 dX11_spelt_78 (lv_at hl 6 rfl) ?_
  refine lv_if_le (tgt := 99) C.1 C.2.1 dX11_spelt_80 (by decide) (fun _ => ?_) (fun h9 => absurd (by decide) h9)
  refine lv_iload C.1 C.2.1 dX11_spelt_99 (lv_at hl 7 rfl) ?_
  refine lv_if_le (tgt := 120) C.1 C.2.1 dX11_spelt_101 (by decide) (fun _ => ?_) (fun h9 => absurd (by decide) h9)
  refine lv_lload C.1 C.2.1 dX11_spelt_120 (lv_at hl 0 rfl) ?_
  exact x_retlQ hQ B hw ⟨rfl, rfl⟩ (Nat.le_of_ble_eq_true rfl) (Nat.le_of_ble_eq_true rfl) dX11_spelt_122
theorem dX11_wordOf_296 : decode cX11_wordOf 296 = .ok (.bipush 115, 2) := by decide +kernel
theorem dX11_wordOf_298 : decode cX11_wordOf 298 = .ok (.bipush 104, 2) := by decide +kernel
theorem dX11_wordOf_300 : decode cX11_wordOf 300 = .ok (.bipush 111, 2) := by decide +kernel
theorem dX11_wordOf_302 : decode cX11_wordOf 302 = .ok (.bipush 119, 2) := by decide +kernel
theorem dX11_wordOf_304 : decode cX11_wordOf 304 = .ok (.bipush 110, 2) := by decide +kernel
theorem dX11_wordOf_306 : decode cX11_wordOf 306 = .ok (.iconst 0, 1) := by decide +kernel
theorem dX11_wordOf_307 : decode cX11_wordOf 307 = .ok (.iconst 0, 1) := by decide +kernel
theorem dX11_wordOf_308 : decode cX11_wordOf 308 = .ok (.invokestatic 58, 3) := by decide +kernel
theorem dX11_wordOf_311 : decode cX11_wordOf 311 = .ok (.lreturn, 1) := by decide +kernel
set_option maxHeartbeats 4000000 in
set_option maxRecDepth 100000 in
theorem e_wordOf_11 {l : Launch} {G : Gc}   : Cl l yX11_wordOf cX11_wordOf 1 1 0 0 G [.int 11] [] (fun (r9 : Int64) (u9 : va_W) => r9 = 10266413 ∧ u9 = []) := by
  refine Cl.ofQ (by decide) (Nat.le_of_ble_eq_true rfl) ?_
  intro p e s m below meth c ls A args Q hQ B hw hl
  have C : CallFix p m c cX11_wordOf 1 s args gw "LanternStateModel" := B.1
  have hl : lv_has ls 1 [(0, .int 11)] := hl
  refine lv_iload_n C.1 C.2.1 dX11_wordOf_0 rfl (lv_at hl 0 rfl) ?_
  refine lv_tableIn (off := 295) (tgt := 296) C.1 C.2.1 dX11_wordOf_1 (by decide) (by decide) rfl (by decide) ?_
  refine lv_bipush (v := 115) C.1 C.2.1 dX11_wordOf_296 (by decide) ?_
  refine lv_bipush (v := 104) C.1 C.2.1 dX11_wordOf_298 (by decide) ?_
  refine lv_bipush (v := 111) C.1 C.2.1 dX11_wordOf_300 (by decide) ?_
  refine lv_bipush (v := 119) C.1 C.2.1 dX11_wordOf_302 (by decide) ?_
  refine lv_bipush (v := 110) C.1 C.2.1 dX11_wordOf_304 (by decide) ?_
  refine lv_iconst (v := 0) C.1 C.2.1 dX11_wordOf_306 (by decide) ?_
  refine lv_iconst (v := 0) C.1 C.2.1 dX11_wordOf_307 (by decide) ?_
  refine x_calllS (As := [.int 115, .int 104, .int 111, .int 119, .int 110, .int 0, .int 0]) (rest := []) (wr := []) C hw e_spelt_11 mwX11_spelt kw1366 [] [] rfl rfl rfl rfl (by decide) rfl hl.1 rfl (Nat.le_of_ble_eq_true rfl) ⟨(Nat.le_of_ble_eq_true rfl), (Nat.le_of_ble_eq_true rfl)⟩ ⟨(Nat.le_of_ble_eq_true rfl), (Nat.le_of_ble_eq_true rfl)⟩ dX11_wordOf_308 (fun r1 u9 H locs hp9 hw => ?_)
  obtain ⟨rfl, rfl⟩ := hp9
  have hw : Wd G s A [] H _ := hw
  exact x_retlQ hQ B hw ⟨rfl, rfl⟩ (Nat.le_of_ble_eq_true rfl) (Nat.le_of_ble_eq_true rfl) dX11_wordOf_311
set_option maxHeartbeats 4000000 in
set_option maxRecDepth 100000 in
theorem e_spelt_12 {l : Launch} {G : Gc}   : Cl l yX11_spelt cX11_spelt 9 0 0 0 G [.int 111, .int 118, .int 101, .int 114, .int 0, .int 0, .int 0] [] (fun (r9 : Int64) (u9 : va_W) => r9 = 311436 ∧ u9 = []) := by
  refine Cl.ofQ (by decide) (Nat.le_of_ble_eq_true rfl) ?_
  intro p e s m below meth c ls A args Q hQ B hw hl
  have C : CallFix p m c cX11_spelt 9 s args gw "LanternStateModel" := B.1
  have hl : lv_has ls 9 [(0, .int 111), (1, .int 118), (2, .int 101), (3, .int 114), (4, .int 0), (5, .int 0), (6, .int 0)] := hl
  refine lv_ldc2 (v := 27) C.1 C.2.1 C.2.2.2.1 (C.2.2.2.2 _ kw1353) dX11_spelt_0 ?_
  refine lv_iload_n C.1 C.2.1 dX11_spelt_3 rfl (lv_at hl 0 rfl) ?_
  refine lv_i2l (v := 111) C.1 C.2.1 dX11_spelt_4 (by decide) ?_
  refine lv_ldc2 (v := 96) C.1 C.2.1 C.2.2.2.1 (C.2.2.2.2 _ kw1354) dX11_spelt_5 ?_
  refine lv_lsub C.1 C.2.1 dX11_spelt_8 ?_
  refine x_topl (z := 15) (by decide) ?_
  refine lv_lmul C.1 C.2.1 dX11_spelt_9 ?_
  refine x_topl (z := 405) (by decide) ?_
  refine lv_iload_n C.1 C.2.1 dX11_spelt_10 rfl (lv_at hl 1 rfl) ?_
  refine lv_i2l (v := 118) C.1 C.2.1 dX11_spelt_11 (by decide) ?_
  refine lv_ladd C.1 C.2.1 dX11_spelt_12 ?_
  refine x_topl (z := 523) (by decide) ?_
  refine lv_ldc2 (v := 96) C.1 C.2.1 C.2.2.2.1 (C.2.2.2.2 _ kw1354) dX11_spelt_13 ?_
  refine lv_lsub C.1 C.2.1 dX11_spelt_16 ?_
  refine x_topl (z := 427) (by decide) ?_
  refine lv_lstore (lv' := [(7, .long 427), (0, .int 111), (1, .int 118), (2, .int 101), (3, .int 114), (4, .int 0), (5, .int 0), (6, .int 0)]) C.1 C.2.1 dX11_spelt_17 hl (by decide) rfl (fun ls hl => ?_)
  refine lv_iload_n C.1 C.2.1 dX11_spelt_19 rfl (lv_at hl 3 rfl) ?_
  refine lv_if_le (tgt := 38) C.1 C.2.1 dX11_spelt_20 (by decide) (fun h9 => absurd h9 (by decide)) (fun _ => ?_)
  refine lv_ldc2 (v := 27) C.1 C.2.1 C.2.2.2.1 (C.2.2.2.2 _ kw1353) dX11_spelt_23 ?_
  refine lv_lload C.1 C.2.1 dX11_spelt_26 (lv_at hl 0 rfl) ?_
  refine lv_lmul C.1 C.2.1 dX11_spelt_28 ?_
  refine x_topl (z := 11529) (by decide) ?_
  refine lv_iload_n C.1 C.2.1 dX11_spelt_29 rfl (lv_at hl 3 rfl) ?_
  refine lv_i2l (v := 101) C.1 C.2.1 dX11_spelt_30 (by decide) ?_
  refine lv_ladd C.1 C.2.1 dX11_spelt_31 ?_
  refine x_topl (z := 11630) (by decide) ?_
  refine lv_ldc2 (v := 96) C.1 C.2.1 C.2.2.2.1 (C.2.2.2.2 _ kw1354) dX11_spelt_32 ?_
  refine lv_lsub C.1 C.2.1 dX11_spelt_35 ?_
  refine x_topl (z := 11534) (by decide) ?_
  refine lv_lstore (lv' := [(7, .long 11534), (0, .int 111), (1, .int 118), (2, .int 101), (3, .int 114), (4, .int 0), (5, .int 0), (6, .int 0)]) C.1 C.2.1 dX11_spelt_36 hl (by decide) rfl (fun ls hl => ?_)
  refine lv_iload_n C.1 C.2.1 dX11_spelt_38 rfl (lv_at hl 4 rfl) ?_
  refine lv_if_le (tgt := 57) C.1 C.2.1 dX11_spelt_39 (by decide) (fun h9 => absurd h9 (by decide)) (fun _ => ?_)
  refine lv_ldc2 (v := 27) C.1 C.2.1 C.2.2.2.1 (C.2.2.2.2 _ kw1353) dX11_spelt_42 ?_
  refine lv_lload C.1 C.2.1 dX11_spelt_45 (lv_at hl 0 rfl) ?_
  refine lv_lmul C.1 C.2.1 dX11_spelt_47 ?_
  refine x_topl (z := 311418) (by decide) ?_
  refine lv_iload_n C.1 C.2.1 dX11_spelt_48 rfl (lv_at hl 4 rfl) ?_
  refine lv_i2l (v := 114) C.1 C.2.1 dX11_spelt_49 (by decide) ?_
  refine lv_ladd C.1 C.2.1 dX11_spelt_50 ?_
  refine x_topl (z := 311532) (by decide) ?_
  refine lv_ldc2 (v := 96) C.1 C.2.1 C.2.2.2.1 (C.2.2.2.2 _ kw1354) dX11_spelt_51 ?_
  refine lv_lsub C.1 C.2.1 dX11_spelt_54 ?_
  refine x_topl (z := 311436) (by decide) ?_
  refine lv_lstore (lv' := [(7, .long 311436), (0, .int 111), (1, .int 118), (2, .int 101), (3, .int 114), (4, .int 0), (5, .int 0), (6, .int 0)]) C.1 C.2.1 dX11_spelt_55 hl (by decide) rfl (fun ls hl => ?_)
  refine lv_iload C.1 C.2.1 dX11_spelt_57 (lv_at hl 5 rfl) ?_
  refine lv_if_le (tgt := 78) C.1 C.2.1 dX11_spelt_59 (by decide) (fun _ => ?_) (fun h9 => absurd (by decide) h9)
  refine lv_iload C.1 C.2.1 dX11_spelt_78 (lv_at hl 6 rfl) ?_
  refine lv_if_le (tgt := 99) C.1 C.2.1 dX11_spelt_80 (by decide) (fun _ => ?_) (fun h9 => absurd (by decide) h9)
  refine lv_iload C.1 C.2.1 dX11_spelt_99 (lv_at hl 7 rfl) ?_
  refine lv_if_le (tgt := 120) C.1 C.2.1 dX11_spelt_101 (by decide) (fun _ => ?_) (fun h9 => absurd (by decide) h9)
  refine lv_lload C.1 C.2.1 dX11_spelt_120 (lv_at hl 0 rfl) ?_
  exact x_retlQ hQ B hw ⟨rfl, rfl⟩ (Nat.le_of_ble_eq_true rfl) (Nat.le_of_ble_eq_true rfl) dX11_spelt_122
theorem dX11_wordOf_312 : decode cX11_wordOf 312 = .ok (.bipush 111, 2) := by decide +kernel
theorem dX11_wordOf_314 : decode cX11_wordOf 314 = .ok (.bipush 118, 2) := by decide +kernel
theorem dX11_wordOf_316 : decode cX11_wordOf 316 = .ok (.bipush 101, 2) := by decide +kernel
theorem dX11_wordOf_318 : decode cX11_wordOf 318 = .ok (.bipush 114, 2) := by decide +kernel
theorem dX11_wordOf_320 : decode cX11_wordOf 320 = .ok (.iconst 0, 1) := by decide +kernel
theorem dX11_wordOf_321 : decode cX11_wordOf 321 = .ok (.iconst 0, 1) := by decide +kernel
theorem dX11_wordOf_322 : decode cX11_wordOf 322 = .ok (.iconst 0, 1) := by decide +kernel
theorem dX11_wordOf_323 : decode cX11_wordOf 323 = .ok (.invokestatic 58, 3) := by decide +kernel
theorem dX11_wordOf_326 : decode cX11_wordOf 326 = .ok (.lreturn, 1) := by decide +kernel
set_option maxHeartbeats 4000000 in
set_option maxRecDepth 100000 in
theorem e_wordOf_12 {l : Launch} {G : Gc}   : Cl l yX11_wordOf cX11_wordOf 1 1 0 0 G [.int 12] [] (fun (r9 : Int64) (u9 : va_W) => r9 = 311436 ∧ u9 = []) := by
  refine Cl.ofQ (by decide) (Nat.le_of_ble_eq_true rfl) ?_
  intro p e s m below meth c ls A args Q hQ B hw hl
  have C : CallFix p m c cX11_wordOf 1 s args gw "LanternStateModel" := B.1
  have hl : lv_has ls 1 [(0, .int 12)] := hl
  refine lv_iload_n C.1 C.2.1 dX11_wordOf_0 rfl (lv_at hl 0 rfl) ?_
  refine lv_tableIn (off := 311) (tgt := 312) C.1 C.2.1 dX11_wordOf_1 (by decide) (by decide) rfl (by decide) ?_
  refine lv_bipush (v := 111) C.1 C.2.1 dX11_wordOf_312 (by decide) ?_
  refine lv_bipush (v := 118) C.1 C.2.1 dX11_wordOf_314 (by decide) ?_
  refine lv_bipush (v := 101) C.1 C.2.1 dX11_wordOf_316 (by decide) ?_
  refine lv_bipush (v := 114) C.1 C.2.1 dX11_wordOf_318 (by decide) ?_
  refine lv_iconst (v := 0) C.1 C.2.1 dX11_wordOf_320 (by decide) ?_
  refine lv_iconst (v := 0) C.1 C.2.1 dX11_wordOf_321 (by decide) ?_
  refine lv_iconst (v := 0) C.1 C.2.1 dX11_wordOf_322 (by decide) ?_
  refine x_calllS (As := [.int 111, .int 118, .int 101, .int 114, .int 0, .int 0, .int 0]) (rest := []) (wr := []) C hw e_spelt_12 mwX11_spelt kw1366 [] [] rfl rfl rfl rfl (by decide) rfl hl.1 rfl (Nat.le_of_ble_eq_true rfl) ⟨(Nat.le_of_ble_eq_true rfl), (Nat.le_of_ble_eq_true rfl)⟩ ⟨(Nat.le_of_ble_eq_true rfl), (Nat.le_of_ble_eq_true rfl)⟩ dX11_wordOf_323 (fun r1 u9 H locs hp9 hw => ?_)
  obtain ⟨rfl, rfl⟩ := hp9
  have hw : Wd G s A [] H _ := hw
  exact x_retlQ hQ B hw ⟨rfl, rfl⟩ (Nat.le_of_ble_eq_true rfl) (Nat.le_of_ble_eq_true rfl) dX11_wordOf_326
theorem dX11_spelt_104 : decode cX11_spelt 104 = .ok (.ldc2_w 54, 3) := by decide +kernel
theorem dX11_spelt_107 : decode cX11_spelt 107 = .ok (.lload 7, 2) := by decide +kernel
theorem dX11_spelt_109 : decode cX11_spelt 109 = .ok (.lmul, 1) := by decide +kernel
theorem dX11_spelt_110 : decode cX11_spelt 110 = .ok (.iload 6, 2) := by decide +kernel
theorem dX11_spelt_112 : decode cX11_spelt 112 = .ok (.i2l, 1) := by decide +kernel
theorem dX11_spelt_113 : decode cX11_spelt 113 = .ok (.ladd, 1) := by decide +kernel
theorem dX11_spelt_114 : decode cX11_spelt 114 = .ok (.ldc2_w 56, 3) := by decide +kernel
theorem dX11_spelt_117 : decode cX11_spelt 117 = .ok (.lsub, 1) := by decide +kernel
theorem dX11_spelt_118 : decode cX11_spelt 118 = .ok (.lstore 7, 2) := by decide +kernel
set_option maxHeartbeats 4000000 in
set_option maxRecDepth 100000 in
theorem e_spelt_13 {l : Launch} {G : Gc}   : Cl l yX11_spelt cX11_spelt 9 0 0 0 G [.int 115, .int 99, .int 114, .int 97, .int 116, .int 99, .int 104] [] (fun (r9 : Int64) (u9 : va_W) => r9 = 7413636302 ∧ u9 = []) := by
  refine Cl.ofQ (by decide) (Nat.le_of_ble_eq_true rfl) ?_
  intro p e s m below meth c ls A args Q hQ B hw hl
  have C : CallFix p m c cX11_spelt 9 s args gw "LanternStateModel" := B.1
  have hl : lv_has ls 9 [(0, .int 115), (1, .int 99), (2, .int 114), (3, .int 97), (4, .int 116), (5, .int 99), (6, .int 104)] := hl
  refine lv_ldc2 (v := 27) C.1 C.2.1 C.2.2.2.1 (C.2.2.2.2 _ kw1353) dX11_spelt_0 ?_
  refine lv_iload_n C.1 C.2.1 dX11_spelt_3 rfl (lv_at hl 0 rfl) ?_
  refine lv_i2l (v := 115) C.1 C.2.1 dX11_spelt_4 (by decide) ?_
  refine lv_ldc2 (v := 96) C.1 C.2.1 C.2.2.2.1 (C.2.2.2.2 _ kw1354) dX11_spelt_5 ?_
  refine lv_lsub C.1 C.2.1 dX11_spelt_8 ?_
  refine x_topl (z := 19) (by decide) ?_
  refine lv_lmul C.1 C.2.1 dX11_spelt_9 ?_
  refine x_topl (z := 513) (by decide) ?_
  refine lv_iload_n C.1 C.2.1 dX11_spelt_10 rfl (lv_at hl 1 rfl) ?_
  refine lv_i2l (v := 99) C.1 C.2.1 dX11_spelt_11 (by decide) ?_
  refine lv_ladd C.1 C.2.1 dX11_spelt_12 ?_
  refine x_topl (z := 612) (by decide) ?_
  refine lv_ldc2 (v := 96) C.1 C.2.1 C.2.2.2.1 (C.2.2.2.2 _ kw1354) dX11_spelt_13 ?_
  refine lv_lsub C.1 C.2.1 dX11_spelt_16 ?_
  refine x_topl (z := 516) (by decide) ?_
  refine lv_lstore (lv' := [(7, .long 516), (0, .int 115), (1, .int 99), (2, .int 114), (3, .int 97), (4, .int 116), (5, .int 99), (6, .int 104)]) C.1 C.2.1 dX11_spelt_17 hl (by decide) rfl (fun ls hl => ?_)
  refine lv_iload_n C.1 C.2.1 dX11_spelt_19 rfl (lv_at hl 3 rfl) ?_
  refine lv_if_le (tgt := 38) C.1 C.2.1 dX11_spelt_20 (by decide) (fun h9 => absurd h9 (by decide)) (fun _ => ?_)
  refine lv_ldc2 (v := 27) C.1 C.2.1 C.2.2.2.1 (C.2.2.2.2 _ kw1353) dX11_spelt_23 ?_
  refine lv_lload C.1 C.2.1 dX11_spelt_26 (lv_at hl 0 rfl) ?_
  refine lv_lmul C.1 C.2.1 dX11_spelt_28 ?_
  refine x_topl (z := 13932) (by decide) ?_
  refine lv_iload_n C.1 C.2.1 dX11_spelt_29 rfl (lv_at hl 3 rfl) ?_
  refine lv_i2l (v := 114) C.1 C.2.1 dX11_spelt_30 (by decide) ?_
  refine lv_ladd C.1 C.2.1 dX11_spelt_31 ?_
  refine x_topl (z := 14046) (by decide) ?_
  refine lv_ldc2 (v := 96) C.1 C.2.1 C.2.2.2.1 (C.2.2.2.2 _ kw1354) dX11_spelt_32 ?_
  refine lv_lsub C.1 C.2.1 dX11_spelt_35 ?_
  refine x_topl (z := 13950) (by decide) ?_
  refine lv_lstore (lv' := [(7, .long 13950), (0, .int 115), (1, .int 99), (2, .int 114), (3, .int 97), (4, .int 116), (5, .int 99), (6, .int 104)]) C.1 C.2.1 dX11_spelt_36 hl (by decide) rfl (fun ls hl => ?_)
  refine lv_iload_n C.1 C.2.1 dX11_spelt_38 rfl (lv_at hl 4 rfl) ?_
  refine lv_if_le (tgt := 57) C.1 C.2.1 dX11_spelt_39 (by decide) (fun h9 => absurd h9 (by decide)) (fun _ => ?_)
  refine lv_ldc2 (v := 27) C.1 C.2.1 C.2.2.2.1 (C.2.2.2.2 _ kw1353) dX11_spelt_42 ?_
  refine lv_lload C.1 C.2.1 dX11_spelt_45 (lv_at hl 0 rfl) ?_
  refine lv_lmul C.1 C.2.1 dX11_spelt_47 ?_
  refine x_topl (z := 376650) (by decide) ?_
  refine lv_iload_n C.1 C.2.1 dX11_spelt_48 rfl (lv_at hl 4 rfl) ?_
  refine lv_i2l (v := 97) C.1 C.2.1 dX11_spelt_49 (by decide) ?_
  refine lv_ladd C.1 C.2.1 dX11_spelt_50 ?_
  refine x_topl (z := 376747) (by decide) ?_
  refine lv_ldc2 (v := 96) C.1 C.2.1 C.2.2.2.1 (C.2.2.2.2 _ kw1354) dX11_spelt_51 ?_
  refine lv_lsub C.1 C.2.1 dX11_spelt_54 ?_
  refine x_topl (z := 376651) (by decide) ?_
  refine lv_lstore (lv' := [(7, .long 376651), (0, .int 115), (1, .int 99), (2, .int 114), (3, .int 97), (4, .int 116), (5, .int 99), (6, .int 104)]) C.1 C.2.1 dX11_spelt_55 hl (by decide) rfl (fun ls hl => ?_)
  refine lv_iload C.1 C.2.1 dX11_spelt_57 (lv_at hl 5 rfl) ?_
  refine lv_if_le (tgt := 78) C.1 C.2.1 dX11_spelt_59 (by decide) (fun h9 => absurd h9 (by decide)) (fun _ => ?_)
  refine lv_ldc2 (v := 27) C.1 C.2.1 C.2.2.2.1 (C.2.2.2.2 _ kw1353) dX11_spelt_62 ?_
  refine lv_lload C.1 C.2.1 dX11_spelt_65 (lv_at hl 0 rfl) ?_
  refine lv_lmul C.1 C.2.1 dX11_spelt_67 ?_
  refine x_topl (z := 10169577) (by decide) ?_
  refine lv_iload C.1 C.2.1 dX11_spelt_68 (lv_at hl 5 rfl) ?_
  refine lv_i2l (v := 116) C.1 C.2.1 dX11_spelt_70 (by decide) ?_
  refine lv_ladd C.1 C.2.1 dX11_spelt_71 ?_
  refine x_topl (z := 10169693) (by decide) ?_
  refine lv_ldc2 (v := 96) C.1 C.2.1 C.2.2.2.1 (C.2.2.2.2 _ kw1354) dX11_spelt_72 ?_
  refine lv_lsub C.1 C.2.1 dX11_spelt_75 ?_
  refine x_topl (z := 10169597) (by decide) ?_
  refine lv_lstore (lv' := [(7, .long 10169597), (0, .int 115), (1, .int 99), (2, .int 114), (3, .int 97), (4, .int 116), (5, .int 99), (6, .int 104)]) C.1 C.2.1 dX11_spelt_76 hl (by decide) rfl (fun ls hl => ?_)
  refine lv_iload C.1 C.2.1 dX11_spelt_78 (lv_at hl 6 rfl) ?_
  refine lv_if_le (tgt := 99) C.1 C.2.1 dX11_spelt_80 (by decide) (fun h9 => absurd h9 (by decide)) (fun _ => ?_)
  refine lv_ldc2 (v := 27) C.1 C.2.1 C.2.2.2.1 (C.2.2.2.2 _ kw1353) dX11_spelt_83 ?_
  refine lv_lload C.1 C.2.1 dX11_spelt_86 (lv_at hl 0 rfl) ?_
  refine lv_lmul C.1 C.2.1 dX11_spelt_88 ?_
  refine x_topl (z := 274579119) (by decide) ?_
  refine lv_iload C.1 C.2.1 dX11_spelt_89 (lv_at hl 6 rfl) ?_
  refine lv_i2l (v := 99) C.1 C.2.1 dX11_spelt_91 (by decide) ?_
  refine lv_ladd C.1 C.2.1 dX11_spelt_92 ?_
  refine x_topl (z := 274579218) (by decide) ?_
  refine lv_ldc2 (v := 96) C.1 C.2.1 C.2.2.2.1 (C.2.2.2.2 _ kw1354) dX11_spelt_93 ?_
  refine lv_lsub C.1 C.2.1 dX11_spelt_96 ?_
  refine x_topl (z := 274579122) (by decide) ?_
  refine lv_lstore (lv' := [(7, .long 274579122), (0, .int 115), (1, .int 99), (2, .int 114), (3, .int 97), (4, .int 116), (5, .int 99), (6, .int 104)]) C.1 C.2.1 dX11_spelt_97 hl (by decide) rfl (fun ls hl => ?_)
  refine lv_iload C.1 C.2.1 dX11_spelt_99 (lv_at hl 7 rfl) ?_
  refine lv_if_le (tgt := 120) C.1 C.2.1 dX11_spelt_101 (by decide) (fun h9 => absurd h9 (by decide)) (fun _ => ?_)
  refine lv_ldc2 (v := 27) C.1 C.2.1 C.2.2.2.1 (C.2.2.2.2 _ kw1353) dX11_spelt_104 ?_
  refine lv_lload C.1 C.2.1 dX11_spelt_107 (lv_at hl 0 rfl) ?_
  refine lv_lmul C.1 C.2.1 dX11_spelt_109 ?_
  refine x_topl (z := 7413636294) (by decide) ?_
  refine lv_iload C.1 C.2.1 dX11_spelt_110 (lv_at hl 7 rfl) ?_
  refine lv_i2l (v := 104) C.1 C.2.1 dX11_spelt_112 (by decide) ?_
  refine lv_ladd C.1 C.2.1 dX11_spelt_113 ?_
  refine x_topl (z := 7413636398) (by decide) ?_
  refine lv_ldc2 (v := 96) C.1 C.2.1 C.2.2.2.1 (C.2.2.2.2 _ kw1354) dX11_spelt_114 ?_
  refine lv_lsub C.1 C.2.1 dX11_spelt_117 ?_
  refine x_topl (z := 7413636302) (by decide) ?_
  refine lv_lstore (lv' := [(7, .long 7413636302), (0, .int 115), (1, .int 99), (2, .int 114), (3, .int 97), (4, .int 116), (5, .int 99), (6, .int 104)]) C.1 C.2.1 dX11_spelt_118 hl (by decide) rfl (fun ls hl => ?_)
  refine lv_lload C.1 C.2.1 dX11_spelt_120 (lv_at hl 0 rfl) ?_
  exact x_retlQ hQ B hw ⟨rfl, rfl⟩ (Nat.le_of_ble_eq_true rfl) (Nat.le_of_ble_eq_true rfl) dX11_spelt_122
theorem dX11_wordOf_327 : decode cX11_wordOf 327 = .ok (.bipush 115, 2) := by decide +kernel
theorem dX11_wordOf_329 : decode cX11_wordOf 329 = .ok (.bipush 99, 2) := by decide +kernel
theorem dX11_wordOf_331 : decode cX11_wordOf 331 = .ok (.bipush 114, 2) := by decide +kernel
theorem dX11_wordOf_333 : decode cX11_wordOf 333 = .ok (.bipush 97, 2) := by decide +kernel
theorem dX11_wordOf_335 : decode cX11_wordOf 335 = .ok (.bipush 116, 2) := by decide +kernel
theorem dX11_wordOf_337 : decode cX11_wordOf 337 = .ok (.bipush 99, 2) := by decide +kernel
theorem dX11_wordOf_339 : decode cX11_wordOf 339 = .ok (.bipush 104, 2) := by decide +kernel
theorem dX11_wordOf_341 : decode cX11_wordOf 341 = .ok (.invokestatic 58, 3) := by decide +kernel
theorem dX11_wordOf_344 : decode cX11_wordOf 344 = .ok (.lreturn, 1) := by decide +kernel
set_option maxHeartbeats 4000000 in
set_option maxRecDepth 100000 in
theorem e_wordOf_13 {l : Launch} {G : Gc}   : Cl l yX11_wordOf cX11_wordOf 1 1 0 0 G [.int 13] [] (fun (r9 : Int64) (u9 : va_W) => r9 = 7413636302 ∧ u9 = []) := by
  refine Cl.ofQ (by decide) (Nat.le_of_ble_eq_true rfl) ?_
  intro p e s m below meth c ls A args Q hQ B hw hl
  have C : CallFix p m c cX11_wordOf 1 s args gw "LanternStateModel" := B.1
  have hl : lv_has ls 1 [(0, .int 13)] := hl
  refine lv_iload_n C.1 C.2.1 dX11_wordOf_0 rfl (lv_at hl 0 rfl) ?_
  refine lv_tableIn (off := 326) (tgt := 327) C.1 C.2.1 dX11_wordOf_1 (by decide) (by decide) rfl (by decide) ?_
  refine lv_bipush (v := 115) C.1 C.2.1 dX11_wordOf_327 (by decide) ?_
  refine lv_bipush (v := 99) C.1 C.2.1 dX11_wordOf_329 (by decide) ?_
  refine lv_bipush (v := 114) C.1 C.2.1 dX11_wordOf_331 (by decide) ?_
  refine lv_bipush (v := 97) C.1 C.2.1 dX11_wordOf_333 (by decide) ?_
  refine lv_bipush (v := 116) C.1 C.2.1 dX11_wordOf_335 (by decide) ?_
  refine lv_bipush (v := 99) C.1 C.2.1 dX11_wordOf_337 (by decide) ?_
  refine lv_bipush (v := 104) C.1 C.2.1 dX11_wordOf_339 (by decide) ?_
  refine x_calllS (As := [.int 115, .int 99, .int 114, .int 97, .int 116, .int 99, .int 104]) (rest := []) (wr := []) C hw e_spelt_13 mwX11_spelt kw1366 [] [] rfl rfl rfl rfl (by decide) rfl hl.1 rfl (Nat.le_of_ble_eq_true rfl) ⟨(Nat.le_of_ble_eq_true rfl), (Nat.le_of_ble_eq_true rfl)⟩ ⟨(Nat.le_of_ble_eq_true rfl), (Nat.le_of_ble_eq_true rfl)⟩ dX11_wordOf_341 (fun r1 u9 H locs hp9 hw => ?_)
  obtain ⟨rfl, rfl⟩ := hp9
  have hw : Wd G s A [] H _ := hw
  exact x_retlQ hQ B hw ⟨rfl, rfl⟩ (Nat.le_of_ble_eq_true rfl) (Nat.le_of_ble_eq_true rfl) dX11_wordOf_344
set_option maxHeartbeats 4000000 in
set_option maxRecDepth 100000 in
theorem e_spelt_14 {l : Launch} {G : Gc}   : Cl l yX11_spelt cX11_spelt 9 0 0 0 G [.int 115, .int 105, .int 116, .int 115, .int 0, .int 0, .int 0] [] (fun (r9 : Int64) (u9 : va_W) => r9 = 381097 ∧ u9 = []) := by
  refine Cl.ofQ (by decide) (Nat.le_of_ble_eq_true rfl) ?_
  intro p e s m below meth c ls A args Q hQ B hw hl
  have C : CallFix p m c cX11_spelt 9 s args gw "LanternStateModel" := B.1
  have hl : lv_has ls 9 [(0, .int 115), (1, .int 105), (2, .int 116), (3, .int 115), (4, .int 0), (5, .int 0), (6, .int 0)] := hl
  refine lv_ldc2 (v := 27) C.1 C.2.1 C.2.2.2.1 (C.2.2.2.2 _ kw1353) dX11_spelt_0 ?_
  refine lv_iload_n C.1 C.2.1 dX11_spelt_3 rfl (lv_at hl 0 rfl) ?_
  refine lv_i2l (v := 115) C.1 C.2.1 dX11_spelt_4 (by decide) ?_
  refine lv_ldc2 (v := 96) C.1 C.2.1 C.2.2.2.1 (C.2.2.2.2 _ kw1354) dX11_spelt_5 ?_
  refine lv_lsub C.1 C.2.1 dX11_spelt_8 ?_
  refine x_topl (z := 19) (by decide) ?_
  refine lv_lmul C.1 C.2.1 dX11_spelt_9 ?_
  refine x_topl (z := 513) (by decide) ?_
  refine lv_iload_n C.1 C.2.1 dX11_spelt_10 rfl (lv_at hl 1 rfl) ?_
  refine lv_i2l (v := 105) C.1 C.2.1 dX11_spelt_11 (by decide) ?_
  refine lv_ladd C.1 C.2.1 dX11_spelt_12 ?_
  refine x_topl (z := 618) (by decide) ?_
  refine lv_ldc2 (v := 96) C.1 C.2.1 C.2.2.2.1 (C.2.2.2.2 _ kw1354) dX11_spelt_13 ?_
  refine lv_lsub C.1 C.2.1 dX11_spelt_16 ?_
  refine x_topl (z := 522) (by decide) ?_
  refine lv_lstore (lv' := [(7, .long 522), (0, .int 115), (1, .int 105), (2, .int 116), (3, .int 115), (4, .int 0), (5, .int 0), (6, .int 0)]) C.1 C.2.1 dX11_spelt_17 hl (by decide) rfl (fun ls hl => ?_)
  refine lv_iload_n C.1 C.2.1 dX11_spelt_19 rfl (lv_at hl 3 rfl) ?_
  refine lv_if_le (tgt := 38) C.1 C.2.1 dX11_spelt_20 (by decide) (fun h9 => absurd h9 (by decide)) (fun _ => ?_)
  refine lv_ldc2 (v := 27) C.1 C.2.1 C.2.2.2.1 (C.2.2.2.2 _ kw1353) dX11_spelt_23 ?_
  refine lv_lload C.1 C.2.1 dX11_spelt_26 (lv_at hl 0 rfl) ?_
  refine lv_lmul C.1 C.2.1 dX11_spelt_28 ?_
  refine x_topl (z := 14094) (by decide) ?_
  refine lv_iload_n C.1 C.2.1 dX11_spelt_29 rfl (lv_at hl 3 rfl) ?_
  refine lv_i2l (v := 116) C.1 C.2.1 dX11_spelt_30 (by decide) ?_
  refine lv_ladd C.1 C.2.1 dX11_spelt_31 ?_
  refine x_topl (z := 14210) (by decide) ?_
  refine lv_ldc2 (v := 96) C.1 C.2.1 C.2.2.2.1 (C.2.2.2.2 _ kw1354) dX11_spelt_32 ?_
  refine lv_lsub C.1 C.2.1 dX11_spelt_35 ?_
  refine x_topl (z := 14114) (by decide) ?_
  refine lv_lstore (lv' := [(7, .long 14114), (0, .int 115), (1, .int 105), (2, .int 116), (3, .int 115), (4, .int 0), (5, .int 0), (6, .int 0)]) C.1 C.2.1 dX11_spelt_36 hl (by decide) rfl (fun ls hl => ?_)
  refine lv_iload_n C.1 C.2.1 dX11_spelt_38 rfl (lv_at hl 4 rfl) ?_
  refine lv_if_le (tgt := 57) C.1 C.2.1 dX11_spelt_39 (by decide) (fun h9 => absurd h9 (by decide)) (fun _ => ?_)
  refine lv_ldc2 (v := 27) C.1 C.2.1 C.2.2.2.1 (C.2.2.2.2 _ kw1353) dX11_spelt_42 ?_
  refine lv_lload C.1 C.2.1 dX11_spelt_45 (lv_at hl 0 rfl) ?_
  refine lv_lmul C.1 C.2.1 dX11_spelt_47 ?_
  refine x_topl (z := 381078) (by decide) ?_
  refine lv_iload_n C.1 C.2.1 dX11_spelt_48 rfl (lv_at hl 4 rfl) ?_
  refine lv_i2l (v := 115) C.1 C.2.1 dX11_spelt_49 (by decide) ?_
  refine lv_ladd C.1 C.2.1 dX11_spelt_50 ?_
  refine x_topl (z := 381193) (by decide) ?_
  refine lv_ldc2 (v := 96) C.1 C.2.1 C.2.2.2.1 (C.2.2.2.2 _ kw1354) dX11_spelt_51 ?_
  refine lv_lsub C.1 C.2.1 dX11_spelt_54 ?_
  refine x_topl (z := 381097) (by decide) ?_
  refine lv_lstore (lv' := [(7, .long 381097), (0, .int 115), (1, .int 105), (2, .int 116), (3, .int 115), (4, .int 0), (5, .int 0), (6, .int 0)]) C.1 C.2.1 dX11_spelt_55 hl (by decide) rfl (fun ls hl => ?_)
  refine lv_iload C.1 C.2.1 dX11_spelt_57 (lv_at hl 5 rfl) ?_
  refine lv_if_le (tgt := 78) C.1 C.2.1 dX11_spelt_59 (by decide) (fun _ => ?_) (fun h9 => absurd (by decide) h9)
  refine lv_iload C.1 C.2.1 dX11_spelt_78 (lv_at hl 6 rfl) ?_
  refine lv_if_le (tgt := 99) C.1 C.2.1 dX11_spelt_80 (by decide) (fun _ => ?_) (fun h9 => absurd (by decide) h9)
  refine lv_iload C.1 C.2.1 dX11_spelt_99 (lv_at hl 7 rfl) ?_
  refine lv_if_le (tgt := 120) C.1 C.2.1 dX11_spelt_101 (by decide) (fun _ => ?_) (fun h9 => absurd (by decide) h9)
  refine lv_lload C.1 C.2.1 dX11_spelt_120 (lv_at hl 0 rfl) ?_
  exact x_retlQ hQ B hw ⟨rfl, rfl⟩ (Nat.le_of_ble_eq_true rfl) (Nat.le_of_ble_eq_true rfl) dX11_spelt_122
theorem dX11_wordOf_345 : decode cX11_wordOf 345 = .ok (.bipush 115, 2) := by decide +kernel
theorem dX11_wordOf_347 : decode cX11_wordOf 347 = .ok (.bipush 105, 2) := by decide +kernel
theorem dX11_wordOf_349 : decode cX11_wordOf 349 = .ok (.bipush 116, 2) := by decide +kernel
theorem dX11_wordOf_351 : decode cX11_wordOf 351 = .ok (.bipush 115, 2) := by decide +kernel
theorem dX11_wordOf_353 : decode cX11_wordOf 353 = .ok (.iconst 0, 1) := by decide +kernel
theorem dX11_wordOf_354 : decode cX11_wordOf 354 = .ok (.iconst 0, 1) := by decide +kernel
theorem dX11_wordOf_355 : decode cX11_wordOf 355 = .ok (.iconst 0, 1) := by decide +kernel
theorem dX11_wordOf_356 : decode cX11_wordOf 356 = .ok (.invokestatic 58, 3) := by decide +kernel
theorem dX11_wordOf_359 : decode cX11_wordOf 359 = .ok (.lreturn, 1) := by decide +kernel
set_option maxHeartbeats 4000000 in
set_option maxRecDepth 100000 in
theorem e_wordOf_14 {l : Launch} {G : Gc}   : Cl l yX11_wordOf cX11_wordOf 1 1 0 0 G [.int 14] [] (fun (r9 : Int64) (u9 : va_W) => r9 = 381097 ∧ u9 = []) := by
  refine Cl.ofQ (by decide) (Nat.le_of_ble_eq_true rfl) ?_
  intro p e s m below meth c ls A args Q hQ B hw hl
  have C : CallFix p m c cX11_wordOf 1 s args gw "LanternStateModel" := B.1
  have hl : lv_has ls 1 [(0, .int 14)] := hl
  refine lv_iload_n C.1 C.2.1 dX11_wordOf_0 rfl (lv_at hl 0 rfl) ?_
  refine lv_tableIn (off := 344) (tgt := 345) C.1 C.2.1 dX11_wordOf_1 (by decide) (by decide) rfl (by decide) ?_
  refine lv_bipush (v := 115) C.1 C.2.1 dX11_wordOf_345 (by decide) ?_
  refine lv_bipush (v := 105) C.1 C.2.1 dX11_wordOf_347 (by decide) ?_
  refine lv_bipush (v := 116) C.1 C.2.1 dX11_wordOf_349 (by decide) ?_
  refine lv_bipush (v := 115) C.1 C.2.1 dX11_wordOf_351 (by decide) ?_
  refine lv_iconst (v := 0) C.1 C.2.1 dX11_wordOf_353 (by decide) ?_
  refine lv_iconst (v := 0) C.1 C.2.1 dX11_wordOf_354 (by decide) ?_
  refine lv_iconst (v := 0) C.1 C.2.1 dX11_wordOf_355 (by decide) ?_
  refine x_calllS (As := [.int 115, .int 105, .int 116, .int 115, .int 0, .int 0, .int 0]) (rest := []) (wr := []) C hw e_spelt_14 mwX11_spelt kw1366 [] [] rfl rfl rfl rfl (by decide) rfl hl.1 rfl (Nat.le_of_ble_eq_true rfl) ⟨(Nat.le_of_ble_eq_true rfl), (Nat.le_of_ble_eq_true rfl)⟩ ⟨(Nat.le_of_ble_eq_true rfl), (Nat.le_of_ble_eq_true rfl)⟩ dX11_wordOf_356 (fun r1 u9 H locs hp9 hw => ?_)
  obtain ⟨rfl, rfl⟩ := hp9
  have hw : Wd G s A [] H _ := hw
  exact x_retlQ hQ B hw ⟨rfl, rfl⟩ (Nat.le_of_ble_eq_true rfl) (Nat.le_of_ble_eq_true rfl) dX11_wordOf_359
set_option maxHeartbeats 4000000 in
set_option maxRecDepth 100000 in
theorem e_spelt_15 {l : Launch} {G : Gc}   : Cl l yX11_spelt cX11_spelt 9 0 0 0 G [.int 104, .int 111, .int 117, .int 114, .int 0, .int 0, .int 0] [] (fun (r9 : Int64) (u9 : va_W) => r9 = 168984 ∧ u9 = []) := by
  refine Cl.ofQ (by decide) (Nat.le_of_ble_eq_true rfl) ?_
  intro p e s m below meth c ls A args Q hQ B hw hl
  have C : CallFix p m c cX11_spelt 9 s args gw "LanternStateModel" := B.1
  have hl : lv_has ls 9 [(0, .int 104), (1, .int 111), (2, .int 117), (3, .int 114), (4, .int 0), (5, .int 0), (6, .int 0)] := hl
  refine lv_ldc2 (v := 27) C.1 C.2.1 C.2.2.2.1 (C.2.2.2.2 _ kw1353) dX11_spelt_0 ?_
  refine lv_iload_n C.1 C.2.1 dX11_spelt_3 rfl (lv_at hl 0 rfl) ?_
  refine lv_i2l (v := 104) C.1 C.2.1 dX11_spelt_4 (by decide) ?_
  refine lv_ldc2 (v := 96) C.1 C.2.1 C.2.2.2.1 (C.2.2.2.2 _ kw1354) dX11_spelt_5 ?_
  refine lv_lsub C.1 C.2.1 dX11_spelt_8 ?_
  refine x_topl (z := 8) (by decide) ?_
  refine lv_lmul C.1 C.2.1 dX11_spelt_9 ?_
  refine x_topl (z := 216) (by decide) ?_
  refine lv_iload_n C.1 C.2.1 dX11_spelt_10 rfl (lv_at hl 1 rfl) ?_
  refine lv_i2l (v := 111) C.1 C.2.1 dX11_spelt_11 (by decide) ?_
  refine lv_ladd C.1 C.2.1 dX11_spelt_12 ?_
  refine x_topl (z := 327) (by decide) ?_
  refine lv_ldc2 (v := 96) C.1 C.2.1 C.2.2.2.1 (C.2.2.2.2 _ kw1354) dX11_spelt_13 ?_
  refine lv_lsub C.1 C.2.1 dX11_spelt_16 ?_
  refine x_topl (z := 231) (by decide) ?_
  refine lv_lstore (lv' := [(7, .long 231), (0, .int 104), (1, .int 111), (2, .int 117), (3, .int 114), (4, .int 0), (5, .int 0), (6, .int 0)]) C.1 C.2.1 dX11_spelt_17 hl (by decide) rfl (fun ls hl => ?_)
  refine lv_iload_n C.1 C.2.1 dX11_spelt_19 rfl (lv_at hl 3 rfl) ?_
  refine lv_if_le (tgt := 38) C.1 C.2.1 dX11_spelt_20 (by decide) (fun h9 => absurd h9 (by decide)) (fun _ => ?_)
  refine lv_ldc2 (v := 27) C.1 C.2.1 C.2.2.2.1 (C.2.2.2.2 _ kw1353) dX11_spelt_23 ?_
  refine lv_lload C.1 C.2.1 dX11_spelt_26 (lv_at hl 0 rfl) ?_
  refine lv_lmul C.1 C.2.1 dX11_spelt_28 ?_
  refine x_topl (z := 6237) (by decide) ?_
  refine lv_iload_n C.1 C.2.1 dX11_spelt_29 rfl (lv_at hl 3 rfl) ?_
  refine lv_i2l (v := 117) C.1 C.2.1 dX11_spelt_30 (by decide) ?_
  refine lv_ladd C.1 C.2.1 dX11_spelt_31 ?_
  refine x_topl (z := 6354) (by decide) ?_
  refine lv_ldc2 (v := 96) C.1 C.2.1 C.2.2.2.1 (C.2.2.2.2 _ kw1354) dX11_spelt_32 ?_
  refine lv_lsub C.1 C.2.1 dX11_spelt_35 ?_
  refine x_topl (z := 6258) (by decide) ?_
  refine lv_lstore (lv' := [(7, .long 6258), (0, .int 104), (1, .int 111), (2, .int 117), (3, .int 114), (4, .int 0), (5, .int 0), (6, .int 0)]) C.1 C.2.1 dX11_spelt_36 hl (by decide) rfl (fun ls hl => ?_)
  refine lv_iload_n C.1 C.2.1 dX11_spelt_38 rfl (lv_at hl 4 rfl) ?_
  refine lv_if_le (tgt := 57) C.1 C.2.1 dX11_spelt_39 (by decide) (fun h9 => absurd h9 (by decide)) (fun _ => ?_)
  refine lv_ldc2 (v := 27) C.1 C.2.1 C.2.2.2.1 (C.2.2.2.2 _ kw1353) dX11_spelt_42 ?_
  refine lv_lload C.1 C.2.1 dX11_spelt_45 (lv_at hl 0 rfl) ?_
  refine lv_lmul C.1 C.2.1 dX11_spelt_47 ?_
  refine x_topl (z := 168966) (by decide) ?_
  refine lv_iload_n C.1 C.2.1 dX11_spelt_48 rfl (lv_at hl 4 rfl) ?_
  refine lv_i2l (v := 114) C.1 C.2.1 dX11_spelt_49 (by decide) ?_
  refine lv_ladd C.1 C.2.1 dX11_spelt_50 ?_
  refine x_topl (z := 169080) (by decide) ?_
  refine lv_ldc2 (v := 96) C.1 C.2.1 C.2.2.2.1 (C.2.2.2.2 _ kw1354) dX11_spelt_51 ?_
  refine lv_lsub C.1 C.2.1 dX11_spelt_54 ?_
  refine x_topl (z := 168984) (by decide) ?_
  refine lv_lstore (lv' := [(7, .long 168984), (0, .int 104), (1, .int 111), (2, .int 117), (3, .int 114), (4, .int 0), (5, .int 0), (6, .int 0)]) C.1 C.2.1 dX11_spelt_55 hl (by decide) rfl (fun ls hl => ?_)
  refine lv_iload C.1 C.2.1 dX11_spelt_57 (lv_at hl 5 rfl) ?_
  refine lv_if_le (tgt := 78) C.1 C.2.1 dX11_spelt_59 (by decide) (fun _ => ?_) (fun h9 => absurd (by decide) h9)
  refine lv_iload C.1 C.2.1 dX11_spelt_78 (lv_at hl 6 rfl) ?_
  refine lv_if_le (tgt := 99) C.1 C.2.1 dX11_spelt_80 (by decide) (fun _ => ?_) (fun h9 => absurd (by decide) h9)
  refine lv_iload C.1 C.2.1 dX11_spelt_99 (lv_at hl 7 rfl) ?_
  refine lv_if_le (tgt := 120) C.1 C.2.1 dX11_spelt_101 (by decide) (fun _ => ?_) (fun h9 => absurd (by decide) h9)
  refine lv_lload C.1 C.2.1 dX11_spelt_120 (lv_at hl 0 rfl) ?_
  exact x_retlQ hQ B hw ⟨rfl, rfl⟩ (Nat.le_of_ble_eq_true rfl) (Nat.le_of_ble_eq_true rfl) dX11_spelt_122
theorem dX11_wordOf_360 : decode cX11_wordOf 360 = .ok (.bipush 104, 2) := by decide +kernel
theorem dX11_wordOf_362 : decode cX11_wordOf 362 = .ok (.bipush 111, 2) := by decide +kernel
theorem dX11_wordOf_364 : decode cX11_wordOf 364 = .ok (.bipush 117, 2) := by decide +kernel
theorem dX11_wordOf_366 : decode cX11_wordOf 366 = .ok (.bipush 114, 2) := by decide +kernel
theorem dX11_wordOf_368 : decode cX11_wordOf 368 = .ok (.iconst 0, 1) := by decide +kernel
theorem dX11_wordOf_369 : decode cX11_wordOf 369 = .ok (.iconst 0, 1) := by decide +kernel
theorem dX11_wordOf_370 : decode cX11_wordOf 370 = .ok (.iconst 0, 1) := by decide +kernel
theorem dX11_wordOf_371 : decode cX11_wordOf 371 = .ok (.invokestatic 58, 3) := by decide +kernel
theorem dX11_wordOf_374 : decode cX11_wordOf 374 = .ok (.lreturn, 1) := by decide +kernel
set_option maxHeartbeats 4000000 in
set_option maxRecDepth 100000 in
theorem e_wordOf_15 {l : Launch} {G : Gc}   : Cl l yX11_wordOf cX11_wordOf 1 1 0 0 G [.int 15] [] (fun (r9 : Int64) (u9 : va_W) => r9 = 168984 ∧ u9 = []) := by
  refine Cl.ofQ (by decide) (Nat.le_of_ble_eq_true rfl) ?_
  intro p e s m below meth c ls A args Q hQ B hw hl
  have C : CallFix p m c cX11_wordOf 1 s args gw "LanternStateModel" := B.1
  have hl : lv_has ls 1 [(0, .int 15)] := hl
  refine lv_iload_n C.1 C.2.1 dX11_wordOf_0 rfl (lv_at hl 0 rfl) ?_
  refine lv_tableIn (off := 359) (tgt := 360) C.1 C.2.1 dX11_wordOf_1 (by decide) (by decide) rfl (by decide) ?_
  refine lv_bipush (v := 104) C.1 C.2.1 dX11_wordOf_360 (by decide) ?_
  refine lv_bipush (v := 111) C.1 C.2.1 dX11_wordOf_362 (by decide) ?_
  refine lv_bipush (v := 117) C.1 C.2.1 dX11_wordOf_364 (by decide) ?_
  refine lv_bipush (v := 114) C.1 C.2.1 dX11_wordOf_366 (by decide) ?_
  refine lv_iconst (v := 0) C.1 C.2.1 dX11_wordOf_368 (by decide) ?_
  refine lv_iconst (v := 0) C.1 C.2.1 dX11_wordOf_369 (by decide) ?_
  refine lv_iconst (v := 0) C.1 C.2.1 dX11_wordOf_370 (by decide) ?_
  refine x_calllS (As := [.int 104, .int 111, .int 117, .int 114, .int 0, .int 0, .int 0]) (rest := []) (wr := []) C hw e_spelt_15 mwX11_spelt kw1366 [] [] rfl rfl rfl rfl (by decide) rfl hl.1 rfl (Nat.le_of_ble_eq_true rfl) ⟨(Nat.le_of_ble_eq_true rfl), (Nat.le_of_ble_eq_true rfl)⟩ ⟨(Nat.le_of_ble_eq_true rfl), (Nat.le_of_ble_eq_true rfl)⟩ dX11_wordOf_371 (fun r1 u9 H locs hp9 hw => ?_)
  obtain ⟨rfl, rfl⟩ := hp9
  have hw : Wd G s A [] H _ := hw
  exact x_retlQ hQ B hw ⟨rfl, rfl⟩ (Nat.le_of_ble_eq_true rfl) (Nat.le_of_ble_eq_true rfl) dX11_wordOf_374
set_option maxHeartbeats 4000000 in
set_option maxRecDepth 100000 in
theorem e_spelt_16 {l : Launch} {G : Gc}   : Cl l yX11_spelt cX11_spelt 9 0 0 0 G [.int 111, .int 114, .int 0, .int 0, .int 0, .int 0, .int 0] [] (fun (r9 : Int64) (u9 : va_W) => r9 = 423 ∧ u9 = []) := by
  refine Cl.ofQ (by decide) (Nat.le_of_ble_eq_true rfl) ?_
  intro p e s m below meth c ls A args Q hQ B hw hl
  have C : CallFix p m c cX11_spelt 9 s args gw "LanternStateModel" := B.1
  have hl : lv_has ls 9 [(0, .int 111), (1, .int 114), (2, .int 0), (3, .int 0), (4, .int 0), (5, .int 0), (6, .int 0)] := hl
  refine lv_ldc2 (v := 27) C.1 C.2.1 C.2.2.2.1 (C.2.2.2.2 _ kw1353) dX11_spelt_0 ?_
  refine lv_iload_n C.1 C.2.1 dX11_spelt_3 rfl (lv_at hl 0 rfl) ?_
  refine lv_i2l (v := 111) C.1 C.2.1 dX11_spelt_4 (by decide) ?_
  refine lv_ldc2 (v := 96) C.1 C.2.1 C.2.2.2.1 (C.2.2.2.2 _ kw1354) dX11_spelt_5 ?_
  refine lv_lsub C.1 C.2.1 dX11_spelt_8 ?_
  refine x_topl (z := 15) (by decide) ?_
  refine lv_lmul C.1 C.2.1 dX11_spelt_9 ?_
  refine x_topl (z := 405) (by decide) ?_
  refine lv_iload_n C.1 C.2.1 dX11_spelt_10 rfl (lv_at hl 1 rfl) ?_
  refine lv_i2l (v := 114) C.1 C.2.1 dX11_spelt_11 (by decide) ?_
  refine lv_ladd C.1 C.2.1 dX11_spelt_12 ?_
  refine x_topl (z := 519) (by decide) ?_
  refine lv_ldc2 (v := 96) C.1 C.2.1 C.2.2.2.1 (C.2.2.2.2 _ kw1354) dX11_spelt_13 ?_
  refine lv_lsub C.1 C.2.1 dX11_spelt_16 ?_
  refine x_topl (z := 423) (by decide) ?_
  refine lv_lstore (lv' := [(7, .long 423), (0, .int 111), (1, .int 114), (2, .int 0), (3, .int 0), (4, .int 0), (5, .int 0), (6, .int 0)]) C.1 C.2.1 dX11_spelt_17 hl (by decide) rfl (fun ls hl => ?_)
  refine lv_iload_n C.1 C.2.1 dX11_spelt_19 rfl (lv_at hl 3 rfl) ?_
  refine lv_if_le (tgt := 38) C.1 C.2.1 dX11_spelt_20 (by decide) (fun _ => ?_) (fun h9 => absurd (by decide) h9)
  refine lv_iload_n C.1 C.2.1 dX11_spelt_38 rfl (lv_at hl 4 rfl) ?_
  refine lv_if_le (tgt := 57) C.1 C.2.1 dX11_spelt_39 (by decide) (fun _ => ?_) (fun h9 => absurd (by decide) h9)
  refine lv_iload C.1 C.2.1 dX11_spelt_57 (lv_at hl 5 rfl) ?_
  refine lv_if_le (tgt := 78) C.1 C.2.1 dX11_spelt_59 (by decide) (fun _ => ?_) (fun h9 => absurd (by decide) h9)
  refine lv_iload C.1 C.2.1 dX11_spelt_78 (lv_at hl 6 rfl) ?_
  refine lv_if_le (tgt := 99) C.1 C.2.1 dX11_spelt_80 (by decide) (fun _ => ?_) (fun h9 => absurd (by decide) h9)
  refine lv_iload C.1 C.2.1 dX11_spelt_99 (lv_at hl 7 rfl) ?_
  refine lv_if_le (tgt := 120) C.1 C.2.1 dX11_spelt_101 (by decide) (fun _ => ?_) (fun h9 => absurd (by decide) h9)
  refine lv_lload C.1 C.2.1 dX11_spelt_120 (lv_at hl 0 rfl) ?_
  exact x_retlQ hQ B hw ⟨rfl, rfl⟩ (Nat.le_of_ble_eq_true rfl) (Nat.le_of_ble_eq_true rfl) dX11_spelt_122
theorem dX11_wordOf_375 : decode cX11_wordOf 375 = .ok (.bipush 111, 2) := by decide +kernel
theorem dX11_wordOf_377 : decode cX11_wordOf 377 = .ok (.bipush 114, 2) := by decide +kernel
theorem dX11_wordOf_379 : decode cX11_wordOf 379 = .ok (.iconst 0, 1) := by decide +kernel
theorem dX11_wordOf_380 : decode cX11_wordOf 380 = .ok (.iconst 0, 1) := by decide +kernel
theorem dX11_wordOf_381 : decode cX11_wordOf 381 = .ok (.iconst 0, 1) := by decide +kernel
theorem dX11_wordOf_382 : decode cX11_wordOf 382 = .ok (.iconst 0, 1) := by decide +kernel
theorem dX11_wordOf_383 : decode cX11_wordOf 383 = .ok (.iconst 0, 1) := by decide +kernel
theorem dX11_wordOf_384 : decode cX11_wordOf 384 = .ok (.invokestatic 58, 3) := by decide +kernel
theorem dX11_wordOf_387 : decode cX11_wordOf 387 = .ok (.lreturn, 1) := by decide +kernel
set_option maxHeartbeats 4000000 in
set_option maxRecDepth 100000 in
theorem e_wordOf_16 {l : Launch} {G : Gc}   : Cl l yX11_wordOf cX11_wordOf 1 1 0 0 G [.int 16] [] (fun (r9 : Int64) (u9 : va_W) => r9 = 423 ∧ u9 = []) := by
  refine Cl.ofQ (by decide) (Nat.le_of_ble_eq_true rfl) ?_
  intro p e s m below meth c ls A args Q hQ B hw hl
  have C : CallFix p m c cX11_wordOf 1 s args gw "LanternStateModel" := B.1
  have hl : lv_has ls 1 [(0, .int 16)] := hl
  refine lv_iload_n C.1 C.2.1 dX11_wordOf_0 rfl (lv_at hl 0 rfl) ?_
  refine lv_tableIn (off := 374) (tgt := 375) C.1 C.2.1 dX11_wordOf_1 (by decide) (by decide) rfl (by decide) ?_
  refine lv_bipush (v := 111) C.1 C.2.1 dX11_wordOf_375 (by decide) ?_
  refine lv_bipush (v := 114) C.1 C.2.1 dX11_wordOf_377 (by decide) ?_
  refine lv_iconst (v := 0) C.1 C.2.1 dX11_wordOf_379 (by decide) ?_
  refine lv_iconst (v := 0) C.1 C.2.1 dX11_wordOf_380 (by decide) ?_
  refine lv_iconst (v := 0) C.1 C.2.1 dX11_wordOf_381 (by decide) ?_
  refine lv_iconst (v := 0) C.1 C.2.1 dX11_wordOf_382 (by decide) ?_
  refine lv_iconst (v := 0) C.1 C.2.1 dX11_wordOf_383 (by decide) ?_
  refine x_calllS (As := [.int 111, .int 114, .int 0, .int 0, .int 0, .int 0, .int 0]) (rest := []) (wr := []) C hw e_spelt_16 mwX11_spelt kw1366 [] [] rfl rfl rfl rfl (by decide) rfl hl.1 rfl (Nat.le_of_ble_eq_true rfl) ⟨(Nat.le_of_ble_eq_true rfl), (Nat.le_of_ble_eq_true rfl)⟩ ⟨(Nat.le_of_ble_eq_true rfl), (Nat.le_of_ble_eq_true rfl)⟩ dX11_wordOf_384 (fun r1 u9 H locs hp9 hw => ?_)
  obtain ⟨rfl, rfl⟩ := hp9
  have hw : Wd G s A [] H _ := hw
  exact x_retlQ hQ B hw ⟨rfl, rfl⟩ (Nat.le_of_ble_eq_true rfl) (Nat.le_of_ble_eq_true rfl) dX11_wordOf_387
set_option maxHeartbeats 4000000 in
set_option maxRecDepth 100000 in
theorem e_spelt_17 {l : Launch} {G : Gc}   : Cl l yX11_spelt cX11_spelt 9 0 0 0 G [.int 97, .int 110, .int 100, .int 0, .int 0, .int 0, .int 0] [] (fun (r9 : Int64) (u9 : va_W) => r9 = 1111 ∧ u9 = []) := by
  refine Cl.ofQ (by decide) (Nat.le_of_ble_eq_true rfl) ?_
  intro p e s m below meth c ls A args Q hQ B hw hl
  have C : CallFix p m c cX11_spelt 9 s args gw "LanternStateModel" := B.1
  have hl : lv_has ls 9 [(0, .int 97), (1, .int 110), (2, .int 100), (3, .int 0), (4, .int 0), (5, .int 0), (6, .int 0)] := hl
  refine lv_ldc2 (v := 27) C.1 C.2.1 C.2.2.2.1 (C.2.2.2.2 _ kw1353) dX11_spelt_0 ?_
  refine lv_iload_n C.1 C.2.1 dX11_spelt_3 rfl (lv_at hl 0 rfl) ?_
  refine lv_i2l (v := 97) C.1 C.2.1 dX11_spelt_4 (by decide) ?_
  refine lv_ldc2 (v := 96) C.1 C.2.1 C.2.2.2.1 (C.2.2.2.2 _ kw1354) dX11_spelt_5 ?_
  refine lv_lsub C.1 C.2.1 dX11_spelt_8 ?_
  refine x_topl (z := 1) (by decide) ?_
  refine lv_lmul C.1 C.2.1 dX11_spelt_9 ?_
  refine x_topl (z := 27) (by decide) ?_
  refine lv_iload_n C.1 C.2.1 dX11_spelt_10 rfl (lv_at hl 1 rfl) ?_
  refine lv_i2l (v := 110) C.1 C.2.1 dX11_spelt_11 (by decide) ?_
  refine lv_ladd C.1 C.2.1 dX11_spelt_12 ?_
  refine x_topl (z := 137) (by decide) ?_
  refine lv_ldc2 (v := 96) C.1 C.2.1 C.2.2.2.1 (C.2.2.2.2 _ kw1354) dX11_spelt_13 ?_
  refine lv_lsub C.1 C.2.1 dX11_spelt_16 ?_
  refine x_topl (z := 41) (by decide) ?_
  refine lv_lstore (lv' := [(7, .long 41), (0, .int 97), (1, .int 110), (2, .int 100), (3, .int 0), (4, .int 0), (5, .int 0), (6, .int 0)]) C.1 C.2.1 dX11_spelt_17 hl (by decide) rfl (fun ls hl => ?_)
  refine lv_iload_n C.1 C.2.1 dX11_spelt_19 rfl (lv_at hl 3 rfl) ?_
  refine lv_if_le (tgt := 38) C.1 C.2.1 dX11_spelt_20 (by decide) (fun h9 => absurd h9 (by decide)) (fun _ => ?_)
  refine lv_ldc2 (v := 27) C.1 C.2.1 C.2.2.2.1 (C.2.2.2.2 _ kw1353) dX11_spelt_23 ?_
  refine lv_lload C.1 C.2.1 dX11_spelt_26 (lv_at hl 0 rfl) ?_
  refine lv_lmul C.1 C.2.1 dX11_spelt_28 ?_
  refine x_topl (z := 1107) (by decide) ?_
  refine lv_iload_n C.1 C.2.1 dX11_spelt_29 rfl (lv_at hl 3 rfl) ?_
  refine lv_i2l (v := 100) C.1 C.2.1 dX11_spelt_30 (by decide) ?_
  refine lv_ladd C.1 C.2.1 dX11_spelt_31 ?_
  refine x_topl (z := 1207) (by decide) ?_
  refine lv_ldc2 (v := 96) C.1 C.2.1 C.2.2.2.1 (C.2.2.2.2 _ kw1354) dX11_spelt_32 ?_
  refine lv_lsub C.1 C.2.1 dX11_spelt_35 ?_
  refine x_topl (z := 1111) (by decide) ?_
  refine lv_lstore (lv' := [(7, .long 1111), (0, .int 97), (1, .int 110), (2, .int 100), (3, .int 0), (4, .int 0), (5, .int 0), (6, .int 0)]) C.1 C.2.1 dX11_spelt_36 hl (by decide) rfl (fun ls hl => ?_)
  refine lv_iload_n C.1 C.2.1 dX11_spelt_38 rfl (lv_at hl 4 rfl) ?_
  refine lv_if_le (tgt := 57) C.1 C.2.1 dX11_spelt_39 (by decide) (fun _ => ?_) (fun h9 => absurd (by decide) h9)
  refine lv_iload C.1 C.2.1 dX11_spelt_57 (lv_at hl 5 rfl) ?_
  refine lv_if_le (tgt := 78) C.1 C.2.1 dX11_spelt_59 (by decide) (fun _ => ?_) (fun h9 => absurd (by decide) h9)
  refine lv_iload C.1 C.2.1 dX11_spelt_78 (lv_at hl 6 rfl) ?_
  refine lv_if_le (tgt := 99) C.1 C.2.1 dX11_spelt_80 (by decide) (fun _ => ?_) (fun h9 => absurd (by decide) h9)
  refine lv_iload C.1 C.2.1 dX11_spelt_99 (lv_at hl 7 rfl) ?_
  refine lv_if_le (tgt := 120) C.1 C.2.1 dX11_spelt_101 (by decide) (fun _ => ?_) (fun h9 => absurd (by decide) h9)
  refine lv_lload C.1 C.2.1 dX11_spelt_120 (lv_at hl 0 rfl) ?_
  exact x_retlQ hQ B hw ⟨rfl, rfl⟩ (Nat.le_of_ble_eq_true rfl) (Nat.le_of_ble_eq_true rfl) dX11_spelt_122
theorem dX11_wordOf_388 : decode cX11_wordOf 388 = .ok (.bipush 97, 2) := by decide +kernel
theorem dX11_wordOf_390 : decode cX11_wordOf 390 = .ok (.bipush 110, 2) := by decide +kernel
theorem dX11_wordOf_392 : decode cX11_wordOf 392 = .ok (.bipush 100, 2) := by decide +kernel
theorem dX11_wordOf_394 : decode cX11_wordOf 394 = .ok (.iconst 0, 1) := by decide +kernel
theorem dX11_wordOf_395 : decode cX11_wordOf 395 = .ok (.iconst 0, 1) := by decide +kernel
theorem dX11_wordOf_396 : decode cX11_wordOf 396 = .ok (.iconst 0, 1) := by decide +kernel
theorem dX11_wordOf_397 : decode cX11_wordOf 397 = .ok (.iconst 0, 1) := by decide +kernel
theorem dX11_wordOf_398 : decode cX11_wordOf 398 = .ok (.invokestatic 58, 3) := by decide +kernel
theorem dX11_wordOf_401 : decode cX11_wordOf 401 = .ok (.lreturn, 1) := by decide +kernel
set_option maxHeartbeats 4000000 in
set_option maxRecDepth 100000 in
theorem e_wordOf_17 {l : Launch} {G : Gc}   : Cl l yX11_wordOf cX11_wordOf 1 1 0 0 G [.int 17] [] (fun (r9 : Int64) (u9 : va_W) => r9 = 1111 ∧ u9 = []) := by
  refine Cl.ofQ (by decide) (Nat.le_of_ble_eq_true rfl) ?_
  intro p e s m below meth c ls A args Q hQ B hw hl
  have C : CallFix p m c cX11_wordOf 1 s args gw "LanternStateModel" := B.1
  have hl : lv_has ls 1 [(0, .int 17)] := hl
  refine lv_iload_n C.1 C.2.1 dX11_wordOf_0 rfl (lv_at hl 0 rfl) ?_
  refine lv_tableIn (off := 387) (tgt := 388) C.1 C.2.1 dX11_wordOf_1 (by decide) (by decide) rfl (by decide) ?_
  refine lv_bipush (v := 97) C.1 C.2.1 dX11_wordOf_388 (by decide) ?_
  refine lv_bipush (v := 110) C.1 C.2.1 dX11_wordOf_390 (by decide) ?_
  refine lv_bipush (v := 100) C.1 C.2.1 dX11_wordOf_392 (by decide) ?_
  refine lv_iconst (v := 0) C.1 C.2.1 dX11_wordOf_394 (by decide) ?_
  refine lv_iconst (v := 0) C.1 C.2.1 dX11_wordOf_395 (by decide) ?_
  refine lv_iconst (v := 0) C.1 C.2.1 dX11_wordOf_396 (by decide) ?_
  refine lv_iconst (v := 0) C.1 C.2.1 dX11_wordOf_397 (by decide) ?_
  refine x_calllS (As := [.int 97, .int 110, .int 100, .int 0, .int 0, .int 0, .int 0]) (rest := []) (wr := []) C hw e_spelt_17 mwX11_spelt kw1366 [] [] rfl rfl rfl rfl (by decide) rfl hl.1 rfl (Nat.le_of_ble_eq_true rfl) ⟨(Nat.le_of_ble_eq_true rfl), (Nat.le_of_ble_eq_true rfl)⟩ ⟨(Nat.le_of_ble_eq_true rfl), (Nat.le_of_ble_eq_true rfl)⟩ dX11_wordOf_398 (fun r1 u9 H locs hp9 hw => ?_)
  obtain ⟨rfl, rfl⟩ := hp9
  have hw : Wd G s A [] H _ := hw
  exact x_retlQ hQ B hw ⟨rfl, rfl⟩ (Nat.le_of_ble_eq_true rfl) (Nat.le_of_ble_eq_true rfl) dX11_wordOf_401
set_option maxHeartbeats 4000000 in
set_option maxRecDepth 100000 in
theorem e_spelt_18 {l : Launch} {G : Gc}   : Cl l yX11_spelt cX11_spelt 9 0 0 0 G [.int 110, .int 111, .int 116, .int 0, .int 0, .int 0, .int 0] [] (fun (r9 : Int64) (u9 : va_W) => r9 = 10631 ∧ u9 = []) := by
  refine Cl.ofQ (by decide) (Nat.le_of_ble_eq_true rfl) ?_
  intro p e s m below meth c ls A args Q hQ B hw hl
  have C : CallFix p m c cX11_spelt 9 s args gw "LanternStateModel" := B.1
  have hl : lv_has ls 9 [(0, .int 110), (1, .int 111), (2, .int 116), (3, .int 0), (4, .int 0), (5, .int 0), (6, .int 0)] := hl
  refine lv_ldc2 (v := 27) C.1 C.2.1 C.2.2.2.1 (C.2.2.2.2 _ kw1353) dX11_spelt_0 ?_
  refine lv_iload_n C.1 C.2.1 dX11_spelt_3 rfl (lv_at hl 0 rfl) ?_
  refine lv_i2l (v := 110) C.1 C.2.1 dX11_spelt_4 (by decide) ?_
  refine lv_ldc2 (v := 96) C.1 C.2.1 C.2.2.2.1 (C.2.2.2.2 _ kw1354) dX11_spelt_5 ?_
  refine lv_lsub C.1 C.2.1 dX11_spelt_8 ?_
  refine x_topl (z := 14) (by decide) ?_
  refine lv_lmul C.1 C.2.1 dX11_spelt_9 ?_
  refine x_topl (z := 378) (by decide) ?_
  refine lv_iload_n C.1 C.2.1 dX11_spelt_10 rfl (lv_at hl 1 rfl) ?_
  refine lv_i2l (v := 111) C.1 C.2.1 dX11_spelt_11 (by decide) ?_
  refine lv_ladd C.1 C.2.1 dX11_spelt_12 ?_
  refine x_topl (z := 489) (by decide) ?_
  refine lv_ldc2 (v := 96) C.1 C.2.1 C.2.2.2.1 (C.2.2.2.2 _ kw1354) dX11_spelt_13 ?_
  refine lv_lsub C.1 C.2.1 dX11_spelt_16 ?_
  refine x_topl (z := 393) (by decide) ?_
  refine lv_lstore (lv' := [(7, .long 393), (0, .int 110), (1, .int 111), (2, .int 116), (3, .int 0), (4, .int 0), (5, .int 0), (6, .int 0)]) C.1 C.2.1 dX11_spelt_17 hl (by decide) rfl (fun ls hl => ?_)
  refine lv_iload_n C.1 C.2.1 dX11_spelt_19 rfl (lv_at hl 3 rfl) ?_
  refine lv_if_le (tgt := 38) C.1 C.2.1 dX11_spelt_20 (by decide) (fun h9 => absurd h9 (by decide)) (fun _ => ?_)
  refine lv_ldc2 (v := 27) C.1 C.2.1 C.2.2.2.1 (C.2.2.2.2 _ kw1353) dX11_spelt_23 ?_
  refine lv_lload C.1 C.2.1 dX11_spelt_26 (lv_at hl 0 rfl) ?_
  refine lv_lmul C.1 C.2.1 dX11_spelt_28 ?_
  refine x_topl (z := 10611) (by decide) ?_
  refine lv_iload_n C.1 C.2.1 dX11_spelt_29 rfl (lv_at hl 3 rfl) ?_
  refine lv_i2l (v := 116) C.1 C.2.1 dX11_spelt_30 (by decide) ?_
  refine lv_ladd C.1 C.2.1 dX11_spelt_31 ?_
  refine x_topl (z := 10727) (by decide) ?_
  refine lv_ldc2 (v := 96) C.1 C.2.1 C.2.2.2.1 (C.2.2.2.2 _ kw1354) dX11_spelt_32 ?_
  refine lv_lsub C.1 C.2.1 dX11_spelt_35 ?_
  refine x_topl (z := 10631) (by decide) ?_
  refine lv_lstore (lv' := [(7, .long 10631), (0, .int 110), (1, .int 111), (2, .int 116), (3, .int 0), (4, .int 0), (5, .int 0), (6, .int 0)]) C.1 C.2.1 dX11_spelt_36 hl (by decide) rfl (fun ls hl => ?_)
  refine lv_iload_n C.1 C.2.1 dX11_spelt_38 rfl (lv_at hl 4 rfl) ?_
  refine lv_if_le (tgt := 57) C.1 C.2.1 dX11_spelt_39 (by decide) (fun _ => ?_) (fun h9 => absurd (by decide) h9)
  refine lv_iload C.1 C.2.1 dX11_spelt_57 (lv_at hl 5 rfl) ?_
  refine lv_if_le (tgt := 78) C.1 C.2.1 dX11_spelt_59 (by decide) (fun _ => ?_) (fun h9 => absurd (by decide) h9)
  refine lv_iload C.1 C.2.1 dX11_spelt_78 (lv_at hl 6 rfl) ?_
  refine lv_if_le (tgt := 99) C.1 C.2.1 dX11_spelt_80 (by decide) (fun _ => ?_) (fun h9 => absurd (by decide) h9)
  refine lv_iload C.1 C.2.1 dX11_spelt_99 (lv_at hl 7 rfl) ?_
  refine lv_if_le (tgt := 120) C.1 C.2.1 dX11_spelt_101 (by decide) (fun _ => ?_) (fun h9 => absurd (by decide) h9)
  refine lv_lload C.1 C.2.1 dX11_spelt_120 (lv_at hl 0 rfl) ?_
  exact x_retlQ hQ B hw ⟨rfl, rfl⟩ (Nat.le_of_ble_eq_true rfl) (Nat.le_of_ble_eq_true rfl) dX11_spelt_122
theorem dX11_wordOf_402 : decode cX11_wordOf 402 = .ok (.bipush 110, 2) := by decide +kernel
theorem dX11_wordOf_404 : decode cX11_wordOf 404 = .ok (.bipush 111, 2) := by decide +kernel
theorem dX11_wordOf_406 : decode cX11_wordOf 406 = .ok (.bipush 116, 2) := by decide +kernel
theorem dX11_wordOf_408 : decode cX11_wordOf 408 = .ok (.iconst 0, 1) := by decide +kernel
theorem dX11_wordOf_409 : decode cX11_wordOf 409 = .ok (.iconst 0, 1) := by decide +kernel
theorem dX11_wordOf_410 : decode cX11_wordOf 410 = .ok (.iconst 0, 1) := by decide +kernel
theorem dX11_wordOf_411 : decode cX11_wordOf 411 = .ok (.iconst 0, 1) := by decide +kernel
theorem dX11_wordOf_412 : decode cX11_wordOf 412 = .ok (.invokestatic 58, 3) := by decide +kernel
theorem dX11_wordOf_415 : decode cX11_wordOf 415 = .ok (.lreturn, 1) := by decide +kernel
set_option maxHeartbeats 4000000 in
set_option maxRecDepth 100000 in
theorem e_wordOf_18 {l : Launch} {G : Gc}   : Cl l yX11_wordOf cX11_wordOf 1 1 0 0 G [.int 18] [] (fun (r9 : Int64) (u9 : va_W) => r9 = 10631 ∧ u9 = []) := by
  refine Cl.ofQ (by decide) (Nat.le_of_ble_eq_true rfl) ?_
  intro p e s m below meth c ls A args Q hQ B hw hl
  have C : CallFix p m c cX11_wordOf 1 s args gw "LanternStateModel" := B.1
  have hl : lv_has ls 1 [(0, .int 18)] := hl
  refine lv_iload_n C.1 C.2.1 dX11_wordOf_0 rfl (lv_at hl 0 rfl) ?_
  refine lv_tableIn (off := 401) (tgt := 402) C.1 C.2.1 dX11_wordOf_1 (by decide) (by decide) rfl (by decide) ?_
  refine lv_bipush (v := 110) C.1 C.2.1 dX11_wordOf_402 (by decide) ?_
  refine lv_bipush (v := 111) C.1 C.2.1 dX11_wordOf_404 (by decide) ?_
  refine lv_bipush (v := 116) C.1 C.2.1 dX11_wordOf_406 (by decide) ?_
  refine lv_iconst (v := 0) C.1 C.2.1 dX11_wordOf_408 (by decide) ?_
  refine lv_iconst (v := 0) C.1 C.2.1 dX11_wordOf_409 (by decide) ?_
  refine lv_iconst (v := 0) C.1 C.2.1 dX11_wordOf_410 (by decide) ?_
  refine lv_iconst (v := 0) C.1 C.2.1 dX11_wordOf_411 (by decide) ?_
  refine x_calllS (As := [.int 110, .int 111, .int 116, .int 0, .int 0, .int 0, .int 0]) (rest := []) (wr := []) C hw e_spelt_18 mwX11_spelt kw1366 [] [] rfl rfl rfl rfl (by decide) rfl hl.1 rfl (Nat.le_of_ble_eq_true rfl) ⟨(Nat.le_of_ble_eq_true rfl), (Nat.le_of_ble_eq_true rfl)⟩ ⟨(Nat.le_of_ble_eq_true rfl), (Nat.le_of_ble_eq_true rfl)⟩ dX11_wordOf_412 (fun r1 u9 H locs hp9 hw => ?_)
  obtain ⟨rfl, rfl⟩ := hp9
  have hw : Wd G s A [] H _ := hw
  exact x_retlQ hQ B hw ⟨rfl, rfl⟩ (Nat.le_of_ble_eq_true rfl) (Nat.le_of_ble_eq_true rfl) dX11_wordOf_415
set_option maxHeartbeats 4000000 in
set_option maxRecDepth 100000 in
theorem e_spelt_19 {l : Launch} {G : Gc}   : Cl l yX11_spelt cX11_spelt 9 0 0 0 G [.int 115, .int 111, .int 0, .int 0, .int 0, .int 0, .int 0] [] (fun (r9 : Int64) (u9 : va_W) => r9 = 528 ∧ u9 = []) := by
  refine Cl.ofQ (by decide) (Nat.le_of_ble_eq_true rfl) ?_
  intro p e s m below meth c ls A args Q hQ B hw hl
  have C : CallFix p m c cX11_spelt 9 s args gw "LanternStateModel" := B.1
  have hl : lv_has ls 9 [(0, .int 115), (1, .int 111), (2, .int 0), (3, .int 0), (4, .int 0), (5, .int 0), (6, .int 0)] := hl
  refine lv_ldc2 (v := 27) C.1 C.2.1 C.2.2.2.1 (C.2.2.2.2 _ kw1353) dX11_spelt_0 ?_
  refine lv_iload_n C.1 C.2.1 dX11_spelt_3 rfl (lv_at hl 0 rfl) ?_
  refine lv_i2l (v := 115) C.1 C.2.1 dX11_spelt_4 (by decide) ?_
  refine lv_ldc2 (v := 96) C.1 C.2.1 C.2.2.2.1 (C.2.2.2.2 _ kw1354) dX11_spelt_5 ?_
  refine lv_lsub C.1 C.2.1 dX11_spelt_8 ?_
  refine x_topl (z := 19) (by decide) ?_
  refine lv_lmul C.1 C.2.1 dX11_spelt_9 ?_
  refine x_topl (z := 513) (by decide) ?_
  refine lv_iload_n C.1 C.2.1 dX11_spelt_10 rfl (lv_at hl 1 rfl) ?_
  refine lv_i2l (v := 111) C.1 C.2.1 dX11_spelt_11 (by decide) ?_
  refine lv_ladd C.1 C.2.1 dX11_spelt_12 ?_
  refine x_topl (z := 624) (by decide) ?_
  refine lv_ldc2 (v := 96) C.1 C.2.1 C.2.2.2.1 (C.2.2.2.2 _ kw1354) dX11_spelt_13 ?_
  refine lv_lsub C.1 C.2.1 dX11_spelt_16 ?_
  refine x_topl (z := 528) (by decide) ?_
  refine lv_lstore (lv' := [(7, .long 528), (0, .int 115), (1, .int 111), (2, .int 0), (3, .int 0), (4, .int 0), (5, .int 0), (6, .int 0)]) C.1 C.2.1 dX11_spelt_17 hl (by decide) rfl (fun ls hl => ?_)
  refine lv_iload_n C.1 C.2.1 dX11_spelt_19 rfl (lv_at hl 3 rfl) ?_
  refine lv_if_le (tgt := 38) C.1 C.2.1 dX11_spelt_20 (by decide) (fun _ => ?_) (fun h9 => absurd (by decide) h9)
  refine lv_iload_n C.1 C.2.1 dX11_spelt_38 rfl (lv_at hl 4 rfl) ?_
  refine lv_if_le (tgt := 57) C.1 C.2.1 dX11_spelt_39 (by decide) (fun _ => ?_) (fun h9 => absurd (by decide) h9)
  refine lv_iload C.1 C.2.1 dX11_spelt_57 (lv_at hl 5 rfl) ?_
  refine lv_if_le (tgt := 78) C.1 C.2.1 dX11_spelt_59 (by decide) (fun _ => ?_) (fun h9 => absurd (by decide) h9)
  refine lv_iload C.1 C.2.1 dX11_spelt_78 (lv_at hl 6 rfl) ?_
  refine lv_if_le (tgt := 99) C.1 C.2.1 dX11_spelt_80 (by decide) (fun _ => ?_) (fun h9 => absurd (by decide) h9)
  refine lv_iload C.1 C.2.1 dX11_spelt_99 (lv_at hl 7 rfl) ?_
  refine lv_if_le (tgt := 120) C.1 C.2.1 dX11_spelt_101 (by decide) (fun _ => ?_) (fun h9 => absurd (by decide) h9)
  refine lv_lload C.1 C.2.1 dX11_spelt_120 (lv_at hl 0 rfl) ?_
  exact x_retlQ hQ B hw ⟨rfl, rfl⟩ (Nat.le_of_ble_eq_true rfl) (Nat.le_of_ble_eq_true rfl) dX11_spelt_122
theorem dX11_wordOf_416 : decode cX11_wordOf 416 = .ok (.bipush 115, 2) := by decide +kernel
theorem dX11_wordOf_418 : decode cX11_wordOf 418 = .ok (.bipush 111, 2) := by decide +kernel
theorem dX11_wordOf_420 : decode cX11_wordOf 420 = .ok (.iconst 0, 1) := by decide +kernel
theorem dX11_wordOf_421 : decode cX11_wordOf 421 = .ok (.iconst 0, 1) := by decide +kernel
theorem dX11_wordOf_422 : decode cX11_wordOf 422 = .ok (.iconst 0, 1) := by decide +kernel
theorem dX11_wordOf_423 : decode cX11_wordOf 423 = .ok (.iconst 0, 1) := by decide +kernel
theorem dX11_wordOf_424 : decode cX11_wordOf 424 = .ok (.iconst 0, 1) := by decide +kernel
theorem dX11_wordOf_425 : decode cX11_wordOf 425 = .ok (.invokestatic 58, 3) := by decide +kernel
theorem dX11_wordOf_428 : decode cX11_wordOf 428 = .ok (.lreturn, 1) := by decide +kernel
set_option maxHeartbeats 4000000 in
set_option maxRecDepth 100000 in
theorem e_wordOf_19 {l : Launch} {G : Gc}   : Cl l yX11_wordOf cX11_wordOf 1 1 0 0 G [.int 19] [] (fun (r9 : Int64) (u9 : va_W) => r9 = 528 ∧ u9 = []) := by
  refine Cl.ofQ (by decide) (Nat.le_of_ble_eq_true rfl) ?_
  intro p e s m below meth c ls A args Q hQ B hw hl
  have C : CallFix p m c cX11_wordOf 1 s args gw "LanternStateModel" := B.1
  have hl : lv_has ls 1 [(0, .int 19)] := hl
  refine lv_iload_n C.1 C.2.1 dX11_wordOf_0 rfl (lv_at hl 0 rfl) ?_
  refine lv_tableIn (off := 415) (tgt := 416) C.1 C.2.1 dX11_wordOf_1 (by decide) (by decide) rfl (by decide) ?_
  refine lv_bipush (v := 115) C.1 C.2.1 dX11_wordOf_416 (by decide) ?_
  refine lv_bipush (v := 111) C.1 C.2.1 dX11_wordOf_418 (by decide) ?_
  refine lv_iconst (v := 0) C.1 C.2.1 dX11_wordOf_420 (by decide) ?_
  refine lv_iconst (v := 0) C.1 C.2.1 dX11_wordOf_421 (by decide) ?_
  refine lv_iconst (v := 0) C.1 C.2.1 dX11_wordOf_422 (by decide) ?_
  refine lv_iconst (v := 0) C.1 C.2.1 dX11_wordOf_423 (by decide) ?_
  refine lv_iconst (v := 0) C.1 C.2.1 dX11_wordOf_424 (by decide) ?_
  refine x_calllS (As := [.int 115, .int 111, .int 0, .int 0, .int 0, .int 0, .int 0]) (rest := []) (wr := []) C hw e_spelt_19 mwX11_spelt kw1366 [] [] rfl rfl rfl rfl (by decide) rfl hl.1 rfl (Nat.le_of_ble_eq_true rfl) ⟨(Nat.le_of_ble_eq_true rfl), (Nat.le_of_ble_eq_true rfl)⟩ ⟨(Nat.le_of_ble_eq_true rfl), (Nat.le_of_ble_eq_true rfl)⟩ dX11_wordOf_425 (fun r1 u9 H locs hp9 hw => ?_)
  obtain ⟨rfl, rfl⟩ := hp9
  have hw : Wd G s A [] H _ := hw
  exact x_retlQ hQ B hw ⟨rfl, rfl⟩ (Nat.le_of_ble_eq_true rfl) (Nat.le_of_ble_eq_true rfl) dX11_wordOf_428
set_option maxHeartbeats 4000000 in
set_option maxRecDepth 100000 in
theorem e_spelt_20 {l : Launch} {G : Gc}   : Cl l yX11_spelt cX11_spelt 9 0 0 0 G [.int 99, .int 114, .int 97, .int 99, .int 107, .int 101, .int 100] [] (fun (r9 : Int64) (u9 : va_W) => r9 = 1421140441 ∧ u9 = []) := by
  refine Cl.ofQ (by decide) (Nat.le_of_ble_eq_true rfl) ?_
  intro p e s m below meth c ls A args Q hQ B hw hl
  have C : CallFix p m c cX11_spelt 9 s args gw "LanternStateModel" := B.1
  have hl : lv_has ls 9 [(0, .int 99), (1, .int 114), (2, .int 97), (3, .int 99), (4, .int 107), (5, .int 101), (6, .int 100)] := hl
  refine lv_ldc2 (v := 27) C.1 C.2.1 C.2.2.2.1 (C.2.2.2.2 _ kw1353) dX11_spelt_0 ?_
  refine lv_iload_n C.1 C.2.1 dX11_spelt_3 rfl (lv_at hl 0 rfl) ?_
  refine lv_i2l (v := 99) C.1 C.2.1 dX11_spelt_4 (by decide) ?_
  refine lv_ldc2 (v := 96) C.1 C.2.1 C.2.2.2.1 (C.2.2.2.2 _ kw1354) dX11_spelt_5 ?_
  refine lv_lsub C.1 C.2.1 dX11_spelt_8 ?_
  refine x_topl (z := 3) (by decide) ?_
  refine lv_lmul C.1 C.2.1 dX11_spelt_9 ?_
  refine x_topl (z := 81) (by decide) ?_
  refine lv_iload_n C.1 C.2.1 dX11_spelt_10 rfl (lv_at hl 1 rfl) ?_
  refine lv_i2l (v := 114) C.1 C.2.1 dX11_spelt_11 (by decide) ?_
  refine lv_ladd C.1 C.2.1 dX11_spelt_12 ?_
  refine x_topl (z := 195) (by decide) ?_
  refine lv_ldc2 (v := 96) C.1 C.2.1 C.2.2.2.1 (C.2.2.2.2 _ kw1354) dX11_spelt_13 ?_
  refine lv_lsub C.1 C.2.1 dX11_spelt_16 ?_
  refine x_topl (z := 99) (by decide) ?_
  refine lv_lstore (lv' := [(7, .long 99), (0, .int 99), (1, .int 114), (2, .int 97), (3, .int 99), (4, .int 107), (5, .int 101), (6, .int 100)]) C.1 C.2.1 dX11_spelt_17 hl (by decide) rfl (fun ls hl => ?_)
  refine lv_iload_n C.1 C.2.1 dX11_spelt_19 rfl (lv_at hl 3 rfl) ?_
  refine lv_if_le (tgt := 38) C.1 C.2.1 dX11_spelt_20 (by decide) (fun h9 => absurd h9 (by decide)) (fun _ => ?_)
  refine lv_ldc2 (v := 27) C.1 C.2.1 C.2.2.2.1 (C.2.2.2.2 _ kw1353) dX11_spelt_23 ?_
  refine lv_lload C.1 C.2.1 dX11_spelt_26 (lv_at hl 0 rfl) ?_
  refine lv_lmul C.1 C.2.1 dX11_spelt_28 ?_
  refine x_topl (z := 2673) (by decide) ?_
  refine lv_iload_n C.1 C.2.1 dX11_spelt_29 rfl (lv_at hl 3 rfl) ?_
  refine lv_i2l (v := 97) C.1 C.2.1 dX11_spelt_30 (by decide) ?_
  refine lv_ladd C.1 C.2.1 dX11_spelt_31 ?_
  refine x_topl (z := 2770) (by decide) ?_
  refine lv_ldc2 (v := 96) C.1 C.2.1 C.2.2.2.1 (C.2.2.2.2 _ kw1354) dX11_spelt_32 ?_
  refine lv_lsub C.1 C.2.1 dX11_spelt_35 ?_
  refine x_topl (z := 2674) (by decide) ?_
  refine lv_lstore (lv' := [(7, .long 2674), (0, .int 99), (1, .int 114), (2, .int 97), (3, .int 99), (4, .int 107), (5, .int 101), (6, .int 100)]) C.1 C.2.1 dX11_spelt_36 hl (by decide) rfl (fun ls hl => ?_)
  refine lv_iload_n C.1 C.2.1 dX11_spelt_38 rfl (lv_at hl 4 rfl) ?_
  refine lv_if_le (tgt := 57) C.1 C.2.1 dX11_spelt_39 (by decide) (fun h9 => absurd h9 (by decide)) (fun _ => ?_)
  refine lv_ldc2 (v := 27) C.1 C.2.1 C.2.2.2.1 (C.2.2.2.2 _ kw1353) dX11_spelt_42 ?_
  refine lv_lload C.1 C.2.1 dX11_spelt_45 (lv_at hl 0 rfl) ?_
  refine lv_lmul C.1 C.2.1 dX11_spelt_47 ?_
  refine x_topl (z := 72198) (by decide) ?_
  refine lv_iload_n C.1 C.2.1 dX11_spelt_48 rfl (lv_at hl 4 rfl) ?_
  refine lv_i2l (v := 99) C.1 C.2.1 dX11_spelt_49 (by decide) ?_
  refine lv_ladd C.1 C.2.1 dX11_spelt_50 ?_
  refine x_topl (z := 72297) (by decide) ?_
  refine lv_ldc2 (v := 96) C.1 C.2.1 C.2.2.2.1 (C.2.2.2.2 _ kw1354) dX11_spelt_51 ?_
  refine lv_lsub C.1 C.2.1 dX11_spelt_54 ?_
  refine x_topl (z := 72201) (by decide) ?_
  refine lv_lstore (lv' := [(7, .long 72201), (0, .int 99), (1, .int 114), (2, .int 97), (3, .int 99), (4, .int 107), (5, .int 101), (6, .int 100)]) C.1 C.2.1 dX11_spelt_55 hl (by decide) rfl (fun ls hl => ?_)
  refine lv_iload C.1 C.2.1 dX11_spelt_57 (lv_at hl 5 rfl) ?_
  refine lv_if_le (tgt := 78) C.1 C.2.1 dX11_spelt_59 (by decide) (fun h9 => absurd h9 (by decide)) (fun _ => ?_)
  refine lv_ldc2 (v := 27) C.1 C.2.1 C.2.2.2.1 (C.2.2.2.2 _ kw1353) dX11_spelt_62 ?_
  refine lv_lload C.1 C.2.1 dX11_spelt_65 (lv_at hl 0 rfl) ?_
  refine lv_lmul C.1 C.2.1 dX11_spelt_67 ?_
  refine x_topl (z := 1949427) (by decide) ?_
  refine lv_iload C.1 C.2.1 dX11_spelt_68 (lv_at hl 5 rfl) ?_
  refine lv_i2l (v := 107) C.1 C.2.1 dX11_spelt_70 (by decide) ?_
  refine lv_ladd C.1 C.2.1 dX11_spelt_71 ?_
  refine x_topl (z := 1949534) (by decide) ?_
  refine lv_ldc2 (v := 96) C.1 C.2.1 C.2.2.2.1 (C.2.2.2.2 _ kw1354) dX11_spelt_72 ?_
  refine lv_lsub C.1 C.2.1 dX11_spelt_75 ?_
  refine x_topl (z := 1949438) (by decide) ?_
  refine lv_lstore (lv' := [(7, .long 1949438), (0, .int 99), (1, .int 114), (2, .int 97), (3, .int 99), (4, .int 107), (5, .int 101), (6, .int 100)]) C.1 C.2.1 dX11_spelt_76 hl (by decide) rfl (fun ls hl => ?_)
  refine lv_iload C.1 C.2.1 dX11_spelt_78 (lv_at hl 6 rfl) ?_
  refine lv_if_le (tgt := 99) C.1 C.2.1 dX11_spelt_80 (by decide) (fun h9 => absurd h9 (by decide)) (fun _ => ?_)
  refine lv_ldc2 (v := 27) C.1 C.2.1 C.2.2.2.1 (C.2.2.2.2 _ kw1353) dX11_spelt_83 ?_
  refine lv_lload C.1 C.2.1 dX11_spelt_86 (lv_at hl 0 rfl) ?_
  refine lv_lmul C.1 C.2.1 dX11_spelt_88 ?_
  refine x_topl (z := 52634826) (by decide) ?_
  refine lv_iload C.1 C.2.1 dX11_spelt_89 (lv_at hl 6 rfl) ?_
  refine lv_i2l (v := 101) C.1 C.2.1 dX11_spelt_91 (by decide) ?_
  refine lv_ladd C.1 C.2.1 dX11_spelt_92 ?_
  refine x_topl (z := 52634927) (by decide) ?_
  refine lv_ldc2 (v := 96) C.1 C.2.1 C.2.2.2.1 (C.2.2.2.2 _ kw1354) dX11_spelt_93 ?_
  refine lv_lsub C.1 C.2.1 dX11_spelt_96 ?_
  refine x_topl (z := 52634831) (by decide) ?_
  refine lv_lstore (lv' := [(7, .long 52634831), (0, .int 99), (1, .int 114), (2, .int 97), (3, .int 99), (4, .int 107), (5, .int 101), (6, .int 100)]) C.1 C.2.1 dX11_spelt_97 hl (by decide) rfl (fun ls hl => ?_)
  refine lv_iload C.1 C.2.1 dX11_spelt_99 (lv_at hl 7 rfl) ?_
  refine lv_if_le (tgt := 120) C.1 C.2.1 dX11_spelt_101 (by decide) (fun h9 => absurd h9 (by decide)) (fun _ => ?_)
  refine lv_ldc2 (v := 27) C.1 C.2.1 C.2.2.2.1 (C.2.2.2.2 _ kw1353) dX11_spelt_104 ?_
  refine lv_lload C.1 C.2.1 dX11_spelt_107 (lv_at hl 0 rfl) ?_
  refine lv_lmul C.1 C.2.1 dX11_spelt_109 ?_
  refine x_topl (z := 1421140437) (by decide) ?_
  refine lv_iload C.1 C.2.1 dX11_spelt_110 (lv_at hl 7 rfl) ?_
  refine lv_i2l (v := 100) C.1 C.2.1 dX11_spelt_112 (by decide) ?_
  refine lv_ladd C.1 C.2.1 dX11_spelt_113 ?_
  refine x_topl (z := 1421140537) (by decide) ?_
  refine lv_ldc2 (v := 96) C.1 C.2.1 C.2.2.2.1 (C.2.2.2.2 _ kw1354) dX11_spelt_114 ?_
  refine lv_lsub C.1 C.2.1 dX11_spelt_117 ?_
  refine x_topl (z := 1421140441) (by decide) ?_
  refine lv_lstore (lv' := [(7, .long 1421140441), (0, .int 99), (1, .int 114), (2, .int 97), (3, .int 99), (4, .int 107), (5, .int 101), (6, .int 100)]) C.1 C.2.1 dX11_spelt_118 hl (by decide) rfl (fun ls hl => ?_)
  refine lv_lload C.1 C.2.1 dX11_spelt_120 (lv_at hl 0 rfl) ?_
  exact x_retlQ hQ B hw ⟨rfl, rfl⟩ (Nat.le_of_ble_eq_true rfl) (Nat.le_of_ble_eq_true rfl) dX11_spelt_122
theorem dX11_wordOf_429 : decode cX11_wordOf 429 = .ok (.bipush 99, 2) := by decide +kernel
theorem dX11_wordOf_431 : decode cX11_wordOf 431 = .ok (.bipush 114, 2) := by decide +kernel
theorem dX11_wordOf_433 : decode cX11_wordOf 433 = .ok (.bipush 97, 2) := by decide +kernel
theorem dX11_wordOf_435 : decode cX11_wordOf 435 = .ok (.bipush 99, 2) := by decide +kernel
theorem dX11_wordOf_437 : decode cX11_wordOf 437 = .ok (.bipush 107, 2) := by decide +kernel
theorem dX11_wordOf_439 : decode cX11_wordOf 439 = .ok (.bipush 101, 2) := by decide +kernel
theorem dX11_wordOf_441 : decode cX11_wordOf 441 = .ok (.bipush 100, 2) := by decide +kernel
theorem dX11_wordOf_443 : decode cX11_wordOf 443 = .ok (.invokestatic 58, 3) := by decide +kernel
theorem dX11_wordOf_446 : decode cX11_wordOf 446 = .ok (.lreturn, 1) := by decide +kernel
set_option maxHeartbeats 4000000 in
set_option maxRecDepth 100000 in
theorem e_wordOf_20 {l : Launch} {G : Gc}   : Cl l yX11_wordOf cX11_wordOf 1 1 0 0 G [.int 20] [] (fun (r9 : Int64) (u9 : va_W) => r9 = 1421140441 ∧ u9 = []) := by
  refine Cl.ofQ (by decide) (Nat.le_of_ble_eq_true rfl) ?_
  intro p e s m below meth c ls A args Q hQ B hw hl
  have C : CallFix p m c cX11_wordOf 1 s args gw "LanternStateModel" := B.1
  have hl : lv_has ls 1 [(0, .int 20)] := hl
  refine lv_iload_n C.1 C.2.1 dX11_wordOf_0 rfl (lv_at hl 0 rfl) ?_
  refine lv_tableIn (off := 428) (tgt := 429) C.1 C.2.1 dX11_wordOf_1 (by decide) (by decide) rfl (by decide) ?_
  refine lv_bipush (v := 99) C.1 C.2.1 dX11_wordOf_429 (by decide) ?_
  refine lv_bipush (v := 114) C.1 C.2.1 dX11_wordOf_431 (by decide) ?_
  refine lv_bipush (v := 97) C.1 C.2.1 dX11_wordOf_433 (by decide) ?_
  refine lv_bipush (v := 99) C.1 C.2.1 dX11_wordOf_435 (by decide) ?_
  refine lv_bipush (v := 107) C.1 C.2.1 dX11_wordOf_437 (by decide) ?_
  refine lv_bipush (v := 101) C.1 C.2.1 dX11_wordOf_439 (by decide) ?_
  refine lv_bipush (v := 100) C.1 C.2.1 dX11_wordOf_441 (by decide) ?_
  refine x_calllS (As := [.int 99, .int 114, .int 97, .int 99, .int 107, .int 101, .int 100]) (rest := []) (wr := []) C hw e_spelt_20 mwX11_spelt kw1366 [] [] rfl rfl rfl rfl (by decide) rfl hl.1 rfl (Nat.le_of_ble_eq_true rfl) ⟨(Nat.le_of_ble_eq_true rfl), (Nat.le_of_ble_eq_true rfl)⟩ ⟨(Nat.le_of_ble_eq_true rfl), (Nat.le_of_ble_eq_true rfl)⟩ dX11_wordOf_443 (fun r1 u9 H locs hp9 hw => ?_)
  obtain ⟨rfl, rfl⟩ := hp9
  have hw : Wd G s A [] H _ := hw
  exact x_retlQ hQ B hw ⟨rfl, rfl⟩ (Nat.le_of_ble_eq_true rfl) (Nat.le_of_ble_eq_true rfl) dX11_wordOf_446
set_option maxHeartbeats 4000000 in
set_option maxRecDepth 100000 in
theorem e_spelt_21 {l : Launch} {G : Gc}   : Cl l yX11_spelt cX11_spelt 9 0 0 0 G [.int 101, .int 118, .int 101, .int 110, .int 0, .int 0, .int 0] [] (fun (r9 : Int64) (u9 : va_W) => r9 = 114602 ∧ u9 = []) := by
  refine Cl.ofQ (by decide) (Nat.le_of_ble_eq_true rfl) ?_
  intro p e s m below meth c ls A args Q hQ B hw hl
  have C : CallFix p m c cX11_spelt 9 s args gw "LanternStateModel" := B.1
  have hl : lv_has ls 9 [(0, .int 101), (1, .int 118), (2, .int 101), (3, .int 110), (4, .int 0), (5, .int 0), (6, .int 0)] := hl
  refine lv_ldc2 (v := 27) C.1 C.2.1 C.2.2.2.1 (C.2.2.2.2 _ kw1353) dX11_spelt_0 ?_
  refine lv_iload_n C.1 C.2.1 dX11_spelt_3 rfl (lv_at hl 0 rfl) ?_
  refine lv_i2l (v := 101) C.1 C.2.1 dX11_spelt_4 (by decide) ?_
  refine lv_ldc2 (v := 96) C.1 C.2.1 C.2.2.2.1 (C.2.2.2.2 _ kw1354) dX11_spelt_5 ?_
  refine lv_lsub C.1 C.2.1 dX11_spelt_8 ?_
  refine x_topl (z := 5) (by decide) ?_
  refine lv_lmul C.1 C.2.1 dX11_spelt_9 ?_
  refine x_topl (z := 135) (by decide) ?_
  refine lv_iload_n C.1 C.2.1 dX11_spelt_10 rfl (lv_at hl 1 rfl) ?_
  refine lv_i2l (v := 118) C.1 C.2.1 dX11_spelt_11 (by decide) ?_
  refine lv_ladd C.1 C.2.1 dX11_spelt_12 ?_
  refine x_topl (z := 253) (by decide) ?_
  refine lv_ldc2 (v := 96) C.1 C.2.1 C.2.2.2.1 (C.2.2.2.2 _ kw1354) dX11_spelt_13 ?_
  refine lv_lsub C.1 C.2.1 dX11_spelt_16 ?_
  refine x_topl (z := 157) (by decide) ?_
  refine lv_lstore (lv' := [(7, .long 157), (0, .int 101), (1, .int 118), (2, .int 101), (3, .int 110), (4, .int 0), (5, .int 0), (6, .int 0)]) C.1 C.2.1 dX11_spelt_17 hl (by decide) rfl (fun ls hl => ?_)
  refine lv_iload_n C.1 C.2.1 dX11_spelt_19 rfl (lv_at hl 3 rfl) ?_
  refine lv_if_le (tgt := 38) C.1 C.2.1 dX11_spelt_20 (by decide) (fun h9 => absurd h9 (by decide)) (fun _ => ?_)
  refine lv_ldc2 (v := 27) C.1 C.2.1 C.2.2.2.1 (C.2.2.2.2 _ kw1353) dX11_spelt_23 ?_
  refine lv_lload C.1 C.2.1 dX11_spelt_26 (lv_at hl 0 rfl) ?_
  refine lv_lmul C.1 C.2.1 dX11_spelt_28 ?_
  refine x_topl (z := 4239) (by decide) ?_
  refine lv_iload_n C.1 C.2.1 dX11_spelt_29 rfl (lv_at hl 3 rfl) ?_
  refine lv_i2l (v := 101) C.1 C.2.1 dX11_spelt_30 (by decide) ?_
  refine lv_ladd C.1 C.2.1 dX11_spelt_31 ?_
  refine x_topl (z := 4340) (by decide) ?_
  refine lv_ldc2 (v := 96) C.1 C.2.1 C.2.2.2.1 (C.2.2.2.2 _ kw1354) dX11_spelt_32 ?_
  refine lv_lsub C.1 C.2.1 dX11_spelt_35 ?_
  refine x_topl (z := 4244) (by decide) ?_
  refine lv_lstore (lv' := [(7, .long 4244), (0, .int 101), (1, .int 118), (2, .int 101), (3, .int 110), (4, .int 0), (5, .int 0), (6, .int 0)]) C.1 C.2.1 dX11_spelt_36 hl (by decide) rfl (fun ls hl => ?_)
  refine lv_iload_n C.1 C.2.1 dX11_spelt_38 rfl (lv_at hl 4 rfl) ?_
  refine lv_if_le (tgt := 57) C.1 C.2.1 dX11_spelt_39 (by decide) (fun h9 => absurd h9 (by decide)) (fun _ => ?_)
  refine lv_ldc2 (v := 27) C.1 C.2.1 C.2.2.2.1 (C.2.2.2.2 _ kw1353) dX11_spelt_42 ?_
  refine lv_lload C.1 C.2.1 dX11_spelt_45 (lv_at hl 0 rfl) ?_
  refine lv_lmul C.1 C.2.1 dX11_spelt_47 ?_
  refine x_topl (z := 114588) (by decide) ?_
  refine lv_iload_n C.1 C.2.1 dX11_spelt_48 rfl (lv_at hl 4 rfl) ?_
  refine lv_i2l (v := 110) C.1 C.2.1 dX11_spelt_49 (by decide) ?_
  refine lv_ladd C.1 C.2.1 dX11_spelt_50 ?_
  refine x_topl (z := 114698) (by decide) ?_
  refine lv_ldc2 (v := 96) C.1 C.2.1 C.2.2.2.1 (C.2.2.2.2 _ kw1354) dX11_spelt_51 ?_
  refine lv_lsub C.1 C.2.1 dX11_spelt_54 ?_
  refine x_topl (z := 114602) (by decide) ?_
  refine lv_lstore (lv' := [(7, .long 114602), (0, .int 101), (1, .int 118), (2, .int 101), (3, .int 110), (4, .int 0), (5, .int 0), (6, .int 0)]) C.1 C.2.1 dX11_spelt_55 hl (by decide) rfl (fun ls hl => ?_)
  refine lv_iload C.1 C.2.1 dX11_spelt_57 (lv_at hl 5 rfl) ?_
  refine lv_if_le (tgt := 78) C.1 C.2.1 dX11_spelt_59 (by decide) (fun _ => ?_) (fun h9 => absurd (by decide) h9)
  refine lv_iload C.1 C.2.1 dX11_spelt_78 (lv_at hl 6 rfl) ?_
  refine lv_if_le (tgt := 99) C.1 C.2.1 dX11_spelt_80 (by decide) (fun _ => ?_) (fun h9 => absurd (by decide) h9)
  refine lv_iload C.1 C.2.1 dX11_spelt_99 (lv_at hl 7 rfl) ?_
  refine lv_if_le (tgt := 120) C.1 C.2.1 dX11_spelt_101 (by decide) (fun _ => ?_) (fun h9 => absurd (by decide) h9)
  refine lv_lload C.1 C.2.1 dX11_spelt_120 (lv_at hl 0 rfl) ?_
  exact x_retlQ hQ B hw ⟨rfl, rfl⟩ (Nat.le_of_ble_eq_true rfl) (Nat.le_of_ble_eq_true rfl) dX11_spelt_122
theorem dX11_wordOf_447 : decode cX11_wordOf 447 = .ok (.bipush 101, 2) := by decide +kernel
theorem dX11_wordOf_449 : decode cX11_wordOf 449 = .ok (.bipush 118, 2) := by decide +kernel
theorem dX11_wordOf_451 : decode cX11_wordOf 451 = .ok (.bipush 101, 2) := by decide +kernel
theorem dX11_wordOf_453 : decode cX11_wordOf 453 = .ok (.bipush 110, 2) := by decide +kernel
theorem dX11_wordOf_455 : decode cX11_wordOf 455 = .ok (.iconst 0, 1) := by decide +kernel
theorem dX11_wordOf_456 : decode cX11_wordOf 456 = .ok (.iconst 0, 1) := by decide +kernel
theorem dX11_wordOf_457 : decode cX11_wordOf 457 = .ok (.iconst 0, 1) := by decide +kernel
theorem dX11_wordOf_458 : decode cX11_wordOf 458 = .ok (.invokestatic 58, 3) := by decide +kernel
theorem dX11_wordOf_461 : decode cX11_wordOf 461 = .ok (.lreturn, 1) := by decide +kernel
set_option maxHeartbeats 4000000 in
set_option maxRecDepth 100000 in
theorem e_wordOf_21 {l : Launch} {G : Gc}   : Cl l yX11_wordOf cX11_wordOf 1 1 0 0 G [.int 21] [] (fun (r9 : Int64) (u9 : va_W) => r9 = 114602 ∧ u9 = []) := by
  refine Cl.ofQ (by decide) (Nat.le_of_ble_eq_true rfl) ?_
  intro p e s m below meth c ls A args Q hQ B hw hl
  have C : CallFix p m c cX11_wordOf 1 s args gw "LanternStateModel" := B.1
  have hl : lv_has ls 1 [(0, .int 21)] := hl
  refine lv_iload_n C.1 C.2.1 dX11_wordOf_0 rfl (lv_at hl 0 rfl) ?_
  refine lv_tableIn (off := 446) (tgt := 447) C.1 C.2.1 dX11_wordOf_1 (by decide) (by decide) rfl (by decide) ?_
  refine lv_bipush (v := 101) C.1 C.2.1 dX11_wordOf_447 (by decide) ?_
  refine lv_bipush (v := 118) C.1 C.2.1 dX11_wordOf_449 (by decide) ?_
  refine lv_bipush (v := 101) C.1 C.2.1 dX11_wordOf_451 (by decide) ?_
  refine lv_bipush (v := 110) C.1 C.2.1 dX11_wordOf_453 (by decide) ?_
  refine lv_iconst (v := 0) C.1 C.2.1 dX11_wordOf_455 (by decide) ?_
  refine lv_iconst (v := 0) C.1 C.2.1 dX11_wordOf_456 (by decide) ?_
  refine lv_iconst (v := 0) C.1 C.2.1 dX11_wordOf_457 (by decide) ?_
  refine x_calllS (As := [.int 101, .int 118, .int 101, .int 110, .int 0, .int 0, .int 0]) (rest := []) (wr := []) C hw e_spelt_21 mwX11_spelt kw1366 [] [] rfl rfl rfl rfl (by decide) rfl hl.1 rfl (Nat.le_of_ble_eq_true rfl) ⟨(Nat.le_of_ble_eq_true rfl), (Nat.le_of_ble_eq_true rfl)⟩ ⟨(Nat.le_of_ble_eq_true rfl), (Nat.le_of_ble_eq_true rfl)⟩ dX11_wordOf_458 (fun r1 u9 H locs hp9 hw => ?_)
  obtain ⟨rfl, rfl⟩ := hp9
  have hw : Wd G s A [] H _ := hw
  exact x_retlQ hQ B hw ⟨rfl, rfl⟩ (Nat.le_of_ble_eq_true rfl) (Nat.le_of_ble_eq_true rfl) dX11_wordOf_461
set_option maxHeartbeats 4000000 in
set_option maxRecDepth 100000 in
theorem e_spelt_22 {l : Launch} {G : Gc}   : Cl l yX11_spelt cX11_spelt 9 0 0 0 G [.int 108, .int 105, .int 107, .int 101, .int 0, .int 0, .int 0] [] (fun (r9 : Int64) (u9 : va_W) => r9 = 243059 ∧ u9 = []) := by
  refine Cl.ofQ (by decide) (Nat.le_of_ble_eq_true rfl) ?_
  intro p e s m below meth c ls A args Q hQ B hw hl
  have C : CallFix p m c cX11_spelt 9 s args gw "LanternStateModel" := B.1
  have hl : lv_has ls 9 [(0, .int 108), (1, .int 105), (2, .int 107), (3, .int 101), (4, .int 0), (5, .int 0), (6, .int 0)] := hl
  refine lv_ldc2 (v := 27) C.1 C.2.1 C.2.2.2.1 (C.2.2.2.2 _ kw1353) dX11_spelt_0 ?_
  refine lv_iload_n C.1 C.2.1 dX11_spelt_3 rfl (lv_at hl 0 rfl) ?_
  refine lv_i2l (v := 108) C.1 C.2.1 dX11_spelt_4 (by decide) ?_
  refine lv_ldc2 (v := 96) C.1 C.2.1 C.2.2.2.1 (C.2.2.2.2 _ kw1354) dX11_spelt_5 ?_
  refine lv_lsub C.1 C.2.1 dX11_spelt_8 ?_
  refine x_topl (z := 12) (by decide) ?_
  refine lv_lmul C.1 C.2.1 dX11_spelt_9 ?_
  refine x_topl (z := 324) (by decide) ?_
  refine lv_iload_n C.1 C.2.1 dX11_spelt_10 rfl (lv_at hl 1 rfl) ?_
  refine lv_i2l (v := 105) C.1 C.2.1 dX11_spelt_11 (by decide) ?_
  refine lv_ladd C.1 C.2.1 dX11_spelt_12 ?_
  refine x_topl (z := 429) (by decide) ?_
  refine lv_ldc2 (v := 96) C.1 C.2.1 C.2.2.2.1 (C.2.2.2.2 _ kw1354) dX11_spelt_13 ?_
  refine lv_lsub C.1 C.2.1 dX11_spelt_16 ?_
  refine x_topl (z := 333) (by decide) ?_
  refine lv_lstore (lv' := [(7, .long 333), (0, .int 108), (1, .int 105), (2, .int 107), (3, .int 101), (4, .int 0), (5, .int 0), (6, .int 0)]) C.1 C.2.1 dX11_spelt_17 hl (by decide) rfl (fun ls hl => ?_)
  refine lv_iload_n C.1 C.2.1 dX11_spelt_19 rfl (lv_at hl 3 rfl) ?_
  refine lv_if_le (tgt := 38) C.1 C.2.1 dX11_spelt_20 (by decide) (fun h9 => absurd h9 (by decide)) (fun _ => ?_)
  refine lv_ldc2 (v := 27) C.1 C.2.1 C.2.2.2.1 (C.2.2.2.2 _ kw1353) dX11_spelt_23 ?_
  refine lv_lload C.1 C.2.1 dX11_spelt_26 (lv_at hl 0 rfl) ?_
  refine lv_lmul C.1 C.2.1 dX11_spelt_28 ?_
  refine x_topl (z := 8991) (by decide) ?_
  refine lv_iload_n C.1 C.2.1 dX11_spelt_29 rfl (lv_at hl 3 rfl) ?_
  refine lv_i2l (v := 107) C.1 C.2.1 dX11_spelt_30 (by decide) ?_
  refine lv_ladd C.1 C.2.1 dX11_spelt_31 ?_
  refine x_topl (z := 9098) (by decide) ?_
  refine lv_ldc2 (v := 96) C.1 C.2.1 C.2.2.2.1 (C.2.2.2.2 _ kw1354) dX11_spelt_32 ?_
  refine lv_lsub C.1 C.2.1 dX11_spelt_35 ?_
  refine x_topl (z := 9002) (by decide) ?_
  refine lv_lstore (lv' := [(7, .long 9002), (0, .int 108), (1, .int 105), (2, .int 107), (3, .int 101), (4, .int 0), (5, .int 0), (6, .int 0)]) C.1 C.2.1 dX11_spelt_36 hl (by decide) rfl (fun ls hl => ?_)
  refine lv_iload_n C.1 C.2.1 dX11_spelt_38 rfl (lv_at hl 4 rfl) ?_
  refine lv_if_le (tgt := 57) C.1 C.2.1 dX11_spelt_39 (by decide) (fun h9 => absurd h9 (by decide)) (fun _ => ?_)
  refine lv_ldc2 (v := 27) C.1 C.2.1 C.2.2.2.1 (C.2.2.2.2 _ kw1353) dX11_spelt_42 ?_
  refine lv_lload C.1 C.2.1 dX11_spelt_45 (lv_at hl 0 rfl) ?_
  refine lv_lmul C.1 C.2.1 dX11_spelt_47 ?_
  refine x_topl (z := 243054) (by decide) ?_
  refine lv_iload_n C.1 C.2.1 dX11_spelt_48 rfl (lv_at hl 4 rfl) ?_
  refine lv_i2l (v := 101) C.1 C.2.1 dX11_spelt_49 (by decide) ?_
  refine lv_ladd C.1 C.2.1 dX11_spelt_50 ?_
  refine x_topl (z := 243155) (by decide) ?_
  refine lv_ldc2 (v := 96) C.1 C.2.1 C.2.2.2.1 (C.2.2.2.2 _ kw1354) dX11_spelt_51 ?_
  refine lv_lsub C.1 C.2.1 dX11_spelt_54 ?_
  refine x_topl (z := 243059) (by decide) ?_
  refine lv_lstore (lv' := [(7, .long 243059), (0, .int 108), (1, .int 105), (2, .int 107), (3, .int 101), (4, .int 0), (5, .int 0), (6, .int 0)]) C.1 C.2.1 dX11_spelt_55 hl (by decide) rfl (fun ls hl => ?_)
  refine lv_iload C.1 C.2.1 dX11_spelt_57 (lv_at hl 5 rfl) ?_
  refine lv_if_le (tgt := 78) C.1 C.2.1 dX11_spelt_59 (by decide) (fun _ => ?_) (fun h9 => absurd (by decide) h9)
  refine lv_iload C.1 C.2.1 dX11_spelt_78 (lv_at hl 6 rfl) ?_
  refine lv_if_le (tgt := 99) C.1 C.2.1 dX11_spelt_80 (by decide) (fun _ => ?_) (fun h9 => absurd (by decide) h9)
  refine lv_iload C.1 C.2.1 dX11_spelt_99 (lv_at hl 7 rfl) ?_
  refine lv_if_le (tgt := 120) C.1 C.2.1 dX11_spelt_101 (by decide) (fun _ => ?_) (fun h9 => absurd (by decide) h9)
  refine lv_lload C.1 C.2.1 dX11_spelt_120 (lv_at hl 0 rfl) ?_
  exact x_retlQ hQ B hw ⟨rfl, rfl⟩ (Nat.le_of_ble_eq_true rfl) (Nat.le_of_ble_eq_true rfl) dX11_spelt_122
theorem dX11_wordOf_462 : decode cX11_wordOf 462 = .ok (.bipush 108, 2) := by decide +kernel
theorem dX11_wordOf_464 : decode cX11_wordOf 464 = .ok (.bipush 105, 2) := by decide +kernel
theorem dX11_wordOf_466 : decode cX11_wordOf 466 = .ok (.bipush 107, 2) := by decide +kernel
theorem dX11_wordOf_468 : decode cX11_wordOf 468 = .ok (.bipush 101, 2) := by decide +kernel
theorem dX11_wordOf_470 : decode cX11_wordOf 470 = .ok (.iconst 0, 1) := by decide +kernel
theorem dX11_wordOf_471 : decode cX11_wordOf 471 = .ok (.iconst 0, 1) := by decide +kernel
theorem dX11_wordOf_472 : decode cX11_wordOf 472 = .ok (.iconst 0, 1) := by decide +kernel
theorem dX11_wordOf_473 : decode cX11_wordOf 473 = .ok (.invokestatic 58, 3) := by decide +kernel
theorem dX11_wordOf_476 : decode cX11_wordOf 476 = .ok (.lreturn, 1) := by decide +kernel
set_option maxHeartbeats 4000000 in
set_option maxRecDepth 100000 in
theorem e_wordOf_22 {l : Launch} {G : Gc}   : Cl l yX11_wordOf cX11_wordOf 1 1 0 0 G [.int 22] [] (fun (r9 : Int64) (u9 : va_W) => r9 = 243059 ∧ u9 = []) := by
  refine Cl.ofQ (by decide) (Nat.le_of_ble_eq_true rfl) ?_
  intro p e s m below meth c ls A args Q hQ B hw hl
  have C : CallFix p m c cX11_wordOf 1 s args gw "LanternStateModel" := B.1
  have hl : lv_has ls 1 [(0, .int 22)] := hl
  refine lv_iload_n C.1 C.2.1 dX11_wordOf_0 rfl (lv_at hl 0 rfl) ?_
  refine lv_tableIn (off := 461) (tgt := 462) C.1 C.2.1 dX11_wordOf_1 (by decide) (by decide) rfl (by decide) ?_
  refine lv_bipush (v := 108) C.1 C.2.1 dX11_wordOf_462 (by decide) ?_
  refine lv_bipush (v := 105) C.1 C.2.1 dX11_wordOf_464 (by decide) ?_
  refine lv_bipush (v := 107) C.1 C.2.1 dX11_wordOf_466 (by decide) ?_
  refine lv_bipush (v := 101) C.1 C.2.1 dX11_wordOf_468 (by decide) ?_
  refine lv_iconst (v := 0) C.1 C.2.1 dX11_wordOf_470 (by decide) ?_
  refine lv_iconst (v := 0) C.1 C.2.1 dX11_wordOf_471 (by decide) ?_
  refine lv_iconst (v := 0) C.1 C.2.1 dX11_wordOf_472 (by decide) ?_
  refine x_calllS (As := [.int 108, .int 105, .int 107, .int 101, .int 0, .int 0, .int 0]) (rest := []) (wr := []) C hw e_spelt_22 mwX11_spelt kw1366 [] [] rfl rfl rfl rfl (by decide) rfl hl.1 rfl (Nat.le_of_ble_eq_true rfl) ⟨(Nat.le_of_ble_eq_true rfl), (Nat.le_of_ble_eq_true rfl)⟩ ⟨(Nat.le_of_ble_eq_true rfl), (Nat.le_of_ble_eq_true rfl)⟩ dX11_wordOf_473 (fun r1 u9 H locs hp9 hw => ?_)
  obtain ⟨rfl, rfl⟩ := hp9
  have hw : Wd G s A [] H _ := hw
  exact x_retlQ hQ B hw ⟨rfl, rfl⟩ (Nat.le_of_ble_eq_true rfl) (Nat.le_of_ble_eq_true rfl) dX11_wordOf_476
set_option maxHeartbeats 4000000 in
set_option maxRecDepth 100000 in
theorem e_spelt_23 {l : Launch} {G : Gc}   : Cl l yX11_spelt cX11_spelt 9 0 0 0 G [.int 108, .int 105, .int 103, .int 104, .int 116, .int 0, .int 0] [] (fun (r9 : Int64) (u9 : va_W) => r9 = 6559778 ∧ u9 = []) := by
  refine Cl.ofQ (by decide) (Nat.le_of_ble_eq_true rfl) ?_
  intro p e s m below meth c ls A args Q hQ B hw hl
  have C : CallFix p m c cX11_spelt 9 s args gw "LanternStateModel" := B.1
  have hl : lv_has ls 9 [(0, .int 108), (1, .int 105), (2, .int 103), (3, .int 104), (4, .int 116), (5, .int 0), (6, .int 0)] := hl
  refine lv_ldc2 (v := 27) C.1 C.2.1 C.2.2.2.1 (C.2.2.2.2 _ kw1353) dX11_spelt_0 ?_
  refine lv_iload_n C.1 C.2.1 dX11_spelt_3 rfl (lv_at hl 0 rfl) ?_
  refine lv_i2l (v := 108) C.1 C.2.1 dX11_spelt_4 (by decide) ?_
  refine lv_ldc2 (v := 96) C.1 C.2.1 C.2.2.2.1 (C.2.2.2.2 _ kw1354) dX11_spelt_5 ?_
  refine lv_lsub C.1 C.2.1 dX11_spelt_8 ?_
  refine x_topl (z := 12) (by decide) ?_
  refine lv_lmul C.1 C.2.1 dX11_spelt_9 ?_
  refine x_topl (z := 324) (by decide) ?_
  refine lv_iload_n C.1 C.2.1 dX11_spelt_10 rfl (lv_at hl 1 rfl) ?_
  refine lv_i2l (v := 105) C.1 C.2.1 dX11_spelt_11 (by decide) ?_
  refine lv_ladd C.1 C.2.1 dX11_spelt_12 ?_
  refine x_topl (z := 429) (by decide) ?_
  refine lv_ldc2 (v := 96) C.1 C.2.1 C.2.2.2.1 (C.2.2.2.2 _ kw1354) dX11_spelt_13 ?_
  refine lv_lsub C.1 C.2.1 dX11_spelt_16 ?_
  refine x_topl (z := 333) (by decide) ?_
  refine lv_lstore (lv' := [(7, .long 333), (0, .int 108), (1, .int 105), (2, .int 103), (3, .int 104), (4, .int 116), (5, .int 0), (6, .int 0)]) C.1 C.2.1 dX11_spelt_17 hl (by decide) rfl (fun ls hl => ?_)
  refine lv_iload_n C.1 C.2.1 dX11_spelt_19 rfl (lv_at hl 3 rfl) ?_
  refine lv_if_le (tgt := 38) C.1 C.2.1 dX11_spelt_20 (by decide) (fun h9 => absurd h9 (by decide)) (fun _ => ?_)
  refine lv_ldc2 (v := 27) C.1 C.2.1 C.2.2.2.1 (C.2.2.2.2 _ kw1353) dX11_spelt_23 ?_
  refine lv_lload C.1 C.2.1 dX11_spelt_26 (lv_at hl 0 rfl) ?_
  refine lv_lmul C.1 C.2.1 dX11_spelt_28 ?_
  refine x_topl (z := 8991) (by decide) ?_
  refine lv_iload_n C.1 C.2.1 dX11_spelt_29 rfl (lv_at hl 3 rfl) ?_
  refine lv_i2l (v := 103) C.1 C.2.1 dX11_spelt_30 (by decide) ?_
  refine lv_ladd C.1 C.2.1 dX11_spelt_31 ?_
  refine x_topl (z := 9094) (by decide) ?_
  refine lv_ldc2 (v := 96) C.1 C.2.1 C.2.2.2.1 (C.2.2.2.2 _ kw1354) dX11_spelt_32 ?_
  refine lv_lsub C.1 C.2.1 dX11_spelt_35 ?_
  refine x_topl (z := 8998) (by decide) ?_
  refine lv_lstore (lv' := [(7, .long 8998), (0, .int 108), (1, .int 105), (2, .int 103), (3, .int 104), (4, .int 116), (5, .int 0), (6, .int 0)]) C.1 C.2.1 dX11_spelt_36 hl (by decide) rfl (fun ls hl => ?_)
  refine lv_iload_n C.1 C.2.1 dX11_spelt_38 rfl (lv_at hl 4 rfl) ?_
  refine lv_if_le (tgt := 57) C.1 C.2.1 dX11_spelt_39 (by decide) (fun h9 => absurd h9 (by decide)) (fun _ => ?_)
  refine lv_ldc2 (v := 27) C.1 C.2.1 C.2.2.2.1 (C.2.2.2.2 _ kw1353) dX11_spelt_42 ?_
  refine lv_lload C.1 C.2.1 dX11_spelt_45 (lv_at hl 0 rfl) ?_
  refine lv_lmul C.1 C.2.1 dX11_spelt_47 ?_
  refine x_topl (z := 242946) (by decide) ?_
  refine lv_iload_n C.1 C.2.1 dX11_spelt_48 rfl (lv_at hl 4 rfl) ?_
  refine lv_i2l (v := 104) C.1 C.2.1 dX11_spelt_49 (by decide) ?_
  refine lv_ladd C.1 C.2.1 dX11_spelt_50 ?_
  refine x_topl (z := 243050) (by decide) ?_
  refine lv_ldc2 (v := 96) C.1 C.2.1 C.2.2.2.1 (C.2.2.2.2 _ kw1354) dX11_spelt_51 ?_
  refine lv_lsub C.1 C.2.1 dX11_spelt_54 ?_
  refine x_topl (z := 242954) (by decide) ?_
  refine lv_lstore (lv' := [(7, .long 242954), (0, .int 108), (1, .int 105), (2, .int 103), (3, .int 104), (4, .int 116), (5, .int 0), (6, .int 0)]) C.1 C.2.1 dX11_spelt_55 hl (by decide) rfl (fun ls hl => ?_)
  refine lv_iload C.1 C.2.1 dX11_spelt_57 (lv_at hl 5 rfl) ?_
  refine lv_if_le (tgt := 78) C.1 C.2.1 dX11_spelt_59 (by decide) (fun h9 => absurd h9 (by decide)) (fun _ => ?_)
  refine lv_ldc2 (v := 27) C.1 C.2.1 C.2.2.2.1 (C.2.2.2.2 _ kw1353) dX11_spelt_62 ?_
  refine lv_lload C.1 C.2.1 dX11_spelt_65 (lv_at hl 0 rfl) ?_
  refine lv_lmul C.1 C.2.1 dX11_spelt_67 ?_
  refine x_topl (z := 6559758) (by decide) ?_
  refine lv_iload C.1 C.2.1 dX11_spelt_68 (lv_at hl 5 rfl) ?_
  refine lv_i2l (v := 116) C.1 C.2.1 dX11_spelt_70 (by decide) ?_
  refine lv_ladd C.1 C.2.1 dX11_spelt_71 ?_
  refine x_topl (z := 6559874) (by decide) ?_
  refine lv_ldc2 (v := 96) C.1 C.2.1 C.2.2.2.1 (C.2.2.2.2 _ kw1354) dX11_spelt_72 ?_
  refine lv_lsub C.1 C.2.1 dX11_spelt_75 ?_
  refine x_topl (z := 6559778) (by decide) ?_
  refine lv_lstore (lv' := [(7, .long 6559778), (0, .int 108), (1, .int 105), (2, .int 103), (3, .int 104), (4, .int 116), (5, .int 0), (6, .int 0)]) C.1 C.2.1 dX11_spelt_76 hl (by decide) rfl (fun ls hl => ?_)
  refine lv_iload C.1 C.2.1 dX11_spelt_78 (lv_at hl 6 rfl) ?_
  refine lv_if_le (tgt := 99) C.1 C.2.1 dX11_spelt_80 (by decide) (fun _ => ?_) (fun h9 => absurd (by decide) h9)
  refine lv_iload C.1 C.2.1 dX11_spelt_99 (lv_at hl 7 rfl) ?_
  refine lv_if_le (tgt := 120) C.1 C.2.1 dX11_spelt_101 (by decide) (fun _ => ?_) (fun h9 => absurd (by decide) h9)
  refine lv_lload C.1 C.2.1 dX11_spelt_120 (lv_at hl 0 rfl) ?_
  exact x_retlQ hQ B hw ⟨rfl, rfl⟩ (Nat.le_of_ble_eq_true rfl) (Nat.le_of_ble_eq_true rfl) dX11_spelt_122
theorem dX11_wordOf_477 : decode cX11_wordOf 477 = .ok (.bipush 108, 2) := by decide +kernel
theorem dX11_wordOf_479 : decode cX11_wordOf 479 = .ok (.bipush 105, 2) := by decide +kernel
theorem dX11_wordOf_481 : decode cX11_wordOf 481 = .ok (.bipush 103, 2) := by decide +kernel
theorem dX11_wordOf_483 : decode cX11_wordOf 483 = .ok (.bipush 104, 2) := by decide +kernel
theorem dX11_wordOf_485 : decode cX11_wordOf 485 = .ok (.bipush 116, 2) := by decide +kernel
theorem dX11_wordOf_487 : decode cX11_wordOf 487 = .ok (.iconst 0, 1) := by decide +kernel
theorem dX11_wordOf_488 : decode cX11_wordOf 488 = .ok (.iconst 0, 1) := by decide +kernel
theorem dX11_wordOf_489 : decode cX11_wordOf 489 = .ok (.invokestatic 58, 3) := by decide +kernel
theorem dX11_wordOf_492 : decode cX11_wordOf 492 = .ok (.lreturn, 1) := by decide +kernel
set_option maxHeartbeats 4000000 in
set_option maxRecDepth 100000 in
theorem e_wordOf_23 {l : Launch} {G : Gc}   : Cl l yX11_wordOf cX11_wordOf 1 1 0 0 G [.int 23] [] (fun (r9 : Int64) (u9 : va_W) => r9 = 6559778 ∧ u9 = []) := by
  refine Cl.ofQ (by decide) (Nat.le_of_ble_eq_true rfl) ?_
  intro p e s m below meth c ls A args Q hQ B hw hl
  have C : CallFix p m c cX11_wordOf 1 s args gw "LanternStateModel" := B.1
  have hl : lv_has ls 1 [(0, .int 23)] := hl
  refine lv_iload_n C.1 C.2.1 dX11_wordOf_0 rfl (lv_at hl 0 rfl) ?_
  refine lv_tableIn (off := 476) (tgt := 477) C.1 C.2.1 dX11_wordOf_1 (by decide) (by decide) rfl (by decide) ?_
  refine lv_bipush (v := 108) C.1 C.2.1 dX11_wordOf_477 (by decide) ?_
  refine lv_bipush (v := 105) C.1 C.2.1 dX11_wordOf_479 (by decide) ?_
  refine lv_bipush (v := 103) C.1 C.2.1 dX11_wordOf_481 (by decide) ?_
  refine lv_bipush (v := 104) C.1 C.2.1 dX11_wordOf_483 (by decide) ?_
  refine lv_bipush (v := 116) C.1 C.2.1 dX11_wordOf_485 (by decide) ?_
  refine lv_iconst (v := 0) C.1 C.2.1 dX11_wordOf_487 (by decide) ?_
  refine lv_iconst (v := 0) C.1 C.2.1 dX11_wordOf_488 (by decide) ?_
  refine x_calllS (As := [.int 108, .int 105, .int 103, .int 104, .int 116, .int 0, .int 0]) (rest := []) (wr := []) C hw e_spelt_23 mwX11_spelt kw1366 [] [] rfl rfl rfl rfl (by decide) rfl hl.1 rfl (Nat.le_of_ble_eq_true rfl) ⟨(Nat.le_of_ble_eq_true rfl), (Nat.le_of_ble_eq_true rfl)⟩ ⟨(Nat.le_of_ble_eq_true rfl), (Nat.le_of_ble_eq_true rfl)⟩ dX11_wordOf_489 (fun r1 u9 H locs hp9 hw => ?_)
  obtain ⟨rfl, rfl⟩ := hp9
  have hw : Wd G s A [] H _ := hw
  exact x_retlQ hQ B hw ⟨rfl, rfl⟩ (Nat.le_of_ble_eq_true rfl) (Nat.le_of_ble_eq_true rfl) dX11_wordOf_492
set_option maxHeartbeats 4000000 in
set_option maxRecDepth 100000 in
theorem e_spelt_24 {l : Launch} {G : Gc}   : Cl l yX11_spelt cX11_spelt 9 0 0 0 G [.int 104, .int 101, .int 97, .int 116, .int 0, .int 0, .int 0] [] (fun (r9 : Int64) (u9 : va_W) => r9 = 161156 ∧ u9 = []) := by
  refine Cl.ofQ (by decide) (Nat.le_of_ble_eq_true rfl) ?_
  intro p e s m below meth c ls A args Q hQ B hw hl
  have C : CallFix p m c cX11_spelt 9 s args gw "LanternStateModel" := B.1
  have hl : lv_has ls 9 [(0, .int 104), (1, .int 101), (2, .int 97), (3, .int 116), (4, .int 0), (5, .int 0), (6, .int 0)] := hl
  refine lv_ldc2 (v := 27) C.1 C.2.1 C.2.2.2.1 (C.2.2.2.2 _ kw1353) dX11_spelt_0 ?_
  refine lv_iload_n C.1 C.2.1 dX11_spelt_3 rfl (lv_at hl 0 rfl) ?_
  refine lv_i2l (v := 104) C.1 C.2.1 dX11_spelt_4 (by decide) ?_
  refine lv_ldc2 (v := 96) C.1 C.2.1 C.2.2.2.1 (C.2.2.2.2 _ kw1354) dX11_spelt_5 ?_
  refine lv_lsub C.1 C.2.1 dX11_spelt_8 ?_
  refine x_topl (z := 8) (by decide) ?_
  refine lv_lmul C.1 C.2.1 dX11_spelt_9 ?_
  refine x_topl (z := 216) (by decide) ?_
  refine lv_iload_n C.1 C.2.1 dX11_spelt_10 rfl (lv_at hl 1 rfl) ?_
  refine lv_i2l (v := 101) C.1 C.2.1 dX11_spelt_11 (by decide) ?_
  refine lv_ladd C.1 C.2.1 dX11_spelt_12 ?_
  refine x_topl (z := 317) (by decide) ?_
  refine lv_ldc2 (v := 96) C.1 C.2.1 C.2.2.2.1 (C.2.2.2.2 _ kw1354) dX11_spelt_13 ?_
  refine lv_lsub C.1 C.2.1 dX11_spelt_16 ?_
  refine x_topl (z := 221) (by decide) ?_
  refine lv_lstore (lv' := [(7, .long 221), (0, .int 104), (1, .int 101), (2, .int 97), (3, .int 116), (4, .int 0), (5, .int 0), (6, .int 0)]) C.1 C.2.1 dX11_spelt_17 hl (by decide) rfl (fun ls hl => ?_)
  refine lv_iload_n C.1 C.2.1 dX11_spelt_19 rfl (lv_at hl 3 rfl) ?_
  refine lv_if_le (tgt := 38) C.1 C.2.1 dX11_spelt_20 (by decide) (fun h9 => absurd h9 (by decide)) (fun _ => ?_)
  refine lv_ldc2 (v := 27) C.1 C.2.1 C.2.2.2.1 (C.2.2.2.2 _ kw1353) dX11_spelt_23 ?_
  refine lv_lload C.1 C.2.1 dX11_spelt_26 (lv_at hl 0 rfl) ?_
  refine lv_lmul C.1 C.2.1 dX11_spelt_28 ?_
  refine x_topl (z := 5967) (by decide) ?_
  refine lv_iload_n C.1 C.2.1 dX11_spelt_29 rfl (lv_at hl 3 rfl) ?_
  refine lv_i2l (v := 97) C.1 C.2.1 dX11_spelt_30 (by decide) ?_
  refine lv_ladd C.1 C.2.1 dX11_spelt_31 ?_
  refine x_topl (z := 6064) (by decide) ?_
  refine lv_ldc2 (v := 96) C.1 C.2.1 C.2.2.2.1 (C.2.2.2.2 _ kw1354) dX11_spelt_32 ?_
  refine lv_lsub C.1 C.2.1 dX11_spelt_35 ?_
  refine x_topl (z := 5968) (by decide) ?_
  refine lv_lstore (lv' := [(7, .long 5968), (0, .int 104), (1, .int 101), (2, .int 97), (3, .int 116), (4, .int 0), (5, .int 0), (6, .int 0)]) C.1 C.2.1 dX11_spelt_36 hl (by decide) rfl (fun ls hl => ?_)
  refine lv_iload_n C.1 C.2.1 dX11_spelt_38 rfl (lv_at hl 4 rfl) ?_
  refine lv_if_le (tgt := 57) C.1 C.2.1 dX11_spelt_39 (by decide) (fun h9 => absurd h9 (by decide)) (fun _ => ?_)
  refine lv_ldc2 (v := 27) C.1 C.2.1 C.2.2.2.1 (C.2.2.2.2 _ kw1353) dX11_spelt_42 ?_
  refine lv_lload C.1 C.2.1 dX11_spelt_45 (lv_at hl 0 rfl) ?_
  refine lv_lmul C.1 C.2.1 dX11_spelt_47 ?_
  refine x_topl (z := 161136) (by decide) ?_
  refine lv_iload_n C.1 C.2.1 dX11_spelt_48 rfl (lv_at hl 4 rfl) ?_
  refine lv_i2l (v := 116) C.1 C.2.1 dX11_spelt_49 (by decide) ?_
  refine lv_ladd C.1 C.2.1 dX11_spelt_50 ?_
  refine x_topl (z := 161252) (by decide) ?_
  refine lv_ldc2 (v := 96) C.1 C.2.1 C.2.2.2.1 (C.2.2.2.2 _ kw1354) dX11_spelt_51 ?_
  refine lv_lsub C.1 C.2.1 dX11_spelt_54 ?_
  refine x_topl (z := 161156) (by decide) ?_
  refine lv_lstore (lv' := [(7, .long 161156), (0, .int 104), (1, .int 101), (2, .int 97), (3, .int 116), (4, .int 0), (5, .int 0), (6, .int 0)]) C.1 C.2.1 dX11_spelt_55 hl (by decide) rfl (fun ls hl => ?_)
  refine lv_iload C.1 C.2.1 dX11_spelt_57 (lv_at hl 5 rfl) ?_
  refine lv_if_le (tgt := 78) C.1 C.2.1 dX11_spelt_59 (by decide) (fun _ => ?_) (fun h9 => absurd (by decide) h9)
  refine lv_iload C.1 C.2.1 dX11_spelt_78 (lv_at hl 6 rfl) ?_
  refine lv_if_le (tgt := 99) C.1 C.2.1 dX11_spelt_80 (by decide) (fun _ => ?_) (fun h9 => absurd (by decide) h9)
  refine lv_iload C.1 C.2.1 dX11_spelt_99 (lv_at hl 7 rfl) ?_
  refine lv_if_le (tgt := 120) C.1 C.2.1 dX11_spelt_101 (by decide) (fun _ => ?_) (fun h9 => absurd (by decide) h9)
  refine lv_lload C.1 C.2.1 dX11_spelt_120 (lv_at hl 0 rfl) ?_
  exact x_retlQ hQ B hw ⟨rfl, rfl⟩ (Nat.le_of_ble_eq_true rfl) (Nat.le_of_ble_eq_true rfl) dX11_spelt_122
theorem dX11_wordOf_493 : decode cX11_wordOf 493 = .ok (.bipush 104, 2) := by decide +kernel
theorem dX11_wordOf_495 : decode cX11_wordOf 495 = .ok (.bipush 101, 2) := by decide +kernel
theorem dX11_wordOf_497 : decode cX11_wordOf 497 = .ok (.bipush 97, 2) := by decide +kernel
theorem dX11_wordOf_499 : decode cX11_wordOf 499 = .ok (.bipush 116, 2) := by decide +kernel
theorem dX11_wordOf_501 : decode cX11_wordOf 501 = .ok (.iconst 0, 1) := by decide +kernel
theorem dX11_wordOf_502 : decode cX11_wordOf 502 = .ok (.iconst 0, 1) := by decide +kernel
theorem dX11_wordOf_503 : decode cX11_wordOf 503 = .ok (.iconst 0, 1) := by decide +kernel
theorem dX11_wordOf_504 : decode cX11_wordOf 504 = .ok (.invokestatic 58, 3) := by decide +kernel
theorem dX11_wordOf_507 : decode cX11_wordOf 507 = .ok (.lreturn, 1) := by decide +kernel
set_option maxHeartbeats 4000000 in
set_option maxRecDepth 100000 in
theorem e_wordOf_24 {l : Launch} {G : Gc}   : Cl l yX11_wordOf cX11_wordOf 1 1 0 0 G [.int 24] [] (fun (r9 : Int64) (u9 : va_W) => r9 = 161156 ∧ u9 = []) := by
  refine Cl.ofQ (by decide) (Nat.le_of_ble_eq_true rfl) ?_
  intro p e s m below meth c ls A args Q hQ B hw hl
  have C : CallFix p m c cX11_wordOf 1 s args gw "LanternStateModel" := B.1
  have hl : lv_has ls 1 [(0, .int 24)] := hl
  refine lv_iload_n C.1 C.2.1 dX11_wordOf_0 rfl (lv_at hl 0 rfl) ?_
  refine lv_tableIn (off := 492) (tgt := 493) C.1 C.2.1 dX11_wordOf_1 (by decide) (by decide) rfl (by decide) ?_
  refine lv_bipush (v := 104) C.1 C.2.1 dX11_wordOf_493 (by decide) ?_
  refine lv_bipush (v := 101) C.1 C.2.1 dX11_wordOf_495 (by decide) ?_
  refine lv_bipush (v := 97) C.1 C.2.1 dX11_wordOf_497 (by decide) ?_
  refine lv_bipush (v := 116) C.1 C.2.1 dX11_wordOf_499 (by decide) ?_
  refine lv_iconst (v := 0) C.1 C.2.1 dX11_wordOf_501 (by decide) ?_
  refine lv_iconst (v := 0) C.1 C.2.1 dX11_wordOf_502 (by decide) ?_
  refine lv_iconst (v := 0) C.1 C.2.1 dX11_wordOf_503 (by decide) ?_
  refine x_calllS (As := [.int 104, .int 101, .int 97, .int 116, .int 0, .int 0, .int 0]) (rest := []) (wr := []) C hw e_spelt_24 mwX11_spelt kw1366 [] [] rfl rfl rfl rfl (by decide) rfl hl.1 rfl (Nat.le_of_ble_eq_true rfl) ⟨(Nat.le_of_ble_eq_true rfl), (Nat.le_of_ble_eq_true rfl)⟩ ⟨(Nat.le_of_ble_eq_true rfl), (Nat.le_of_ble_eq_true rfl)⟩ dX11_wordOf_504 (fun r1 u9 H locs hp9 hw => ?_)
  obtain ⟨rfl, rfl⟩ := hp9
  have hw : Wd G s A [] H _ := hw
  exact x_retlQ hQ B hw ⟨rfl, rfl⟩ (Nat.le_of_ble_eq_true rfl) (Nat.le_of_ble_eq_true rfl) dX11_wordOf_507
set_option maxHeartbeats 4000000 in
set_option maxRecDepth 100000 in
theorem e_spelt_25 {l : Launch} {G : Gc}   : Cl l yX11_spelt cX11_spelt 9 0 0 0 G [.int 115, .int 105, .int 103, .int 104, .int 115, .int 0, .int 0] [] (fun (r9 : Int64) (u9 : va_W) => r9 = 10279864 ∧ u9 = []) := by
  refine Cl.ofQ (by decide) (Nat.le_of_ble_eq_true rfl) ?_
  intro p e s m below meth c ls A args Q hQ B hw hl
  have C : CallFix p m c cX11_spelt 9 s args gw "LanternStateModel" := B.1
  have hl : lv_has ls 9 [(0, .int 115), (1, .int 105), (2, .int 103), (3, .int 104), (4, .int 115), (5, .int 0), (6, .int 0)] := hl
  refine lv_ldc2 (v := 27) C.1 C.2.1 C.2.2.2.1 (C.2.2.2.2 _ kw1353) dX11_spelt_0 ?_
  refine lv_iload_n C.1 C.2.1 dX11_spelt_3 rfl (lv_at hl 0 rfl) ?_
  refine lv_i2l (v := 115) C.1 C.2.1 dX11_spelt_4 (by decide) ?_
  refine lv_ldc2 (v := 96) C.1 C.2.1 C.2.2.2.1 (C.2.2.2.2 _ kw1354) dX11_spelt_5 ?_
  refine lv_lsub C.1 C.2.1 dX11_spelt_8 ?_
  refine x_topl (z := 19) (by decide) ?_
  refine lv_lmul C.1 C.2.1 dX11_spelt_9 ?_
  refine x_topl (z := 513) (by decide) ?_
  refine lv_iload_n C.1 C.2.1 dX11_spelt_10 rfl (lv_at hl 1 rfl) ?_
  refine lv_i2l (v := 105) C.1 C.2.1 dX11_spelt_11 (by decide) ?_
  refine lv_ladd C.1 C.2.1 dX11_spelt_12 ?_
  refine x_topl (z := 618) (by decide) ?_
  refine lv_ldc2 (v := 96) C.1 C.2.1 C.2.2.2.1 (C.2.2.2.2 _ kw1354) dX11_spelt_13 ?_
  refine lv_lsub C.1 C.2.1 dX11_spelt_16 ?_
  refine x_topl (z := 522) (by decide) ?_
  refine lv_lstore (lv' := [(7, .long 522), (0, .int 115), (1, .int 105), (2, .int 103), (3, .int 104), (4, .int 115), (5, .int 0), (6, .int 0)]) C.1 C.2.1 dX11_spelt_17 hl (by decide) rfl (fun ls hl => ?_)
  refine lv_iload_n C.1 C.2.1 dX11_spelt_19 rfl (lv_at hl 3 rfl) ?_
  refine lv_if_le (tgt := 38) C.1 C.2.1 dX11_spelt_20 (by decide) (fun h9 => absurd h9 (by decide)) (fun _ => ?_)
  refine lv_ldc2 (v := 27) C.1 C.2.1 C.2.2.2.1 (C.2.2.2.2 _ kw1353) dX11_spelt_23 ?_
  refine lv_lload C.1 C.2.1 dX11_spelt_26 (lv_at hl 0 rfl) ?_
  refine lv_lmul C.1 C.2.1 dX11_spelt_28 ?_
  refine x_topl (z := 14094) (by decide) ?_
  refine lv_iload_n C.1 C.2.1 dX11_spelt_29 rfl (lv_at hl 3 rfl) ?_
  refine lv_i2l (v := 103) C.1 C.2.1 dX11_spelt_30 (by decide) ?_
  refine lv_ladd C.1 C.2.1 dX11_spelt_31 ?_
  refine x_topl (z := 14197) (by decide) ?_
  refine lv_ldc2 (v := 96) C.1 C.2.1 C.2.2.2.1 (C.2.2.2.2 _ kw1354) dX11_spelt_32 ?_
  refine lv_lsub C.1 C.2.1 dX11_spelt_35 ?_
  refine x_topl (z := 14101) (by decide) ?_
  refine lv_lstore (lv' := [(7, .long 14101), (0, .int 115), (1, .int 105), (2, .int 103), (3, .int 104), (4, .int 115), (5, .int 0), (6, .int 0)]) C.1 C.2.1 dX11_spelt_36 hl (by decide) rfl (fun ls hl => ?_)
  refine lv_iload_n C.1 C.2.1 dX11_spelt_38 rfl (lv_at hl 4 rfl) ?_
  refine lv_if_le (tgt := 57) C.1 C.2.1 dX11_spelt_39 (by decide) (fun h9 => absurd h9 (by decide)) (fun _ => ?_)
  refine lv_ldc2 (v := 27) C.1 C.2.1 C.2.2.2.1 (C.2.2.2.2 _ kw1353) dX11_spelt_42 ?_
  refine lv_lload C.1 C.2.1 dX11_spelt_45 (lv_at hl 0 rfl) ?_
  refine lv_lmul C.1 C.2.1 dX11_spelt_47 ?_
  refine x_topl (z := 380727) (by decide) ?_
  refine lv_iload_n C.1 C.2.1 dX11_spelt_48 rfl (lv_at hl 4 rfl) ?_
  refine lv_i2l (v := 104) C.1 C.2.1 dX11_spelt_49 (by decide) ?_
  refine lv_ladd C.1 C.2.1 dX11_spelt_50 ?_
  refine x_topl (z := 380831) (by decide) ?_
  refine lv_ldc2 (v := 96) C.1 C.2.1 C.2.2.2.1 (C.2.2.2.2 _ kw1354) dX11_spelt_51 ?_
  refine lv_lsub C.1 C.2.1 dX11_spelt_54 ?_
  refine x_topl (z := 380735) (by decide) ?_
  refine lv_lstore (lv' := [(7, .long 380735), (0, .int 115), (1, .int 105), (2, .int 103), (3, .int 104), (4, .int 115), (5, .int 0), (6, .int 0)]) C.1 C.2.1 dX11_spelt_55 hl (by decide) rfl (fun ls hl => ?_)
  refine lv_iload C.1 C.2.1 dX11_spelt_57 (lv_at hl 5 rfl) ?_
  refine lv_if_le (tgt := 78) C.1 C.2.1 dX11_spelt_59 (by decide) (fun h9 => absurd h9 (by decide)) (fun _ => ?_)
  refine lv_ldc2 (v := 27) C.1 C.2.1 C.2.2.2.1 (C.2.2.2.2 _ kw1353) dX11_spelt_62 ?_
  refine lv_lload C.1 C.2.1 dX11_spelt_65 (lv_at hl 0 rfl) ?_
  refine lv_lmul C.1 C.2.1 dX11_spelt_67 ?_
  refine x_topl (z := 10279845) (by decide) ?_
  refine lv_iload C.1 C.2.1 dX11_spelt_68 (lv_at hl 5 rfl) ?_
  refine lv_i2l (v := 115) C.1 C.2.1 dX11_spelt_70 (by decide) ?_
  refine lv_ladd C.1 C.2.1 dX11_spelt_71 ?_
  refine x_topl (z := 10279960) (by decide) ?_
  refine lv_ldc2 (v := 96) C.1 C.2.1 C.2.2.2.1 (C.2.2.2.2 _ kw1354) dX11_spelt_72 ?_
  refine lv_lsub C.1 C.2.1 dX11_spelt_75 ?_
  refine x_topl (z := 10279864) (by decide) ?_
  refine lv_lstore (lv' := [(7, .long 10279864), (0, .int 115), (1, .int 105), (2, .int 103), (3, .int 104), (4, .int 115), (5, .int 0), (6, .int 0)]) C.1 C.2.1 dX11_spelt_76 hl (by decide) rfl (fun ls hl => ?_)
  refine lv_iload C.1 C.2.1 dX11_spelt_78 (lv_at hl 6 rfl) ?_
  refine lv_if_le (tgt := 99) C.1 C.2.1 dX11_spelt_80 (by decide) (fun _ => ?_) (fun h9 => absurd (by decide) h9)
  refine lv_iload C.1 C.2.1 dX11_spelt_99 (lv_at hl 7 rfl) ?_
  refine lv_if_le (tgt := 120) C.1 C.2.1 dX11_spelt_101 (by decide) (fun _ => ?_) (fun h9 => absurd (by decide) h9)
  refine lv_lload C.1 C.2.1 dX11_spelt_120 (lv_at hl 0 rfl) ?_
  exact x_retlQ hQ B hw ⟨rfl, rfl⟩ (Nat.le_of_ble_eq_true rfl) (Nat.le_of_ble_eq_true rfl) dX11_spelt_122
theorem dX11_wordOf_508 : decode cX11_wordOf 508 = .ok (.bipush 115, 2) := by decide +kernel
theorem dX11_wordOf_510 : decode cX11_wordOf 510 = .ok (.bipush 105, 2) := by decide +kernel
theorem dX11_wordOf_512 : decode cX11_wordOf 512 = .ok (.bipush 103, 2) := by decide +kernel
theorem dX11_wordOf_514 : decode cX11_wordOf 514 = .ok (.bipush 104, 2) := by decide +kernel
theorem dX11_wordOf_516 : decode cX11_wordOf 516 = .ok (.bipush 115, 2) := by decide +kernel
theorem dX11_wordOf_518 : decode cX11_wordOf 518 = .ok (.iconst 0, 1) := by decide +kernel
theorem dX11_wordOf_519 : decode cX11_wordOf 519 = .ok (.iconst 0, 1) := by decide +kernel
theorem dX11_wordOf_520 : decode cX11_wordOf 520 = .ok (.invokestatic 58, 3) := by decide +kernel
theorem dX11_wordOf_523 : decode cX11_wordOf 523 = .ok (.lreturn, 1) := by decide +kernel
set_option maxHeartbeats 4000000 in
set_option maxRecDepth 100000 in
theorem e_wordOf_25 {l : Launch} {G : Gc}   : Cl l yX11_wordOf cX11_wordOf 1 1 0 0 G [.int 25] [] (fun (r9 : Int64) (u9 : va_W) => r9 = 10279864 ∧ u9 = []) := by
  refine Cl.ofQ (by decide) (Nat.le_of_ble_eq_true rfl) ?_
  intro p e s m below meth c ls A args Q hQ B hw hl
  have C : CallFix p m c cX11_wordOf 1 s args gw "LanternStateModel" := B.1
  have hl : lv_has ls 1 [(0, .int 25)] := hl
  refine lv_iload_n C.1 C.2.1 dX11_wordOf_0 rfl (lv_at hl 0 rfl) ?_
  refine lv_tableIn (off := 507) (tgt := 508) C.1 C.2.1 dX11_wordOf_1 (by decide) (by decide) rfl (by decide) ?_
  refine lv_bipush (v := 115) C.1 C.2.1 dX11_wordOf_508 (by decide) ?_
  refine lv_bipush (v := 105) C.1 C.2.1 dX11_wordOf_510 (by decide) ?_
  refine lv_bipush (v := 103) C.1 C.2.1 dX11_wordOf_512 (by decide) ?_
  refine lv_bipush (v := 104) C.1 C.2.1 dX11_wordOf_514 (by decide) ?_
  refine lv_bipush (v := 115) C.1 C.2.1 dX11_wordOf_516 (by decide) ?_
  refine lv_iconst (v := 0) C.1 C.2.1 dX11_wordOf_518 (by decide) ?_
  refine lv_iconst (v := 0) C.1 C.2.1 dX11_wordOf_519 (by decide) ?_
  refine x_calllS (As := [.int 115, .int 105, .int 103, .int 104, .int 115, .int 0, .int 0]) (rest := []) (wr := []) C hw e_spelt_25 mwX11_spelt kw1366 [] [] rfl rfl rfl rfl (by decide) rfl hl.1 rfl (Nat.le_of_ble_eq_true rfl) ⟨(Nat.le_of_ble_eq_true rfl), (Nat.le_of_ble_eq_true rfl)⟩ ⟨(Nat.le_of_ble_eq_true rfl), (Nat.le_of_ble_eq_true rfl)⟩ dX11_wordOf_520 (fun r1 u9 H locs hp9 hw => ?_)
  obtain ⟨rfl, rfl⟩ := hp9
  have hw : Wd G s A [] H _ := hw
  exact x_retlQ hQ B hw ⟨rfl, rfl⟩ (Nat.le_of_ble_eq_true rfl) (Nat.le_of_ble_eq_true rfl) dX11_wordOf_523
set_option maxHeartbeats 4000000 in
set_option maxRecDepth 100000 in
theorem e_spelt_26 {l : Launch} {G : Gc}   : Cl l yX11_spelt cX11_spelt 9 0 0 0 G [.int 110, .int 117, .int 109, .int 98, .int 101, .int 114, .int 0] [] (fun (r9 : Int64) (u9 : va_W) => r9 = 212302449 ∧ u9 = []) := by
  refine Cl.ofQ (by decide) (Nat.le_of_ble_eq_true rfl) ?_
  intro p e s m below meth c ls A args Q hQ B hw hl
  have C : CallFix p m c cX11_spelt 9 s args gw "LanternStateModel" := B.1
  have hl : lv_has ls 9 [(0, .int 110), (1, .int 117), (2, .int 109), (3, .int 98), (4, .int 101), (5, .int 114), (6, .int 0)] := hl
  refine lv_ldc2 (v := 27) C.1 C.2.1 C.2.2.2.1 (C.2.2.2.2 _ kw1353) dX11_spelt_0 ?_
  refine lv_iload_n C.1 C.2.1 dX11_spelt_3 rfl (lv_at hl 0 rfl) ?_
  refine lv_i2l (v := 110) C.1 C.2.1 dX11_spelt_4 (by decide) ?_
  refine lv_ldc2 (v := 96) C.1 C.2.1 C.2.2.2.1 (C.2.2.2.2 _ kw1354) dX11_spelt_5 ?_
  refine lv_lsub C.1 C.2.1 dX11_spelt_8 ?_
  refine x_topl (z := 14) (by decide) ?_
  refine lv_lmul C.1 C.2.1 dX11_spelt_9 ?_
  refine x_topl (z := 378) (by decide) ?_
  refine lv_iload_n C.1 C.2.1 dX11_spelt_10 rfl (lv_at hl 1 rfl) ?_
  refine lv_i2l (v := 117) C.1 C.2.1 dX11_spelt_11 (by decide) ?_
  refine lv_ladd C.1 C.2.1 dX11_spelt_12 ?_
  refine x_topl (z := 495) (by decide) ?_
  refine lv_ldc2 (v := 96) C.1 C.2.1 C.2.2.2.1 (C.2.2.2.2 _ kw1354) dX11_spelt_13 ?_
  refine lv_lsub C.1 C.2.1 dX11_spelt_16 ?_
  refine x_topl (z := 399) (by decide) ?_
  refine lv_lstore (lv' := [(7, .long 399), (0, .int 110), (1, .int 117), (2, .int 109), (3, .int 98), (4, .int 101), (5, .int 114), (6, .int 0)]) C.1 C.2.1 dX11_spelt_17 hl (by decide) rfl (fun ls hl => ?_)
  refine lv_iload_n C.1 C.2.1 dX11_spelt_19 rfl (lv_at hl 3 rfl) ?_
  refine lv_if_le (tgt := 38) C.1 C.2.1 dX11_spelt_20 (by decide) (fun h9 => absurd h9 (by decide)) (fun _ => ?_)
  refine lv_ldc2 (v := 27) C.1 C.2.1 C.2.2.2.1 (C.2.2.2.2 _ kw1353) dX11_spelt_23 ?_
  refine lv_lload C.1 C.2.1 dX11_spelt_26 (lv_at hl 0 rfl) ?_
  refine lv_lmul C.1 C.2.1 dX11_spelt_28 ?_
  refine x_topl (z := 10773) (by decide) ?_
  refine lv_iload_n C.1 C.2.1 dX11_spelt_29 rfl (lv_at hl 3 rfl) ?_
  refine lv_i2l (v := 109) C.1 C.2.1 dX11_spelt_30 (by decide) ?_
  refine lv_ladd C.1 C.2.1 dX11_spelt_31 ?_
  refine x_topl (z := 10882) (by decide) ?_
  refine lv_ldc2 (v := 96) C.1 C.2.1 C.2.2.2.1 (C.2.2.2.2 _ kw1354) dX11_spelt_32 ?_
  refine lv_lsub C.1 C.2.1 dX11_spelt_35 ?_
  refine x_topl (z := 10786) (by decide) ?_
  refine lv_lstore (lv' := [(7, .long 10786), (0, .int 110), (1, .int 117), (2, .int 109), (3, .int 98), (4, .int 101), (5, .int 114), (6, .int 0)]) C.1 C.2.1 dX11_spelt_36 hl (by decide) rfl (fun ls hl => ?_)
  refine lv_iload_n C.1 C.2.1 dX11_spelt_38 rfl (lv_at hl 4 rfl) ?_
  refine lv_if_le (tgt := 57) C.1 C.2.1 dX11_spelt_39 (by decide) (fun h9 => absurd h9 (by decide)) (fun _ => ?_)
  refine lv_ldc2 (v := 27) C.1 C.2.1 C.2.2.2.1 (C.2.2.2.2 _ kw1353) dX11_spelt_42 ?_
  refine lv_lload C.1 C.2.1 dX11_spelt_45 (lv_at hl 0 rfl) ?_
  refine lv_lmul C.1 C.2.1 dX11_spelt_47 ?_
  refine x_topl (z := 291222) (by decide) ?_
  refine lv_iload_n C.1 C.2.1 dX11_spelt_48 rfl (lv_at hl 4 rfl) ?_
  refine lv_i2l (v := 98) C.1 C.2.1 dX11_spelt_49 (by decide) ?_
  refine lv_ladd C.1 C.2.1 dX11_spelt_50 ?_
  refine x_topl (z := 291320) (by decide) ?_
  refine lv_ldc2 (v := 96) C.1 C.2.1 C.2.2.2.1 (C.2.2.2.2 _ kw1354) dX11_spelt_51 ?_
  refine lv_lsub C.1 C.2.1 dX11_spelt_54 ?_
  refine x_topl (z := 291224) (by decide) ?_
  refine lv_lstore (lv' := [(7, .long 291224), (0, .int 110), (1, .int 117), (2, .int 109), (3, .int 98), (4, .int 101), (5, .int 114), (6, .int 0)]) C.1 C.2.1 dX11_spelt_55 hl (by decide) rfl (fun ls hl => ?_)
  refine lv_iload C.1 C.2.1 dX11_spelt_57 (lv_at hl 5 rfl) ?_
  refine lv_if_le (tgt := 78) C.1 C.2.1 dX11_spelt_59 (by decide) (fun h9 => absurd h9 (by decide)) (fun _ => ?_)
  refine lv_ldc2 (v := 27) C.1 C.2.1 C.2.2.2.1 (C.2.2.2.2 _ kw1353) dX11_spelt_62 ?_
  refine lv_lload C.1 C.2.1 dX11_spelt_65 (lv_at hl 0 rfl) ?_
  refine lv_lmul C.1 C.2.1 dX11_spelt_67 ?_
  refine x_topl (z := 7863048) (by decide) ?_
  refine lv_iload C.1 C.2.1 dX11_spelt_68 (lv_at hl 5 rfl) ?_
  refine lv_i2l (v := 101) C.1 C.2.1 dX11_spelt_70 (by decide) ?_
  refine lv_ladd C.1 C.2.1 dX11_spelt_71 ?_
  refine x_topl (z := 7863149) (by decide) ?_
  refine lv_ldc2 (v := 96) C.1 C.2.1 C.2.2.2.1 (C.2.2.2.2 _ kw1354) dX11_spelt_72 ?_
  refine lv_lsub C.1 C.2.1 dX11_spelt_75 ?_
  refine x_topl (z := 7863053) (by decide) ?_
  refine lv_lstore (lv' := [(7, .long 7863053), (0, .int 110), (1, .int 117), (2, .int 109), (3, .int 98), (4, .int 101), (5, .int 114), (6, .int 0)]) C.1 C.2.1 dX11_spelt_76 hl (by decide) rfl (fun ls hl => ?_)
  refine lv_iload C.1 C.2.1 dX11_spelt_78 (lv_at hl 6 rfl) ?_
  refine lv_if_le (tgt := 99) C.1 C.2.1 dX11_spelt_80 (by decide) (fun h9 => absurd h9 (by decide)) (fun _ => ?_)
  refine lv_ldc2 (v := 27) C.1 C.2.1 C.2.2.2.1 (C.2.2.2.2 _ kw1353) dX11_spelt_83 ?_
  refine lv_lload C.1 C.2.1 dX11_spelt_86 (lv_at hl 0 rfl) ?_
  refine lv_lmul C.1 C.2.1 dX11_spelt_88 ?_
  refine x_topl (z := 212302431) (by decide) ?_
  refine lv_iload C.1 C.2.1 dX11_spelt_89 (lv_at hl 6 rfl) ?_
  refine lv_i2l (v := 114) C.1 C.2.1 dX11_spelt_91 (by decide) ?_
  refine lv_ladd C.1 C.2.1 dX11_spelt_92 ?_
  refine x_topl (z := 212302545) (by decide) ?_
  refine lv_ldc2 (v := 96) C.1 C.2.1 C.2.2.2.1 (C.2.2.2.2 _ kw1354) dX11_spelt_93 ?_
  refine lv_lsub C.1 C.2.1 dX11_spelt_96 ?_
  refine x_topl (z := 212302449) (by decide) ?_
  refine lv_lstore (lv' := [(7, .long 212302449), (0, .int 110), (1, .int 117), (2, .int 109), (3, .int 98), (4, .int 101), (5, .int 114), (6, .int 0)]) C.1 C.2.1 dX11_spelt_97 hl (by decide) rfl (fun ls hl => ?_)
  refine lv_iload C.1 C.2.1 dX11_spelt_99 (lv_at hl 7 rfl) ?_
  refine lv_if_le (tgt := 120) C.1 C.2.1 dX11_spelt_101 (by decide) (fun _ => ?_) (fun h9 => absurd (by decide) h9)
  refine lv_lload C.1 C.2.1 dX11_spelt_120 (lv_at hl 0 rfl) ?_
  exact x_retlQ hQ B hw ⟨rfl, rfl⟩ (Nat.le_of_ble_eq_true rfl) (Nat.le_of_ble_eq_true rfl) dX11_spelt_122
theorem dX11_wordOf_524 : decode cX11_wordOf 524 = .ok (.bipush 110, 2) := by decide +kernel
theorem dX11_wordOf_526 : decode cX11_wordOf 526 = .ok (.bipush 117, 2) := by decide +kernel
theorem dX11_wordOf_528 : decode cX11_wordOf 528 = .ok (.bipush 109, 2) := by decide +kernel
theorem dX11_wordOf_530 : decode cX11_wordOf 530 = .ok (.bipush 98, 2) := by decide +kernel
theorem dX11_wordOf_532 : decode cX11_wordOf 532 = .ok (.bipush 101, 2) := by decide +kernel
theorem dX11_wordOf_534 : decode cX11_wordOf 534 = .ok (.bipush 114, 2) := by decide +kernel
theorem dX11_wordOf_536 : decode cX11_wordOf 536 = .ok (.iconst 0, 1) := by decide +kernel
theorem dX11_wordOf_537 : decode cX11_wordOf 537 = .ok (.invokestatic 58, 3) := by decide +kernel
theorem dX11_wordOf_540 : decode cX11_wordOf 540 = .ok (.lreturn, 1) := by decide +kernel
set_option maxHeartbeats 4000000 in
set_option maxRecDepth 100000 in
theorem e_wordOf_26 {l : Launch} {G : Gc}   : Cl l yX11_wordOf cX11_wordOf 1 1 0 0 G [.int 26] [] (fun (r9 : Int64) (u9 : va_W) => r9 = 212302449 ∧ u9 = []) := by
  refine Cl.ofQ (by decide) (Nat.le_of_ble_eq_true rfl) ?_
  intro p e s m below meth c ls A args Q hQ B hw hl
  have C : CallFix p m c cX11_wordOf 1 s args gw "LanternStateModel" := B.1
  have hl : lv_has ls 1 [(0, .int 26)] := hl
  refine lv_iload_n C.1 C.2.1 dX11_wordOf_0 rfl (lv_at hl 0 rfl) ?_
  refine lv_tableOut (tgt := 524) C.1 C.2.1 dX11_wordOf_1 (by decide) (by decide) ?_
  refine lv_bipush (v := 110) C.1 C.2.1 dX11_wordOf_524 (by decide) ?_
  refine lv_bipush (v := 117) C.1 C.2.1 dX11_wordOf_526 (by decide) ?_
  refine lv_bipush (v := 109) C.1 C.2.1 dX11_wordOf_528 (by decide) ?_
  refine lv_bipush (v := 98) C.1 C.2.1 dX11_wordOf_530 (by decide) ?_
  refine lv_bipush (v := 101) C.1 C.2.1 dX11_wordOf_532 (by decide) ?_
  refine lv_bipush (v := 114) C.1 C.2.1 dX11_wordOf_534 (by decide) ?_
  refine lv_iconst (v := 0) C.1 C.2.1 dX11_wordOf_536 (by decide) ?_
  refine x_calllS (As := [.int 110, .int 117, .int 109, .int 98, .int 101, .int 114, .int 0]) (rest := []) (wr := []) C hw e_spelt_26 mwX11_spelt kw1366 [] [] rfl rfl rfl rfl (by decide) rfl hl.1 rfl (Nat.le_of_ble_eq_true rfl) ⟨(Nat.le_of_ble_eq_true rfl), (Nat.le_of_ble_eq_true rfl)⟩ ⟨(Nat.le_of_ble_eq_true rfl), (Nat.le_of_ble_eq_true rfl)⟩ dX11_wordOf_537 (fun r1 u9 H locs hp9 hw => ?_)
  obtain ⟨rfl, rfl⟩ := hp9
  have hw : Wd G s A [] H _ := hw
  exact x_retlQ hQ B hw ⟨rfl, rfl⟩ (Nat.le_of_ble_eq_true rfl) (Nat.le_of_ble_eq_true rfl) dX11_wordOf_540
theorem dX11_isWord_0 : decode cX11_isWord 0 = .ok (.aload_n 0, 1) := by decide +kernel
theorem dX11_isWord_1 : decode cX11_isWord 1 = .ok (.getfield 30, 3) := by decide +kernel
theorem dX11_isWord_4 : decode cX11_isWord 4 = .ok (.iconst 2, 1) := by decide +kernel
theorem dX11_isWord_5 : decode cX11_isWord 5 = .ok (.if_icmp .ne 19, 3) := by decide +kernel
theorem dX11_isWord_24 : decode cX11_isWord 24 = .ok (.iconst 0, 1) := by decide +kernel
theorem dX11_isWord_25 : decode cX11_isWord 25 = .ok (.ireturn, 1) := by decide +kernel
theorem dX11_isWord_8 : decode cX11_isWord 8 = .ok (.aload_n 0, 1) := by decide +kernel
theorem dX11_isWord_9 : decode cX11_isWord 9 = .ok (.getfield 43, 3) := by decide +kernel
theorem dX11_isWord_12 : decode cX11_isWord 12 = .ok (.iload_n 1, 1) := by decide +kernel
theorem dX11_isWord_13 : decode cX11_isWord 13 = .ok (.invokestatic 62, 3) := by decide +kernel
theorem mwX11_wordOf : MwS yX11_wordOf cX11_wordOf 1 (some .long) 1 := ⟨⟨kw1365, kw15, by decide +kernel⟩, kw1364⟩
theorem dX11_isWord_16 : decode cX11_isWord 16 = .ok (.lcmp, 1) := by decide +kernel
theorem dX11_isWord_17 : decode cX11_isWord 17 = .ok (.ifCond .ne 7, 3) := by decide +kernel
theorem dX11_isWord_20 : decode cX11_isWord 20 = .ok (.iconst 1, 1) := by decide +kernel
theorem dX11_isWord_21 : decode cX11_isWord 21 = .ok (.goto 4, 3) := by decide +kernel
set_option maxHeartbeats 4000000 in
set_option maxRecDepth 100000 in
theorem e_isWord_0 {l : Launch} {G : Gc} (qm : Nat) (qm_thrown : Int32) (qm_tape : Nat) (qm_taped : Int32) (qm_size : Int32) (qm_limit : Int32) (qm_to : Int32) (qm_from : Int32) (qm_kind : Int32) (qm_number : Int32) (qm_sign : Int32) (qm_fault : Int32) (qm_place : Int32) (qm_word : Int64) (qm_told : Int32) (qm_now : Nat) (qm_read : Nat) (qm_kept : Nat) (qm_snaps : Nat) (qm_aside : Nat) (qm_name : Nat) (qm_readName : Nat) (qm_keptName : Nat) (qm_isKept : Nat) (qm_onces : Nat) (qm_snapMany : Int32) (qm_order : Nat) (qm_ordered : Nat) (qm_orderMany : Int32) (qm_orderMost : Int32) (qm_passing : Int32) (qm_movedWho : Int32) (qm_scratched : Int32) (qm_text : Nat) (qm_texts : Int32) (qm_seed : Int32) (qm_line : Nat) (qm_written : Nat) (qm_lineMany : Int32) (qm_hasWritten : Int32) (qm_node : Nat) (qm_nodes : Int32) (qm_onesMany : Int32) (qm_within : Int32) (qm_top : Int32) (b : Int → Int) (pp : Int) (hi_qm_size : 0 ≤ qm_size.toInt ∧ qm_size.toInt ≤ 940) (hr_0 : qm_to.toInt = tkX b qm_size.toInt qm_limit.toInt pp) (hr_1 : qm_from.toInt = tkP b qm_size.toInt qm_limit.toInt pp) (hr_2 : qm_kind.toInt = tkK b qm_size.toInt qm_limit.toInt pp) (hr_3 : tkV b qm_size.toInt qm_limit.toInt pp qm_number qm_sign qm_word) : Ci l yX11_isWord cX11_isWord 2 (some .boolean) 2 0 0 G [.ref qm, .int 0] [(qm, .inr (10, [.int qm_thrown, .ref qm_tape, .int qm_taped, .int qm_size, .int qm_limit, .int qm_to, .int qm_from, .int qm_kind, .int qm_number, .int qm_sign, .int qm_fault, .int qm_place, .long qm_word, .int qm_told, .ref qm_now, .ref qm_read, .ref qm_kept, .ref qm_snaps, .ref qm_aside, .ref qm_name, .ref qm_readName, .ref qm_keptName, .ref qm_isKept, .ref qm_onces, .int qm_snapMany, .ref qm_order, .ref qm_ordered, .int qm_orderMany, .int qm_orderMost, .int qm_passing, .int qm_movedWho, .int qm_scratched, .ref qm_text, .int qm_texts, .int qm_seed, .ref qm_line, .ref qm_written, .int qm_lineMany, .int qm_hasWritten, .ref qm_node, .int qm_nodes, .int qm_onesMany, .int qm_within, .int qm_top]))] (fun (r9 : Int32) (u9 : va_W) => (r9 = 0 ∧ u9 = [(qm, .inr (10, [.int qm_thrown, .ref qm_tape, .int qm_taped, .int qm_size, .int qm_limit, .int qm_to, .int qm_from, .int qm_kind, .int qm_number, .int qm_sign, .int qm_fault, .int qm_place, .long qm_word, .int qm_told, .ref qm_now, .ref qm_read, .ref qm_kept, .ref qm_snaps, .ref qm_aside, .ref qm_name, .ref qm_readName, .ref qm_keptName, .ref qm_isKept, .ref qm_onces, .int qm_snapMany, .ref qm_order, .ref qm_ordered, .int qm_orderMany, .int qm_orderMost, .int qm_passing, .int qm_movedWho, .int qm_scratched, .ref qm_text, .int qm_texts, .int qm_seed, .ref qm_line, .ref qm_written, .int qm_lineMany, .int qm_hasWritten, .ref qm_node, .int qm_nodes, .int qm_onesMany, .int qm_within, .int qm_top]))] ∧ (¬ (tkK b qm_size.toInt qm_limit.toInt pp = 2 ∧ kyN (tkW b qm_size.toInt pp) = 0))) ∨ (r9 = 1 ∧ u9 = [(qm, .inr (10, [.int qm_thrown, .ref qm_tape, .int qm_taped, .int qm_size, .int qm_limit, .int qm_to, .int qm_from, .int qm_kind, .int qm_number, .int qm_sign, .int qm_fault, .int qm_place, .long qm_word, .int qm_told, .ref qm_now, .ref qm_read, .ref qm_kept, .ref qm_snaps, .ref qm_aside, .ref qm_name, .ref qm_readName, .ref qm_keptName, .ref qm_isKept, .ref qm_onces, .int qm_snapMany, .ref qm_order, .ref qm_ordered, .int qm_orderMany, .int qm_orderMost, .int qm_passing, .int qm_movedWho, .int qm_scratched, .ref qm_text, .int qm_texts, .int qm_seed, .ref qm_line, .ref qm_written, .int qm_lineMany, .int qm_hasWritten, .ref qm_node, .int qm_nodes, .int qm_onesMany, .int qm_within, .int qm_top]))] ∧ (tkK b qm_size.toInt qm_limit.toInt pp = 2 ∧ kyN (tkW b qm_size.toInt pp) = 0))) := by
  refine Ci.ofQ (by decide) (Nat.le_of_ble_eq_true rfl) ?_
  intro p e s m below meth c ls A args Q hQ B hw hl
  have C : CallFix p m c cX11_isWord 2 s args gw "LanternStateModel" := B.1
  have hl : lv_has ls 2 [(0, .ref qm), (1, .int 0)] := hl
  have tv22 := hr_3.2.2
  refine lv_aload_n C.1 C.2.1 dX11_isWord_0 rfl (lv_at hl 0 rfl) ?_
  refine x_get C hw iwX11 10 rfl 0 rfl 7 (by decide) kw1200 rfl dX11_isWord_1 ?_
  refine lv_iconst (v := 2) C.1 C.2.1 dX11_isWord_4 (by decide) ?_
  refine lv_icmp_ne (tgt := 24) C.1 C.2.1 dX11_isWord_5 (by decide) (fun c1 => ?_) (fun c1 => ?_)
  · skip
    have c1 : qm_kind.toInt ≠ 2 := i_eqF (X := qm_kind.toInt) (Y := 2) rfl rfl c1
    have bc1_qm_kind := i_bd qm_kind
    refine lv_iconst (v := 0) C.1 C.2.1 dX11_isWord_24 (by decide) ?_
    exact x_retzQ hQ B hw rfl (Or.inl ⟨rfl, rfl, (fun h9 => absurd (show tkW b qm_size.toInt pp = 10340249 from (kyN_is (i := 0) (by decide)).mp h9.2) (by omega))⟩) (Nat.le_of_ble_eq_true rfl) (Nat.le_of_ble_eq_true rfl) dX11_isWord_25
  · skip
    have c1 : qm_kind.toInt = 2 := i_eqT (X := qm_kind.toInt) (Y := 2) rfl rfl c1
    have bc1_qm_kind := i_bd qm_kind
    refine lv_aload_n C.1 C.2.1 dX11_isWord_8 rfl (lv_at hl 0 rfl) ?_
    refine x_get C hw iwX11 10 rfl 0 rfl 12 (by decide) kw1205 rfl dX11_isWord_9 ?_
    refine lv_iload_n C.1 C.2.1 dX11_isWord_12 rfl (lv_at hl 1 rfl) ?_
    refine x_calllS (As := [.int 0]) (rest := [.long qm_word]) (wr := [(qm, .inr (10, [.int qm_thrown, .ref qm_tape, .int qm_taped, .int qm_size, .int qm_limit, .int qm_to, .int qm_from, .int qm_kind, .int qm_number, .int qm_sign, .int qm_fault, .int qm_place, .long qm_word, .int qm_told, .ref qm_now, .ref qm_read, .ref qm_kept, .ref qm_snaps, .ref qm_aside, .ref qm_name, .ref qm_readName, .ref qm_keptName, .ref qm_isKept, .ref qm_onces, .int qm_snapMany, .ref qm_order, .ref qm_ordered, .int qm_orderMany, .int qm_orderMost, .int qm_passing, .int qm_movedWho, .int qm_scratched, .ref qm_text, .int qm_texts, .int qm_seed, .ref qm_line, .ref qm_written, .int qm_lineMany, .int qm_hasWritten, .ref qm_node, .int qm_nodes, .int qm_onesMany, .int qm_within, .int qm_top]))]) C hw e_wordOf_0 mwX11_wordOf kw1363 [] [0] rfl rfl rfl rfl (by decide) rfl hl.1 rfl (Nat.le_of_ble_eq_true rfl) ⟨(Nat.le_of_ble_eq_true rfl), (Nat.le_of_ble_eq_true rfl)⟩ ⟨(Nat.le_of_ble_eq_true rfl), (Nat.le_of_ble_eq_true rfl)⟩ dX11_isWord_13 (fun r2 u9 H locs hp9 hw => ?_)
    obtain ⟨rfl, rfl⟩ := hp9
    have hw : Wd G s A [(qm, .inr (10, [.int qm_thrown, .ref qm_tape, .int qm_taped, .int qm_size, .int qm_limit, .int qm_to, .int qm_from, .int qm_kind, .int qm_number, .int qm_sign, .int qm_fault, .int qm_place, .long qm_word, .int qm_told, .ref qm_now, .ref qm_read, .ref qm_kept, .ref qm_snaps, .ref qm_aside, .ref qm_name, .ref qm_readName, .ref qm_keptName, .ref qm_isKept, .ref qm_onces, .int qm_snapMany, .ref qm_order, .ref qm_ordered, .int qm_orderMany, .int qm_orderMost, .int qm_passing, .int qm_movedWho, .int qm_scratched, .ref qm_text, .int qm_texts, .int qm_seed, .ref qm_line, .ref qm_written, .int qm_lineMany, .int qm_hasWritten, .ref qm_node, .int qm_nodes, .int qm_onesMany, .int qm_within, .int qm_top]))] H _ := hw
    refine W.lcmp C.1 C.2.1 dX11_isWord_16 (x_genP (fun z : Int32 => z.toInt = 0 ↔ qm_word.toInt = 10340249) (l_cmp0 rfl rfl) (fun v3 hv3 => ?_))
    refine lv_if_ne (tgt := 24) C.1 C.2.1 dX11_isWord_17 (by decide) (fun c4 => ?_) (fun c4 => ?_)
    · skip
      have c4 : v3.toInt ≠ 0 := i_eqF (X := v3.toInt) (Y := 0) rfl rfl c4
      have bc4_v3 := i_bd v3
      have d5 : qm_word.toInt ≠ 10340249 := fun q9 => c4 (hv3.mpr q9)
      clear hv3
      refine lv_iconst (v := 0) C.1 C.2.1 dX11_isWord_24 (by decide) ?_
      exact x_retzQ hQ B hw rfl (Or.inl ⟨rfl, rfl, (fun h9 => absurd (show tkW b qm_size.toInt pp = 10340249 from (kyN_is (i := 0) (by decide)).mp h9.2) (by omega))⟩) (Nat.le_of_ble_eq_true rfl) (Nat.le_of_ble_eq_true rfl) dX11_isWord_25
    · skip
      have c4 : v3.toInt = 0 := i_eqT (X := v3.toInt) (Y := 0) rfl rfl c4
      have bc4_v3 := i_bd v3
      have d6 : qm_word.toInt = 10340249 := hv3.mp c4
      clear hv3
      refine lv_iconst (v := 1) C.1 C.2.1 dX11_isWord_20 (by decide) ?_
      refine lv_goto (tgt := 25) C.1 C.2.1 dX11_isWord_21 (by decide) ?_
      exact x_retzQ hQ B hw rfl (Or.inr ⟨rfl, rfl, ⟨by omega, (kyN_is (i := 0) (by decide)).mpr (show tkW b qm_size.toInt pp = 10340249 by omega)⟩⟩) (Nat.le_of_ble_eq_true rfl) (Nat.le_of_ble_eq_true rfl) dX11_isWord_25
set_option maxHeartbeats 4000000 in
set_option maxRecDepth 100000 in
theorem e_isWord_1 {l : Launch} {G : Gc} (qm : Nat) (qm_thrown : Int32) (qm_tape : Nat) (qm_taped : Int32) (qm_size : Int32) (qm_limit : Int32) (qm_to : Int32) (qm_from : Int32) (qm_kind : Int32) (qm_number : Int32) (qm_sign : Int32) (qm_fault : Int32) (qm_place : Int32) (qm_word : Int64) (qm_told : Int32) (qm_now : Nat) (qm_read : Nat) (qm_kept : Nat) (qm_snaps : Nat) (qm_aside : Nat) (qm_name : Nat) (qm_readName : Nat) (qm_keptName : Nat) (qm_isKept : Nat) (qm_onces : Nat) (qm_snapMany : Int32) (qm_order : Nat) (qm_ordered : Nat) (qm_orderMany : Int32) (qm_orderMost : Int32) (qm_passing : Int32) (qm_movedWho : Int32) (qm_scratched : Int32) (qm_text : Nat) (qm_texts : Int32) (qm_seed : Int32) (qm_line : Nat) (qm_written : Nat) (qm_lineMany : Int32) (qm_hasWritten : Int32) (qm_node : Nat) (qm_nodes : Int32) (qm_onesMany : Int32) (qm_within : Int32) (qm_top : Int32) (b : Int → Int) (pp : Int) (hi_qm_size : 0 ≤ qm_size.toInt ∧ qm_size.toInt ≤ 940) (hr_0 : qm_to.toInt = tkX b qm_size.toInt qm_limit.toInt pp) (hr_1 : qm_from.toInt = tkP b qm_size.toInt qm_limit.toInt pp) (hr_2 : qm_kind.toInt = tkK b qm_size.toInt qm_limit.toInt pp) (hr_3 : tkV b qm_size.toInt qm_limit.toInt pp qm_number qm_sign qm_word) : Ci l yX11_isWord cX11_isWord 2 (some .boolean) 2 0 0 G [.ref qm, .int 1] [(qm, .inr (10, [.int qm_thrown, .ref qm_tape, .int qm_taped, .int qm_size, .int qm_limit, .int qm_to, .int qm_from, .int qm_kind, .int qm_number, .int qm_sign, .int qm_fault, .int qm_place, .long qm_word, .int qm_told, .ref qm_now, .ref qm_read, .ref qm_kept, .ref qm_snaps, .ref qm_aside, .ref qm_name, .ref qm_readName, .ref qm_keptName, .ref qm_isKept, .ref qm_onces, .int qm_snapMany, .ref qm_order, .ref qm_ordered, .int qm_orderMany, .int qm_orderMost, .int qm_passing, .int qm_movedWho, .int qm_scratched, .ref qm_text, .int qm_texts, .int qm_seed, .ref qm_line, .ref qm_written, .int qm_lineMany, .int qm_hasWritten, .ref qm_node, .int qm_nodes, .int qm_onesMany, .int qm_within, .int qm_top]))] (fun (r9 : Int32) (u9 : va_W) => (r9 = 0 ∧ u9 = [(qm, .inr (10, [.int qm_thrown, .ref qm_tape, .int qm_taped, .int qm_size, .int qm_limit, .int qm_to, .int qm_from, .int qm_kind, .int qm_number, .int qm_sign, .int qm_fault, .int qm_place, .long qm_word, .int qm_told, .ref qm_now, .ref qm_read, .ref qm_kept, .ref qm_snaps, .ref qm_aside, .ref qm_name, .ref qm_readName, .ref qm_keptName, .ref qm_isKept, .ref qm_onces, .int qm_snapMany, .ref qm_order, .ref qm_ordered, .int qm_orderMany, .int qm_orderMost, .int qm_passing, .int qm_movedWho, .int qm_scratched, .ref qm_text, .int qm_texts, .int qm_seed, .ref qm_line, .ref qm_written, .int qm_lineMany, .int qm_hasWritten, .ref qm_node, .int qm_nodes, .int qm_onesMany, .int qm_within, .int qm_top]))] ∧ (¬ (tkK b qm_size.toInt qm_limit.toInt pp = 2 ∧ kyN (tkW b qm_size.toInt pp) = 1))) ∨ (r9 = 1 ∧ u9 = [(qm, .inr (10, [.int qm_thrown, .ref qm_tape, .int qm_taped, .int qm_size, .int qm_limit, .int qm_to, .int qm_from, .int qm_kind, .int qm_number, .int qm_sign, .int qm_fault, .int qm_place, .long qm_word, .int qm_told, .ref qm_now, .ref qm_read, .ref qm_kept, .ref qm_snaps, .ref qm_aside, .ref qm_name, .ref qm_readName, .ref qm_keptName, .ref qm_isKept, .ref qm_onces, .int qm_snapMany, .ref qm_order, .ref qm_ordered, .int qm_orderMany, .int qm_orderMost, .int qm_passing, .int qm_movedWho, .int qm_scratched, .ref qm_text, .int qm_texts, .int qm_seed, .ref qm_line, .ref qm_written, .int qm_lineMany, .int qm_hasWritten, .ref qm_node, .int qm_nodes, .int qm_onesMany, .int qm_within, .int qm_top]))] ∧ (tkK b qm_size.toInt qm_limit.toInt pp = 2 ∧ kyN (tkW b qm_size.toInt pp) = 1))) := by
  refine Ci.ofQ (by decide) (Nat.le_of_ble_eq_true rfl) ?_
  intro p e s m below meth c ls A args Q hQ B hw hl
  have C : CallFix p m c cX11_isWord 2 s args gw "LanternStateModel" := B.1
  have hl : lv_has ls 2 [(0, .ref qm), (1, .int 1)] := hl
  have tv22 := hr_3.2.2
  refine lv_aload_n C.1 C.2.1 dX11_isWord_0 rfl (lv_at hl 0 rfl) ?_
  refine x_get C hw iwX11 10 rfl 0 rfl 7 (by decide) kw1200 rfl dX11_isWord_1 ?_
  refine lv_iconst (v := 2) C.1 C.2.1 dX11_isWord_4 (by decide) ?_
  refine lv_icmp_ne (tgt := 24) C.1 C.2.1 dX11_isWord_5 (by decide) (fun c1 => ?_) (fun c1 => ?_)
  · skip
    have c1 : qm_kind.toInt ≠ 2 := i_eqF (X := qm_kind.toInt) (Y := 2) rfl rfl c1
    have bc1_qm_kind := i_bd qm_kind
    refine lv_iconst (v := 0) C.1 C.2.1 dX11_isWord_24 (by decide) ?_
    exact x_retzQ hQ B hw rfl (Or.inl ⟨rfl, rfl, (fun h9 => absurd (show tkW b qm_size.toInt pp = 117481419 from (kyN_is (i := 1) (by decide)).mp h9.2) (by omega))⟩) (Nat.le_of_ble_eq_true rfl) (Nat.le_of_ble_eq_true rfl) dX11_isWord_25
  · skip
    have c1 : qm_kind.toInt = 2 := i_eqT (X := qm_kind.toInt) (Y := 2) rfl rfl c1
    have bc1_qm_kind := i_bd qm_kind
    refine lv_aload_n C.1 C.2.1 dX11_isWord_8 rfl (lv_at hl 0 rfl) ?_
    refine x_get C hw iwX11 10 rfl 0 rfl 12 (by decide) kw1205 rfl dX11_isWord_9 ?_
    refine lv_iload_n C.1 C.2.1 dX11_isWord_12 rfl (lv_at hl 1 rfl) ?_
    refine x_calllS (As := [.int 1]) (rest := [.long qm_word]) (wr := [(qm, .inr (10, [.int qm_thrown, .ref qm_tape, .int qm_taped, .int qm_size, .int qm_limit, .int qm_to, .int qm_from, .int qm_kind, .int qm_number, .int qm_sign, .int qm_fault, .int qm_place, .long qm_word, .int qm_told, .ref qm_now, .ref qm_read, .ref qm_kept, .ref qm_snaps, .ref qm_aside, .ref qm_name, .ref qm_readName, .ref qm_keptName, .ref qm_isKept, .ref qm_onces, .int qm_snapMany, .ref qm_order, .ref qm_ordered, .int qm_orderMany, .int qm_orderMost, .int qm_passing, .int qm_movedWho, .int qm_scratched, .ref qm_text, .int qm_texts, .int qm_seed, .ref qm_line, .ref qm_written, .int qm_lineMany, .int qm_hasWritten, .ref qm_node, .int qm_nodes, .int qm_onesMany, .int qm_within, .int qm_top]))]) C hw e_wordOf_1 mwX11_wordOf kw1363 [] [0] rfl rfl rfl rfl (by decide) rfl hl.1 rfl (Nat.le_of_ble_eq_true rfl) ⟨(Nat.le_of_ble_eq_true rfl), (Nat.le_of_ble_eq_true rfl)⟩ ⟨(Nat.le_of_ble_eq_true rfl), (Nat.le_of_ble_eq_true rfl)⟩ dX11_isWord_13 (fun r2 u9 H locs hp9 hw => ?_)
    obtain ⟨rfl, rfl⟩ := hp9
    have hw : Wd G s A [(qm, .inr (10, [.int qm_thrown, .ref qm_tape, .int qm_taped, .int qm_size, .int qm_limit, .int qm_to, .int qm_from, .int qm_kind, .int qm_number, .int qm_sign, .int qm_fault, .int qm_place, .long qm_word, .int qm_told, .ref qm_now, .ref qm_read, .ref qm_kept, .ref qm_snaps, .ref qm_aside, .ref qm_name, .ref qm_readName, .ref qm_keptName, .ref qm_isKept, .ref qm_onces, .int qm_snapMany, .ref qm_order, .ref qm_ordered, .int qm_orderMany, .int qm_orderMost, .int qm_passing, .int qm_movedWho, .int qm_scratched, .ref qm_text, .int qm_texts, .int qm_seed, .ref qm_line, .ref qm_written, .int qm_lineMany, .int qm_hasWritten, .ref qm_node, .int qm_nodes, .int qm_onesMany, .int qm_within, .int qm_top]))] H _ := hw
    refine W.lcmp C.1 C.2.1 dX11_isWord_16 (x_genP (fun z : Int32 => z.toInt = 0 ↔ qm_word.toInt = 117481419) (l_cmp0 rfl rfl) (fun v3 hv3 => ?_))
    refine lv_if_ne (tgt := 24) C.1 C.2.1 dX11_isWord_17 (by decide) (fun c4 => ?_) (fun c4 => ?_)
    · skip
      have c4 : v3.toInt ≠ 0 := i_eqF (X := v3.toInt) (Y := 0) rfl rfl c4
      have bc4_v3 := i_bd v3
      have d5 : qm_word.toInt ≠ 117481419 := fun q9 => c4 (hv3.mpr q9)
      clear hv3
      refine lv_iconst (v := 0) C.1 C.2.1 dX11_isWord_24 (by decide) ?_
      exact x_retzQ hQ B hw rfl (Or.inl ⟨rfl, rfl, (fun h9 => absurd (show tkW b qm_size.toInt pp = 117481419 from (kyN_is (i := 1) (by decide)).mp h9.2) (by omega))⟩) (Nat.le_of_ble_eq_true rfl) (Nat.le_of_ble_eq_true rfl) dX11_isWord_25
    · skip
      have c4 : v3.toInt = 0 := i_eqT (X := v3.toInt) (Y := 0) rfl rfl c4
      have bc4_v3 := i_bd v3
      have d6 : qm_word.toInt = 117481419 := hv3.mp c4
      clear hv3
      refine lv_iconst (v := 1) C.1 C.2.1 dX11_isWord_20 (by decide) ?_
      refine lv_goto (tgt := 25) C.1 C.2.1 dX11_isWord_21 (by decide) ?_
      exact x_retzQ hQ B hw rfl (Or.inr ⟨rfl, rfl, ⟨by omega, (kyN_is (i := 1) (by decide)).mpr (show tkW b qm_size.toInt pp = 117481419 by omega)⟩⟩) (Nat.le_of_ble_eq_true rfl) (Nat.le_of_ble_eq_true rfl) dX11_isWord_25
set_option maxHeartbeats 4000000 in
set_option maxRecDepth 100000 in
theorem e_isWord_2 {l : Launch} {G : Gc} (qm : Nat) (qm_thrown : Int32) (qm_tape : Nat) (qm_taped : Int32) (qm_size : Int32) (qm_limit : Int32) (qm_to : Int32) (qm_from : Int32) (qm_kind : Int32) (qm_number : Int32) (qm_sign : Int32) (qm_fault : Int32) (qm_place : Int32) (qm_word : Int64) (qm_told : Int32) (qm_now : Nat) (qm_read : Nat) (qm_kept : Nat) (qm_snaps : Nat) (qm_aside : Nat) (qm_name : Nat) (qm_readName : Nat) (qm_keptName : Nat) (qm_isKept : Nat) (qm_onces : Nat) (qm_snapMany : Int32) (qm_order : Nat) (qm_ordered : Nat) (qm_orderMany : Int32) (qm_orderMost : Int32) (qm_passing : Int32) (qm_movedWho : Int32) (qm_scratched : Int32) (qm_text : Nat) (qm_texts : Int32) (qm_seed : Int32) (qm_line : Nat) (qm_written : Nat) (qm_lineMany : Int32) (qm_hasWritten : Int32) (qm_node : Nat) (qm_nodes : Int32) (qm_onesMany : Int32) (qm_within : Int32) (qm_top : Int32) (b : Int → Int) (pp : Int) (hi_qm_size : 0 ≤ qm_size.toInt ∧ qm_size.toInt ≤ 940) (hr_0 : qm_to.toInt = tkX b qm_size.toInt qm_limit.toInt pp) (hr_1 : qm_from.toInt = tkP b qm_size.toInt qm_limit.toInt pp) (hr_2 : qm_kind.toInt = tkK b qm_size.toInt qm_limit.toInt pp) (hr_3 : tkV b qm_size.toInt qm_limit.toInt pp qm_number qm_sign qm_word) : Ci l yX11_isWord cX11_isWord 2 (some .boolean) 2 0 0 G [.ref qm, .int 2] [(qm, .inr (10, [.int qm_thrown, .ref qm_tape, .int qm_taped, .int qm_size, .int qm_limit, .int qm_to, .int qm_from, .int qm_kind, .int qm_number, .int qm_sign, .int qm_fault, .int qm_place, .long qm_word, .int qm_told, .ref qm_now, .ref qm_read, .ref qm_kept, .ref qm_snaps, .ref qm_aside, .ref qm_name, .ref qm_readName, .ref qm_keptName, .ref qm_isKept, .ref qm_onces, .int qm_snapMany, .ref qm_order, .ref qm_ordered, .int qm_orderMany, .int qm_orderMost, .int qm_passing, .int qm_movedWho, .int qm_scratched, .ref qm_text, .int qm_texts, .int qm_seed, .ref qm_line, .ref qm_written, .int qm_lineMany, .int qm_hasWritten, .ref qm_node, .int qm_nodes, .int qm_onesMany, .int qm_within, .int qm_top]))] (fun (r9 : Int32) (u9 : va_W) => (r9 = 0 ∧ u9 = [(qm, .inr (10, [.int qm_thrown, .ref qm_tape, .int qm_taped, .int qm_size, .int qm_limit, .int qm_to, .int qm_from, .int qm_kind, .int qm_number, .int qm_sign, .int qm_fault, .int qm_place, .long qm_word, .int qm_told, .ref qm_now, .ref qm_read, .ref qm_kept, .ref qm_snaps, .ref qm_aside, .ref qm_name, .ref qm_readName, .ref qm_keptName, .ref qm_isKept, .ref qm_onces, .int qm_snapMany, .ref qm_order, .ref qm_ordered, .int qm_orderMany, .int qm_orderMost, .int qm_passing, .int qm_movedWho, .int qm_scratched, .ref qm_text, .int qm_texts, .int qm_seed, .ref qm_line, .ref qm_written, .int qm_lineMany, .int qm_hasWritten, .ref qm_node, .int qm_nodes, .int qm_onesMany, .int qm_within, .int qm_top]))] ∧ (¬ (tkK b qm_size.toInt qm_limit.toInt pp = 2 ∧ kyN (tkW b qm_size.toInt pp) = 9))) ∨ (r9 = 1 ∧ u9 = [(qm, .inr (10, [.int qm_thrown, .ref qm_tape, .int qm_taped, .int qm_size, .int qm_limit, .int qm_to, .int qm_from, .int qm_kind, .int qm_number, .int qm_sign, .int qm_fault, .int qm_place, .long qm_word, .int qm_told, .ref qm_now, .ref qm_read, .ref qm_kept, .ref qm_snaps, .ref qm_aside, .ref qm_name, .ref qm_readName, .ref qm_keptName, .ref qm_isKept, .ref qm_onces, .int qm_snapMany, .ref qm_order, .ref qm_ordered, .int qm_orderMany, .int qm_orderMost, .int qm_passing, .int qm_movedWho, .int qm_scratched, .ref qm_text, .int qm_texts, .int qm_seed, .ref qm_line, .ref qm_written, .int qm_lineMany, .int qm_hasWritten, .ref qm_node, .int qm_nodes, .int qm_onesMany, .int qm_within, .int qm_top]))] ∧ (tkK b qm_size.toInt qm_limit.toInt pp = 2 ∧ kyN (tkW b qm_size.toInt pp) = 9))) := by
  refine Ci.ofQ (by decide) (Nat.le_of_ble_eq_true rfl) ?_
  intro p e s m below meth c ls A args Q hQ B hw hl
  have C : CallFix p m c cX11_isWord 2 s args gw "LanternStateModel" := B.1
  have hl : lv_has ls 2 [(0, .ref qm), (1, .int 2)] := hl
  have tv22 := hr_3.2.2
  refine lv_aload_n C.1 C.2.1 dX11_isWord_0 rfl (lv_at hl 0 rfl) ?_
  refine x_get C hw iwX11 10 rfl 0 rfl 7 (by decide) kw1200 rfl dX11_isWord_1 ?_
  refine lv_iconst (v := 2) C.1 C.2.1 dX11_isWord_4 (by decide) ?_
  refine lv_icmp_ne (tgt := 24) C.1 C.2.1 dX11_isWord_5 (by decide) (fun c1 => ?_) (fun c1 => ?_)
  · skip
    have c1 : qm_kind.toInt ≠ 2 := i_eqF (X := qm_kind.toInt) (Y := 2) rfl rfl c1
    have bc1_qm_kind := i_bd qm_kind
    refine lv_iconst (v := 0) C.1 C.2.1 dX11_isWord_24 (by decide) ?_
    exact x_retzQ hQ B hw rfl (Or.inl ⟨rfl, rfl, (fun h9 => absurd (show tkW b qm_size.toInt pp = 3554273 from (kyN_is (i := 9) (by decide)).mp h9.2) (by omega))⟩) (Nat.le_of_ble_eq_true rfl) (Nat.le_of_ble_eq_true rfl) dX11_isWord_25
  · skip
    have c1 : qm_kind.toInt = 2 := i_eqT (X := qm_kind.toInt) (Y := 2) rfl rfl c1
    have bc1_qm_kind := i_bd qm_kind
    refine lv_aload_n C.1 C.2.1 dX11_isWord_8 rfl (lv_at hl 0 rfl) ?_
    refine x_get C hw iwX11 10 rfl 0 rfl 12 (by decide) kw1205 rfl dX11_isWord_9 ?_
    refine lv_iload_n C.1 C.2.1 dX11_isWord_12 rfl (lv_at hl 1 rfl) ?_
    refine x_calllS (As := [.int 2]) (rest := [.long qm_word]) (wr := [(qm, .inr (10, [.int qm_thrown, .ref qm_tape, .int qm_taped, .int qm_size, .int qm_limit, .int qm_to, .int qm_from, .int qm_kind, .int qm_number, .int qm_sign, .int qm_fault, .int qm_place, .long qm_word, .int qm_told, .ref qm_now, .ref qm_read, .ref qm_kept, .ref qm_snaps, .ref qm_aside, .ref qm_name, .ref qm_readName, .ref qm_keptName, .ref qm_isKept, .ref qm_onces, .int qm_snapMany, .ref qm_order, .ref qm_ordered, .int qm_orderMany, .int qm_orderMost, .int qm_passing, .int qm_movedWho, .int qm_scratched, .ref qm_text, .int qm_texts, .int qm_seed, .ref qm_line, .ref qm_written, .int qm_lineMany, .int qm_hasWritten, .ref qm_node, .int qm_nodes, .int qm_onesMany, .int qm_within, .int qm_top]))]) C hw e_wordOf_2 mwX11_wordOf kw1363 [] [0] rfl rfl rfl rfl (by decide) rfl hl.1 rfl (Nat.le_of_ble_eq_true rfl) ⟨(Nat.le_of_ble_eq_true rfl), (Nat.le_of_ble_eq_true rfl)⟩ ⟨(Nat.le_of_ble_eq_true rfl), (Nat.le_of_ble_eq_true rfl)⟩ dX11_isWord_13 (fun r2 u9 H locs hp9 hw => ?_)
    obtain ⟨rfl, rfl⟩ := hp9
    have hw : Wd G s A [(qm, .inr (10, [.int qm_thrown, .ref qm_tape, .int qm_taped, .int qm_size, .int qm_limit, .int qm_to, .int qm_from, .int qm_kind, .int qm_number, .int qm_sign, .int qm_fault, .int qm_place, .long qm_word, .int qm_told, .ref qm_now, .ref qm_read, .ref qm_kept, .ref qm_snaps, .ref qm_aside, .ref qm_name, .ref qm_readName, .ref qm_keptName, .ref qm_isKept, .ref qm_onces, .int qm_snapMany, .ref qm_order, .ref qm_ordered, .int qm_orderMany, .int qm_orderMost, .int qm_passing, .int qm_movedWho, .int qm_scratched, .ref qm_text, .int qm_texts, .int qm_seed, .ref qm_line, .ref qm_written, .int qm_lineMany, .int qm_hasWritten, .ref qm_node, .int qm_nodes, .int qm_onesMany, .int qm_within, .int qm_top]))] H _ := hw
    refine W.lcmp C.1 C.2.1 dX11_isWord_16 (x_genP (fun z : Int32 => z.toInt = 0 ↔ qm_word.toInt = 3554273) (l_cmp0 rfl rfl) (fun v3 hv3 => ?_))
    refine lv_if_ne (tgt := 24) C.1 C.2.1 dX11_isWord_17 (by decide) (fun c4 => ?_) (fun c4 => ?_)
    · skip
      have c4 : v3.toInt ≠ 0 := i_eqF (X := v3.toInt) (Y := 0) rfl rfl c4
      have bc4_v3 := i_bd v3
      have d5 : qm_word.toInt ≠ 3554273 := fun q9 => c4 (hv3.mpr q9)
      clear hv3
      refine lv_iconst (v := 0) C.1 C.2.1 dX11_isWord_24 (by decide) ?_
      exact x_retzQ hQ B hw rfl (Or.inl ⟨rfl, rfl, (fun h9 => absurd (show tkW b qm_size.toInt pp = 3554273 from (kyN_is (i := 9) (by decide)).mp h9.2) (by omega))⟩) (Nat.le_of_ble_eq_true rfl) (Nat.le_of_ble_eq_true rfl) dX11_isWord_25
    · skip
      have c4 : v3.toInt = 0 := i_eqT (X := v3.toInt) (Y := 0) rfl rfl c4
      have bc4_v3 := i_bd v3
      have d6 : qm_word.toInt = 3554273 := hv3.mp c4
      clear hv3
      refine lv_iconst (v := 1) C.1 C.2.1 dX11_isWord_20 (by decide) ?_
      refine lv_goto (tgt := 25) C.1 C.2.1 dX11_isWord_21 (by decide) ?_
      exact x_retzQ hQ B hw rfl (Or.inr ⟨rfl, rfl, ⟨by omega, (kyN_is (i := 9) (by decide)).mpr (show tkW b qm_size.toInt pp = 3554273 by omega)⟩⟩) (Nat.le_of_ble_eq_true rfl) (Nat.le_of_ble_eq_true rfl) dX11_isWord_25
set_option maxHeartbeats 4000000 in
set_option maxRecDepth 100000 in
theorem e_isWord_3 {l : Launch} {G : Gc} (qm : Nat) (qm_thrown : Int32) (qm_tape : Nat) (qm_taped : Int32) (qm_size : Int32) (qm_limit : Int32) (qm_to : Int32) (qm_from : Int32) (qm_kind : Int32) (qm_number : Int32) (qm_sign : Int32) (qm_fault : Int32) (qm_place : Int32) (qm_word : Int64) (qm_told : Int32) (qm_now : Nat) (qm_read : Nat) (qm_kept : Nat) (qm_snaps : Nat) (qm_aside : Nat) (qm_name : Nat) (qm_readName : Nat) (qm_keptName : Nat) (qm_isKept : Nat) (qm_onces : Nat) (qm_snapMany : Int32) (qm_order : Nat) (qm_ordered : Nat) (qm_orderMany : Int32) (qm_orderMost : Int32) (qm_passing : Int32) (qm_movedWho : Int32) (qm_scratched : Int32) (qm_text : Nat) (qm_texts : Int32) (qm_seed : Int32) (qm_line : Nat) (qm_written : Nat) (qm_lineMany : Int32) (qm_hasWritten : Int32) (qm_node : Nat) (qm_nodes : Int32) (qm_onesMany : Int32) (qm_within : Int32) (qm_top : Int32) (b : Int → Int) (pp : Int) (hi_qm_size : 0 ≤ qm_size.toInt ∧ qm_size.toInt ≤ 940) (hr_0 : qm_to.toInt = tkX b qm_size.toInt qm_limit.toInt pp) (hr_1 : qm_from.toInt = tkP b qm_size.toInt qm_limit.toInt pp) (hr_2 : qm_kind.toInt = tkK b qm_size.toInt qm_limit.toInt pp) (hr_3 : tkV b qm_size.toInt qm_limit.toInt pp qm_number qm_sign qm_word) : Ci l yX11_isWord cX11_isWord 2 (some .boolean) 2 0 0 G [.ref qm, .int 3] [(qm, .inr (10, [.int qm_thrown, .ref qm_tape, .int qm_taped, .int qm_size, .int qm_limit, .int qm_to, .int qm_from, .int qm_kind, .int qm_number, .int qm_sign, .int qm_fault, .int qm_place, .long qm_word, .int qm_told, .ref qm_now, .ref qm_read, .ref qm_kept, .ref qm_snaps, .ref qm_aside, .ref qm_name, .ref qm_readName, .ref qm_keptName, .ref qm_isKept, .ref qm_onces, .int qm_snapMany, .ref qm_order, .ref qm_ordered, .int qm_orderMany, .int qm_orderMost, .int qm_passing, .int qm_movedWho, .int qm_scratched, .ref qm_text, .int qm_texts, .int qm_seed, .ref qm_line, .ref qm_written, .int qm_lineMany, .int qm_hasWritten, .ref qm_node, .int qm_nodes, .int qm_onesMany, .int qm_within, .int qm_top]))] (fun (r9 : Int32) (u9 : va_W) => (r9 = 0 ∧ u9 = [(qm, .inr (10, [.int qm_thrown, .ref qm_tape, .int qm_taped, .int qm_size, .int qm_limit, .int qm_to, .int qm_from, .int qm_kind, .int qm_number, .int qm_sign, .int qm_fault, .int qm_place, .long qm_word, .int qm_told, .ref qm_now, .ref qm_read, .ref qm_kept, .ref qm_snaps, .ref qm_aside, .ref qm_name, .ref qm_readName, .ref qm_keptName, .ref qm_isKept, .ref qm_onces, .int qm_snapMany, .ref qm_order, .ref qm_ordered, .int qm_orderMany, .int qm_orderMost, .int qm_passing, .int qm_movedWho, .int qm_scratched, .ref qm_text, .int qm_texts, .int qm_seed, .ref qm_line, .ref qm_written, .int qm_lineMany, .int qm_hasWritten, .ref qm_node, .int qm_nodes, .int qm_onesMany, .int qm_within, .int qm_top]))] ∧ (¬ (tkK b qm_size.toInt qm_limit.toInt pp = 2 ∧ kyN (tkW b qm_size.toInt pp) = 10))) ∨ (r9 = 1 ∧ u9 = [(qm, .inr (10, [.int qm_thrown, .ref qm_tape, .int qm_taped, .int qm_size, .int qm_limit, .int qm_to, .int qm_from, .int qm_kind, .int qm_number, .int qm_sign, .int qm_fault, .int qm_place, .long qm_word, .int qm_told, .ref qm_now, .ref qm_read, .ref qm_kept, .ref qm_snaps, .ref qm_aside, .ref qm_name, .ref qm_readName, .ref qm_keptName, .ref qm_isKept, .ref qm_onces, .int qm_snapMany, .ref qm_order, .ref qm_ordered, .int qm_orderMany, .int qm_orderMost, .int qm_passing, .int qm_movedWho, .int qm_scratched, .ref qm_text, .int qm_texts, .int qm_seed, .ref qm_line, .ref qm_written, .int qm_lineMany, .int qm_hasWritten, .ref qm_node, .int qm_nodes, .int qm_onesMany, .int qm_within, .int qm_top]))] ∧ (tkK b qm_size.toInt qm_limit.toInt pp = 2 ∧ kyN (tkW b qm_size.toInt pp) = 10))) := by
  refine Ci.ofQ (by decide) (Nat.le_of_ble_eq_true rfl) ?_
  intro p e s m below meth c ls A args Q hQ B hw hl
  have C : CallFix p m c cX11_isWord 2 s args gw "LanternStateModel" := B.1
  have hl : lv_has ls 2 [(0, .ref qm), (1, .int 3)] := hl
  have tv22 := hr_3.2.2
  refine lv_aload_n C.1 C.2.1 dX11_isWord_0 rfl (lv_at hl 0 rfl) ?_
  refine x_get C hw iwX11 10 rfl 0 rfl 7 (by decide) kw1200 rfl dX11_isWord_1 ?_
  refine lv_iconst (v := 2) C.1 C.2.1 dX11_isWord_4 (by decide) ?_
  refine lv_icmp_ne (tgt := 24) C.1 C.2.1 dX11_isWord_5 (by decide) (fun c1 => ?_) (fun c1 => ?_)
  · skip
    have c1 : qm_kind.toInt ≠ 2 := i_eqF (X := qm_kind.toInt) (Y := 2) rfl rfl c1
    have bc1_qm_kind := i_bd qm_kind
    refine lv_iconst (v := 0) C.1 C.2.1 dX11_isWord_24 (by decide) ?_
    exact x_retzQ hQ B hw rfl (Or.inl ⟨rfl, rfl, (fun h9 => absurd (show tkW b qm_size.toInt pp = 31519426 from (kyN_is (i := 10) (by decide)).mp h9.2) (by omega))⟩) (Nat.le_of_ble_eq_true rfl) (Nat.le_of_ble_eq_true rfl) dX11_isWord_25
  · skip
    have c1 : qm_kind.toInt = 2 := i_eqT (X := qm_kind.toInt) (Y := 2) rfl rfl c1
    have bc1_qm_kind := i_bd qm_kind
    refine lv_aload_n C.1 C.2.1 dX11_isWord_8 rfl (lv_at hl 0 rfl) ?_
    refine x_get C hw iwX11 10 rfl 0 rfl 12 (by decide) kw1205 rfl dX11_isWord_9 ?_
    refine lv_iload_n C.1 C.2.1 dX11_isWord_12 rfl (lv_at hl 1 rfl) ?_
    refine x_calllS (As := [.int 3]) (rest := [.long qm_word]) (wr := [(qm, .inr (10, [.int qm_thrown, .ref qm_tape, .int qm_taped, .int qm_size, .int qm_limit, .int qm_to, .int qm_from, .int qm_kind, .int qm_number, .int qm_sign, .int qm_fault, .int qm_place, .long qm_word, .int qm_told, .ref qm_now, .ref qm_read, .ref qm_kept, .ref qm_snaps, .ref qm_aside, .ref qm_name, .ref qm_readName, .ref qm_keptName, .ref qm_isKept, .ref qm_onces, .int qm_snapMany, .ref qm_order, .ref qm_ordered, .int qm_orderMany, .int qm_orderMost, .int qm_passing, .int qm_movedWho, .int qm_scratched, .ref qm_text, .int qm_texts, .int qm_seed, .ref qm_line, .ref qm_written, .int qm_lineMany, .int qm_hasWritten, .ref qm_node, .int qm_nodes, .int qm_onesMany, .int qm_within, .int qm_top]))]) C hw e_wordOf_3 mwX11_wordOf kw1363 [] [0] rfl rfl rfl rfl (by decide) rfl hl.1 rfl (Nat.le_of_ble_eq_true rfl) ⟨(Nat.le_of_ble_eq_true rfl), (Nat.le_of_ble_eq_true rfl)⟩ ⟨(Nat.le_of_ble_eq_true rfl), (Nat.le_of_ble_eq_true rfl)⟩ dX11_isWord_13 (fun r2 u9 H locs hp9 hw => ?_)
    obtain ⟨rfl, rfl⟩ := hp9
    have hw : Wd G s A [(qm, .inr (10, [.int qm_thrown, .ref qm_tape, .int qm_taped, .int qm_size, .int qm_limit, .int qm_to, .int qm_from, .int qm_kind, .int qm_number, .int qm_sign, .int qm_fault, .int qm_place, .long qm_word, .int qm_told, .ref qm_now, .ref qm_read, .ref qm_kept, .ref qm_snaps, .ref qm_aside, .ref qm_name, .ref qm_readName, .ref qm_keptName, .ref qm_isKept, .ref qm_onces, .int qm_snapMany, .ref qm_order, .ref qm_ordered, .int qm_orderMany, .int qm_orderMost, .int qm_passing, .int qm_movedWho, .int qm_scratched, .ref qm_text, .int qm_texts, .int qm_seed, .ref qm_line, .ref qm_written, .int qm_lineMany, .int qm_hasWritten, .ref qm_node, .int qm_nodes, .int qm_onesMany, .int qm_within, .int qm_top]))] H _ := hw
    refine W.lcmp C.1 C.2.1 dX11_isWord_16 (x_genP (fun z : Int32 => z.toInt = 0 ↔ qm_word.toInt = 31519426) (l_cmp0 rfl rfl) (fun v3 hv3 => ?_))
    refine lv_if_ne (tgt := 24) C.1 C.2.1 dX11_isWord_17 (by decide) (fun c4 => ?_) (fun c4 => ?_)
    · skip
      have c4 : v3.toInt ≠ 0 := i_eqF (X := v3.toInt) (Y := 0) rfl rfl c4
      have bc4_v3 := i_bd v3
      have d5 : qm_word.toInt ≠ 31519426 := fun q9 => c4 (hv3.mpr q9)
      clear hv3
      refine lv_iconst (v := 0) C.1 C.2.1 dX11_isWord_24 (by decide) ?_
      exact x_retzQ hQ B hw rfl (Or.inl ⟨rfl, rfl, (fun h9 => absurd (show tkW b qm_size.toInt pp = 31519426 from (kyN_is (i := 10) (by decide)).mp h9.2) (by omega))⟩) (Nat.le_of_ble_eq_true rfl) (Nat.le_of_ble_eq_true rfl) dX11_isWord_25
    · skip
      have c4 : v3.toInt = 0 := i_eqT (X := v3.toInt) (Y := 0) rfl rfl c4
      have bc4_v3 := i_bd v3
      have d6 : qm_word.toInt = 31519426 := hv3.mp c4
      clear hv3
      refine lv_iconst (v := 1) C.1 C.2.1 dX11_isWord_20 (by decide) ?_
      refine lv_goto (tgt := 25) C.1 C.2.1 dX11_isWord_21 (by decide) ?_
      exact x_retzQ hQ B hw rfl (Or.inr ⟨rfl, rfl, ⟨by omega, (kyN_is (i := 10) (by decide)).mpr (show tkW b qm_size.toInt pp = 31519426 by omega)⟩⟩) (Nat.le_of_ble_eq_true rfl) (Nat.le_of_ble_eq_true rfl) dX11_isWord_25
set_option maxHeartbeats 4000000 in
set_option maxRecDepth 100000 in
theorem e_isWord_4 {l : Launch} {G : Gc} (qm : Nat) (qm_thrown : Int32) (qm_tape : Nat) (qm_taped : Int32) (qm_size : Int32) (qm_limit : Int32) (qm_to : Int32) (qm_from : Int32) (qm_kind : Int32) (qm_number : Int32) (qm_sign : Int32) (qm_fault : Int32) (qm_place : Int32) (qm_word : Int64) (qm_told : Int32) (qm_now : Nat) (qm_read : Nat) (qm_kept : Nat) (qm_snaps : Nat) (qm_aside : Nat) (qm_name : Nat) (qm_readName : Nat) (qm_keptName : Nat) (qm_isKept : Nat) (qm_onces : Nat) (qm_snapMany : Int32) (qm_order : Nat) (qm_ordered : Nat) (qm_orderMany : Int32) (qm_orderMost : Int32) (qm_passing : Int32) (qm_movedWho : Int32) (qm_scratched : Int32) (qm_text : Nat) (qm_texts : Int32) (qm_seed : Int32) (qm_line : Nat) (qm_written : Nat) (qm_lineMany : Int32) (qm_hasWritten : Int32) (qm_node : Nat) (qm_nodes : Int32) (qm_onesMany : Int32) (qm_within : Int32) (qm_top : Int32) (b : Int → Int) (pp : Int) (hi_qm_size : 0 ≤ qm_size.toInt ∧ qm_size.toInt ≤ 940) (hr_0 : qm_to.toInt = tkX b qm_size.toInt qm_limit.toInt pp) (hr_1 : qm_from.toInt = tkP b qm_size.toInt qm_limit.toInt pp) (hr_2 : qm_kind.toInt = tkK b qm_size.toInt qm_limit.toInt pp) (hr_3 : tkV b qm_size.toInt qm_limit.toInt pp qm_number qm_sign qm_word) : Ci l yX11_isWord cX11_isWord 2 (some .boolean) 2 0 0 G [.ref qm, .int 4] [(qm, .inr (10, [.int qm_thrown, .ref qm_tape, .int qm_taped, .int qm_size, .int qm_limit, .int qm_to, .int qm_from, .int qm_kind, .int qm_number, .int qm_sign, .int qm_fault, .int qm_place, .long qm_word, .int qm_told, .ref qm_now, .ref qm_read, .ref qm_kept, .ref qm_snaps, .ref qm_aside, .ref qm_name, .ref qm_readName, .ref qm_keptName, .ref qm_isKept, .ref qm_onces, .int qm_snapMany, .ref qm_order, .ref qm_ordered, .int qm_orderMany, .int qm_orderMost, .int qm_passing, .int qm_movedWho, .int qm_scratched, .ref qm_text, .int qm_texts, .int qm_seed, .ref qm_line, .ref qm_written, .int qm_lineMany, .int qm_hasWritten, .ref qm_node, .int qm_nodes, .int qm_onesMany, .int qm_within, .int qm_top]))] (fun (r9 : Int32) (u9 : va_W) => (r9 = 0 ∧ u9 = [(qm, .inr (10, [.int qm_thrown, .ref qm_tape, .int qm_taped, .int qm_size, .int qm_limit, .int qm_to, .int qm_from, .int qm_kind, .int qm_number, .int qm_sign, .int qm_fault, .int qm_place, .long qm_word, .int qm_told, .ref qm_now, .ref qm_read, .ref qm_kept, .ref qm_snaps, .ref qm_aside, .ref qm_name, .ref qm_readName, .ref qm_keptName, .ref qm_isKept, .ref qm_onces, .int qm_snapMany, .ref qm_order, .ref qm_ordered, .int qm_orderMany, .int qm_orderMost, .int qm_passing, .int qm_movedWho, .int qm_scratched, .ref qm_text, .int qm_texts, .int qm_seed, .ref qm_line, .ref qm_written, .int qm_lineMany, .int qm_hasWritten, .ref qm_node, .int qm_nodes, .int qm_onesMany, .int qm_within, .int qm_top]))] ∧ (¬ (tkK b qm_size.toInt qm_limit.toInt pp = 2 ∧ kyN (tkW b qm_size.toInt pp) = 2))) ∨ (r9 = 1 ∧ u9 = [(qm, .inr (10, [.int qm_thrown, .ref qm_tape, .int qm_taped, .int qm_size, .int qm_limit, .int qm_to, .int qm_from, .int qm_kind, .int qm_number, .int qm_sign, .int qm_fault, .int qm_place, .long qm_word, .int qm_told, .ref qm_now, .ref qm_read, .ref qm_kept, .ref qm_snaps, .ref qm_aside, .ref qm_name, .ref qm_readName, .ref qm_keptName, .ref qm_isKept, .ref qm_onces, .int qm_snapMany, .ref qm_order, .ref qm_ordered, .int qm_orderMany, .int qm_orderMost, .int qm_passing, .int qm_movedWho, .int qm_scratched, .ref qm_text, .int qm_texts, .int qm_seed, .ref qm_line, .ref qm_written, .int qm_lineMany, .int qm_hasWritten, .ref qm_node, .int qm_nodes, .int qm_onesMany, .int qm_within, .int qm_top]))] ∧ (tkK b qm_size.toInt qm_limit.toInt pp = 2 ∧ kyN (tkW b qm_size.toInt pp) = 2))) := by
  refine Ci.ofQ (by decide) (Nat.le_of_ble_eq_true rfl) ?_
  intro p e s m below meth c ls A args Q hQ B hw hl
  have C : CallFix p m c cX11_isWord 2 s args gw "LanternStateModel" := B.1
  have hl : lv_has ls 2 [(0, .ref qm), (1, .int 4)] := hl
  have tv22 := hr_3.2.2
  refine lv_aload_n C.1 C.2.1 dX11_isWord_0 rfl (lv_at hl 0 rfl) ?_
  refine x_get C hw iwX11 10 rfl 0 rfl 7 (by decide) kw1200 rfl dX11_isWord_1 ?_
  refine lv_iconst (v := 2) C.1 C.2.1 dX11_isWord_4 (by decide) ?_
  refine lv_icmp_ne (tgt := 24) C.1 C.2.1 dX11_isWord_5 (by decide) (fun c1 => ?_) (fun c1 => ?_)
  · skip
    have c1 : qm_kind.toInt ≠ 2 := i_eqF (X := qm_kind.toInt) (Y := 2) rfl rfl c1
    have bc1_qm_kind := i_bd qm_kind
    refine lv_iconst (v := 0) C.1 C.2.1 dX11_isWord_24 (by decide) ?_
    exact x_retzQ hQ B hw rfl (Or.inl ⟨rfl, rfl, (fun h9 => absurd (show tkW b qm_size.toInt pp = 6562612 from (kyN_is (i := 2) (by decide)).mp h9.2) (by omega))⟩) (Nat.le_of_ble_eq_true rfl) (Nat.le_of_ble_eq_true rfl) dX11_isWord_25
  · skip
    have c1 : qm_kind.toInt = 2 := i_eqT (X := qm_kind.toInt) (Y := 2) rfl rfl c1
    have bc1_qm_kind := i_bd qm_kind
    refine lv_aload_n C.1 C.2.1 dX11_isWord_8 rfl (lv_at hl 0 rfl) ?_
    refine x_get C hw iwX11 10 rfl 0 rfl 12 (by decide) kw1205 rfl dX11_isWord_9 ?_
    refine lv_iload_n C.1 C.2.1 dX11_isWord_12 rfl (lv_at hl 1 rfl) ?_
    refine x_calllS (As := [.int 4]) (rest := [.long qm_word]) (wr := [(qm, .inr (10, [.int qm_thrown, .ref qm_tape, .int qm_taped, .int qm_size, .int qm_limit, .int qm_to, .int qm_from, .int qm_kind, .int qm_number, .int qm_sign, .int qm_fault, .int qm_place, .long qm_word, .int qm_told, .ref qm_now, .ref qm_read, .ref qm_kept, .ref qm_snaps, .ref qm_aside, .ref qm_name, .ref qm_readName, .ref qm_keptName, .ref qm_isKept, .ref qm_onces, .int qm_snapMany, .ref qm_order, .ref qm_ordered, .int qm_orderMany, .int qm_orderMost, .int qm_passing, .int qm_movedWho, .int qm_scratched, .ref qm_text, .int qm_texts, .int qm_seed, .ref qm_line, .ref qm_written, .int qm_lineMany, .int qm_hasWritten, .ref qm_node, .int qm_nodes, .int qm_onesMany, .int qm_within, .int qm_top]))]) C hw e_wordOf_4 mwX11_wordOf kw1363 [] [0] rfl rfl rfl rfl (by decide) rfl hl.1 rfl (Nat.le_of_ble_eq_true rfl) ⟨(Nat.le_of_ble_eq_true rfl), (Nat.le_of_ble_eq_true rfl)⟩ ⟨(Nat.le_of_ble_eq_true rfl), (Nat.le_of_ble_eq_true rfl)⟩ dX11_isWord_13 (fun r2 u9 H locs hp9 hw => ?_)
    obtain ⟨rfl, rfl⟩ := hp9
    have hw : Wd G s A [(qm, .inr (10, [.int qm_thrown, .ref qm_tape, .int qm_taped, .int qm_size, .int qm_limit, .int qm_to, .int qm_from, .int qm_kind, .int qm_number, .int qm_sign, .int qm_fault, .int qm_place, .long qm_word, .int qm_told, .ref qm_now, .ref qm_read, .ref qm_kept, .ref qm_snaps, .ref qm_aside, .ref qm_name, .ref qm_readName, .ref qm_keptName, .ref qm_isKept, .ref qm_onces, .int qm_snapMany, .ref qm_order, .ref qm_ordered, .int qm_orderMany, .int qm_orderMost, .int qm_passing, .int qm_movedWho, .int qm_scratched, .ref qm_text, .int qm_texts, .int qm_seed, .ref qm_line, .ref qm_written, .int qm_lineMany, .int qm_hasWritten, .ref qm_node, .int qm_nodes, .int qm_onesMany, .int qm_within, .int qm_top]))] H _ := hw
    refine W.lcmp C.1 C.2.1 dX11_isWord_16 (x_genP (fun z : Int32 => z.toInt = 0 ↔ qm_word.toInt = 6562612) (l_cmp0 rfl rfl) (fun v3 hv3 => ?_))
    refine lv_if_ne (tgt := 24) C.1 C.2.1 dX11_isWord_17 (by decide) (fun c4 => ?_) (fun c4 => ?_)
    · skip
      have c4 : v3.toInt ≠ 0 := i_eqF (X := v3.toInt) (Y := 0) rfl rfl c4
      have bc4_v3 := i_bd v3
      have d5 : qm_word.toInt ≠ 6562612 := fun q9 => c4 (hv3.mpr q9)
      clear hv3
      refine lv_iconst (v := 0) C.1 C.2.1 dX11_isWord_24 (by decide) ?_
      exact x_retzQ hQ B hw rfl (Or.inl ⟨rfl, rfl, (fun h9 => absurd (show tkW b qm_size.toInt pp = 6562612 from (kyN_is (i := 2) (by decide)).mp h9.2) (by omega))⟩) (Nat.le_of_ble_eq_true rfl) (Nat.le_of_ble_eq_true rfl) dX11_isWord_25
    · skip
      have c4 : v3.toInt = 0 := i_eqT (X := v3.toInt) (Y := 0) rfl rfl c4
      have bc4_v3 := i_bd v3
      have d6 : qm_word.toInt = 6562612 := hv3.mp c4
      clear hv3
      refine lv_iconst (v := 1) C.1 C.2.1 dX11_isWord_20 (by decide) ?_
      refine lv_goto (tgt := 25) C.1 C.2.1 dX11_isWord_21 (by decide) ?_
      exact x_retzQ hQ B hw rfl (Or.inr ⟨rfl, rfl, ⟨by omega, (kyN_is (i := 2) (by decide)).mpr (show tkW b qm_size.toInt pp = 6562612 by omega)⟩⟩) (Nat.le_of_ble_eq_true rfl) (Nat.le_of_ble_eq_true rfl) dX11_isWord_25
set_option maxHeartbeats 4000000 in
set_option maxRecDepth 100000 in
theorem e_isWord_5 {l : Launch} {G : Gc} (qm : Nat) (qm_thrown : Int32) (qm_tape : Nat) (qm_taped : Int32) (qm_size : Int32) (qm_limit : Int32) (qm_to : Int32) (qm_from : Int32) (qm_kind : Int32) (qm_number : Int32) (qm_sign : Int32) (qm_fault : Int32) (qm_place : Int32) (qm_word : Int64) (qm_told : Int32) (qm_now : Nat) (qm_read : Nat) (qm_kept : Nat) (qm_snaps : Nat) (qm_aside : Nat) (qm_name : Nat) (qm_readName : Nat) (qm_keptName : Nat) (qm_isKept : Nat) (qm_onces : Nat) (qm_snapMany : Int32) (qm_order : Nat) (qm_ordered : Nat) (qm_orderMany : Int32) (qm_orderMost : Int32) (qm_passing : Int32) (qm_movedWho : Int32) (qm_scratched : Int32) (qm_text : Nat) (qm_texts : Int32) (qm_seed : Int32) (qm_line : Nat) (qm_written : Nat) (qm_lineMany : Int32) (qm_hasWritten : Int32) (qm_node : Nat) (qm_nodes : Int32) (qm_onesMany : Int32) (qm_within : Int32) (qm_top : Int32) (b : Int → Int) (pp : Int) (hi_qm_size : 0 ≤ qm_size.toInt ∧ qm_size.toInt ≤ 940) (hr_0 : qm_to.toInt = tkX b qm_size.toInt qm_limit.toInt pp) (hr_1 : qm_from.toInt = tkP b qm_size.toInt qm_limit.toInt pp) (hr_2 : qm_kind.toInt = tkK b qm_size.toInt qm_limit.toInt pp) (hr_3 : tkV b qm_size.toInt qm_limit.toInt pp qm_number qm_sign qm_word) : Ci l yX11_isWord cX11_isWord 2 (some .boolean) 2 0 0 G [.ref qm, .int 5] [(qm, .inr (10, [.int qm_thrown, .ref qm_tape, .int qm_taped, .int qm_size, .int qm_limit, .int qm_to, .int qm_from, .int qm_kind, .int qm_number, .int qm_sign, .int qm_fault, .int qm_place, .long qm_word, .int qm_told, .ref qm_now, .ref qm_read, .ref qm_kept, .ref qm_snaps, .ref qm_aside, .ref qm_name, .ref qm_readName, .ref qm_keptName, .ref qm_isKept, .ref qm_onces, .int qm_snapMany, .ref qm_order, .ref qm_ordered, .int qm_orderMany, .int qm_orderMost, .int qm_passing, .int qm_movedWho, .int qm_scratched, .ref qm_text, .int qm_texts, .int qm_seed, .ref qm_line, .ref qm_written, .int qm_lineMany, .int qm_hasWritten, .ref qm_node, .int qm_nodes, .int qm_onesMany, .int qm_within, .int qm_top]))] (fun (r9 : Int32) (u9 : va_W) => (r9 = 0 ∧ u9 = [(qm, .inr (10, [.int qm_thrown, .ref qm_tape, .int qm_taped, .int qm_size, .int qm_limit, .int qm_to, .int qm_from, .int qm_kind, .int qm_number, .int qm_sign, .int qm_fault, .int qm_place, .long qm_word, .int qm_told, .ref qm_now, .ref qm_read, .ref qm_kept, .ref qm_snaps, .ref qm_aside, .ref qm_name, .ref qm_readName, .ref qm_keptName, .ref qm_isKept, .ref qm_onces, .int qm_snapMany, .ref qm_order, .ref qm_ordered, .int qm_orderMany, .int qm_orderMost, .int qm_passing, .int qm_movedWho, .int qm_scratched, .ref qm_text, .int qm_texts, .int qm_seed, .ref qm_line, .ref qm_written, .int qm_lineMany, .int qm_hasWritten, .ref qm_node, .int qm_nodes, .int qm_onesMany, .int qm_within, .int qm_top]))] ∧ (¬ (tkK b qm_size.toInt qm_limit.toInt pp = 2 ∧ kyN (tkW b qm_size.toInt pp) = 3))) ∨ (r9 = 1 ∧ u9 = [(qm, .inr (10, [.int qm_thrown, .ref qm_tape, .int qm_taped, .int qm_size, .int qm_limit, .int qm_to, .int qm_from, .int qm_kind, .int qm_number, .int qm_sign, .int qm_fault, .int qm_place, .long qm_word, .int qm_told, .ref qm_now, .ref qm_read, .ref qm_kept, .ref qm_snaps, .ref qm_aside, .ref qm_name, .ref qm_readName, .ref qm_keptName, .ref qm_isKept, .ref qm_onces, .int qm_snapMany, .ref qm_order, .ref qm_ordered, .int qm_orderMany, .int qm_orderMost, .int qm_passing, .int qm_movedWho, .int qm_scratched, .ref qm_text, .int qm_texts, .int qm_seed, .ref qm_line, .ref qm_written, .int qm_lineMany, .int qm_hasWritten, .ref qm_node, .int qm_nodes, .int qm_onesMany, .int qm_within, .int qm_top]))] ∧ (tkK b qm_size.toInt qm_limit.toInt pp = 2 ∧ kyN (tkW b qm_size.toInt pp) = 3))) := by
  refine Ci.ofQ (by decide) (Nat.le_of_ble_eq_true rfl) ?_
  intro p e s m below meth c ls A args Q hQ B hw hl
  have C : CallFix p m c cX11_isWord 2 s args gw "LanternStateModel" := B.1
  have hl : lv_has ls 2 [(0, .ref qm), (1, .int 5)] := hl
  have tv22 := hr_3.2.2
  refine lv_aload_n C.1 C.2.1 dX11_isWord_0 rfl (lv_at hl 0 rfl) ?_
  refine x_get C hw iwX11 10 rfl 0 rfl 7 (by decide) kw1200 rfl dX11_isWord_1 ?_
  refine lv_iconst (v := 2) C.1 C.2.1 dX11_isWord_4 (by decide) ?_
  refine lv_icmp_ne (tgt := 24) C.1 C.2.1 dX11_isWord_5 (by decide) (fun c1 => ?_) (fun c1 => ?_)
  · skip
    have c1 : qm_kind.toInt ≠ 2 := i_eqF (X := qm_kind.toInt) (Y := 2) rfl rfl c1
    have bc1_qm_kind := i_bd qm_kind
    refine lv_iconst (v := 0) C.1 C.2.1 dX11_isWord_24 (by decide) ?_
    exact x_retzQ hQ B hw rfl (Or.inl ⟨rfl, rfl, (fun h9 => absurd (show tkW b qm_size.toInt pp = 4285945 from (kyN_is (i := 3) (by decide)).mp h9.2) (by omega))⟩) (Nat.le_of_ble_eq_true rfl) (Nat.le_of_ble_eq_true rfl) dX11_isWord_25
  · skip
    have c1 : qm_kind.toInt = 2 := i_eqT (X := qm_kind.toInt) (Y := 2) rfl rfl c1
    have bc1_qm_kind := i_bd qm_kind
    refine lv_aload_n C.1 C.2.1 dX11_isWord_8 rfl (lv_at hl 0 rfl) ?_
    refine x_get C hw iwX11 10 rfl 0 rfl 12 (by decide) kw1205 rfl dX11_isWord_9 ?_
    refine lv_iload_n C.1 C.2.1 dX11_isWord_12 rfl (lv_at hl 1 rfl) ?_
    refine x_calllS (As := [.int 5]) (rest := [.long qm_word]) (wr := [(qm, .inr (10, [.int qm_thrown, .ref qm_tape, .int qm_taped, .int qm_size, .int qm_limit, .int qm_to, .int qm_from, .int qm_kind, .int qm_number, .int qm_sign, .int qm_fault, .int qm_place, .long qm_word, .int qm_told, .ref qm_now, .ref qm_read, .ref qm_kept, .ref qm_snaps, .ref qm_aside, .ref qm_name, .ref qm_readName, .ref qm_keptName, .ref qm_isKept, .ref qm_onces, .int qm_snapMany, .ref qm_order, .ref qm_ordered, .int qm_orderMany, .int qm_orderMost, .int qm_passing, .int qm_movedWho, .int qm_scratched, .ref qm_text, .int qm_texts, .int qm_seed, .ref qm_line, .ref qm_written, .int qm_lineMany, .int qm_hasWritten, .ref qm_node, .int qm_nodes, .int qm_onesMany, .int qm_within, .int qm_top]))]) C hw e_wordOf_5 mwX11_wordOf kw1363 [] [0] rfl rfl rfl rfl (by decide) rfl hl.1 rfl (Nat.le_of_ble_eq_true rfl) ⟨(Nat.le_of_ble_eq_true rfl), (Nat.le_of_ble_eq_true rfl)⟩ ⟨(Nat.le_of_ble_eq_true rfl), (Nat.le_of_ble_eq_true rfl)⟩ dX11_isWord_13 (fun r2 u9 H locs hp9 hw => ?_)
    obtain ⟨rfl, rfl⟩ := hp9
    have hw : Wd G s A [(qm, .inr (10, [.int qm_thrown, .ref qm_tape, .int qm_taped, .int qm_size, .int qm_limit, .int qm_to, .int qm_from, .int qm_kind, .int qm_number, .int qm_sign, .int qm_fault, .int qm_place, .long qm_word, .int qm_told, .ref qm_now, .ref qm_read, .ref qm_kept, .ref qm_snaps, .ref qm_aside, .ref qm_name, .ref qm_readName, .ref qm_keptName, .ref qm_isKept, .ref qm_onces, .int qm_snapMany, .ref qm_order, .ref qm_ordered, .int qm_orderMany, .int qm_orderMost, .int qm_passing, .int qm_movedWho, .int qm_scratched, .ref qm_text, .int qm_texts, .int qm_seed, .ref qm_line, .ref qm_written, .int qm_lineMany, .int qm_hasWritten, .ref qm_node, .int qm_nodes, .int qm_onesMany, .int qm_within, .int qm_top]))] H _ := hw
    refine W.lcmp C.1 C.2.1 dX11_isWord_16 (x_genP (fun z : Int32 => z.toInt = 0 ↔ qm_word.toInt = 4285945) (l_cmp0 rfl rfl) (fun v3 hv3 => ?_))
    refine lv_if_ne (tgt := 24) C.1 C.2.1 dX11_isWord_17 (by decide) (fun c4 => ?_) (fun c4 => ?_)
    · skip
      have c4 : v3.toInt ≠ 0 := i_eqF (X := v3.toInt) (Y := 0) rfl rfl c4
      have bc4_v3 := i_bd v3
      have d5 : qm_word.toInt ≠ 4285945 := fun q9 => c4 (hv3.mpr q9)
      clear hv3
      refine lv_iconst (v := 0) C.1 C.2.1 dX11_isWord_24 (by decide) ?_
      exact x_retzQ hQ B hw rfl (Or.inl ⟨rfl, rfl, (fun h9 => absurd (show tkW b qm_size.toInt pp = 4285945 from (kyN_is (i := 3) (by decide)).mp h9.2) (by omega))⟩) (Nat.le_of_ble_eq_true rfl) (Nat.le_of_ble_eq_true rfl) dX11_isWord_25
    · skip
      have c4 : v3.toInt = 0 := i_eqT (X := v3.toInt) (Y := 0) rfl rfl c4
      have bc4_v3 := i_bd v3
      have d6 : qm_word.toInt = 4285945 := hv3.mp c4
      clear hv3
      refine lv_iconst (v := 1) C.1 C.2.1 dX11_isWord_20 (by decide) ?_
      refine lv_goto (tgt := 25) C.1 C.2.1 dX11_isWord_21 (by decide) ?_
      exact x_retzQ hQ B hw rfl (Or.inr ⟨rfl, rfl, ⟨by omega, (kyN_is (i := 3) (by decide)).mpr (show tkW b qm_size.toInt pp = 4285945 by omega)⟩⟩) (Nat.le_of_ble_eq_true rfl) (Nat.le_of_ble_eq_true rfl) dX11_isWord_25
set_option maxHeartbeats 4000000 in
set_option maxRecDepth 100000 in
theorem e_isWord_6 {l : Launch} {G : Gc} (qm : Nat) (qm_thrown : Int32) (qm_tape : Nat) (qm_taped : Int32) (qm_size : Int32) (qm_limit : Int32) (qm_to : Int32) (qm_from : Int32) (qm_kind : Int32) (qm_number : Int32) (qm_sign : Int32) (qm_fault : Int32) (qm_place : Int32) (qm_word : Int64) (qm_told : Int32) (qm_now : Nat) (qm_read : Nat) (qm_kept : Nat) (qm_snaps : Nat) (qm_aside : Nat) (qm_name : Nat) (qm_readName : Nat) (qm_keptName : Nat) (qm_isKept : Nat) (qm_onces : Nat) (qm_snapMany : Int32) (qm_order : Nat) (qm_ordered : Nat) (qm_orderMany : Int32) (qm_orderMost : Int32) (qm_passing : Int32) (qm_movedWho : Int32) (qm_scratched : Int32) (qm_text : Nat) (qm_texts : Int32) (qm_seed : Int32) (qm_line : Nat) (qm_written : Nat) (qm_lineMany : Int32) (qm_hasWritten : Int32) (qm_node : Nat) (qm_nodes : Int32) (qm_onesMany : Int32) (qm_within : Int32) (qm_top : Int32) (b : Int → Int) (pp : Int) (hi_qm_size : 0 ≤ qm_size.toInt ∧ qm_size.toInt ≤ 940) (hr_0 : qm_to.toInt = tkX b qm_size.toInt qm_limit.toInt pp) (hr_1 : qm_from.toInt = tkP b qm_size.toInt qm_limit.toInt pp) (hr_2 : qm_kind.toInt = tkK b qm_size.toInt qm_limit.toInt pp) (hr_3 : tkV b qm_size.toInt qm_limit.toInt pp qm_number qm_sign qm_word) : Ci l yX11_isWord cX11_isWord 2 (some .boolean) 2 0 0 G [.ref qm, .int 6] [(qm, .inr (10, [.int qm_thrown, .ref qm_tape, .int qm_taped, .int qm_size, .int qm_limit, .int qm_to, .int qm_from, .int qm_kind, .int qm_number, .int qm_sign, .int qm_fault, .int qm_place, .long qm_word, .int qm_told, .ref qm_now, .ref qm_read, .ref qm_kept, .ref qm_snaps, .ref qm_aside, .ref qm_name, .ref qm_readName, .ref qm_keptName, .ref qm_isKept, .ref qm_onces, .int qm_snapMany, .ref qm_order, .ref qm_ordered, .int qm_orderMany, .int qm_orderMost, .int qm_passing, .int qm_movedWho, .int qm_scratched, .ref qm_text, .int qm_texts, .int qm_seed, .ref qm_line, .ref qm_written, .int qm_lineMany, .int qm_hasWritten, .ref qm_node, .int qm_nodes, .int qm_onesMany, .int qm_within, .int qm_top]))] (fun (r9 : Int32) (u9 : va_W) => (r9 = 0 ∧ u9 = [(qm, .inr (10, [.int qm_thrown, .ref qm_tape, .int qm_taped, .int qm_size, .int qm_limit, .int qm_to, .int qm_from, .int qm_kind, .int qm_number, .int qm_sign, .int qm_fault, .int qm_place, .long qm_word, .int qm_told, .ref qm_now, .ref qm_read, .ref qm_kept, .ref qm_snaps, .ref qm_aside, .ref qm_name, .ref qm_readName, .ref qm_keptName, .ref qm_isKept, .ref qm_onces, .int qm_snapMany, .ref qm_order, .ref qm_ordered, .int qm_orderMany, .int qm_orderMost, .int qm_passing, .int qm_movedWho, .int qm_scratched, .ref qm_text, .int qm_texts, .int qm_seed, .ref qm_line, .ref qm_written, .int qm_lineMany, .int qm_hasWritten, .ref qm_node, .int qm_nodes, .int qm_onesMany, .int qm_within, .int qm_top]))] ∧ (¬ (tkK b qm_size.toInt qm_limit.toInt pp = 2 ∧ kyN (tkW b qm_size.toInt pp) = 4))) ∨ (r9 = 1 ∧ u9 = [(qm, .inr (10, [.int qm_thrown, .ref qm_tape, .int qm_taped, .int qm_size, .int qm_limit, .int qm_to, .int qm_from, .int qm_kind, .int qm_number, .int qm_sign, .int qm_fault, .int qm_place, .long qm_word, .int qm_told, .ref qm_now, .ref qm_read, .ref qm_kept, .ref qm_snaps, .ref qm_aside, .ref qm_name, .ref qm_readName, .ref qm_keptName, .ref qm_isKept, .ref qm_onces, .int qm_snapMany, .ref qm_order, .ref qm_ordered, .int qm_orderMany, .int qm_orderMost, .int qm_passing, .int qm_movedWho, .int qm_scratched, .ref qm_text, .int qm_texts, .int qm_seed, .ref qm_line, .ref qm_written, .int qm_lineMany, .int qm_hasWritten, .ref qm_node, .int qm_nodes, .int qm_onesMany, .int qm_within, .int qm_top]))] ∧ (tkK b qm_size.toInt qm_limit.toInt pp = 2 ∧ kyN (tkW b qm_size.toInt pp) = 4))) := by
  refine Ci.ofQ (by decide) (Nat.le_of_ble_eq_true rfl) ?_
  intro p e s m below meth c ls A args Q hQ B hw hl
  have C : CallFix p m c cX11_isWord 2 s args gw "LanternStateModel" := B.1
  have hl : lv_has ls 2 [(0, .ref qm), (1, .int 6)] := hl
  have tv22 := hr_3.2.2
  refine lv_aload_n C.1 C.2.1 dX11_isWord_0 rfl (lv_at hl 0 rfl) ?_
  refine x_get C hw iwX11 10 rfl 0 rfl 7 (by decide) kw1200 rfl dX11_isWord_1 ?_
  refine lv_iconst (v := 2) C.1 C.2.1 dX11_isWord_4 (by decide) ?_
  refine lv_icmp_ne (tgt := 24) C.1 C.2.1 dX11_isWord_5 (by decide) (fun c1 => ?_) (fun c1 => ?_)
  · skip
    have c1 : qm_kind.toInt ≠ 2 := i_eqF (X := qm_kind.toInt) (Y := 2) rfl rfl c1
    have bc1_qm_kind := i_bd qm_kind
    refine lv_iconst (v := 0) C.1 C.2.1 dX11_isWord_24 (by decide) ?_
    exact x_retzQ hQ B hw rfl (Or.inl ⟨rfl, rfl, (fun h9 => absurd (show tkW b qm_size.toInt pp = 279252 from (kyN_is (i := 4) (by decide)).mp h9.2) (by omega))⟩) (Nat.le_of_ble_eq_true rfl) (Nat.le_of_ble_eq_true rfl) dX11_isWord_25
  · skip
    have c1 : qm_kind.toInt = 2 := i_eqT (X := qm_kind.toInt) (Y := 2) rfl rfl c1
    have bc1_qm_kind := i_bd qm_kind
    refine lv_aload_n C.1 C.2.1 dX11_isWord_8 rfl (lv_at hl 0 rfl) ?_
    refine x_get C hw iwX11 10 rfl 0 rfl 12 (by decide) kw1205 rfl dX11_isWord_9 ?_
    refine lv_iload_n C.1 C.2.1 dX11_isWord_12 rfl (lv_at hl 1 rfl) ?_
    refine x_calllS (As := [.int 6]) (rest := [.long qm_word]) (wr := [(qm, .inr (10, [.int qm_thrown, .ref qm_tape, .int qm_taped, .int qm_size, .int qm_limit, .int qm_to, .int qm_from, .int qm_kind, .int qm_number, .int qm_sign, .int qm_fault, .int qm_place, .long qm_word, .int qm_told, .ref qm_now, .ref qm_read, .ref qm_kept, .ref qm_snaps, .ref qm_aside, .ref qm_name, .ref qm_readName, .ref qm_keptName, .ref qm_isKept, .ref qm_onces, .int qm_snapMany, .ref qm_order, .ref qm_ordered, .int qm_orderMany, .int qm_orderMost, .int qm_passing, .int qm_movedWho, .int qm_scratched, .ref qm_text, .int qm_texts, .int qm_seed, .ref qm_line, .ref qm_written, .int qm_lineMany, .int qm_hasWritten, .ref qm_node, .int qm_nodes, .int qm_onesMany, .int qm_within, .int qm_top]))]) C hw e_wordOf_6 mwX11_wordOf kw1363 [] [0] rfl rfl rfl rfl (by decide) rfl hl.1 rfl (Nat.le_of_ble_eq_true rfl) ⟨(Nat.le_of_ble_eq_true rfl), (Nat.le_of_ble_eq_true rfl)⟩ ⟨(Nat.le_of_ble_eq_true rfl), (Nat.le_of_ble_eq_true rfl)⟩ dX11_isWord_13 (fun r2 u9 H locs hp9 hw => ?_)
    obtain ⟨rfl, rfl⟩ := hp9
    have hw : Wd G s A [(qm, .inr (10, [.int qm_thrown, .ref qm_tape, .int qm_taped, .int qm_size, .int qm_limit, .int qm_to, .int qm_from, .int qm_kind, .int qm_number, .int qm_sign, .int qm_fault, .int qm_place, .long qm_word, .int qm_told, .ref qm_now, .ref qm_read, .ref qm_kept, .ref qm_snaps, .ref qm_aside, .ref qm_name, .ref qm_readName, .ref qm_keptName, .ref qm_isKept, .ref qm_onces, .int qm_snapMany, .ref qm_order, .ref qm_ordered, .int qm_orderMany, .int qm_orderMost, .int qm_passing, .int qm_movedWho, .int qm_scratched, .ref qm_text, .int qm_texts, .int qm_seed, .ref qm_line, .ref qm_written, .int qm_lineMany, .int qm_hasWritten, .ref qm_node, .int qm_nodes, .int qm_onesMany, .int qm_within, .int qm_top]))] H _ := hw
    refine W.lcmp C.1 C.2.1 dX11_isWord_16 (x_genP (fun z : Int32 => z.toInt = 0 ↔ qm_word.toInt = 279252) (l_cmp0 rfl rfl) (fun v3 hv3 => ?_))
    refine lv_if_ne (tgt := 24) C.1 C.2.1 dX11_isWord_17 (by decide) (fun c4 => ?_) (fun c4 => ?_)
    · skip
      have c4 : v3.toInt ≠ 0 := i_eqF (X := v3.toInt) (Y := 0) rfl rfl c4
      have bc4_v3 := i_bd v3
      have d5 : qm_word.toInt ≠ 279252 := fun q9 => c4 (hv3.mpr q9)
      clear hv3
      refine lv_iconst (v := 0) C.1 C.2.1 dX11_isWord_24 (by decide) ?_
      exact x_retzQ hQ B hw rfl (Or.inl ⟨rfl, rfl, (fun h9 => absurd (show tkW b qm_size.toInt pp = 279252 from (kyN_is (i := 4) (by decide)).mp h9.2) (by omega))⟩) (Nat.le_of_ble_eq_true rfl) (Nat.le_of_ble_eq_true rfl) dX11_isWord_25
    · skip
      have c4 : v3.toInt = 0 := i_eqT (X := v3.toInt) (Y := 0) rfl rfl c4
      have bc4_v3 := i_bd v3
      have d6 : qm_word.toInt = 279252 := hv3.mp c4
      clear hv3
      refine lv_iconst (v := 1) C.1 C.2.1 dX11_isWord_20 (by decide) ?_
      refine lv_goto (tgt := 25) C.1 C.2.1 dX11_isWord_21 (by decide) ?_
      exact x_retzQ hQ B hw rfl (Or.inr ⟨rfl, rfl, ⟨by omega, (kyN_is (i := 4) (by decide)).mpr (show tkW b qm_size.toInt pp = 279252 by omega)⟩⟩) (Nat.le_of_ble_eq_true rfl) (Nat.le_of_ble_eq_true rfl) dX11_isWord_25
set_option maxHeartbeats 4000000 in
set_option maxRecDepth 100000 in
theorem e_isWord_7 {l : Launch} {G : Gc} (qm : Nat) (qm_thrown : Int32) (qm_tape : Nat) (qm_taped : Int32) (qm_size : Int32) (qm_limit : Int32) (qm_to : Int32) (qm_from : Int32) (qm_kind : Int32) (qm_number : Int32) (qm_sign : Int32) (qm_fault : Int32) (qm_place : Int32) (qm_word : Int64) (qm_told : Int32) (qm_now : Nat) (qm_read : Nat) (qm_kept : Nat) (qm_snaps : Nat) (qm_aside : Nat) (qm_name : Nat) (qm_readName : Nat) (qm_keptName : Nat) (qm_isKept : Nat) (qm_onces : Nat) (qm_snapMany : Int32) (qm_order : Nat) (qm_ordered : Nat) (qm_orderMany : Int32) (qm_orderMost : Int32) (qm_passing : Int32) (qm_movedWho : Int32) (qm_scratched : Int32) (qm_text : Nat) (qm_texts : Int32) (qm_seed : Int32) (qm_line : Nat) (qm_written : Nat) (qm_lineMany : Int32) (qm_hasWritten : Int32) (qm_node : Nat) (qm_nodes : Int32) (qm_onesMany : Int32) (qm_within : Int32) (qm_top : Int32) (b : Int → Int) (pp : Int) (hi_qm_size : 0 ≤ qm_size.toInt ∧ qm_size.toInt ≤ 940) (hr_0 : qm_to.toInt = tkX b qm_size.toInt qm_limit.toInt pp) (hr_1 : qm_from.toInt = tkP b qm_size.toInt qm_limit.toInt pp) (hr_2 : qm_kind.toInt = tkK b qm_size.toInt qm_limit.toInt pp) (hr_3 : tkV b qm_size.toInt qm_limit.toInt pp qm_number qm_sign qm_word) : Ci l yX11_isWord cX11_isWord 2 (some .boolean) 2 0 0 G [.ref qm, .int 7] [(qm, .inr (10, [.int qm_thrown, .ref qm_tape, .int qm_taped, .int qm_size, .int qm_limit, .int qm_to, .int qm_from, .int qm_kind, .int qm_number, .int qm_sign, .int qm_fault, .int qm_place, .long qm_word, .int qm_told, .ref qm_now, .ref qm_read, .ref qm_kept, .ref qm_snaps, .ref qm_aside, .ref qm_name, .ref qm_readName, .ref qm_keptName, .ref qm_isKept, .ref qm_onces, .int qm_snapMany, .ref qm_order, .ref qm_ordered, .int qm_orderMany, .int qm_orderMost, .int qm_passing, .int qm_movedWho, .int qm_scratched, .ref qm_text, .int qm_texts, .int qm_seed, .ref qm_line, .ref qm_written, .int qm_lineMany, .int qm_hasWritten, .ref qm_node, .int qm_nodes, .int qm_onesMany, .int qm_within, .int qm_top]))] (fun (r9 : Int32) (u9 : va_W) => (r9 = 0 ∧ u9 = [(qm, .inr (10, [.int qm_thrown, .ref qm_tape, .int qm_taped, .int qm_size, .int qm_limit, .int qm_to, .int qm_from, .int qm_kind, .int qm_number, .int qm_sign, .int qm_fault, .int qm_place, .long qm_word, .int qm_told, .ref qm_now, .ref qm_read, .ref qm_kept, .ref qm_snaps, .ref qm_aside, .ref qm_name, .ref qm_readName, .ref qm_keptName, .ref qm_isKept, .ref qm_onces, .int qm_snapMany, .ref qm_order, .ref qm_ordered, .int qm_orderMany, .int qm_orderMost, .int qm_passing, .int qm_movedWho, .int qm_scratched, .ref qm_text, .int qm_texts, .int qm_seed, .ref qm_line, .ref qm_written, .int qm_lineMany, .int qm_hasWritten, .ref qm_node, .int qm_nodes, .int qm_onesMany, .int qm_within, .int qm_top]))] ∧ (¬ (tkK b qm_size.toInt qm_limit.toInt pp = 2 ∧ kyN (tkW b qm_size.toInt pp) = 5))) ∨ (r9 = 1 ∧ u9 = [(qm, .inr (10, [.int qm_thrown, .ref qm_tape, .int qm_taped, .int qm_size, .int qm_limit, .int qm_to, .int qm_from, .int qm_kind, .int qm_number, .int qm_sign, .int qm_fault, .int qm_place, .long qm_word, .int qm_told, .ref qm_now, .ref qm_read, .ref qm_kept, .ref qm_snaps, .ref qm_aside, .ref qm_name, .ref qm_readName, .ref qm_keptName, .ref qm_isKept, .ref qm_onces, .int qm_snapMany, .ref qm_order, .ref qm_ordered, .int qm_orderMany, .int qm_orderMost, .int qm_passing, .int qm_movedWho, .int qm_scratched, .ref qm_text, .int qm_texts, .int qm_seed, .ref qm_line, .ref qm_written, .int qm_lineMany, .int qm_hasWritten, .ref qm_node, .int qm_nodes, .int qm_onesMany, .int qm_within, .int qm_top]))] ∧ (tkK b qm_size.toInt qm_limit.toInt pp = 2 ∧ kyN (tkW b qm_size.toInt pp) = 5))) := by
  refine Ci.ofQ (by decide) (Nat.le_of_ble_eq_true rfl) ?_
  intro p e s m below meth c ls A args Q hQ B hw hl
  have C : CallFix p m c cX11_isWord 2 s args gw "LanternStateModel" := B.1
  have hl : lv_has ls 2 [(0, .ref qm), (1, .int 7)] := hl
  have tv22 := hr_3.2.2
  refine lv_aload_n C.1 C.2.1 dX11_isWord_0 rfl (lv_at hl 0 rfl) ?_
  refine x_get C hw iwX11 10 rfl 0 rfl 7 (by decide) kw1200 rfl dX11_isWord_1 ?_
  refine lv_iconst (v := 2) C.1 C.2.1 dX11_isWord_4 (by decide) ?_
  refine lv_icmp_ne (tgt := 24) C.1 C.2.1 dX11_isWord_5 (by decide) (fun c1 => ?_) (fun c1 => ?_)
  · skip
    have c1 : qm_kind.toInt ≠ 2 := i_eqF (X := qm_kind.toInt) (Y := 2) rfl rfl c1
    have bc1_qm_kind := i_bd qm_kind
    refine lv_iconst (v := 0) C.1 C.2.1 dX11_isWord_24 (by decide) ?_
    exact x_retzQ hQ B hw rfl (Or.inl ⟨rfl, rfl, (fun h9 => absurd (show tkW b qm_size.toInt pp = 664272 from (kyN_is (i := 5) (by decide)).mp h9.2) (by omega))⟩) (Nat.le_of_ble_eq_true rfl) (Nat.le_of_ble_eq_true rfl) dX11_isWord_25
  · skip
    have c1 : qm_kind.toInt = 2 := i_eqT (X := qm_kind.toInt) (Y := 2) rfl rfl c1
    have bc1_qm_kind := i_bd qm_kind
    refine lv_aload_n C.1 C.2.1 dX11_isWord_8 rfl (lv_at hl 0 rfl) ?_
    refine x_get C hw iwX11 10 rfl 0 rfl 12 (by decide) kw1205 rfl dX11_isWord_9 ?_
    refine lv_iload_n C.1 C.2.1 dX11_isWord_12 rfl (lv_at hl 1 rfl) ?_
    refine x_calllS (As := [.int 7]) (rest := [.long qm_word]) (wr := [(qm, .inr (10, [.int qm_thrown, .ref qm_tape, .int qm_taped, .int qm_size, .int qm_limit, .int qm_to, .int qm_from, .int qm_kind, .int qm_number, .int qm_sign, .int qm_fault, .int qm_place, .long qm_word, .int qm_told, .ref qm_now, .ref qm_read, .ref qm_kept, .ref qm_snaps, .ref qm_aside, .ref qm_name, .ref qm_readName, .ref qm_keptName, .ref qm_isKept, .ref qm_onces, .int qm_snapMany, .ref qm_order, .ref qm_ordered, .int qm_orderMany, .int qm_orderMost, .int qm_passing, .int qm_movedWho, .int qm_scratched, .ref qm_text, .int qm_texts, .int qm_seed, .ref qm_line, .ref qm_written, .int qm_lineMany, .int qm_hasWritten, .ref qm_node, .int qm_nodes, .int qm_onesMany, .int qm_within, .int qm_top]))]) C hw e_wordOf_7 mwX11_wordOf kw1363 [] [0] rfl rfl rfl rfl (by decide) rfl hl.1 rfl (Nat.le_of_ble_eq_true rfl) ⟨(Nat.le_of_ble_eq_true rfl), (Nat.le_of_ble_eq_true rfl)⟩ ⟨(Nat.le_of_ble_eq_true rfl), (Nat.le_of_ble_eq_true rfl)⟩ dX11_isWord_13 (fun r2 u9 H locs hp9 hw => ?_)
    obtain ⟨rfl, rfl⟩ := hp9
    have hw : Wd G s A [(qm, .inr (10, [.int qm_thrown, .ref qm_tape, .int qm_taped, .int qm_size, .int qm_limit, .int qm_to, .int qm_from, .int qm_kind, .int qm_number, .int qm_sign, .int qm_fault, .int qm_place, .long qm_word, .int qm_told, .ref qm_now, .ref qm_read, .ref qm_kept, .ref qm_snaps, .ref qm_aside, .ref qm_name, .ref qm_readName, .ref qm_keptName, .ref qm_isKept, .ref qm_onces, .int qm_snapMany, .ref qm_order, .ref qm_ordered, .int qm_orderMany, .int qm_orderMost, .int qm_passing, .int qm_movedWho, .int qm_scratched, .ref qm_text, .int qm_texts, .int qm_seed, .ref qm_line, .ref qm_written, .int qm_lineMany, .int qm_hasWritten, .ref qm_node, .int qm_nodes, .int qm_onesMany, .int qm_within, .int qm_top]))] H _ := hw
    refine W.lcmp C.1 C.2.1 dX11_isWord_16 (x_genP (fun z : Int32 => z.toInt = 0 ↔ qm_word.toInt = 664272) (l_cmp0 rfl rfl) (fun v3 hv3 => ?_))
    refine lv_if_ne (tgt := 24) C.1 C.2.1 dX11_isWord_17 (by decide) (fun c4 => ?_) (fun c4 => ?_)
    · skip
      have c4 : v3.toInt ≠ 0 := i_eqF (X := v3.toInt) (Y := 0) rfl rfl c4
      have bc4_v3 := i_bd v3
      have d5 : qm_word.toInt ≠ 664272 := fun q9 => c4 (hv3.mpr q9)
      clear hv3
      refine lv_iconst (v := 0) C.1 C.2.1 dX11_isWord_24 (by decide) ?_
      exact x_retzQ hQ B hw rfl (Or.inl ⟨rfl, rfl, (fun h9 => absurd (show tkW b qm_size.toInt pp = 664272 from (kyN_is (i := 5) (by decide)).mp h9.2) (by omega))⟩) (Nat.le_of_ble_eq_true rfl) (Nat.le_of_ble_eq_true rfl) dX11_isWord_25
    · skip
      have c4 : v3.toInt = 0 := i_eqT (X := v3.toInt) (Y := 0) rfl rfl c4
      have bc4_v3 := i_bd v3
      have d6 : qm_word.toInt = 664272 := hv3.mp c4
      clear hv3
      refine lv_iconst (v := 1) C.1 C.2.1 dX11_isWord_20 (by decide) ?_
      refine lv_goto (tgt := 25) C.1 C.2.1 dX11_isWord_21 (by decide) ?_
      exact x_retzQ hQ B hw rfl (Or.inr ⟨rfl, rfl, ⟨by omega, (kyN_is (i := 5) (by decide)).mpr (show tkW b qm_size.toInt pp = 664272 by omega)⟩⟩) (Nat.le_of_ble_eq_true rfl) (Nat.le_of_ble_eq_true rfl) dX11_isWord_25
set_option maxHeartbeats 4000000 in
set_option maxRecDepth 100000 in
theorem e_isWord_8 {l : Launch} {G : Gc} (qm : Nat) (qm_thrown : Int32) (qm_tape : Nat) (qm_taped : Int32) (qm_size : Int32) (qm_limit : Int32) (qm_to : Int32) (qm_from : Int32) (qm_kind : Int32) (qm_number : Int32) (qm_sign : Int32) (qm_fault : Int32) (qm_place : Int32) (qm_word : Int64) (qm_told : Int32) (qm_now : Nat) (qm_read : Nat) (qm_kept : Nat) (qm_snaps : Nat) (qm_aside : Nat) (qm_name : Nat) (qm_readName : Nat) (qm_keptName : Nat) (qm_isKept : Nat) (qm_onces : Nat) (qm_snapMany : Int32) (qm_order : Nat) (qm_ordered : Nat) (qm_orderMany : Int32) (qm_orderMost : Int32) (qm_passing : Int32) (qm_movedWho : Int32) (qm_scratched : Int32) (qm_text : Nat) (qm_texts : Int32) (qm_seed : Int32) (qm_line : Nat) (qm_written : Nat) (qm_lineMany : Int32) (qm_hasWritten : Int32) (qm_node : Nat) (qm_nodes : Int32) (qm_onesMany : Int32) (qm_within : Int32) (qm_top : Int32) (b : Int → Int) (pp : Int) (hi_qm_size : 0 ≤ qm_size.toInt ∧ qm_size.toInt ≤ 940) (hr_0 : qm_to.toInt = tkX b qm_size.toInt qm_limit.toInt pp) (hr_1 : qm_from.toInt = tkP b qm_size.toInt qm_limit.toInt pp) (hr_2 : qm_kind.toInt = tkK b qm_size.toInt qm_limit.toInt pp) (hr_3 : tkV b qm_size.toInt qm_limit.toInt pp qm_number qm_sign qm_word) : Ci l yX11_isWord cX11_isWord 2 (some .boolean) 2 0 0 G [.ref qm, .int 8] [(qm, .inr (10, [.int qm_thrown, .ref qm_tape, .int qm_taped, .int qm_size, .int qm_limit, .int qm_to, .int qm_from, .int qm_kind, .int qm_number, .int qm_sign, .int qm_fault, .int qm_place, .long qm_word, .int qm_told, .ref qm_now, .ref qm_read, .ref qm_kept, .ref qm_snaps, .ref qm_aside, .ref qm_name, .ref qm_readName, .ref qm_keptName, .ref qm_isKept, .ref qm_onces, .int qm_snapMany, .ref qm_order, .ref qm_ordered, .int qm_orderMany, .int qm_orderMost, .int qm_passing, .int qm_movedWho, .int qm_scratched, .ref qm_text, .int qm_texts, .int qm_seed, .ref qm_line, .ref qm_written, .int qm_lineMany, .int qm_hasWritten, .ref qm_node, .int qm_nodes, .int qm_onesMany, .int qm_within, .int qm_top]))] (fun (r9 : Int32) (u9 : va_W) => (r9 = 0 ∧ u9 = [(qm, .inr (10, [.int qm_thrown, .ref qm_tape, .int qm_taped, .int qm_size, .int qm_limit, .int qm_to, .int qm_from, .int qm_kind, .int qm_number, .int qm_sign, .int qm_fault, .int qm_place, .long qm_word, .int qm_told, .ref qm_now, .ref qm_read, .ref qm_kept, .ref qm_snaps, .ref qm_aside, .ref qm_name, .ref qm_readName, .ref qm_keptName, .ref qm_isKept, .ref qm_onces, .int qm_snapMany, .ref qm_order, .ref qm_ordered, .int qm_orderMany, .int qm_orderMost, .int qm_passing, .int qm_movedWho, .int qm_scratched, .ref qm_text, .int qm_texts, .int qm_seed, .ref qm_line, .ref qm_written, .int qm_lineMany, .int qm_hasWritten, .ref qm_node, .int qm_nodes, .int qm_onesMany, .int qm_within, .int qm_top]))] ∧ (¬ (tkK b qm_size.toInt qm_limit.toInt pp = 2 ∧ kyN (tkW b qm_size.toInt pp) = 6))) ∨ (r9 = 1 ∧ u9 = [(qm, .inr (10, [.int qm_thrown, .ref qm_tape, .int qm_taped, .int qm_size, .int qm_limit, .int qm_to, .int qm_from, .int qm_kind, .int qm_number, .int qm_sign, .int qm_fault, .int qm_place, .long qm_word, .int qm_told, .ref qm_now, .ref qm_read, .ref qm_kept, .ref qm_snaps, .ref qm_aside, .ref qm_name, .ref qm_readName, .ref qm_keptName, .ref qm_isKept, .ref qm_onces, .int qm_snapMany, .ref qm_order, .ref qm_ordered, .int qm_orderMany, .int qm_orderMost, .int qm_passing, .int qm_movedWho, .int qm_scratched, .ref qm_text, .int qm_texts, .int qm_seed, .ref qm_line, .ref qm_written, .int qm_lineMany, .int qm_hasWritten, .ref qm_node, .int qm_nodes, .int qm_onesMany, .int qm_within, .int qm_top]))] ∧ (tkK b qm_size.toInt qm_limit.toInt pp = 2 ∧ kyN (tkW b qm_size.toInt pp) = 6))) := by
  refine Ci.ofQ (by decide) (Nat.le_of_ble_eq_true rfl) ?_
  intro p e s m below meth c ls A args Q hQ B hw hl
  have C : CallFix p m c cX11_isWord 2 s args gw "LanternStateModel" := B.1
  have hl : lv_has ls 2 [(0, .ref qm), (1, .int 8)] := hl
  have tv22 := hr_3.2.2
  refine lv_aload_n C.1 C.2.1 dX11_isWord_0 rfl (lv_at hl 0 rfl) ?_
  refine x_get C hw iwX11 10 rfl 0 rfl 7 (by decide) kw1200 rfl dX11_isWord_1 ?_
  refine lv_iconst (v := 2) C.1 C.2.1 dX11_isWord_4 (by decide) ?_
  refine lv_icmp_ne (tgt := 24) C.1 C.2.1 dX11_isWord_5 (by decide) (fun c1 => ?_) (fun c1 => ?_)
  · skip
    have c1 : qm_kind.toInt ≠ 2 := i_eqF (X := qm_kind.toInt) (Y := 2) rfl rfl c1
    have bc1_qm_kind := i_bd qm_kind
    refine lv_iconst (v := 0) C.1 C.2.1 dX11_isWord_24 (by decide) ?_
    exact x_retzQ hQ B hw rfl (Or.inl ⟨rfl, rfl, (fun h9 => absurd (show tkW b qm_size.toInt pp = 316189 from (kyN_is (i := 6) (by decide)).mp h9.2) (by omega))⟩) (Nat.le_of_ble_eq_true rfl) (Nat.le_of_ble_eq_true rfl) dX11_isWord_25
  · skip
    have c1 : qm_kind.toInt = 2 := i_eqT (X := qm_kind.toInt) (Y := 2) rfl rfl c1
    have bc1_qm_kind := i_bd qm_kind
    refine lv_aload_n C.1 C.2.1 dX11_isWord_8 rfl (lv_at hl 0 rfl) ?_
    refine x_get C hw iwX11 10 rfl 0 rfl 12 (by decide) kw1205 rfl dX11_isWord_9 ?_
    refine lv_iload_n C.1 C.2.1 dX11_isWord_12 rfl (lv_at hl 1 rfl) ?_
    refine x_calllS (As := [.int 8]) (rest := [.long qm_word]) (wr := [(qm, .inr (10, [.int qm_thrown, .ref qm_tape, .int qm_taped, .int qm_size, .int qm_limit, .int qm_to, .int qm_from, .int qm_kind, .int qm_number, .int qm_sign, .int qm_fault, .int qm_place, .long qm_word, .int qm_told, .ref qm_now, .ref qm_read, .ref qm_kept, .ref qm_snaps, .ref qm_aside, .ref qm_name, .ref qm_readName, .ref qm_keptName, .ref qm_isKept, .ref qm_onces, .int qm_snapMany, .ref qm_order, .ref qm_ordered, .int qm_orderMany, .int qm_orderMost, .int qm_passing, .int qm_movedWho, .int qm_scratched, .ref qm_text, .int qm_texts, .int qm_seed, .ref qm_line, .ref qm_written, .int qm_lineMany, .int qm_hasWritten, .ref qm_node, .int qm_nodes, .int qm_onesMany, .int qm_within, .int qm_top]))]) C hw e_wordOf_8 mwX11_wordOf kw1363 [] [0] rfl rfl rfl rfl (by decide) rfl hl.1 rfl (Nat.le_of_ble_eq_true rfl) ⟨(Nat.le_of_ble_eq_true rfl), (Nat.le_of_ble_eq_true rfl)⟩ ⟨(Nat.le_of_ble_eq_true rfl), (Nat.le_of_ble_eq_true rfl)⟩ dX11_isWord_13 (fun r2 u9 H locs hp9 hw => ?_)
    obtain ⟨rfl, rfl⟩ := hp9
    have hw : Wd G s A [(qm, .inr (10, [.int qm_thrown, .ref qm_tape, .int qm_taped, .int qm_size, .int qm_limit, .int qm_to, .int qm_from, .int qm_kind, .int qm_number, .int qm_sign, .int qm_fault, .int qm_place, .long qm_word, .int qm_told, .ref qm_now, .ref qm_read, .ref qm_kept, .ref qm_snaps, .ref qm_aside, .ref qm_name, .ref qm_readName, .ref qm_keptName, .ref qm_isKept, .ref qm_onces, .int qm_snapMany, .ref qm_order, .ref qm_ordered, .int qm_orderMany, .int qm_orderMost, .int qm_passing, .int qm_movedWho, .int qm_scratched, .ref qm_text, .int qm_texts, .int qm_seed, .ref qm_line, .ref qm_written, .int qm_lineMany, .int qm_hasWritten, .ref qm_node, .int qm_nodes, .int qm_onesMany, .int qm_within, .int qm_top]))] H _ := hw
    refine W.lcmp C.1 C.2.1 dX11_isWord_16 (x_genP (fun z : Int32 => z.toInt = 0 ↔ qm_word.toInt = 316189) (l_cmp0 rfl rfl) (fun v3 hv3 => ?_))
    refine lv_if_ne (tgt := 24) C.1 C.2.1 dX11_isWord_17 (by decide) (fun c4 => ?_) (fun c4 => ?_)
    · skip
      have c4 : v3.toInt ≠ 0 := i_eqF (X := v3.toInt) (Y := 0) rfl rfl c4
      have bc4_v3 := i_bd v3
      have d5 : qm_word.toInt ≠ 316189 := fun q9 => c4 (hv3.mpr q9)
      clear hv3
      refine lv_iconst (v := 0) C.1 C.2.1 dX11_isWord_24 (by decide) ?_
      exact x_retzQ hQ B hw rfl (Or.inl ⟨rfl, rfl, (fun h9 => absurd (show tkW b qm_size.toInt pp = 316189 from (kyN_is (i := 6) (by decide)).mp h9.2) (by omega))⟩) (Nat.le_of_ble_eq_true rfl) (Nat.le_of_ble_eq_true rfl) dX11_isWord_25
    · skip
      have c4 : v3.toInt = 0 := i_eqT (X := v3.toInt) (Y := 0) rfl rfl c4
      have bc4_v3 := i_bd v3
      have d6 : qm_word.toInt = 316189 := hv3.mp c4
      clear hv3
      refine lv_iconst (v := 1) C.1 C.2.1 dX11_isWord_20 (by decide) ?_
      refine lv_goto (tgt := 25) C.1 C.2.1 dX11_isWord_21 (by decide) ?_
      exact x_retzQ hQ B hw rfl (Or.inr ⟨rfl, rfl, ⟨by omega, (kyN_is (i := 6) (by decide)).mpr (show tkW b qm_size.toInt pp = 316189 by omega)⟩⟩) (Nat.le_of_ble_eq_true rfl) (Nat.le_of_ble_eq_true rfl) dX11_isWord_25
set_option maxHeartbeats 4000000 in
set_option maxRecDepth 100000 in
theorem e_isWord_9 {l : Launch} {G : Gc} (qm : Nat) (qm_thrown : Int32) (qm_tape : Nat) (qm_taped : Int32) (qm_size : Int32) (qm_limit : Int32) (qm_to : Int32) (qm_from : Int32) (qm_kind : Int32) (qm_number : Int32) (qm_sign : Int32) (qm_fault : Int32) (qm_place : Int32) (qm_word : Int64) (qm_told : Int32) (qm_now : Nat) (qm_read : Nat) (qm_kept : Nat) (qm_snaps : Nat) (qm_aside : Nat) (qm_name : Nat) (qm_readName : Nat) (qm_keptName : Nat) (qm_isKept : Nat) (qm_onces : Nat) (qm_snapMany : Int32) (qm_order : Nat) (qm_ordered : Nat) (qm_orderMany : Int32) (qm_orderMost : Int32) (qm_passing : Int32) (qm_movedWho : Int32) (qm_scratched : Int32) (qm_text : Nat) (qm_texts : Int32) (qm_seed : Int32) (qm_line : Nat) (qm_written : Nat) (qm_lineMany : Int32) (qm_hasWritten : Int32) (qm_node : Nat) (qm_nodes : Int32) (qm_onesMany : Int32) (qm_within : Int32) (qm_top : Int32) (b : Int → Int) (pp : Int) (hi_qm_size : 0 ≤ qm_size.toInt ∧ qm_size.toInt ≤ 940) (hr_0 : qm_to.toInt = tkX b qm_size.toInt qm_limit.toInt pp) (hr_1 : qm_from.toInt = tkP b qm_size.toInt qm_limit.toInt pp) (hr_2 : qm_kind.toInt = tkK b qm_size.toInt qm_limit.toInt pp) (hr_3 : tkV b qm_size.toInt qm_limit.toInt pp qm_number qm_sign qm_word) : Ci l yX11_isWord cX11_isWord 2 (some .boolean) 2 0 0 G [.ref qm, .int 9] [(qm, .inr (10, [.int qm_thrown, .ref qm_tape, .int qm_taped, .int qm_size, .int qm_limit, .int qm_to, .int qm_from, .int qm_kind, .int qm_number, .int qm_sign, .int qm_fault, .int qm_place, .long qm_word, .int qm_told, .ref qm_now, .ref qm_read, .ref qm_kept, .ref qm_snaps, .ref qm_aside, .ref qm_name, .ref qm_readName, .ref qm_keptName, .ref qm_isKept, .ref qm_onces, .int qm_snapMany, .ref qm_order, .ref qm_ordered, .int qm_orderMany, .int qm_orderMost, .int qm_passing, .int qm_movedWho, .int qm_scratched, .ref qm_text, .int qm_texts, .int qm_seed, .ref qm_line, .ref qm_written, .int qm_lineMany, .int qm_hasWritten, .ref qm_node, .int qm_nodes, .int qm_onesMany, .int qm_within, .int qm_top]))] (fun (r9 : Int32) (u9 : va_W) => (r9 = 0 ∧ u9 = [(qm, .inr (10, [.int qm_thrown, .ref qm_tape, .int qm_taped, .int qm_size, .int qm_limit, .int qm_to, .int qm_from, .int qm_kind, .int qm_number, .int qm_sign, .int qm_fault, .int qm_place, .long qm_word, .int qm_told, .ref qm_now, .ref qm_read, .ref qm_kept, .ref qm_snaps, .ref qm_aside, .ref qm_name, .ref qm_readName, .ref qm_keptName, .ref qm_isKept, .ref qm_onces, .int qm_snapMany, .ref qm_order, .ref qm_ordered, .int qm_orderMany, .int qm_orderMost, .int qm_passing, .int qm_movedWho, .int qm_scratched, .ref qm_text, .int qm_texts, .int qm_seed, .ref qm_line, .ref qm_written, .int qm_lineMany, .int qm_hasWritten, .ref qm_node, .int qm_nodes, .int qm_onesMany, .int qm_within, .int qm_top]))] ∧ (¬ (tkK b qm_size.toInt qm_limit.toInt pp = 2 ∧ kyN (tkW b qm_size.toInt pp) = 7))) ∨ (r9 = 1 ∧ u9 = [(qm, .inr (10, [.int qm_thrown, .ref qm_tape, .int qm_taped, .int qm_size, .int qm_limit, .int qm_to, .int qm_from, .int qm_kind, .int qm_number, .int qm_sign, .int qm_fault, .int qm_place, .long qm_word, .int qm_told, .ref qm_now, .ref qm_read, .ref qm_kept, .ref qm_snaps, .ref qm_aside, .ref qm_name, .ref qm_readName, .ref qm_keptName, .ref qm_isKept, .ref qm_onces, .int qm_snapMany, .ref qm_order, .ref qm_ordered, .int qm_orderMany, .int qm_orderMost, .int qm_passing, .int qm_movedWho, .int qm_scratched, .ref qm_text, .int qm_texts, .int qm_seed, .ref qm_line, .ref qm_written, .int qm_lineMany, .int qm_hasWritten, .ref qm_node, .int qm_nodes, .int qm_onesMany, .int qm_within, .int qm_top]))] ∧ (tkK b qm_size.toInt qm_limit.toInt pp = 2 ∧ kyN (tkW b qm_size.toInt pp) = 7))) := by
  refine Ci.ofQ (by decide) (Nat.le_of_ble_eq_true rfl) ?_
  intro p e s m below meth c ls A args Q hQ B hw hl
  have C : CallFix p m c cX11_isWord 2 s args gw "LanternStateModel" := B.1
  have hl : lv_has ls 2 [(0, .ref qm), (1, .int 9)] := hl
  have tv22 := hr_3.2.2
  refine lv_aload_n C.1 C.2.1 dX11_isWord_0 rfl (lv_at hl 0 rfl) ?_
  refine x_get C hw iwX11 10 rfl 0 rfl 7 (by decide) kw1200 rfl dX11_isWord_1 ?_
  refine lv_iconst (v := 2) C.1 C.2.1 dX11_isWord_4 (by decide) ?_
  refine lv_icmp_ne (tgt := 24) C.1 C.2.1 dX11_isWord_5 (by decide) (fun c1 => ?_) (fun c1 => ?_)
  · skip
    have c1 : qm_kind.toInt ≠ 2 := i_eqF (X := qm_kind.toInt) (Y := 2) rfl rfl c1
    have bc1_qm_kind := i_bd qm_kind
    refine lv_iconst (v := 0) C.1 C.2.1 dX11_isWord_24 (by decide) ?_
    exact x_retzQ hQ B hw rfl (Or.inl ⟨rfl, rfl, (fun h9 => absurd (show tkW b qm_size.toInt pp = 281490259 from (kyN_is (i := 7) (by decide)).mp h9.2) (by omega))⟩) (Nat.le_of_ble_eq_true rfl) (Nat.le_of_ble_eq_true rfl) dX11_isWord_25
  · skip
    have c1 : qm_kind.toInt = 2 := i_eqT (X := qm_kind.toInt) (Y := 2) rfl rfl c1
    have bc1_qm_kind := i_bd qm_kind
    refine lv_aload_n C.1 C.2.1 dX11_isWord_8 rfl (lv_at hl 0 rfl) ?_
    refine x_get C hw iwX11 10 rfl 0 rfl 12 (by decide) kw1205 rfl dX11_isWord_9 ?_
    refine lv_iload_n C.1 C.2.1 dX11_isWord_12 rfl (lv_at hl 1 rfl) ?_
    refine x_calllS (As := [.int 9]) (rest := [.long qm_word]) (wr := [(qm, .inr (10, [.int qm_thrown, .ref qm_tape, .int qm_taped, .int qm_size, .int qm_limit, .int qm_to, .int qm_from, .int qm_kind, .int qm_number, .int qm_sign, .int qm_fault, .int qm_place, .long qm_word, .int qm_told, .ref qm_now, .ref qm_read, .ref qm_kept, .ref qm_snaps, .ref qm_aside, .ref qm_name, .ref qm_readName, .ref qm_keptName, .ref qm_isKept, .ref qm_onces, .int qm_snapMany, .ref qm_order, .ref qm_ordered, .int qm_orderMany, .int qm_orderMost, .int qm_passing, .int qm_movedWho, .int qm_scratched, .ref qm_text, .int qm_texts, .int qm_seed, .ref qm_line, .ref qm_written, .int qm_lineMany, .int qm_hasWritten, .ref qm_node, .int qm_nodes, .int qm_onesMany, .int qm_within, .int qm_top]))]) C hw e_wordOf_9 mwX11_wordOf kw1363 [] [0] rfl rfl rfl rfl (by decide) rfl hl.1 rfl (Nat.le_of_ble_eq_true rfl) ⟨(Nat.le_of_ble_eq_true rfl), (Nat.le_of_ble_eq_true rfl)⟩ ⟨(Nat.le_of_ble_eq_true rfl), (Nat.le_of_ble_eq_true rfl)⟩ dX11_isWord_13 (fun r2 u9 H locs hp9 hw => ?_)
    obtain ⟨rfl, rfl⟩ := hp9
    have hw : Wd G s A [(qm, .inr (10, [.int qm_thrown, .ref qm_tape, .int qm_taped, .int qm_size, .int qm_limit, .int qm_to, .int qm_from, .int qm_kind, .int qm_number, .int qm_sign, .int qm_fault, .int qm_place, .long qm_word, .int qm_told, .ref qm_now, .ref qm_read, .ref qm_kept, .ref qm_snaps, .ref qm_aside, .ref qm_name, .ref qm_readName, .ref qm_keptName, .ref qm_isKept, .ref qm_onces, .int qm_snapMany, .ref qm_order, .ref qm_ordered, .int qm_orderMany, .int qm_orderMost, .int qm_passing, .int qm_movedWho, .int qm_scratched, .ref qm_text, .int qm_texts, .int qm_seed, .ref qm_line, .ref qm_written, .int qm_lineMany, .int qm_hasWritten, .ref qm_node, .int qm_nodes, .int qm_onesMany, .int qm_within, .int qm_top]))] H _ := hw
    refine W.lcmp C.1 C.2.1 dX11_isWord_16 (x_genP (fun z : Int32 => z.toInt = 0 ↔ qm_word.toInt = 281490259) (l_cmp0 rfl rfl) (fun v3 hv3 => ?_))
    refine lv_if_ne (tgt := 24) C.1 C.2.1 dX11_isWord_17 (by decide) (fun c4 => ?_) (fun c4 => ?_)
    · skip
      have c4 : v3.toInt ≠ 0 := i_eqF (X := v3.toInt) (Y := 0) rfl rfl c4
      have bc4_v3 := i_bd v3
      have d5 : qm_word.toInt ≠ 281490259 := fun q9 => c4 (hv3.mpr q9)
      clear hv3
      refine lv_iconst (v := 0) C.1 C.2.1 dX11_isWord_24 (by decide) ?_
      exact x_retzQ hQ B hw rfl (Or.inl ⟨rfl, rfl, (fun h9 => absurd (show tkW b qm_size.toInt pp = 281490259 from (kyN_is (i := 7) (by decide)).mp h9.2) (by omega))⟩) (Nat.le_of_ble_eq_true rfl) (Nat.le_of_ble_eq_true rfl) dX11_isWord_25
    · skip
      have c4 : v3.toInt = 0 := i_eqT (X := v3.toInt) (Y := 0) rfl rfl c4
      have bc4_v3 := i_bd v3
      have d6 : qm_word.toInt = 281490259 := hv3.mp c4
      clear hv3
      refine lv_iconst (v := 1) C.1 C.2.1 dX11_isWord_20 (by decide) ?_
      refine lv_goto (tgt := 25) C.1 C.2.1 dX11_isWord_21 (by decide) ?_
      exact x_retzQ hQ B hw rfl (Or.inr ⟨rfl, rfl, ⟨by omega, (kyN_is (i := 7) (by decide)).mpr (show tkW b qm_size.toInt pp = 281490259 by omega)⟩⟩) (Nat.le_of_ble_eq_true rfl) (Nat.le_of_ble_eq_true rfl) dX11_isWord_25
set_option maxHeartbeats 4000000 in
set_option maxRecDepth 100000 in
theorem e_isWord_10 {l : Launch} {G : Gc} (qm : Nat) (qm_thrown : Int32) (qm_tape : Nat) (qm_taped : Int32) (qm_size : Int32) (qm_limit : Int32) (qm_to : Int32) (qm_from : Int32) (qm_kind : Int32) (qm_number : Int32) (qm_sign : Int32) (qm_fault : Int32) (qm_place : Int32) (qm_word : Int64) (qm_told : Int32) (qm_now : Nat) (qm_read : Nat) (qm_kept : Nat) (qm_snaps : Nat) (qm_aside : Nat) (qm_name : Nat) (qm_readName : Nat) (qm_keptName : Nat) (qm_isKept : Nat) (qm_onces : Nat) (qm_snapMany : Int32) (qm_order : Nat) (qm_ordered : Nat) (qm_orderMany : Int32) (qm_orderMost : Int32) (qm_passing : Int32) (qm_movedWho : Int32) (qm_scratched : Int32) (qm_text : Nat) (qm_texts : Int32) (qm_seed : Int32) (qm_line : Nat) (qm_written : Nat) (qm_lineMany : Int32) (qm_hasWritten : Int32) (qm_node : Nat) (qm_nodes : Int32) (qm_onesMany : Int32) (qm_within : Int32) (qm_top : Int32) (b : Int → Int) (pp : Int) (hi_qm_size : 0 ≤ qm_size.toInt ∧ qm_size.toInt ≤ 940) (hr_0 : qm_to.toInt = tkX b qm_size.toInt qm_limit.toInt pp) (hr_1 : qm_from.toInt = tkP b qm_size.toInt qm_limit.toInt pp) (hr_2 : qm_kind.toInt = tkK b qm_size.toInt qm_limit.toInt pp) (hr_3 : tkV b qm_size.toInt qm_limit.toInt pp qm_number qm_sign qm_word) : Ci l yX11_isWord cX11_isWord 2 (some .boolean) 2 0 0 G [.ref qm, .int 10] [(qm, .inr (10, [.int qm_thrown, .ref qm_tape, .int qm_taped, .int qm_size, .int qm_limit, .int qm_to, .int qm_from, .int qm_kind, .int qm_number, .int qm_sign, .int qm_fault, .int qm_place, .long qm_word, .int qm_told, .ref qm_now, .ref qm_read, .ref qm_kept, .ref qm_snaps, .ref qm_aside, .ref qm_name, .ref qm_readName, .ref qm_keptName, .ref qm_isKept, .ref qm_onces, .int qm_snapMany, .ref qm_order, .ref qm_ordered, .int qm_orderMany, .int qm_orderMost, .int qm_passing, .int qm_movedWho, .int qm_scratched, .ref qm_text, .int qm_texts, .int qm_seed, .ref qm_line, .ref qm_written, .int qm_lineMany, .int qm_hasWritten, .ref qm_node, .int qm_nodes, .int qm_onesMany, .int qm_within, .int qm_top]))] (fun (r9 : Int32) (u9 : va_W) => (r9 = 0 ∧ u9 = [(qm, .inr (10, [.int qm_thrown, .ref qm_tape, .int qm_taped, .int qm_size, .int qm_limit, .int qm_to, .int qm_from, .int qm_kind, .int qm_number, .int qm_sign, .int qm_fault, .int qm_place, .long qm_word, .int qm_told, .ref qm_now, .ref qm_read, .ref qm_kept, .ref qm_snaps, .ref qm_aside, .ref qm_name, .ref qm_readName, .ref qm_keptName, .ref qm_isKept, .ref qm_onces, .int qm_snapMany, .ref qm_order, .ref qm_ordered, .int qm_orderMany, .int qm_orderMost, .int qm_passing, .int qm_movedWho, .int qm_scratched, .ref qm_text, .int qm_texts, .int qm_seed, .ref qm_line, .ref qm_written, .int qm_lineMany, .int qm_hasWritten, .ref qm_node, .int qm_nodes, .int qm_onesMany, .int qm_within, .int qm_top]))] ∧ (¬ (tkK b qm_size.toInt qm_limit.toInt pp = 2 ∧ kyN (tkW b qm_size.toInt pp) = 8))) ∨ (r9 = 1 ∧ u9 = [(qm, .inr (10, [.int qm_thrown, .ref qm_tape, .int qm_taped, .int qm_size, .int qm_limit, .int qm_to, .int qm_from, .int qm_kind, .int qm_number, .int qm_sign, .int qm_fault, .int qm_place, .long qm_word, .int qm_told, .ref qm_now, .ref qm_read, .ref qm_kept, .ref qm_snaps, .ref qm_aside, .ref qm_name, .ref qm_readName, .ref qm_keptName, .ref qm_isKept, .ref qm_onces, .int qm_snapMany, .ref qm_order, .ref qm_ordered, .int qm_orderMany, .int qm_orderMost, .int qm_passing, .int qm_movedWho, .int qm_scratched, .ref qm_text, .int qm_texts, .int qm_seed, .ref qm_line, .ref qm_written, .int qm_lineMany, .int qm_hasWritten, .ref qm_node, .int qm_nodes, .int qm_onesMany, .int qm_within, .int qm_top]))] ∧ (tkK b qm_size.toInt qm_limit.toInt pp = 2 ∧ kyN (tkW b qm_size.toInt pp) = 8))) := by
  refine Ci.ofQ (by decide) (Nat.le_of_ble_eq_true rfl) ?_
  intro p e s m below meth c ls A args Q hQ B hw hl
  have C : CallFix p m c cX11_isWord 2 s args gw "LanternStateModel" := B.1
  have hl : lv_has ls 2 [(0, .ref qm), (1, .int 10)] := hl
  have tv22 := hr_3.2.2
  refine lv_aload_n C.1 C.2.1 dX11_isWord_0 rfl (lv_at hl 0 rfl) ?_
  refine x_get C hw iwX11 10 rfl 0 rfl 7 (by decide) kw1200 rfl dX11_isWord_1 ?_
  refine lv_iconst (v := 2) C.1 C.2.1 dX11_isWord_4 (by decide) ?_
  refine lv_icmp_ne (tgt := 24) C.1 C.2.1 dX11_isWord_5 (by decide) (fun c1 => ?_) (fun c1 => ?_)
  · skip
    have c1 : qm_kind.toInt ≠ 2 := i_eqF (X := qm_kind.toInt) (Y := 2) rfl rfl c1
    have bc1_qm_kind := i_bd qm_kind
    refine lv_iconst (v := 0) C.1 C.2.1 dX11_isWord_24 (by decide) ?_
    exact x_retzQ hQ B hw rfl (Or.inl ⟨rfl, rfl, (fun h9 => absurd (show tkW b qm_size.toInt pp = 237292 from (kyN_is (i := 8) (by decide)).mp h9.2) (by omega))⟩) (Nat.le_of_ble_eq_true rfl) (Nat.le_of_ble_eq_true rfl) dX11_isWord_25
  · skip
    have c1 : qm_kind.toInt = 2 := i_eqT (X := qm_kind.toInt) (Y := 2) rfl rfl c1
    have bc1_qm_kind := i_bd qm_kind
    refine lv_aload_n C.1 C.2.1 dX11_isWord_8 rfl (lv_at hl 0 rfl) ?_
    refine x_get C hw iwX11 10 rfl 0 rfl 12 (by decide) kw1205 rfl dX11_isWord_9 ?_
    refine lv_iload_n C.1 C.2.1 dX11_isWord_12 rfl (lv_at hl 1 rfl) ?_
    refine x_calllS (As := [.int 10]) (rest := [.long qm_word]) (wr := [(qm, .inr (10, [.int qm_thrown, .ref qm_tape, .int qm_taped, .int qm_size, .int qm_limit, .int qm_to, .int qm_from, .int qm_kind, .int qm_number, .int qm_sign, .int qm_fault, .int qm_place, .long qm_word, .int qm_told, .ref qm_now, .ref qm_read, .ref qm_kept, .ref qm_snaps, .ref qm_aside, .ref qm_name, .ref qm_readName, .ref qm_keptName, .ref qm_isKept, .ref qm_onces, .int qm_snapMany, .ref qm_order, .ref qm_ordered, .int qm_orderMany, .int qm_orderMost, .int qm_passing, .int qm_movedWho, .int qm_scratched, .ref qm_text, .int qm_texts, .int qm_seed, .ref qm_line, .ref qm_written, .int qm_lineMany, .int qm_hasWritten, .ref qm_node, .int qm_nodes, .int qm_onesMany, .int qm_within, .int qm_top]))]) C hw e_wordOf_10 mwX11_wordOf kw1363 [] [0] rfl rfl rfl rfl (by decide) rfl hl.1 rfl (Nat.le_of_ble_eq_true rfl) ⟨(Nat.le_of_ble_eq_true rfl), (Nat.le_of_ble_eq_true rfl)⟩ ⟨(Nat.le_of_ble_eq_true rfl), (Nat.le_of_ble_eq_true rfl)⟩ dX11_isWord_13 (fun r2 u9 H locs hp9 hw => ?_)
    obtain ⟨rfl, rfl⟩ := hp9
    have hw : Wd G s A [(qm, .inr (10, [.int qm_thrown, .ref qm_tape, .int qm_taped, .int qm_size, .int qm_limit, .int qm_to, .int qm_from, .int qm_kind, .int qm_number, .int qm_sign, .int qm_fault, .int qm_place, .long qm_word, .int qm_told, .ref qm_now, .ref qm_read, .ref qm_kept, .ref qm_snaps, .ref qm_aside, .ref qm_name, .ref qm_readName, .ref qm_keptName, .ref qm_isKept, .ref qm_onces, .int qm_snapMany, .ref qm_order, .ref qm_ordered, .int qm_orderMany, .int qm_orderMost, .int qm_passing, .int qm_movedWho, .int qm_scratched, .ref qm_text, .int qm_texts, .int qm_seed, .ref qm_line, .ref qm_written, .int qm_lineMany, .int qm_hasWritten, .ref qm_node, .int qm_nodes, .int qm_onesMany, .int qm_within, .int qm_top]))] H _ := hw
    refine W.lcmp C.1 C.2.1 dX11_isWord_16 (x_genP (fun z : Int32 => z.toInt = 0 ↔ qm_word.toInt = 237292) (l_cmp0 rfl rfl) (fun v3 hv3 => ?_))
    refine lv_if_ne (tgt := 24) C.1 C.2.1 dX11_isWord_17 (by decide) (fun c4 => ?_) (fun c4 => ?_)
    · skip
      have c4 : v3.toInt ≠ 0 := i_eqF (X := v3.toInt) (Y := 0) rfl rfl c4
      have bc4_v3 := i_bd v3
      have d5 : qm_word.toInt ≠ 237292 := fun q9 => c4 (hv3.mpr q9)
      clear hv3
      refine lv_iconst (v := 0) C.1 C.2.1 dX11_isWord_24 (by decide) ?_
      exact x_retzQ hQ B hw rfl (Or.inl ⟨rfl, rfl, (fun h9 => absurd (show tkW b qm_size.toInt pp = 237292 from (kyN_is (i := 8) (by decide)).mp h9.2) (by omega))⟩) (Nat.le_of_ble_eq_true rfl) (Nat.le_of_ble_eq_true rfl) dX11_isWord_25
    · skip
      have c4 : v3.toInt = 0 := i_eqT (X := v3.toInt) (Y := 0) rfl rfl c4
      have bc4_v3 := i_bd v3
      have d6 : qm_word.toInt = 237292 := hv3.mp c4
      clear hv3
      refine lv_iconst (v := 1) C.1 C.2.1 dX11_isWord_20 (by decide) ?_
      refine lv_goto (tgt := 25) C.1 C.2.1 dX11_isWord_21 (by decide) ?_
      exact x_retzQ hQ B hw rfl (Or.inr ⟨rfl, rfl, ⟨by omega, (kyN_is (i := 8) (by decide)).mpr (show tkW b qm_size.toInt pp = 237292 by omega)⟩⟩) (Nat.le_of_ble_eq_true rfl) (Nat.le_of_ble_eq_true rfl) dX11_isWord_25
set_option maxHeartbeats 4000000 in
set_option maxRecDepth 100000 in
theorem e_isWord_11 {l : Launch} {G : Gc} (qm : Nat) (qm_thrown : Int32) (qm_tape : Nat) (qm_taped : Int32) (qm_size : Int32) (qm_limit : Int32) (qm_to : Int32) (qm_from : Int32) (qm_kind : Int32) (qm_number : Int32) (qm_sign : Int32) (qm_fault : Int32) (qm_place : Int32) (qm_word : Int64) (qm_told : Int32) (qm_now : Nat) (qm_read : Nat) (qm_kept : Nat) (qm_snaps : Nat) (qm_aside : Nat) (qm_name : Nat) (qm_readName : Nat) (qm_keptName : Nat) (qm_isKept : Nat) (qm_onces : Nat) (qm_snapMany : Int32) (qm_order : Nat) (qm_ordered : Nat) (qm_orderMany : Int32) (qm_orderMost : Int32) (qm_passing : Int32) (qm_movedWho : Int32) (qm_scratched : Int32) (qm_text : Nat) (qm_texts : Int32) (qm_seed : Int32) (qm_line : Nat) (qm_written : Nat) (qm_lineMany : Int32) (qm_hasWritten : Int32) (qm_node : Nat) (qm_nodes : Int32) (qm_onesMany : Int32) (qm_within : Int32) (qm_top : Int32) (b : Int → Int) (pp : Int) (hi_qm_size : 0 ≤ qm_size.toInt ∧ qm_size.toInt ≤ 940) (hr_0 : qm_to.toInt = tkX b qm_size.toInt qm_limit.toInt pp) (hr_1 : qm_from.toInt = tkP b qm_size.toInt qm_limit.toInt pp) (hr_2 : qm_kind.toInt = tkK b qm_size.toInt qm_limit.toInt pp) (hr_3 : tkV b qm_size.toInt qm_limit.toInt pp qm_number qm_sign qm_word) : Ci l yX11_isWord cX11_isWord 2 (some .boolean) 2 0 0 G [.ref qm, .int 11] [(qm, .inr (10, [.int qm_thrown, .ref qm_tape, .int qm_taped, .int qm_size, .int qm_limit, .int qm_to, .int qm_from, .int qm_kind, .int qm_number, .int qm_sign, .int qm_fault, .int qm_place, .long qm_word, .int qm_told, .ref qm_now, .ref qm_read, .ref qm_kept, .ref qm_snaps, .ref qm_aside, .ref qm_name, .ref qm_readName, .ref qm_keptName, .ref qm_isKept, .ref qm_onces, .int qm_snapMany, .ref qm_order, .ref qm_ordered, .int qm_orderMany, .int qm_orderMost, .int qm_passing, .int qm_movedWho, .int qm_scratched, .ref qm_text, .int qm_texts, .int qm_seed, .ref qm_line, .ref qm_written, .int qm_lineMany, .int qm_hasWritten, .ref qm_node, .int qm_nodes, .int qm_onesMany, .int qm_within, .int qm_top]))] (fun (r9 : Int32) (u9 : va_W) => (r9 = 0 ∧ u9 = [(qm, .inr (10, [.int qm_thrown, .ref qm_tape, .int qm_taped, .int qm_size, .int qm_limit, .int qm_to, .int qm_from, .int qm_kind, .int qm_number, .int qm_sign, .int qm_fault, .int qm_place, .long qm_word, .int qm_told, .ref qm_now, .ref qm_read, .ref qm_kept, .ref qm_snaps, .ref qm_aside, .ref qm_name, .ref qm_readName, .ref qm_keptName, .ref qm_isKept, .ref qm_onces, .int qm_snapMany, .ref qm_order, .ref qm_ordered, .int qm_orderMany, .int qm_orderMost, .int qm_passing, .int qm_movedWho, .int qm_scratched, .ref qm_text, .int qm_texts, .int qm_seed, .ref qm_line, .ref qm_written, .int qm_lineMany, .int qm_hasWritten, .ref qm_node, .int qm_nodes, .int qm_onesMany, .int qm_within, .int qm_top]))] ∧ (¬ (tkK b qm_size.toInt qm_limit.toInt pp = 2 ∧ kyN (tkW b qm_size.toInt pp) = 11))) ∨ (r9 = 1 ∧ u9 = [(qm, .inr (10, [.int qm_thrown, .ref qm_tape, .int qm_taped, .int qm_size, .int qm_limit, .int qm_to, .int qm_from, .int qm_kind, .int qm_number, .int qm_sign, .int qm_fault, .int qm_place, .long qm_word, .int qm_told, .ref qm_now, .ref qm_read, .ref qm_kept, .ref qm_snaps, .ref qm_aside, .ref qm_name, .ref qm_readName, .ref qm_keptName, .ref qm_isKept, .ref qm_onces, .int qm_snapMany, .ref qm_order, .ref qm_ordered, .int qm_orderMany, .int qm_orderMost, .int qm_passing, .int qm_movedWho, .int qm_scratched, .ref qm_text, .int qm_texts, .int qm_seed, .ref qm_line, .ref qm_written, .int qm_lineMany, .int qm_hasWritten, .ref qm_node, .int qm_nodes, .int qm_onesMany, .int qm_within, .int qm_top]))] ∧ (tkK b qm_size.toInt qm_limit.toInt pp = 2 ∧ kyN (tkW b qm_size.toInt pp) = 11))) := by
  refine Ci.ofQ (by decide) (Nat.le_of_ble_eq_true rfl) ?_
  intro p e s m below meth c ls A args Q hQ B hw hl
  have C : CallFix p m c cX11_isWord 2 s args gw "LanternStateModel" := B.1
  have hl : lv_has ls 2 [(0, .ref qm), (1, .int 11)] := hl
  have tv22 := hr_3.2.2
  refine lv_aload_n C.1 C.2.1 dX11_isWord_0 rfl (lv_at hl 0 rfl) ?_
  refine x_get C hw iwX11 10 rfl 0 rfl 7 (by decide) kw1200 rfl dX11_isWord_1 ?_
  refine lv_iconst (v := 2) C.1 C.2.1 dX11_isWord_4 (by decide) ?_
  refine lv_icmp_ne (tgt := 24) C.1 C.2.1 dX11_isWord_5 (by decide) (fun c1 => ?_) (fun c1 => ?_)
  · skip
    have c1 : qm_kind.toInt ≠ 2 := i_eqF (X := qm_kind.toInt) (Y := 2) rfl rfl c1
    have bc1_qm_kind := i_bd qm_kind
    refine lv_iconst (v := 0) C.1 C.2.1 dX11_isWord_24 (by decide) ?_
    exact x_retzQ hQ B hw rfl (Or.inl ⟨rfl, rfl, (fun h9 => absurd (show tkW b qm_size.toInt pp = 10266413 from (kyN_is (i := 11) (by decide)).mp h9.2) (by omega))⟩) (Nat.le_of_ble_eq_true rfl) (Nat.le_of_ble_eq_true rfl) dX11_isWord_25
  · skip
    have c1 : qm_kind.toInt = 2 := i_eqT (X := qm_kind.toInt) (Y := 2) rfl rfl c1
    have bc1_qm_kind := i_bd qm_kind
    refine lv_aload_n C.1 C.2.1 dX11_isWord_8 rfl (lv_at hl 0 rfl) ?_
    refine x_get C hw iwX11 10 rfl 0 rfl 12 (by decide) kw1205 rfl dX11_isWord_9 ?_
    refine lv_iload_n C.1 C.2.1 dX11_isWord_12 rfl (lv_at hl 1 rfl) ?_
    refine x_calllS (As := [.int 11]) (rest := [.long qm_word]) (wr := [(qm, .inr (10, [.int qm_thrown, .ref qm_tape, .int qm_taped, .int qm_size, .int qm_limit, .int qm_to, .int qm_from, .int qm_kind, .int qm_number, .int qm_sign, .int qm_fault, .int qm_place, .long qm_word, .int qm_told, .ref qm_now, .ref qm_read, .ref qm_kept, .ref qm_snaps, .ref qm_aside, .ref qm_name, .ref qm_readName, .ref qm_keptName, .ref qm_isKept, .ref qm_onces, .int qm_snapMany, .ref qm_order, .ref qm_ordered, .int qm_orderMany, .int qm_orderMost, .int qm_passing, .int qm_movedWho, .int qm_scratched, .ref qm_text, .int qm_texts, .int qm_seed, .ref qm_line, .ref qm_written, .int qm_lineMany, .int qm_hasWritten, .ref qm_node, .int qm_nodes, .int qm_onesMany, .int qm_within, .int qm_top]))]) C hw e_wordOf_11 mwX11_wordOf kw1363 [] [0] rfl rfl rfl rfl (by decide) rfl hl.1 rfl (Nat.le_of_ble_eq_true rfl) ⟨(Nat.le_of_ble_eq_true rfl), (Nat.le_of_ble_eq_true rfl)⟩ ⟨(Nat.le_of_ble_eq_true rfl), (Nat.le_of_ble_eq_true rfl)⟩ dX11_isWord_13 (fun r2 u9 H locs hp9 hw => ?_)
    obtain ⟨rfl, rfl⟩ := hp9
    have hw : Wd G s A [(qm, .inr (10, [.int qm_thrown, .ref qm_tape, .int qm_taped, .int qm_size, .int qm_limit, .int qm_to, .int qm_from, .int qm_kind, .int qm_number, .int qm_sign, .int qm_fault, .int qm_place, .long qm_word, .int qm_told, .ref qm_now, .ref qm_read, .ref qm_kept, .ref qm_snaps, .ref qm_aside, .ref qm_name, .ref qm_readName, .ref qm_keptName, .ref qm_isKept, .ref qm_onces, .int qm_snapMany, .ref qm_order, .ref qm_ordered, .int qm_orderMany, .int qm_orderMost, .int qm_passing, .int qm_movedWho, .int qm_scratched, .ref qm_text, .int qm_texts, .int qm_seed, .ref qm_line, .ref qm_written, .int qm_lineMany, .int qm_hasWritten, .ref qm_node, .int qm_nodes, .int qm_onesMany, .int qm_within, .int qm_top]))] H _ := hw
    refine W.lcmp C.1 C.2.1 dX11_isWord_16 (x_genP (fun z : Int32 => z.toInt = 0 ↔ qm_word.toInt = 10266413) (l_cmp0 rfl rfl) (fun v3 hv3 => ?_))
    refine lv_if_ne (tgt := 24) C.1 C.2.1 dX11_isWord_17 (by decide) (fun c4 => ?_) (fun c4 => ?_)
    · skip
      have c4 : v3.toInt ≠ 0 := i_eqF (X := v3.toInt) (Y := 0) rfl rfl c4
      have bc4_v3 := i_bd v3
      have d5 : qm_word.toInt ≠ 10266413 := fun q9 => c4 (hv3.mpr q9)
      clear hv3
      refine lv_iconst (v := 0) C.1 C.2.1 dX11_isWord_24 (by decide) ?_
      exact x_retzQ hQ B hw rfl (Or.inl ⟨rfl, rfl, (fun h9 => absurd (show tkW b qm_size.toInt pp = 10266413 from (kyN_is (i := 11) (by decide)).mp h9.2) (by omega))⟩) (Nat.le_of_ble_eq_true rfl) (Nat.le_of_ble_eq_true rfl) dX11_isWord_25
    · skip
      have c4 : v3.toInt = 0 := i_eqT (X := v3.toInt) (Y := 0) rfl rfl c4
      have bc4_v3 := i_bd v3
      have d6 : qm_word.toInt = 10266413 := hv3.mp c4
      clear hv3
      refine lv_iconst (v := 1) C.1 C.2.1 dX11_isWord_20 (by decide) ?_
      refine lv_goto (tgt := 25) C.1 C.2.1 dX11_isWord_21 (by decide) ?_
      exact x_retzQ hQ B hw rfl (Or.inr ⟨rfl, rfl, ⟨by omega, (kyN_is (i := 11) (by decide)).mpr (show tkW b qm_size.toInt pp = 10266413 by omega)⟩⟩) (Nat.le_of_ble_eq_true rfl) (Nat.le_of_ble_eq_true rfl) dX11_isWord_25
set_option maxHeartbeats 4000000 in
set_option maxRecDepth 100000 in
theorem e_isWord_12 {l : Launch} {G : Gc} (qm : Nat) (qm_thrown : Int32) (qm_tape : Nat) (qm_taped : Int32) (qm_size : Int32) (qm_limit : Int32) (qm_to : Int32) (qm_from : Int32) (qm_kind : Int32) (qm_number : Int32) (qm_sign : Int32) (qm_fault : Int32) (qm_place : Int32) (qm_word : Int64) (qm_told : Int32) (qm_now : Nat) (qm_read : Nat) (qm_kept : Nat) (qm_snaps : Nat) (qm_aside : Nat) (qm_name : Nat) (qm_readName : Nat) (qm_keptName : Nat) (qm_isKept : Nat) (qm_onces : Nat) (qm_snapMany : Int32) (qm_order : Nat) (qm_ordered : Nat) (qm_orderMany : Int32) (qm_orderMost : Int32) (qm_passing : Int32) (qm_movedWho : Int32) (qm_scratched : Int32) (qm_text : Nat) (qm_texts : Int32) (qm_seed : Int32) (qm_line : Nat) (qm_written : Nat) (qm_lineMany : Int32) (qm_hasWritten : Int32) (qm_node : Nat) (qm_nodes : Int32) (qm_onesMany : Int32) (qm_within : Int32) (qm_top : Int32) (b : Int → Int) (pp : Int) (hi_qm_size : 0 ≤ qm_size.toInt ∧ qm_size.toInt ≤ 940) (hr_0 : qm_to.toInt = tkX b qm_size.toInt qm_limit.toInt pp) (hr_1 : qm_from.toInt = tkP b qm_size.toInt qm_limit.toInt pp) (hr_2 : qm_kind.toInt = tkK b qm_size.toInt qm_limit.toInt pp) (hr_3 : tkV b qm_size.toInt qm_limit.toInt pp qm_number qm_sign qm_word) : Ci l yX11_isWord cX11_isWord 2 (some .boolean) 2 0 0 G [.ref qm, .int 12] [(qm, .inr (10, [.int qm_thrown, .ref qm_tape, .int qm_taped, .int qm_size, .int qm_limit, .int qm_to, .int qm_from, .int qm_kind, .int qm_number, .int qm_sign, .int qm_fault, .int qm_place, .long qm_word, .int qm_told, .ref qm_now, .ref qm_read, .ref qm_kept, .ref qm_snaps, .ref qm_aside, .ref qm_name, .ref qm_readName, .ref qm_keptName, .ref qm_isKept, .ref qm_onces, .int qm_snapMany, .ref qm_order, .ref qm_ordered, .int qm_orderMany, .int qm_orderMost, .int qm_passing, .int qm_movedWho, .int qm_scratched, .ref qm_text, .int qm_texts, .int qm_seed, .ref qm_line, .ref qm_written, .int qm_lineMany, .int qm_hasWritten, .ref qm_node, .int qm_nodes, .int qm_onesMany, .int qm_within, .int qm_top]))] (fun (r9 : Int32) (u9 : va_W) => (r9 = 0 ∧ u9 = [(qm, .inr (10, [.int qm_thrown, .ref qm_tape, .int qm_taped, .int qm_size, .int qm_limit, .int qm_to, .int qm_from, .int qm_kind, .int qm_number, .int qm_sign, .int qm_fault, .int qm_place, .long qm_word, .int qm_told, .ref qm_now, .ref qm_read, .ref qm_kept, .ref qm_snaps, .ref qm_aside, .ref qm_name, .ref qm_readName, .ref qm_keptName, .ref qm_isKept, .ref qm_onces, .int qm_snapMany, .ref qm_order, .ref qm_ordered, .int qm_orderMany, .int qm_orderMost, .int qm_passing, .int qm_movedWho, .int qm_scratched, .ref qm_text, .int qm_texts, .int qm_seed, .ref qm_line, .ref qm_written, .int qm_lineMany, .int qm_hasWritten, .ref qm_node, .int qm_nodes, .int qm_onesMany, .int qm_within, .int qm_top]))] ∧ (¬ (tkK b qm_size.toInt qm_limit.toInt pp = 2 ∧ kyN (tkW b qm_size.toInt pp) = 12))) ∨ (r9 = 1 ∧ u9 = [(qm, .inr (10, [.int qm_thrown, .ref qm_tape, .int qm_taped, .int qm_size, .int qm_limit, .int qm_to, .int qm_from, .int qm_kind, .int qm_number, .int qm_sign, .int qm_fault, .int qm_place, .long qm_word, .int qm_told, .ref qm_now, .ref qm_read, .ref qm_kept, .ref qm_snaps, .ref qm_aside, .ref qm_name, .ref qm_readName, .ref qm_keptName, .ref qm_isKept, .ref qm_onces, .int qm_snapMany, .ref qm_order, .ref qm_ordered, .int qm_orderMany, .int qm_orderMost, .int qm_passing, .int qm_movedWho, .int qm_scratched, .ref qm_text, .int qm_texts, .int qm_seed, .ref qm_line, .ref qm_written, .int qm_lineMany, .int qm_hasWritten, .ref qm_node, .int qm_nodes, .int qm_onesMany, .int qm_within, .int qm_top]))] ∧ (tkK b qm_size.toInt qm_limit.toInt pp = 2 ∧ kyN (tkW b qm_size.toInt pp) = 12))) := by
  refine Ci.ofQ (by decide) (Nat.le_of_ble_eq_true rfl) ?_
  intro p e s m below meth c ls A args Q hQ B hw hl
  have C : CallFix p m c cX11_isWord 2 s args gw "LanternStateModel" := B.1
  have hl : lv_has ls 2 [(0, .ref qm), (1, .int 12)] := hl
  have tv22 := hr_3.2.2
  refine lv_aload_n C.1 C.2.1 dX11_isWord_0 rfl (lv_at hl 0 rfl) ?_
  refine x_get C hw iwX11 10 rfl 0 rfl 7 (by decide) kw1200 rfl dX11_isWord_1 ?_
  refine lv_iconst (v := 2) C.1 C.2.1 dX11_isWord_4 (by decide) ?_
  refine lv_icmp_ne (tgt := 24) C.1 C.2.1 dX11_isWord_5 (by decide) (fun c1 => ?_) (fun c1 => ?_)
  · skip
    have c1 : qm_kind.toInt ≠ 2 := i_eqF (X := qm_kind.toInt) (Y := 2) rfl rfl c1
    have bc1_qm_kind := i_bd qm_kind
    refine lv_iconst (v := 0) C.1 C.2.1 dX11_isWord_24 (by decide) ?_
    exact x_retzQ hQ B hw rfl (Or.inl ⟨rfl, rfl, (fun h9 => absurd (show tkW b qm_size.toInt pp = 311436 from (kyN_is (i := 12) (by decide)).mp h9.2) (by omega))⟩) (Nat.le_of_ble_eq_true rfl) (Nat.le_of_ble_eq_true rfl) dX11_isWord_25
  · skip
    have c1 : qm_kind.toInt = 2 := i_eqT (X := qm_kind.toInt) (Y := 2) rfl rfl c1
    have bc1_qm_kind := i_bd qm_kind
    refine lv_aload_n C.1 C.2.1 dX11_isWord_8 rfl (lv_at hl 0 rfl) ?_
    refine x_get C hw iwX11 10 rfl 0 rfl 12 (by decide) kw1205 rfl dX11_isWord_9 ?_
    refine lv_iload_n C.1 C.2.1 dX11_isWord_12 rfl (lv_at hl 1 rfl) ?_
    refine x_calllS (As := [.int 12]) (rest := [.long qm_word]) (wr := [(qm, .inr (10, [.int qm_thrown, .ref qm_tape, .int qm_taped, .int qm_size, .int qm_limit, .int qm_to, .int qm_from, .int qm_kind, .int qm_number, .int qm_sign, .int qm_fault, .int qm_place, .long qm_word, .int qm_told, .ref qm_now, .ref qm_read, .ref qm_kept, .ref qm_snaps, .ref qm_aside, .ref qm_name, .ref qm_readName, .ref qm_keptName, .ref qm_isKept, .ref qm_onces, .int qm_snapMany, .ref qm_order, .ref qm_ordered, .int qm_orderMany, .int qm_orderMost, .int qm_passing, .int qm_movedWho, .int qm_scratched, .ref qm_text, .int qm_texts, .int qm_seed, .ref qm_line, .ref qm_written, .int qm_lineMany, .int qm_hasWritten, .ref qm_node, .int qm_nodes, .int qm_onesMany, .int qm_within, .int qm_top]))]) C hw e_wordOf_12 mwX11_wordOf kw1363 [] [0] rfl rfl rfl rfl (by decide) rfl hl.1 rfl (Nat.le_of_ble_eq_true rfl) ⟨(Nat.le_of_ble_eq_true rfl), (Nat.le_of_ble_eq_true rfl)⟩ ⟨(Nat.le_of_ble_eq_true rfl), (Nat.le_of_ble_eq_true rfl)⟩ dX11_isWord_13 (fun r2 u9 H locs hp9 hw => ?_)
    obtain ⟨rfl, rfl⟩ := hp9
    have hw : Wd G s A [(qm, .inr (10, [.int qm_thrown, .ref qm_tape, .int qm_taped, .int qm_size, .int qm_limit, .int qm_to, .int qm_from, .int qm_kind, .int qm_number, .int qm_sign, .int qm_fault, .int qm_place, .long qm_word, .int qm_told, .ref qm_now, .ref qm_read, .ref qm_kept, .ref qm_snaps, .ref qm_aside, .ref qm_name, .ref qm_readName, .ref qm_keptName, .ref qm_isKept, .ref qm_onces, .int qm_snapMany, .ref qm_order, .ref qm_ordered, .int qm_orderMany, .int qm_orderMost, .int qm_passing, .int qm_movedWho, .int qm_scratched, .ref qm_text, .int qm_texts, .int qm_seed, .ref qm_line, .ref qm_written, .int qm_lineMany, .int qm_hasWritten, .ref qm_node, .int qm_nodes, .int qm_onesMany, .int qm_within, .int qm_top]))] H _ := hw
    refine W.lcmp C.1 C.2.1 dX11_isWord_16 (x_genP (fun z : Int32 => z.toInt = 0 ↔ qm_word.toInt = 311436) (l_cmp0 rfl rfl) (fun v3 hv3 => ?_))
    refine lv_if_ne (tgt := 24) C.1 C.2.1 dX11_isWord_17 (by decide) (fun c4 => ?_) (fun c4 => ?_)
    · skip
      have c4 : v3.toInt ≠ 0 := i_eqF (X := v3.toInt) (Y := 0) rfl rfl c4
      have bc4_v3 := i_bd v3
      have d5 : qm_word.toInt ≠ 311436 := fun q9 => c4 (hv3.mpr q9)
      clear hv3
      refine lv_iconst (v := 0) C.1 C.2.1 dX11_isWord_24 (by decide) ?_
      exact x_retzQ hQ B hw rfl (Or.inl ⟨rfl, rfl, (fun h9 => absurd (show tkW b qm_size.toInt pp = 311436 from (kyN_is (i := 12) (by decide)).mp h9.2) (by omega))⟩) (Nat.le_of_ble_eq_true rfl) (Nat.le_of_ble_eq_true rfl) dX11_isWord_25
    · skip
      have c4 : v3.toInt = 0 := i_eqT (X := v3.toInt) (Y := 0) rfl rfl c4
      have bc4_v3 := i_bd v3
      have d6 : qm_word.toInt = 311436 := hv3.mp c4
      clear hv3
      refine lv_iconst (v := 1) C.1 C.2.1 dX11_isWord_20 (by decide) ?_
      refine lv_goto (tgt := 25) C.1 C.2.1 dX11_isWord_21 (by decide) ?_
      exact x_retzQ hQ B hw rfl (Or.inr ⟨rfl, rfl, ⟨by omega, (kyN_is (i := 12) (by decide)).mpr (show tkW b qm_size.toInt pp = 311436 by omega)⟩⟩) (Nat.le_of_ble_eq_true rfl) (Nat.le_of_ble_eq_true rfl) dX11_isWord_25
set_option maxHeartbeats 4000000 in
set_option maxRecDepth 100000 in
theorem e_isWord_13 {l : Launch} {G : Gc} (qm : Nat) (qm_thrown : Int32) (qm_tape : Nat) (qm_taped : Int32) (qm_size : Int32) (qm_limit : Int32) (qm_to : Int32) (qm_from : Int32) (qm_kind : Int32) (qm_number : Int32) (qm_sign : Int32) (qm_fault : Int32) (qm_place : Int32) (qm_word : Int64) (qm_told : Int32) (qm_now : Nat) (qm_read : Nat) (qm_kept : Nat) (qm_snaps : Nat) (qm_aside : Nat) (qm_name : Nat) (qm_readName : Nat) (qm_keptName : Nat) (qm_isKept : Nat) (qm_onces : Nat) (qm_snapMany : Int32) (qm_order : Nat) (qm_ordered : Nat) (qm_orderMany : Int32) (qm_orderMost : Int32) (qm_passing : Int32) (qm_movedWho : Int32) (qm_scratched : Int32) (qm_text : Nat) (qm_texts : Int32) (qm_seed : Int32) (qm_line : Nat) (qm_written : Nat) (qm_lineMany : Int32) (qm_hasWritten : Int32) (qm_node : Nat) (qm_nodes : Int32) (qm_onesMany : Int32) (qm_within : Int32) (qm_top : Int32) (b : Int → Int) (pp : Int) (hi_qm_size : 0 ≤ qm_size.toInt ∧ qm_size.toInt ≤ 940) (hr_0 : qm_to.toInt = tkX b qm_size.toInt qm_limit.toInt pp) (hr_1 : qm_from.toInt = tkP b qm_size.toInt qm_limit.toInt pp) (hr_2 : qm_kind.toInt = tkK b qm_size.toInt qm_limit.toInt pp) (hr_3 : tkV b qm_size.toInt qm_limit.toInt pp qm_number qm_sign qm_word) : Ci l yX11_isWord cX11_isWord 2 (some .boolean) 2 0 0 G [.ref qm, .int 13] [(qm, .inr (10, [.int qm_thrown, .ref qm_tape, .int qm_taped, .int qm_size, .int qm_limit, .int qm_to, .int qm_from, .int qm_kind, .int qm_number, .int qm_sign, .int qm_fault, .int qm_place, .long qm_word, .int qm_told, .ref qm_now, .ref qm_read, .ref qm_kept, .ref qm_snaps, .ref qm_aside, .ref qm_name, .ref qm_readName, .ref qm_keptName, .ref qm_isKept, .ref qm_onces, .int qm_snapMany, .ref qm_order, .ref qm_ordered, .int qm_orderMany, .int qm_orderMost, .int qm_passing, .int qm_movedWho, .int qm_scratched, .ref qm_text, .int qm_texts, .int qm_seed, .ref qm_line, .ref qm_written, .int qm_lineMany, .int qm_hasWritten, .ref qm_node, .int qm_nodes, .int qm_onesMany, .int qm_within, .int qm_top]))] (fun (r9 : Int32) (u9 : va_W) => (r9 = 0 ∧ u9 = [(qm, .inr (10, [.int qm_thrown, .ref qm_tape, .int qm_taped, .int qm_size, .int qm_limit, .int qm_to, .int qm_from, .int qm_kind, .int qm_number, .int qm_sign, .int qm_fault, .int qm_place, .long qm_word, .int qm_told, .ref qm_now, .ref qm_read, .ref qm_kept, .ref qm_snaps, .ref qm_aside, .ref qm_name, .ref qm_readName, .ref qm_keptName, .ref qm_isKept, .ref qm_onces, .int qm_snapMany, .ref qm_order, .ref qm_ordered, .int qm_orderMany, .int qm_orderMost, .int qm_passing, .int qm_movedWho, .int qm_scratched, .ref qm_text, .int qm_texts, .int qm_seed, .ref qm_line, .ref qm_written, .int qm_lineMany, .int qm_hasWritten, .ref qm_node, .int qm_nodes, .int qm_onesMany, .int qm_within, .int qm_top]))] ∧ (¬ (tkK b qm_size.toInt qm_limit.toInt pp = 2 ∧ kyN (tkW b qm_size.toInt pp) = 13))) ∨ (r9 = 1 ∧ u9 = [(qm, .inr (10, [.int qm_thrown, .ref qm_tape, .int qm_taped, .int qm_size, .int qm_limit, .int qm_to, .int qm_from, .int qm_kind, .int qm_number, .int qm_sign, .int qm_fault, .int qm_place, .long qm_word, .int qm_told, .ref qm_now, .ref qm_read, .ref qm_kept, .ref qm_snaps, .ref qm_aside, .ref qm_name, .ref qm_readName, .ref qm_keptName, .ref qm_isKept, .ref qm_onces, .int qm_snapMany, .ref qm_order, .ref qm_ordered, .int qm_orderMany, .int qm_orderMost, .int qm_passing, .int qm_movedWho, .int qm_scratched, .ref qm_text, .int qm_texts, .int qm_seed, .ref qm_line, .ref qm_written, .int qm_lineMany, .int qm_hasWritten, .ref qm_node, .int qm_nodes, .int qm_onesMany, .int qm_within, .int qm_top]))] ∧ (tkK b qm_size.toInt qm_limit.toInt pp = 2 ∧ kyN (tkW b qm_size.toInt pp) = 13))) := by
  refine Ci.ofQ (by decide) (Nat.le_of_ble_eq_true rfl) ?_
  intro p e s m below meth c ls A args Q hQ B hw hl
  have C : CallFix p m c cX11_isWord 2 s args gw "LanternStateModel" := B.1
  have hl : lv_has ls 2 [(0, .ref qm), (1, .int 13)] := hl
  have tv22 := hr_3.2.2
  refine lv_aload_n C.1 C.2.1 dX11_isWord_0 rfl (lv_at hl 0 rfl) ?_
  refine x_get C hw iwX11 10 rfl 0 rfl 7 (by decide) kw1200 rfl dX11_isWord_1 ?_
  refine lv_iconst (v := 2) C.1 C.2.1 dX11_isWord_4 (by decide) ?_
  refine lv_icmp_ne (tgt := 24) C.1 C.2.1 dX11_isWord_5 (by decide) (fun c1 => ?_) (fun c1 => ?_)
  · skip
    have c1 : qm_kind.toInt ≠ 2 := i_eqF (X := qm_kind.toInt) (Y := 2) rfl rfl c1
    have bc1_qm_kind := i_bd qm_kind
    refine lv_iconst (v := 0) C.1 C.2.1 dX11_isWord_24 (by decide) ?_
    exact x_retzQ hQ B hw rfl (Or.inl ⟨rfl, rfl, (fun h9 => absurd (show tkW b qm_size.toInt pp = 7413636302 from (kyN_is (i := 13) (by decide)).mp h9.2) (by omega))⟩) (Nat.le_of_ble_eq_true rfl) (Nat.le_of_ble_eq_true rfl) dX11_isWord_25
  · skip
    have c1 : qm_kind.toInt = 2 := i_eqT (X := qm_kind.toInt) (Y := 2) rfl rfl c1
    have bc1_qm_kind := i_bd qm_kind
    refine lv_aload_n C.1 C.2.1 dX11_isWord_8 rfl (lv_at hl 0 rfl) ?_
    refine x_get C hw iwX11 10 rfl 0 rfl 12 (by decide) kw1205 rfl dX11_isWord_9 ?_
    refine lv_iload_n C.1 C.2.1 dX11_isWord_12 rfl (lv_at hl 1 rfl) ?_
    refine x_calllS (As := [.int 13]) (rest := [.long qm_word]) (wr := [(qm, .inr (10, [.int qm_thrown, .ref qm_tape, .int qm_taped, .int qm_size, .int qm_limit, .int qm_to, .int qm_from, .int qm_kind, .int qm_number, .int qm_sign, .int qm_fault, .int qm_place, .long qm_word, .int qm_told, .ref qm_now, .ref qm_read, .ref qm_kept, .ref qm_snaps, .ref qm_aside, .ref qm_name, .ref qm_readName, .ref qm_keptName, .ref qm_isKept, .ref qm_onces, .int qm_snapMany, .ref qm_order, .ref qm_ordered, .int qm_orderMany, .int qm_orderMost, .int qm_passing, .int qm_movedWho, .int qm_scratched, .ref qm_text, .int qm_texts, .int qm_seed, .ref qm_line, .ref qm_written, .int qm_lineMany, .int qm_hasWritten, .ref qm_node, .int qm_nodes, .int qm_onesMany, .int qm_within, .int qm_top]))]) C hw e_wordOf_13 mwX11_wordOf kw1363 [] [0] rfl rfl rfl rfl (by decide) rfl hl.1 rfl (Nat.le_of_ble_eq_true rfl) ⟨(Nat.le_of_ble_eq_true rfl), (Nat.le_of_ble_eq_true rfl)⟩ ⟨(Nat.le_of_ble_eq_true rfl), (Nat.le_of_ble_eq_true rfl)⟩ dX11_isWord_13 (fun r2 u9 H locs hp9 hw => ?_)
    obtain ⟨rfl, rfl⟩ := hp9
    have hw : Wd G s A [(qm, .inr (10, [.int qm_thrown, .ref qm_tape, .int qm_taped, .int qm_size, .int qm_limit, .int qm_to, .int qm_from, .int qm_kind, .int qm_number, .int qm_sign, .int qm_fault, .int qm_place, .long qm_word, .int qm_told, .ref qm_now, .ref qm_read, .ref qm_kept, .ref qm_snaps, .ref qm_aside, .ref qm_name, .ref qm_readName, .ref qm_keptName, .ref qm_isKept, .ref qm_onces, .int qm_snapMany, .ref qm_order, .ref qm_ordered, .int qm_orderMany, .int qm_orderMost, .int qm_passing, .int qm_movedWho, .int qm_scratched, .ref qm_text, .int qm_texts, .int qm_seed, .ref qm_line, .ref qm_written, .int qm_lineMany, .int qm_hasWritten, .ref qm_node, .int qm_nodes, .int qm_onesMany, .int qm_within, .int qm_top]))] H _ := hw
    refine W.lcmp C.1 C.2.1 dX11_isWord_16 (x_genP (fun z : Int32 => z.toInt = 0 ↔ qm_word.toInt = 7413636302) (l_cmp0 rfl rfl) (fun v3 hv3 => ?_))
    refine lv_if_ne (tgt := 24) C.1 C.2.1 dX11_isWord_17 (by decide) (fun c4 => ?_) (fun c4 => ?_)
    · skip
      have c4 : v3.toInt ≠ 0 := i_eqF (X := v3.toInt) (Y := 0) rfl rfl c4
      have bc4_v3 := i_bd v3
      have d5 : qm_word.toInt ≠ 7413636302 := fun q9 => c4 (hv3.mpr q9)
      clear hv3
      refine lv_iconst (v := 0) C.1 C.2.1 dX11_isWord_24 (by decide) ?_
      exact x_retzQ hQ B hw rfl (Or.inl ⟨rfl, rfl, (fun h9 => absurd (show tkW b qm_size.toInt pp = 7413636302 from (kyN_is (i := 13) (by decide)).mp h9.2) (by omega))⟩) (Nat.le_of_ble_eq_true rfl) (Nat.le_of_ble_eq_true rfl) dX11_isWord_25
    · skip
      have c4 : v3.toInt = 0 := i_eqT (X := v3.toInt) (Y := 0) rfl rfl c4
      have bc4_v3 := i_bd v3
      have d6 : qm_word.toInt = 7413636302 := hv3.mp c4
      clear hv3
      refine lv_iconst (v := 1) C.1 C.2.1 dX11_isWord_20 (by decide) ?_
      refine lv_goto (tgt := 25) C.1 C.2.1 dX11_isWord_21 (by decide) ?_
      exact x_retzQ hQ B hw rfl (Or.inr ⟨rfl, rfl, ⟨by omega, (kyN_is (i := 13) (by decide)).mpr (show tkW b qm_size.toInt pp = 7413636302 by omega)⟩⟩) (Nat.le_of_ble_eq_true rfl) (Nat.le_of_ble_eq_true rfl) dX11_isWord_25
set_option maxHeartbeats 4000000 in
set_option maxRecDepth 100000 in
theorem e_isWord_14 {l : Launch} {G : Gc} (qm : Nat) (qm_thrown : Int32) (qm_tape : Nat) (qm_taped : Int32) (qm_size : Int32) (qm_limit : Int32) (qm_to : Int32) (qm_from : Int32) (qm_kind : Int32) (qm_number : Int32) (qm_sign : Int32) (qm_fault : Int32) (qm_place : Int32) (qm_word : Int64) (qm_told : Int32) (qm_now : Nat) (qm_read : Nat) (qm_kept : Nat) (qm_snaps : Nat) (qm_aside : Nat) (qm_name : Nat) (qm_readName : Nat) (qm_keptName : Nat) (qm_isKept : Nat) (qm_onces : Nat) (qm_snapMany : Int32) (qm_order : Nat) (qm_ordered : Nat) (qm_orderMany : Int32) (qm_orderMost : Int32) (qm_passing : Int32) (qm_movedWho : Int32) (qm_scratched : Int32) (qm_text : Nat) (qm_texts : Int32) (qm_seed : Int32) (qm_line : Nat) (qm_written : Nat) (qm_lineMany : Int32) (qm_hasWritten : Int32) (qm_node : Nat) (qm_nodes : Int32) (qm_onesMany : Int32) (qm_within : Int32) (qm_top : Int32) (b : Int → Int) (pp : Int) (hi_qm_size : 0 ≤ qm_size.toInt ∧ qm_size.toInt ≤ 940) (hr_0 : qm_to.toInt = tkX b qm_size.toInt qm_limit.toInt pp) (hr_1 : qm_from.toInt = tkP b qm_size.toInt qm_limit.toInt pp) (hr_2 : qm_kind.toInt = tkK b qm_size.toInt qm_limit.toInt pp) (hr_3 : tkV b qm_size.toInt qm_limit.toInt pp qm_number qm_sign qm_word) : Ci l yX11_isWord cX11_isWord 2 (some .boolean) 2 0 0 G [.ref qm, .int 14] [(qm, .inr (10, [.int qm_thrown, .ref qm_tape, .int qm_taped, .int qm_size, .int qm_limit, .int qm_to, .int qm_from, .int qm_kind, .int qm_number, .int qm_sign, .int qm_fault, .int qm_place, .long qm_word, .int qm_told, .ref qm_now, .ref qm_read, .ref qm_kept, .ref qm_snaps, .ref qm_aside, .ref qm_name, .ref qm_readName, .ref qm_keptName, .ref qm_isKept, .ref qm_onces, .int qm_snapMany, .ref qm_order, .ref qm_ordered, .int qm_orderMany, .int qm_orderMost, .int qm_passing, .int qm_movedWho, .int qm_scratched, .ref qm_text, .int qm_texts, .int qm_seed, .ref qm_line, .ref qm_written, .int qm_lineMany, .int qm_hasWritten, .ref qm_node, .int qm_nodes, .int qm_onesMany, .int qm_within, .int qm_top]))] (fun (r9 : Int32) (u9 : va_W) => (r9 = 0 ∧ u9 = [(qm, .inr (10, [.int qm_thrown, .ref qm_tape, .int qm_taped, .int qm_size, .int qm_limit, .int qm_to, .int qm_from, .int qm_kind, .int qm_number, .int qm_sign, .int qm_fault, .int qm_place, .long qm_word, .int qm_told, .ref qm_now, .ref qm_read, .ref qm_kept, .ref qm_snaps, .ref qm_aside, .ref qm_name, .ref qm_readName, .ref qm_keptName, .ref qm_isKept, .ref qm_onces, .int qm_snapMany, .ref qm_order, .ref qm_ordered, .int qm_orderMany, .int qm_orderMost, .int qm_passing, .int qm_movedWho, .int qm_scratched, .ref qm_text, .int qm_texts, .int qm_seed, .ref qm_line, .ref qm_written, .int qm_lineMany, .int qm_hasWritten, .ref qm_node, .int qm_nodes, .int qm_onesMany, .int qm_within, .int qm_top]))] ∧ (¬ (tkK b qm_size.toInt qm_limit.toInt pp = 2 ∧ kyN (tkW b qm_size.toInt pp) = 14))) ∨ (r9 = 1 ∧ u9 = [(qm, .inr (10, [.int qm_thrown, .ref qm_tape, .int qm_taped, .int qm_size, .int qm_limit, .int qm_to, .int qm_from, .int qm_kind, .int qm_number, .int qm_sign, .int qm_fault, .int qm_place, .long qm_word, .int qm_told, .ref qm_now, .ref qm_read, .ref qm_kept, .ref qm_snaps, .ref qm_aside, .ref qm_name, .ref qm_readName, .ref qm_keptName, .ref qm_isKept, .ref qm_onces, .int qm_snapMany, .ref qm_order, .ref qm_ordered, .int qm_orderMany, .int qm_orderMost, .int qm_passing, .int qm_movedWho, .int qm_scratched, .ref qm_text, .int qm_texts, .int qm_seed, .ref qm_line, .ref qm_written, .int qm_lineMany, .int qm_hasWritten, .ref qm_node, .int qm_nodes, .int qm_onesMany, .int qm_within, .int qm_top]))] ∧ (tkK b qm_size.toInt qm_limit.toInt pp = 2 ∧ kyN (tkW b qm_size.toInt pp) = 14))) := by
  refine Ci.ofQ (by decide) (Nat.le_of_ble_eq_true rfl) ?_
  intro p e s m below meth c ls A args Q hQ B hw hl
  have C : CallFix p m c cX11_isWord 2 s args gw "LanternStateModel" := B.1
  have hl : lv_has ls 2 [(0, .ref qm), (1, .int 14)] := hl
  have tv22 := hr_3.2.2
  refine lv_aload_n C.1 C.2.1 dX11_isWord_0 rfl (lv_at hl 0 rfl) ?_
  refine x_get C hw iwX11 10 rfl 0 rfl 7 (by decide) kw1200 rfl dX11_isWord_1 ?_
  refine lv_iconst (v := 2) C.1 C.2.1 dX11_isWord_4 (by decide) ?_
  refine lv_icmp_ne (tgt := 24) C.1 C.2.1 dX11_isWord_5 (by decide) (fun c1 => ?_) (fun c1 => ?_)
  · skip
    have c1 : qm_kind.toInt ≠ 2 := i_eqF (X := qm_kind.toInt) (Y := 2) rfl rfl c1
    have bc1_qm_kind := i_bd qm_kind
    refine lv_iconst (v := 0) C.1 C.2.1 dX11_isWord_24 (by decide) ?_
    exact x_retzQ hQ B hw rfl (Or.inl ⟨rfl, rfl, (fun h9 => absurd (show tkW b qm_size.toInt pp = 381097 from (kyN_is (i := 14) (by decide)).mp h9.2) (by omega))⟩) (Nat.le_of_ble_eq_true rfl) (Nat.le_of_ble_eq_true rfl) dX11_isWord_25
  · skip
    have c1 : qm_kind.toInt = 2 := i_eqT (X := qm_kind.toInt) (Y := 2) rfl rfl c1
    have bc1_qm_kind := i_bd qm_kind
    refine lv_aload_n C.1 C.2.1 dX11_isWord_8 rfl (lv_at hl 0 rfl) ?_
    refine x_get C hw iwX11 10 rfl 0 rfl 12 (by decide) kw1205 rfl dX11_isWord_9 ?_
    refine lv_iload_n C.1 C.2.1 dX11_isWord_12 rfl (lv_at hl 1 rfl) ?_
    refine x_calllS (As := [.int 14]) (rest := [.long qm_word]) (wr := [(qm, .inr (10, [.int qm_thrown, .ref qm_tape, .int qm_taped, .int qm_size, .int qm_limit, .int qm_to, .int qm_from, .int qm_kind, .int qm_number, .int qm_sign, .int qm_fault, .int qm_place, .long qm_word, .int qm_told, .ref qm_now, .ref qm_read, .ref qm_kept, .ref qm_snaps, .ref qm_aside, .ref qm_name, .ref qm_readName, .ref qm_keptName, .ref qm_isKept, .ref qm_onces, .int qm_snapMany, .ref qm_order, .ref qm_ordered, .int qm_orderMany, .int qm_orderMost, .int qm_passing, .int qm_movedWho, .int qm_scratched, .ref qm_text, .int qm_texts, .int qm_seed, .ref qm_line, .ref qm_written, .int qm_lineMany, .int qm_hasWritten, .ref qm_node, .int qm_nodes, .int qm_onesMany, .int qm_within, .int qm_top]))]) C hw e_wordOf_14 mwX11_wordOf kw1363 [] [0] rfl rfl rfl rfl (by decide) rfl hl.1 rfl (Nat.le_of_ble_eq_true rfl) ⟨(Nat.le_of_ble_eq_true rfl), (Nat.le_of_ble_eq_true rfl)⟩ ⟨(Nat.le_of_ble_eq_true rfl), (Nat.le_of_ble_eq_true rfl)⟩ dX11_isWord_13 (fun r2 u9 H locs hp9 hw => ?_)
    obtain ⟨rfl, rfl⟩ := hp9
    have hw : Wd G s A [(qm, .inr (10, [.int qm_thrown, .ref qm_tape, .int qm_taped, .int qm_size, .int qm_limit, .int qm_to, .int qm_from, .int qm_kind, .int qm_number, .int qm_sign, .int qm_fault, .int qm_place, .long qm_word, .int qm_told, .ref qm_now, .ref qm_read, .ref qm_kept, .ref qm_snaps, .ref qm_aside, .ref qm_name, .ref qm_readName, .ref qm_keptName, .ref qm_isKept, .ref qm_onces, .int qm_snapMany, .ref qm_order, .ref qm_ordered, .int qm_orderMany, .int qm_orderMost, .int qm_passing, .int qm_movedWho, .int qm_scratched, .ref qm_text, .int qm_texts, .int qm_seed, .ref qm_line, .ref qm_written, .int qm_lineMany, .int qm_hasWritten, .ref qm_node, .int qm_nodes, .int qm_onesMany, .int qm_within, .int qm_top]))] H _ := hw
    refine W.lcmp C.1 C.2.1 dX11_isWord_16 (x_genP (fun z : Int32 => z.toInt = 0 ↔ qm_word.toInt = 381097) (l_cmp0 rfl rfl) (fun v3 hv3 => ?_))
    refine lv_if_ne (tgt := 24) C.1 C.2.1 dX11_isWord_17 (by decide) (fun c4 => ?_) (fun c4 => ?_)
    · skip
      have c4 : v3.toInt ≠ 0 := i_eqF (X := v3.toInt) (Y := 0) rfl rfl c4
      have bc4_v3 := i_bd v3
      have d5 : qm_word.toInt ≠ 381097 := fun q9 => c4 (hv3.mpr q9)
      clear hv3
      refine lv_iconst (v := 0) C.1 C.2.1 dX11_isWord_24 (by decide) ?_
      exact x_retzQ hQ B hw rfl (Or.inl ⟨rfl, rfl, (fun h9 => absurd (show tkW b qm_size.toInt pp = 381097 from (kyN_is (i := 14) (by decide)).mp h9.2) (by omega))⟩) (Nat.le_of_ble_eq_true rfl) (Nat.le_of_ble_eq_true rfl) dX11_isWord_25
    · skip
      have c4 : v3.toInt = 0 := i_eqT (X := v3.toInt) (Y := 0) rfl rfl c4
      have bc4_v3 := i_bd v3
      have d6 : qm_word.toInt = 381097 := hv3.mp c4
      clear hv3
      refine lv_iconst (v := 1) C.1 C.2.1 dX11_isWord_20 (by decide) ?_
      refine lv_goto (tgt := 25) C.1 C.2.1 dX11_isWord_21 (by decide) ?_
      exact x_retzQ hQ B hw rfl (Or.inr ⟨rfl, rfl, ⟨by omega, (kyN_is (i := 14) (by decide)).mpr (show tkW b qm_size.toInt pp = 381097 by omega)⟩⟩) (Nat.le_of_ble_eq_true rfl) (Nat.le_of_ble_eq_true rfl) dX11_isWord_25
set_option maxHeartbeats 4000000 in
set_option maxRecDepth 100000 in
theorem e_isWord_15 {l : Launch} {G : Gc} (qm : Nat) (qm_thrown : Int32) (qm_tape : Nat) (qm_taped : Int32) (qm_size : Int32) (qm_limit : Int32) (qm_to : Int32) (qm_from : Int32) (qm_kind : Int32) (qm_number : Int32) (qm_sign : Int32) (qm_fault : Int32) (qm_place : Int32) (qm_word : Int64) (qm_told : Int32) (qm_now : Nat) (qm_read : Nat) (qm_kept : Nat) (qm_snaps : Nat) (qm_aside : Nat) (qm_name : Nat) (qm_readName : Nat) (qm_keptName : Nat) (qm_isKept : Nat) (qm_onces : Nat) (qm_snapMany : Int32) (qm_order : Nat) (qm_ordered : Nat) (qm_orderMany : Int32) (qm_orderMost : Int32) (qm_passing : Int32) (qm_movedWho : Int32) (qm_scratched : Int32) (qm_text : Nat) (qm_texts : Int32) (qm_seed : Int32) (qm_line : Nat) (qm_written : Nat) (qm_lineMany : Int32) (qm_hasWritten : Int32) (qm_node : Nat) (qm_nodes : Int32) (qm_onesMany : Int32) (qm_within : Int32) (qm_top : Int32) (b : Int → Int) (pp : Int) (hi_qm_size : 0 ≤ qm_size.toInt ∧ qm_size.toInt ≤ 940) (hr_0 : qm_to.toInt = tkX b qm_size.toInt qm_limit.toInt pp) (hr_1 : qm_from.toInt = tkP b qm_size.toInt qm_limit.toInt pp) (hr_2 : qm_kind.toInt = tkK b qm_size.toInt qm_limit.toInt pp) (hr_3 : tkV b qm_size.toInt qm_limit.toInt pp qm_number qm_sign qm_word) : Ci l yX11_isWord cX11_isWord 2 (some .boolean) 2 0 0 G [.ref qm, .int 15] [(qm, .inr (10, [.int qm_thrown, .ref qm_tape, .int qm_taped, .int qm_size, .int qm_limit, .int qm_to, .int qm_from, .int qm_kind, .int qm_number, .int qm_sign, .int qm_fault, .int qm_place, .long qm_word, .int qm_told, .ref qm_now, .ref qm_read, .ref qm_kept, .ref qm_snaps, .ref qm_aside, .ref qm_name, .ref qm_readName, .ref qm_keptName, .ref qm_isKept, .ref qm_onces, .int qm_snapMany, .ref qm_order, .ref qm_ordered, .int qm_orderMany, .int qm_orderMost, .int qm_passing, .int qm_movedWho, .int qm_scratched, .ref qm_text, .int qm_texts, .int qm_seed, .ref qm_line, .ref qm_written, .int qm_lineMany, .int qm_hasWritten, .ref qm_node, .int qm_nodes, .int qm_onesMany, .int qm_within, .int qm_top]))] (fun (r9 : Int32) (u9 : va_W) => (r9 = 0 ∧ u9 = [(qm, .inr (10, [.int qm_thrown, .ref qm_tape, .int qm_taped, .int qm_size, .int qm_limit, .int qm_to, .int qm_from, .int qm_kind, .int qm_number, .int qm_sign, .int qm_fault, .int qm_place, .long qm_word, .int qm_told, .ref qm_now, .ref qm_read, .ref qm_kept, .ref qm_snaps, .ref qm_aside, .ref qm_name, .ref qm_readName, .ref qm_keptName, .ref qm_isKept, .ref qm_onces, .int qm_snapMany, .ref qm_order, .ref qm_ordered, .int qm_orderMany, .int qm_orderMost, .int qm_passing, .int qm_movedWho, .int qm_scratched, .ref qm_text, .int qm_texts, .int qm_seed, .ref qm_line, .ref qm_written, .int qm_lineMany, .int qm_hasWritten, .ref qm_node, .int qm_nodes, .int qm_onesMany, .int qm_within, .int qm_top]))] ∧ (¬ (tkK b qm_size.toInt qm_limit.toInt pp = 2 ∧ kyN (tkW b qm_size.toInt pp) = 15))) ∨ (r9 = 1 ∧ u9 = [(qm, .inr (10, [.int qm_thrown, .ref qm_tape, .int qm_taped, .int qm_size, .int qm_limit, .int qm_to, .int qm_from, .int qm_kind, .int qm_number, .int qm_sign, .int qm_fault, .int qm_place, .long qm_word, .int qm_told, .ref qm_now, .ref qm_read, .ref qm_kept, .ref qm_snaps, .ref qm_aside, .ref qm_name, .ref qm_readName, .ref qm_keptName, .ref qm_isKept, .ref qm_onces, .int qm_snapMany, .ref qm_order, .ref qm_ordered, .int qm_orderMany, .int qm_orderMost, .int qm_passing, .int qm_movedWho, .int qm_scratched, .ref qm_text, .int qm_texts, .int qm_seed, .ref qm_line, .ref qm_written, .int qm_lineMany, .int qm_hasWritten, .ref qm_node, .int qm_nodes, .int qm_onesMany, .int qm_within, .int qm_top]))] ∧ (tkK b qm_size.toInt qm_limit.toInt pp = 2 ∧ kyN (tkW b qm_size.toInt pp) = 15))) := by
  refine Ci.ofQ (by decide) (Nat.le_of_ble_eq_true rfl) ?_
  intro p e s m below meth c ls A args Q hQ B hw hl
  have C : CallFix p m c cX11_isWord 2 s args gw "LanternStateModel" := B.1
  have hl : lv_has ls 2 [(0, .ref qm), (1, .int 15)] := hl
  have tv22 := hr_3.2.2
  refine lv_aload_n C.1 C.2.1 dX11_isWord_0 rfl (lv_at hl 0 rfl) ?_
  refine x_get C hw iwX11 10 rfl 0 rfl 7 (by decide) kw1200 rfl dX11_isWord_1 ?_
  refine lv_iconst (v := 2) C.1 C.2.1 dX11_isWord_4 (by decide) ?_
  refine lv_icmp_ne (tgt := 24) C.1 C.2.1 dX11_isWord_5 (by decide) (fun c1 => ?_) (fun c1 => ?_)
  · skip
    have c1 : qm_kind.toInt ≠ 2 := i_eqF (X := qm_kind.toInt) (Y := 2) rfl rfl c1
    have bc1_qm_kind := i_bd qm_kind
    refine lv_iconst (v := 0) C.1 C.2.1 dX11_isWord_24 (by decide) ?_
    exact x_retzQ hQ B hw rfl (Or.inl ⟨rfl, rfl, (fun h9 => absurd (show tkW b qm_size.toInt pp = 168984 from (kyN_is (i := 15) (by decide)).mp h9.2) (by omega))⟩) (Nat.le_of_ble_eq_true rfl) (Nat.le_of_ble_eq_true rfl) dX11_isWord_25
  · skip
    have c1 : qm_kind.toInt = 2 := i_eqT (X := qm_kind.toInt) (Y := 2) rfl rfl c1
    have bc1_qm_kind := i_bd qm_kind
    refine lv_aload_n C.1 C.2.1 dX11_isWord_8 rfl (lv_at hl 0 rfl) ?_
    refine x_get C hw iwX11 10 rfl 0 rfl 12 (by decide) kw1205 rfl dX11_isWord_9 ?_
    refine lv_iload_n C.1 C.2.1 dX11_isWord_12 rfl (lv_at hl 1 rfl) ?_
    refine x_calllS (As := [.int 15]) (rest := [.long qm_word]) (wr := [(qm, .inr (10, [.int qm_thrown, .ref qm_tape, .int qm_taped, .int qm_size, .int qm_limit, .int qm_to, .int qm_from, .int qm_kind, .int qm_number, .int qm_sign, .int qm_fault, .int qm_place, .long qm_word, .int qm_told, .ref qm_now, .ref qm_read, .ref qm_kept, .ref qm_snaps, .ref qm_aside, .ref qm_name, .ref qm_readName, .ref qm_keptName, .ref qm_isKept, .ref qm_onces, .int qm_snapMany, .ref qm_order, .ref qm_ordered, .int qm_orderMany, .int qm_orderMost, .int qm_passing, .int qm_movedWho, .int qm_scratched, .ref qm_text, .int qm_texts, .int qm_seed, .ref qm_line, .ref qm_written, .int qm_lineMany, .int qm_hasWritten, .ref qm_node, .int qm_nodes, .int qm_onesMany, .int qm_within, .int qm_top]))]) C hw e_wordOf_15 mwX11_wordOf kw1363 [] [0] rfl rfl rfl rfl (by decide) rfl hl.1 rfl (Nat.le_of_ble_eq_true rfl) ⟨(Nat.le_of_ble_eq_true rfl), (Nat.le_of_ble_eq_true rfl)⟩ ⟨(Nat.le_of_ble_eq_true rfl), (Nat.le_of_ble_eq_true rfl)⟩ dX11_isWord_13 (fun r2 u9 H locs hp9 hw => ?_)
    obtain ⟨rfl, rfl⟩ := hp9
    have hw : Wd G s A [(qm, .inr (10, [.int qm_thrown, .ref qm_tape, .int qm_taped, .int qm_size, .int qm_limit, .int qm_to, .int qm_from, .int qm_kind, .int qm_number, .int qm_sign, .int qm_fault, .int qm_place, .long qm_word, .int qm_told, .ref qm_now, .ref qm_read, .ref qm_kept, .ref qm_snaps, .ref qm_aside, .ref qm_name, .ref qm_readName, .ref qm_keptName, .ref qm_isKept, .ref qm_onces, .int qm_snapMany, .ref qm_order, .ref qm_ordered, .int qm_orderMany, .int qm_orderMost, .int qm_passing, .int qm_movedWho, .int qm_scratched, .ref qm_text, .int qm_texts, .int qm_seed, .ref qm_line, .ref qm_written, .int qm_lineMany, .int qm_hasWritten, .ref qm_node, .int qm_nodes, .int qm_onesMany, .int qm_within, .int qm_top]))] H _ := hw
    refine W.lcmp C.1 C.2.1 dX11_isWord_16 (x_genP (fun z : Int32 => z.toInt = 0 ↔ qm_word.toInt = 168984) (l_cmp0 rfl rfl) (fun v3 hv3 => ?_))
    refine lv_if_ne (tgt := 24) C.1 C.2.1 dX11_isWord_17 (by decide) (fun c4 => ?_) (fun c4 => ?_)
    · skip
      have c4 : v3.toInt ≠ 0 := i_eqF (X := v3.toInt) (Y := 0) rfl rfl c4
      have bc4_v3 := i_bd v3
      have d5 : qm_word.toInt ≠ 168984 := fun q9 => c4 (hv3.mpr q9)
      clear hv3
      refine lv_iconst (v := 0) C.1 C.2.1 dX11_isWord_24 (by decide) ?_
      exact x_retzQ hQ B hw rfl (Or.inl ⟨rfl, rfl, (fun h9 => absurd (show tkW b qm_size.toInt pp = 168984 from (kyN_is (i := 15) (by decide)).mp h9.2) (by omega))⟩) (Nat.le_of_ble_eq_true rfl) (Nat.le_of_ble_eq_true rfl) dX11_isWord_25
    · skip
      have c4 : v3.toInt = 0 := i_eqT (X := v3.toInt) (Y := 0) rfl rfl c4
      have bc4_v3 := i_bd v3
      have d6 : qm_word.toInt = 168984 := hv3.mp c4
      clear hv3
      refine lv_iconst (v := 1) C.1 C.2.1 dX11_isWord_20 (by decide) ?_
      refine lv_goto (tgt := 25) C.1 C.2.1 dX11_isWord_21 (by decide) ?_
      exact x_retzQ hQ B hw rfl (Or.inr ⟨rfl, rfl, ⟨by omega, (kyN_is (i := 15) (by decide)).mpr (show tkW b qm_size.toInt pp = 168984 by omega)⟩⟩) (Nat.le_of_ble_eq_true rfl) (Nat.le_of_ble_eq_true rfl) dX11_isWord_25
set_option maxHeartbeats 4000000 in
set_option maxRecDepth 100000 in
theorem e_isWord_16 {l : Launch} {G : Gc} (qm : Nat) (qm_thrown : Int32) (qm_tape : Nat) (qm_taped : Int32) (qm_size : Int32) (qm_limit : Int32) (qm_to : Int32) (qm_from : Int32) (qm_kind : Int32) (qm_number : Int32) (qm_sign : Int32) (qm_fault : Int32) (qm_place : Int32) (qm_word : Int64) (qm_told : Int32) (qm_now : Nat) (qm_read : Nat) (qm_kept : Nat) (qm_snaps : Nat) (qm_aside : Nat) (qm_name : Nat) (qm_readName : Nat) (qm_keptName : Nat) (qm_isKept : Nat) (qm_onces : Nat) (qm_snapMany : Int32) (qm_order : Nat) (qm_ordered : Nat) (qm_orderMany : Int32) (qm_orderMost : Int32) (qm_passing : Int32) (qm_movedWho : Int32) (qm_scratched : Int32) (qm_text : Nat) (qm_texts : Int32) (qm_seed : Int32) (qm_line : Nat) (qm_written : Nat) (qm_lineMany : Int32) (qm_hasWritten : Int32) (qm_node : Nat) (qm_nodes : Int32) (qm_onesMany : Int32) (qm_within : Int32) (qm_top : Int32) (b : Int → Int) (pp : Int) (hi_qm_size : 0 ≤ qm_size.toInt ∧ qm_size.toInt ≤ 940) (hr_0 : qm_to.toInt = tkX b qm_size.toInt qm_limit.toInt pp) (hr_1 : qm_from.toInt = tkP b qm_size.toInt qm_limit.toInt pp) (hr_2 : qm_kind.toInt = tkK b qm_size.toInt qm_limit.toInt pp) (hr_3 : tkV b qm_size.toInt qm_limit.toInt pp qm_number qm_sign qm_word) : Ci l yX11_isWord cX11_isWord 2 (some .boolean) 2 0 0 G [.ref qm, .int 16] [(qm, .inr (10, [.int qm_thrown, .ref qm_tape, .int qm_taped, .int qm_size, .int qm_limit, .int qm_to, .int qm_from, .int qm_kind, .int qm_number, .int qm_sign, .int qm_fault, .int qm_place, .long qm_word, .int qm_told, .ref qm_now, .ref qm_read, .ref qm_kept, .ref qm_snaps, .ref qm_aside, .ref qm_name, .ref qm_readName, .ref qm_keptName, .ref qm_isKept, .ref qm_onces, .int qm_snapMany, .ref qm_order, .ref qm_ordered, .int qm_orderMany, .int qm_orderMost, .int qm_passing, .int qm_movedWho, .int qm_scratched, .ref qm_text, .int qm_texts, .int qm_seed, .ref qm_line, .ref qm_written, .int qm_lineMany, .int qm_hasWritten, .ref qm_node, .int qm_nodes, .int qm_onesMany, .int qm_within, .int qm_top]))] (fun (r9 : Int32) (u9 : va_W) => (r9 = 0 ∧ u9 = [(qm, .inr (10, [.int qm_thrown, .ref qm_tape, .int qm_taped, .int qm_size, .int qm_limit, .int qm_to, .int qm_from, .int qm_kind, .int qm_number, .int qm_sign, .int qm_fault, .int qm_place, .long qm_word, .int qm_told, .ref qm_now, .ref qm_read, .ref qm_kept, .ref qm_snaps, .ref qm_aside, .ref qm_name, .ref qm_readName, .ref qm_keptName, .ref qm_isKept, .ref qm_onces, .int qm_snapMany, .ref qm_order, .ref qm_ordered, .int qm_orderMany, .int qm_orderMost, .int qm_passing, .int qm_movedWho, .int qm_scratched, .ref qm_text, .int qm_texts, .int qm_seed, .ref qm_line, .ref qm_written, .int qm_lineMany, .int qm_hasWritten, .ref qm_node, .int qm_nodes, .int qm_onesMany, .int qm_within, .int qm_top]))] ∧ (¬ (tkK b qm_size.toInt qm_limit.toInt pp = 2 ∧ kyN (tkW b qm_size.toInt pp) = 16))) ∨ (r9 = 1 ∧ u9 = [(qm, .inr (10, [.int qm_thrown, .ref qm_tape, .int qm_taped, .int qm_size, .int qm_limit, .int qm_to, .int qm_from, .int qm_kind, .int qm_number, .int qm_sign, .int qm_fault, .int qm_place, .long qm_word, .int qm_told, .ref qm_now, .ref qm_read, .ref qm_kept, .ref qm_snaps, .ref qm_aside, .ref qm_name, .ref qm_readName, .ref qm_keptName, .ref qm_isKept, .ref qm_onces, .int qm_snapMany, .ref qm_order, .ref qm_ordered, .int qm_orderMany, .int qm_orderMost, .int qm_passing, .int qm_movedWho, .int qm_scratched, .ref qm_text, .int qm_texts, .int qm_seed, .ref qm_line, .ref qm_written, .int qm_lineMany, .int qm_hasWritten, .ref qm_node, .int qm_nodes, .int qm_onesMany, .int qm_within, .int qm_top]))] ∧ (tkK b qm_size.toInt qm_limit.toInt pp = 2 ∧ kyN (tkW b qm_size.toInt pp) = 16))) := by
  refine Ci.ofQ (by decide) (Nat.le_of_ble_eq_true rfl) ?_
  intro p e s m below meth c ls A args Q hQ B hw hl
  have C : CallFix p m c cX11_isWord 2 s args gw "LanternStateModel" := B.1
  have hl : lv_has ls 2 [(0, .ref qm), (1, .int 16)] := hl
  have tv22 := hr_3.2.2
  refine lv_aload_n C.1 C.2.1 dX11_isWord_0 rfl (lv_at hl 0 rfl) ?_
  refine x_get C hw iwX11 10 rfl 0 rfl 7 (by decide) kw1200 rfl dX11_isWord_1 ?_
  refine lv_iconst (v := 2) C.1 C.2.1 dX11_isWord_4 (by decide) ?_
  refine lv_icmp_ne (tgt := 24) C.1 C.2.1 dX11_isWord_5 (by decide) (fun c1 => ?_) (fun c1 => ?_)
  · skip
    have c1 : qm_kind.toInt ≠ 2 := i_eqF (X := qm_kind.toInt) (Y := 2) rfl rfl c1
    have bc1_qm_kind := i_bd qm_kind
    refine lv_iconst (v := 0) C.1 C.2.1 dX11_isWord_24 (by decide) ?_
    exact x_retzQ hQ B hw rfl (Or.inl ⟨rfl, rfl, (fun h9 => absurd (show tkW b qm_size.toInt pp = 423 from (kyN_is (i := 16) (by decide)).mp h9.2) (by omega))⟩) (Nat.le_of_ble_eq_true rfl) (Nat.le_of_ble_eq_true rfl) dX11_isWord_25
  · skip
    have c1 : qm_kind.toInt = 2 := i_eqT (X := qm_kind.toInt) (Y := 2) rfl rfl c1
    have bc1_qm_kind := i_bd qm_kind
    refine lv_aload_n C.1 C.2.1 dX11_isWord_8 rfl (lv_at hl 0 rfl) ?_
    refine x_get C hw iwX11 10 rfl 0 rfl 12 (by decide) kw1205 rfl dX11_isWord_9 ?_
    refine lv_iload_n C.1 C.2.1 dX11_isWord_12 rfl (lv_at hl 1 rfl) ?_
    refine x_calllS (As := [.int 16]) (rest := [.long qm_word]) (wr := [(qm, .inr (10, [.int qm_thrown, .ref qm_tape, .int qm_taped, .int qm_size, .int qm_limit, .int qm_to, .int qm_from, .int qm_kind, .int qm_number, .int qm_sign, .int qm_fault, .int qm_place, .long qm_word, .int qm_told, .ref qm_now, .ref qm_read, .ref qm_kept, .ref qm_snaps, .ref qm_aside, .ref qm_name, .ref qm_readName, .ref qm_keptName, .ref qm_isKept, .ref qm_onces, .int qm_snapMany, .ref qm_order, .ref qm_ordered, .int qm_orderMany, .int qm_orderMost, .int qm_passing, .int qm_movedWho, .int qm_scratched, .ref qm_text, .int qm_texts, .int qm_seed, .ref qm_line, .ref qm_written, .int qm_lineMany, .int qm_hasWritten, .ref qm_node, .int qm_nodes, .int qm_onesMany, .int qm_within, .int qm_top]))]) C hw e_wordOf_16 mwX11_wordOf kw1363 [] [0] rfl rfl rfl rfl (by decide) rfl hl.1 rfl (Nat.le_of_ble_eq_true rfl) ⟨(Nat.le_of_ble_eq_true rfl), (Nat.le_of_ble_eq_true rfl)⟩ ⟨(Nat.le_of_ble_eq_true rfl), (Nat.le_of_ble_eq_true rfl)⟩ dX11_isWord_13 (fun r2 u9 H locs hp9 hw => ?_)
    obtain ⟨rfl, rfl⟩ := hp9
    have hw : Wd G s A [(qm, .inr (10, [.int qm_thrown, .ref qm_tape, .int qm_taped, .int qm_size, .int qm_limit, .int qm_to, .int qm_from, .int qm_kind, .int qm_number, .int qm_sign, .int qm_fault, .int qm_place, .long qm_word, .int qm_told, .ref qm_now, .ref qm_read, .ref qm_kept, .ref qm_snaps, .ref qm_aside, .ref qm_name, .ref qm_readName, .ref qm_keptName, .ref qm_isKept, .ref qm_onces, .int qm_snapMany, .ref qm_order, .ref qm_ordered, .int qm_orderMany, .int qm_orderMost, .int qm_passing, .int qm_movedWho, .int qm_scratched, .ref qm_text, .int qm_texts, .int qm_seed, .ref qm_line, .ref qm_written, .int qm_lineMany, .int qm_hasWritten, .ref qm_node, .int qm_nodes, .int qm_onesMany, .int qm_within, .int qm_top]))] H _ := hw
    refine W.lcmp C.1 C.2.1 dX11_isWord_16 (x_genP (fun z : Int32 => z.toInt = 0 ↔ qm_word.toInt = 423) (l_cmp0 rfl rfl) (fun v3 hv3 => ?_))
    refine lv_if_ne (tgt := 24) C.1 C.2.1 dX11_isWord_17 (by decide) (fun c4 => ?_) (fun c4 => ?_)
    · skip
      have c4 : v3.toInt ≠ 0 := i_eqF (X := v3.toInt) (Y := 0) rfl rfl c4
      have bc4_v3 := i_bd v3
      have d5 : qm_word.toInt ≠ 423 := fun q9 => c4 (hv3.mpr q9)
      clear hv3
      refine lv_iconst (v := 0) C.1 C.2.1 dX11_isWord_24 (by decide) ?_
      exact x_retzQ hQ B hw rfl (Or.inl ⟨rfl, rfl, (fun h9 => absurd (show tkW b qm_size.toInt pp = 423 from (kyN_is (i := 16) (by decide)).mp h9.2) (by omega))⟩) (Nat.le_of_ble_eq_true rfl) (Nat.le_of_ble_eq_true rfl) dX11_isWord_25
    · skip
      have c4 : v3.toInt = 0 := i_eqT (X := v3.toInt) (Y := 0) rfl rfl c4
      have bc4_v3 := i_bd v3
      have d6 : qm_word.toInt = 423 := hv3.mp c4
      clear hv3
      refine lv_iconst (v := 1) C.1 C.2.1 dX11_isWord_20 (by decide) ?_
      refine lv_goto (tgt := 25) C.1 C.2.1 dX11_isWord_21 (by decide) ?_
      exact x_retzQ hQ B hw rfl (Or.inr ⟨rfl, rfl, ⟨by omega, (kyN_is (i := 16) (by decide)).mpr (show tkW b qm_size.toInt pp = 423 by omega)⟩⟩) (Nat.le_of_ble_eq_true rfl) (Nat.le_of_ble_eq_true rfl) dX11_isWord_25
set_option maxHeartbeats 4000000 in
set_option maxRecDepth 100000 in
theorem e_isWord_17 {l : Launch} {G : Gc} (qm : Nat) (qm_thrown : Int32) (qm_tape : Nat) (qm_taped : Int32) (qm_size : Int32) (qm_limit : Int32) (qm_to : Int32) (qm_from : Int32) (qm_kind : Int32) (qm_number : Int32) (qm_sign : Int32) (qm_fault : Int32) (qm_place : Int32) (qm_word : Int64) (qm_told : Int32) (qm_now : Nat) (qm_read : Nat) (qm_kept : Nat) (qm_snaps : Nat) (qm_aside : Nat) (qm_name : Nat) (qm_readName : Nat) (qm_keptName : Nat) (qm_isKept : Nat) (qm_onces : Nat) (qm_snapMany : Int32) (qm_order : Nat) (qm_ordered : Nat) (qm_orderMany : Int32) (qm_orderMost : Int32) (qm_passing : Int32) (qm_movedWho : Int32) (qm_scratched : Int32) (qm_text : Nat) (qm_texts : Int32) (qm_seed : Int32) (qm_line : Nat) (qm_written : Nat) (qm_lineMany : Int32) (qm_hasWritten : Int32) (qm_node : Nat) (qm_nodes : Int32) (qm_onesMany : Int32) (qm_within : Int32) (qm_top : Int32) (b : Int → Int) (pp : Int) (hi_qm_size : 0 ≤ qm_size.toInt ∧ qm_size.toInt ≤ 940) (hr_0 : qm_to.toInt = tkX b qm_size.toInt qm_limit.toInt pp) (hr_1 : qm_from.toInt = tkP b qm_size.toInt qm_limit.toInt pp) (hr_2 : qm_kind.toInt = tkK b qm_size.toInt qm_limit.toInt pp) (hr_3 : tkV b qm_size.toInt qm_limit.toInt pp qm_number qm_sign qm_word) : Ci l yX11_isWord cX11_isWord 2 (some .boolean) 2 0 0 G [.ref qm, .int 17] [(qm, .inr (10, [.int qm_thrown, .ref qm_tape, .int qm_taped, .int qm_size, .int qm_limit, .int qm_to, .int qm_from, .int qm_kind, .int qm_number, .int qm_sign, .int qm_fault, .int qm_place, .long qm_word, .int qm_told, .ref qm_now, .ref qm_read, .ref qm_kept, .ref qm_snaps, .ref qm_aside, .ref qm_name, .ref qm_readName, .ref qm_keptName, .ref qm_isKept, .ref qm_onces, .int qm_snapMany, .ref qm_order, .ref qm_ordered, .int qm_orderMany, .int qm_orderMost, .int qm_passing, .int qm_movedWho, .int qm_scratched, .ref qm_text, .int qm_texts, .int qm_seed, .ref qm_line, .ref qm_written, .int qm_lineMany, .int qm_hasWritten, .ref qm_node, .int qm_nodes, .int qm_onesMany, .int qm_within, .int qm_top]))] (fun (r9 : Int32) (u9 : va_W) => (r9 = 0 ∧ u9 = [(qm, .inr (10, [.int qm_thrown, .ref qm_tape, .int qm_taped, .int qm_size, .int qm_limit, .int qm_to, .int qm_from, .int qm_kind, .int qm_number, .int qm_sign, .int qm_fault, .int qm_place, .long qm_word, .int qm_told, .ref qm_now, .ref qm_read, .ref qm_kept, .ref qm_snaps, .ref qm_aside, .ref qm_name, .ref qm_readName, .ref qm_keptName, .ref qm_isKept, .ref qm_onces, .int qm_snapMany, .ref qm_order, .ref qm_ordered, .int qm_orderMany, .int qm_orderMost, .int qm_passing, .int qm_movedWho, .int qm_scratched, .ref qm_text, .int qm_texts, .int qm_seed, .ref qm_line, .ref qm_written, .int qm_lineMany, .int qm_hasWritten, .ref qm_node, .int qm_nodes, .int qm_onesMany, .int qm_within, .int qm_top]))] ∧ (¬ (tkK b qm_size.toInt qm_limit.toInt pp = 2 ∧ kyN (tkW b qm_size.toInt pp) = 17))) ∨ (r9 = 1 ∧ u9 = [(qm, .inr (10, [.int qm_thrown, .ref qm_tape, .int qm_taped, .int qm_size, .int qm_limit, .int qm_to, .int qm_from, .int qm_kind, .int qm_number, .int qm_sign, .int qm_fault, .int qm_place, .long qm_word, .int qm_told, .ref qm_now, .ref qm_read, .ref qm_kept, .ref qm_snaps, .ref qm_aside, .ref qm_name, .ref qm_readName, .ref qm_keptName, .ref qm_isKept, .ref qm_onces, .int qm_snapMany, .ref qm_order, .ref qm_ordered, .int qm_orderMany, .int qm_orderMost, .int qm_passing, .int qm_movedWho, .int qm_scratched, .ref qm_text, .int qm_texts, .int qm_seed, .ref qm_line, .ref qm_written, .int qm_lineMany, .int qm_hasWritten, .ref qm_node, .int qm_nodes, .int qm_onesMany, .int qm_within, .int qm_top]))] ∧ (tkK b qm_size.toInt qm_limit.toInt pp = 2 ∧ kyN (tkW b qm_size.toInt pp) = 17))) := by
  refine Ci.ofQ (by decide) (Nat.le_of_ble_eq_true rfl) ?_
  intro p e s m below meth c ls A args Q hQ B hw hl
  have C : CallFix p m c cX11_isWord 2 s args gw "LanternStateModel" := B.1
  have hl : lv_has ls 2 [(0, .ref qm), (1, .int 17)] := hl
  have tv22 := hr_3.2.2
  refine lv_aload_n C.1 C.2.1 dX11_isWord_0 rfl (lv_at hl 0 rfl) ?_
  refine x_get C hw iwX11 10 rfl 0 rfl 7 (by decide) kw1200 rfl dX11_isWord_1 ?_
  refine lv_iconst (v := 2) C.1 C.2.1 dX11_isWord_4 (by decide) ?_
  refine lv_icmp_ne (tgt := 24) C.1 C.2.1 dX11_isWord_5 (by decide) (fun c1 => ?_) (fun c1 => ?_)
  · skip
    have c1 : qm_kind.toInt ≠ 2 := i_eqF (X := qm_kind.toInt) (Y := 2) rfl rfl c1
    have bc1_qm_kind := i_bd qm_kind
    refine lv_iconst (v := 0) C.1 C.2.1 dX11_isWord_24 (by decide) ?_
    exact x_retzQ hQ B hw rfl (Or.inl ⟨rfl, rfl, (fun h9 => absurd (show tkW b qm_size.toInt pp = 1111 from (kyN_is (i := 17) (by decide)).mp h9.2) (by omega))⟩) (Nat.le_of_ble_eq_true rfl) (Nat.le_of_ble_eq_true rfl) dX11_isWord_25
  · skip
    have c1 : qm_kind.toInt = 2 := i_eqT (X := qm_kind.toInt) (Y := 2) rfl rfl c1
    have bc1_qm_kind := i_bd qm_kind
    refine lv_aload_n C.1 C.2.1 dX11_isWord_8 rfl (lv_at hl 0 rfl) ?_
    refine x_get C hw iwX11 10 rfl 0 rfl 12 (by decide) kw1205 rfl dX11_isWord_9 ?_
    refine lv_iload_n C.1 C.2.1 dX11_isWord_12 rfl (lv_at hl 1 rfl) ?_
    refine x_calllS (As := [.int 17]) (rest := [.long qm_word]) (wr := [(qm, .inr (10, [.int qm_thrown, .ref qm_tape, .int qm_taped, .int qm_size, .int qm_limit, .int qm_to, .int qm_from, .int qm_kind, .int qm_number, .int qm_sign, .int qm_fault, .int qm_place, .long qm_word, .int qm_told, .ref qm_now, .ref qm_read, .ref qm_kept, .ref qm_snaps, .ref qm_aside, .ref qm_name, .ref qm_readName, .ref qm_keptName, .ref qm_isKept, .ref qm_onces, .int qm_snapMany, .ref qm_order, .ref qm_ordered, .int qm_orderMany, .int qm_orderMost, .int qm_passing, .int qm_movedWho, .int qm_scratched, .ref qm_text, .int qm_texts, .int qm_seed, .ref qm_line, .ref qm_written, .int qm_lineMany, .int qm_hasWritten, .ref qm_node, .int qm_nodes, .int qm_onesMany, .int qm_within, .int qm_top]))]) C hw e_wordOf_17 mwX11_wordOf kw1363 [] [0] rfl rfl rfl rfl (by decide) rfl hl.1 rfl (Nat.le_of_ble_eq_true rfl) ⟨(Nat.le_of_ble_eq_true rfl), (Nat.le_of_ble_eq_true rfl)⟩ ⟨(Nat.le_of_ble_eq_true rfl), (Nat.le_of_ble_eq_true rfl)⟩ dX11_isWord_13 (fun r2 u9 H locs hp9 hw => ?_)
    obtain ⟨rfl, rfl⟩ := hp9
    have hw : Wd G s A [(qm, .inr (10, [.int qm_thrown, .ref qm_tape, .int qm_taped, .int qm_size, .int qm_limit, .int qm_to, .int qm_from, .int qm_kind, .int qm_number, .int qm_sign, .int qm_fault, .int qm_place, .long qm_word, .int qm_told, .ref qm_now, .ref qm_read, .ref qm_kept, .ref qm_snaps, .ref qm_aside, .ref qm_name, .ref qm_readName, .ref qm_keptName, .ref qm_isKept, .ref qm_onces, .int qm_snapMany, .ref qm_order, .ref qm_ordered, .int qm_orderMany, .int qm_orderMost, .int qm_passing, .int qm_movedWho, .int qm_scratched, .ref qm_text, .int qm_texts, .int qm_seed, .ref qm_line, .ref qm_written, .int qm_lineMany, .int qm_hasWritten, .ref qm_node, .int qm_nodes, .int qm_onesMany, .int qm_within, .int qm_top]))] H _ := hw
    refine W.lcmp C.1 C.2.1 dX11_isWord_16 (x_genP (fun z : Int32 => z.toInt = 0 ↔ qm_word.toInt = 1111) (l_cmp0 rfl rfl) (fun v3 hv3 => ?_))
    refine lv_if_ne (tgt := 24) C.1 C.2.1 dX11_isWord_17 (by decide) (fun c4 => ?_) (fun c4 => ?_)
    · skip
      have c4 : v3.toInt ≠ 0 := i_eqF (X := v3.toInt) (Y := 0) rfl rfl c4
      have bc4_v3 := i_bd v3
      have d5 : qm_word.toInt ≠ 1111 := fun q9 => c4 (hv3.mpr q9)
      clear hv3
      refine lv_iconst (v := 0) C.1 C.2.1 dX11_isWord_24 (by decide) ?_
      exact x_retzQ hQ B hw rfl (Or.inl ⟨rfl, rfl, (fun h9 => absurd (show tkW b qm_size.toInt pp = 1111 from (kyN_is (i := 17) (by decide)).mp h9.2) (by omega))⟩) (Nat.le_of_ble_eq_true rfl) (Nat.le_of_ble_eq_true rfl) dX11_isWord_25
    · skip
      have c4 : v3.toInt = 0 := i_eqT (X := v3.toInt) (Y := 0) rfl rfl c4
      have bc4_v3 := i_bd v3
      have d6 : qm_word.toInt = 1111 := hv3.mp c4
      clear hv3
      refine lv_iconst (v := 1) C.1 C.2.1 dX11_isWord_20 (by decide) ?_
      refine lv_goto (tgt := 25) C.1 C.2.1 dX11_isWord_21 (by decide) ?_
      exact x_retzQ hQ B hw rfl (Or.inr ⟨rfl, rfl, ⟨by omega, (kyN_is (i := 17) (by decide)).mpr (show tkW b qm_size.toInt pp = 1111 by omega)⟩⟩) (Nat.le_of_ble_eq_true rfl) (Nat.le_of_ble_eq_true rfl) dX11_isWord_25
set_option maxHeartbeats 4000000 in
set_option maxRecDepth 100000 in
theorem e_isWord_18 {l : Launch} {G : Gc} (qm : Nat) (qm_thrown : Int32) (qm_tape : Nat) (qm_taped : Int32) (qm_size : Int32) (qm_limit : Int32) (qm_to : Int32) (qm_from : Int32) (qm_kind : Int32) (qm_number : Int32) (qm_sign : Int32) (qm_fault : Int32) (qm_place : Int32) (qm_word : Int64) (qm_told : Int32) (qm_now : Nat) (qm_read : Nat) (qm_kept : Nat) (qm_snaps : Nat) (qm_aside : Nat) (qm_name : Nat) (qm_readName : Nat) (qm_keptName : Nat) (qm_isKept : Nat) (qm_onces : Nat) (qm_snapMany : Int32) (qm_order : Nat) (qm_ordered : Nat) (qm_orderMany : Int32) (qm_orderMost : Int32) (qm_passing : Int32) (qm_movedWho : Int32) (qm_scratched : Int32) (qm_text : Nat) (qm_texts : Int32) (qm_seed : Int32) (qm_line : Nat) (qm_written : Nat) (qm_lineMany : Int32) (qm_hasWritten : Int32) (qm_node : Nat) (qm_nodes : Int32) (qm_onesMany : Int32) (qm_within : Int32) (qm_top : Int32) (b : Int → Int) (pp : Int) (hi_qm_size : 0 ≤ qm_size.toInt ∧ qm_size.toInt ≤ 940) (hr_0 : qm_to.toInt = tkX b qm_size.toInt qm_limit.toInt pp) (hr_1 : qm_from.toInt = tkP b qm_size.toInt qm_limit.toInt pp) (hr_2 : qm_kind.toInt = tkK b qm_size.toInt qm_limit.toInt pp) (hr_3 : tkV b qm_size.toInt qm_limit.toInt pp qm_number qm_sign qm_word) : Ci l yX11_isWord cX11_isWord 2 (some .boolean) 2 0 0 G [.ref qm, .int 18] [(qm, .inr (10, [.int qm_thrown, .ref qm_tape, .int qm_taped, .int qm_size, .int qm_limit, .int qm_to, .int qm_from, .int qm_kind, .int qm_number, .int qm_sign, .int qm_fault, .int qm_place, .long qm_word, .int qm_told, .ref qm_now, .ref qm_read, .ref qm_kept, .ref qm_snaps, .ref qm_aside, .ref qm_name, .ref qm_readName, .ref qm_keptName, .ref qm_isKept, .ref qm_onces, .int qm_snapMany, .ref qm_order, .ref qm_ordered, .int qm_orderMany, .int qm_orderMost, .int qm_passing, .int qm_movedWho, .int qm_scratched, .ref qm_text, .int qm_texts, .int qm_seed, .ref qm_line, .ref qm_written, .int qm_lineMany, .int qm_hasWritten, .ref qm_node, .int qm_nodes, .int qm_onesMany, .int qm_within, .int qm_top]))] (fun (r9 : Int32) (u9 : va_W) => (r9 = 0 ∧ u9 = [(qm, .inr (10, [.int qm_thrown, .ref qm_tape, .int qm_taped, .int qm_size, .int qm_limit, .int qm_to, .int qm_from, .int qm_kind, .int qm_number, .int qm_sign, .int qm_fault, .int qm_place, .long qm_word, .int qm_told, .ref qm_now, .ref qm_read, .ref qm_kept, .ref qm_snaps, .ref qm_aside, .ref qm_name, .ref qm_readName, .ref qm_keptName, .ref qm_isKept, .ref qm_onces, .int qm_snapMany, .ref qm_order, .ref qm_ordered, .int qm_orderMany, .int qm_orderMost, .int qm_passing, .int qm_movedWho, .int qm_scratched, .ref qm_text, .int qm_texts, .int qm_seed, .ref qm_line, .ref qm_written, .int qm_lineMany, .int qm_hasWritten, .ref qm_node, .int qm_nodes, .int qm_onesMany, .int qm_within, .int qm_top]))] ∧ (¬ (tkK b qm_size.toInt qm_limit.toInt pp = 2 ∧ kyN (tkW b qm_size.toInt pp) = 18))) ∨ (r9 = 1 ∧ u9 = [(qm, .inr (10, [.int qm_thrown, .ref qm_tape, .int qm_taped, .int qm_size, .int qm_limit, .int qm_to, .int qm_from, .int qm_kind, .int qm_number, .int qm_sign, .int qm_fault, .int qm_place, .long qm_word, .int qm_told, .ref qm_now, .ref qm_read, .ref qm_kept, .ref qm_snaps, .ref qm_aside, .ref qm_name, .ref qm_readName, .ref qm_keptName, .ref qm_isKept, .ref qm_onces, .int qm_snapMany, .ref qm_order, .ref qm_ordered, .int qm_orderMany, .int qm_orderMost, .int qm_passing, .int qm_movedWho, .int qm_scratched, .ref qm_text, .int qm_texts, .int qm_seed, .ref qm_line, .ref qm_written, .int qm_lineMany, .int qm_hasWritten, .ref qm_node, .int qm_nodes, .int qm_onesMany, .int qm_within, .int qm_top]))] ∧ (tkK b qm_size.toInt qm_limit.toInt pp = 2 ∧ kyN (tkW b qm_size.toInt pp) = 18))) := by
  refine Ci.ofQ (by decide) (Nat.le_of_ble_eq_true rfl) ?_
  intro p e s m below meth c ls A args Q hQ B hw hl
  have C : CallFix p m c cX11_isWord 2 s args gw "LanternStateModel" := B.1
  have hl : lv_has ls 2 [(0, .ref qm), (1, .int 18)] := hl
  have tv22 := hr_3.2.2
  refine lv_aload_n C.1 C.2.1 dX11_isWord_0 rfl (lv_at hl 0 rfl) ?_
  refine x_get C hw iwX11 10 rfl 0 rfl 7 (by decide) kw1200 rfl dX11_isWord_1 ?_
  refine lv_iconst (v := 2) C.1 C.2.1 dX11_isWord_4 (by decide) ?_
  refine lv_icmp_ne (tgt := 24) C.1 C.2.1 dX11_isWord_5 (by decide) (fun c1 => ?_) (fun c1 => ?_)
  · skip
    have c1 : qm_kind.toInt ≠ 2 := i_eqF (X := qm_kind.toInt) (Y := 2) rfl rfl c1
    have bc1_qm_kind := i_bd qm_kind
    refine lv_iconst (v := 0) C.1 C.2.1 dX11_isWord_24 (by decide) ?_
    exact x_retzQ hQ B hw rfl (Or.inl ⟨rfl, rfl, (fun h9 => absurd (show tkW b qm_size.toInt pp = 10631 from (kyN_is (i := 18) (by decide)).mp h9.2) (by omega))⟩) (Nat.le_of_ble_eq_true rfl) (Nat.le_of_ble_eq_true rfl) dX11_isWord_25
  · skip
    have c1 : qm_kind.toInt = 2 := i_eqT (X := qm_kind.toInt) (Y := 2) rfl rfl c1
    have bc1_qm_kind := i_bd qm_kind
    refine lv_aload_n C.1 C.2.1 dX11_isWord_8 rfl (lv_at hl 0 rfl) ?_
    refine x_get C hw iwX11 10 rfl 0 rfl 12 (by decide) kw1205 rfl dX11_isWord_9 ?_
    refine lv_iload_n C.1 C.2.1 dX11_isWord_12 rfl (lv_at hl 1 rfl) ?_
    refine x_calllS (As := [.int 18]) (rest := [.long qm_word]) (wr := [(qm, .inr (10, [.int qm_thrown, .ref qm_tape, .int qm_taped, .int qm_size, .int qm_limit, .int qm_to, .int qm_from, .int qm_kind, .int qm_number, .int qm_sign, .int qm_fault, .int qm_place, .long qm_word, .int qm_told, .ref qm_now, .ref qm_read, .ref qm_kept, .ref qm_snaps, .ref qm_aside, .ref qm_name, .ref qm_readName, .ref qm_keptName, .ref qm_isKept, .ref qm_onces, .int qm_snapMany, .ref qm_order, .ref qm_ordered, .int qm_orderMany, .int qm_orderMost, .int qm_passing, .int qm_movedWho, .int qm_scratched, .ref qm_text, .int qm_texts, .int qm_seed, .ref qm_line, .ref qm_written, .int qm_lineMany, .int qm_hasWritten, .ref qm_node, .int qm_nodes, .int qm_onesMany, .int qm_within, .int qm_top]))]) C hw e_wordOf_18 mwX11_wordOf kw1363 [] [0] rfl rfl rfl rfl (by decide) rfl hl.1 rfl (Nat.le_of_ble_eq_true rfl) ⟨(Nat.le_of_ble_eq_true rfl), (Nat.le_of_ble_eq_true rfl)⟩ ⟨(Nat.le_of_ble_eq_true rfl), (Nat.le_of_ble_eq_true rfl)⟩ dX11_isWord_13 (fun r2 u9 H locs hp9 hw => ?_)
    obtain ⟨rfl, rfl⟩ := hp9
    have hw : Wd G s A [(qm, .inr (10, [.int qm_thrown, .ref qm_tape, .int qm_taped, .int qm_size, .int qm_limit, .int qm_to, .int qm_from, .int qm_kind, .int qm_number, .int qm_sign, .int qm_fault, .int qm_place, .long qm_word, .int qm_told, .ref qm_now, .ref qm_read, .ref qm_kept, .ref qm_snaps, .ref qm_aside, .ref qm_name, .ref qm_readName, .ref qm_keptName, .ref qm_isKept, .ref qm_onces, .int qm_snapMany, .ref qm_order, .ref qm_ordered, .int qm_orderMany, .int qm_orderMost, .int qm_passing, .int qm_movedWho, .int qm_scratched, .ref qm_text, .int qm_texts, .int qm_seed, .ref qm_line, .ref qm_written, .int qm_lineMany, .int qm_hasWritten, .ref qm_node, .int qm_nodes, .int qm_onesMany, .int qm_within, .int qm_top]))] H _ := hw
    refine W.lcmp C.1 C.2.1 dX11_isWord_16 (x_genP (fun z : Int32 => z.toInt = 0 ↔ qm_word.toInt = 10631) (l_cmp0 rfl rfl) (fun v3 hv3 => ?_))
    refine lv_if_ne (tgt := 24) C.1 C.2.1 dX11_isWord_17 (by decide) (fun c4 => ?_) (fun c4 => ?_)
    · skip
      have c4 : v3.toInt ≠ 0 := i_eqF (X := v3.toInt) (Y := 0) rfl rfl c4
      have bc4_v3 := i_bd v3
      have d5 : qm_word.toInt ≠ 10631 := fun q9 => c4 (hv3.mpr q9)
      clear hv3
      refine lv_iconst (v := 0) C.1 C.2.1 dX11_isWord_24 (by decide) ?_
      exact x_retzQ hQ B hw rfl (Or.inl ⟨rfl, rfl, (fun h9 => absurd (show tkW b qm_size.toInt pp = 10631 from (kyN_is (i := 18) (by decide)).mp h9.2) (by omega))⟩) (Nat.le_of_ble_eq_true rfl) (Nat.le_of_ble_eq_true rfl) dX11_isWord_25
    · skip
      have c4 : v3.toInt = 0 := i_eqT (X := v3.toInt) (Y := 0) rfl rfl c4
      have bc4_v3 := i_bd v3
      have d6 : qm_word.toInt = 10631 := hv3.mp c4
      clear hv3
      refine lv_iconst (v := 1) C.1 C.2.1 dX11_isWord_20 (by decide) ?_
      refine lv_goto (tgt := 25) C.1 C.2.1 dX11_isWord_21 (by decide) ?_
      exact x_retzQ hQ B hw rfl (Or.inr ⟨rfl, rfl, ⟨by omega, (kyN_is (i := 18) (by decide)).mpr (show tkW b qm_size.toInt pp = 10631 by omega)⟩⟩) (Nat.le_of_ble_eq_true rfl) (Nat.le_of_ble_eq_true rfl) dX11_isWord_25
set_option maxHeartbeats 4000000 in
set_option maxRecDepth 100000 in
theorem e_isWord_19 {l : Launch} {G : Gc} (qm : Nat) (qm_thrown : Int32) (qm_tape : Nat) (qm_taped : Int32) (qm_size : Int32) (qm_limit : Int32) (qm_to : Int32) (qm_from : Int32) (qm_kind : Int32) (qm_number : Int32) (qm_sign : Int32) (qm_fault : Int32) (qm_place : Int32) (qm_word : Int64) (qm_told : Int32) (qm_now : Nat) (qm_read : Nat) (qm_kept : Nat) (qm_snaps : Nat) (qm_aside : Nat) (qm_name : Nat) (qm_readName : Nat) (qm_keptName : Nat) (qm_isKept : Nat) (qm_onces : Nat) (qm_snapMany : Int32) (qm_order : Nat) (qm_ordered : Nat) (qm_orderMany : Int32) (qm_orderMost : Int32) (qm_passing : Int32) (qm_movedWho : Int32) (qm_scratched : Int32) (qm_text : Nat) (qm_texts : Int32) (qm_seed : Int32) (qm_line : Nat) (qm_written : Nat) (qm_lineMany : Int32) (qm_hasWritten : Int32) (qm_node : Nat) (qm_nodes : Int32) (qm_onesMany : Int32) (qm_within : Int32) (qm_top : Int32) (b : Int → Int) (pp : Int) (hi_qm_size : 0 ≤ qm_size.toInt ∧ qm_size.toInt ≤ 940) (hr_0 : qm_to.toInt = tkX b qm_size.toInt qm_limit.toInt pp) (hr_1 : qm_from.toInt = tkP b qm_size.toInt qm_limit.toInt pp) (hr_2 : qm_kind.toInt = tkK b qm_size.toInt qm_limit.toInt pp) (hr_3 : tkV b qm_size.toInt qm_limit.toInt pp qm_number qm_sign qm_word) : Ci l yX11_isWord cX11_isWord 2 (some .boolean) 2 0 0 G [.ref qm, .int 19] [(qm, .inr (10, [.int qm_thrown, .ref qm_tape, .int qm_taped, .int qm_size, .int qm_limit, .int qm_to, .int qm_from, .int qm_kind, .int qm_number, .int qm_sign, .int qm_fault, .int qm_place, .long qm_word, .int qm_told, .ref qm_now, .ref qm_read, .ref qm_kept, .ref qm_snaps, .ref qm_aside, .ref qm_name, .ref qm_readName, .ref qm_keptName, .ref qm_isKept, .ref qm_onces, .int qm_snapMany, .ref qm_order, .ref qm_ordered, .int qm_orderMany, .int qm_orderMost, .int qm_passing, .int qm_movedWho, .int qm_scratched, .ref qm_text, .int qm_texts, .int qm_seed, .ref qm_line, .ref qm_written, .int qm_lineMany, .int qm_hasWritten, .ref qm_node, .int qm_nodes, .int qm_onesMany, .int qm_within, .int qm_top]))] (fun (r9 : Int32) (u9 : va_W) => (r9 = 0 ∧ u9 = [(qm, .inr (10, [.int qm_thrown, .ref qm_tape, .int qm_taped, .int qm_size, .int qm_limit, .int qm_to, .int qm_from, .int qm_kind, .int qm_number, .int qm_sign, .int qm_fault, .int qm_place, .long qm_word, .int qm_told, .ref qm_now, .ref qm_read, .ref qm_kept, .ref qm_snaps, .ref qm_aside, .ref qm_name, .ref qm_readName, .ref qm_keptName, .ref qm_isKept, .ref qm_onces, .int qm_snapMany, .ref qm_order, .ref qm_ordered, .int qm_orderMany, .int qm_orderMost, .int qm_passing, .int qm_movedWho, .int qm_scratched, .ref qm_text, .int qm_texts, .int qm_seed, .ref qm_line, .ref qm_written, .int qm_lineMany, .int qm_hasWritten, .ref qm_node, .int qm_nodes, .int qm_onesMany, .int qm_within, .int qm_top]))] ∧ (¬ (tkK b qm_size.toInt qm_limit.toInt pp = 2 ∧ kyN (tkW b qm_size.toInt pp) = 19))) ∨ (r9 = 1 ∧ u9 = [(qm, .inr (10, [.int qm_thrown, .ref qm_tape, .int qm_taped, .int qm_size, .int qm_limit, .int qm_to, .int qm_from, .int qm_kind, .int qm_number, .int qm_sign, .int qm_fault, .int qm_place, .long qm_word, .int qm_told, .ref qm_now, .ref qm_read, .ref qm_kept, .ref qm_snaps, .ref qm_aside, .ref qm_name, .ref qm_readName, .ref qm_keptName, .ref qm_isKept, .ref qm_onces, .int qm_snapMany, .ref qm_order, .ref qm_ordered, .int qm_orderMany, .int qm_orderMost, .int qm_passing, .int qm_movedWho, .int qm_scratched, .ref qm_text, .int qm_texts, .int qm_seed, .ref qm_line, .ref qm_written, .int qm_lineMany, .int qm_hasWritten, .ref qm_node, .int qm_nodes, .int qm_onesMany, .int qm_within, .int qm_top]))] ∧ (tkK b qm_size.toInt qm_limit.toInt pp = 2 ∧ kyN (tkW b qm_size.toInt pp) = 19))) := by
  refine Ci.ofQ (by decide) (Nat.le_of_ble_eq_true rfl) ?_
  intro p e s m below meth c ls A args Q hQ B hw hl
  have C : CallFix p m c cX11_isWord 2 s args gw "LanternStateModel" := B.1
  have hl : lv_has ls 2 [(0, .ref qm), (1, .int 19)] := hl
  have tv22 := hr_3.2.2
  refine lv_aload_n C.1 C.2.1 dX11_isWord_0 rfl (lv_at hl 0 rfl) ?_
  refine x_get C hw iwX11 10 rfl 0 rfl 7 (by decide) kw1200 rfl dX11_isWord_1 ?_
  refine lv_iconst (v := 2) C.1 C.2.1 dX11_isWord_4 (by decide) ?_
  refine lv_icmp_ne (tgt := 24) C.1 C.2.1 dX11_isWord_5 (by decide) (fun c1 => ?_) (fun c1 => ?_)
  · skip
    have c1 : qm_kind.toInt ≠ 2 := i_eqF (X := qm_kind.toInt) (Y := 2) rfl rfl c1
    have bc1_qm_kind := i_bd qm_kind
    refine lv_iconst (v := 0) C.1 C.2.1 dX11_isWord_24 (by decide) ?_
    exact x_retzQ hQ B hw rfl (Or.inl ⟨rfl, rfl, (fun h9 => absurd (show tkW b qm_size.toInt pp = 528 from (kyN_is (i := 19) (by decide)).mp h9.2) (by omega))⟩) (Nat.le_of_ble_eq_true rfl) (Nat.le_of_ble_eq_true rfl) dX11_isWord_25
  · skip
    have c1 : qm_kind.toInt = 2 := i_eqT (X := qm_kind.toInt) (Y := 2) rfl rfl c1
    have bc1_qm_kind := i_bd qm_kind
    refine lv_aload_n C.1 C.2.1 dX11_isWord_8 rfl (lv_at hl 0 rfl) ?_
    refine x_get C hw iwX11 10 rfl 0 rfl 12 (by decide) kw1205 rfl dX11_isWord_9 ?_
    refine lv_iload_n C.1 C.2.1 dX11_isWord_12 rfl (lv_at hl 1 rfl) ?_
    refine x_calllS (As := [.int 19]) (rest := [.long qm_word]) (wr := [(qm, .inr (10, [.int qm_thrown, .ref qm_tape, .int qm_taped, .int qm_size, .int qm_limit, .int qm_to, .int qm_from, .int qm_kind, .int qm_number, .int qm_sign, .int qm_fault, .int qm_place, .long qm_word, .int qm_told, .ref qm_now, .ref qm_read, .ref qm_kept, .ref qm_snaps, .ref qm_aside, .ref qm_name, .ref qm_readName, .ref qm_keptName, .ref qm_isKept, .ref qm_onces, .int qm_snapMany, .ref qm_order, .ref qm_ordered, .int qm_orderMany, .int qm_orderMost, .int qm_passing, .int qm_movedWho, .int qm_scratched, .ref qm_text, .int qm_texts, .int qm_seed, .ref qm_line, .ref qm_written, .int qm_lineMany, .int qm_hasWritten, .ref qm_node, .int qm_nodes, .int qm_onesMany, .int qm_within, .int qm_top]))]) C hw e_wordOf_19 mwX11_wordOf kw1363 [] [0] rfl rfl rfl rfl (by decide) rfl hl.1 rfl (Nat.le_of_ble_eq_true rfl) ⟨(Nat.le_of_ble_eq_true rfl), (Nat.le_of_ble_eq_true rfl)⟩ ⟨(Nat.le_of_ble_eq_true rfl), (Nat.le_of_ble_eq_true rfl)⟩ dX11_isWord_13 (fun r2 u9 H locs hp9 hw => ?_)
    obtain ⟨rfl, rfl⟩ := hp9
    have hw : Wd G s A [(qm, .inr (10, [.int qm_thrown, .ref qm_tape, .int qm_taped, .int qm_size, .int qm_limit, .int qm_to, .int qm_from, .int qm_kind, .int qm_number, .int qm_sign, .int qm_fault, .int qm_place, .long qm_word, .int qm_told, .ref qm_now, .ref qm_read, .ref qm_kept, .ref qm_snaps, .ref qm_aside, .ref qm_name, .ref qm_readName, .ref qm_keptName, .ref qm_isKept, .ref qm_onces, .int qm_snapMany, .ref qm_order, .ref qm_ordered, .int qm_orderMany, .int qm_orderMost, .int qm_passing, .int qm_movedWho, .int qm_scratched, .ref qm_text, .int qm_texts, .int qm_seed, .ref qm_line, .ref qm_written, .int qm_lineMany, .int qm_hasWritten, .ref qm_node, .int qm_nodes, .int qm_onesMany, .int qm_within, .int qm_top]))] H _ := hw
    refine W.lcmp C.1 C.2.1 dX11_isWord_16 (x_genP (fun z : Int32 => z.toInt = 0 ↔ qm_word.toInt = 528) (l_cmp0 rfl rfl) (fun v3 hv3 => ?_))
    refine lv_if_ne (tgt := 24) C.1 C.2.1 dX11_isWord_17 (by decide) (fun c4 => ?_) (fun c4 => ?_)
    · skip
      have c4 : v3.toInt ≠ 0 := i_eqF (X := v3.toInt) (Y := 0) rfl rfl c4
      have bc4_v3 := i_bd v3
      have d5 : qm_word.toInt ≠ 528 := fun q9 => c4 (hv3.mpr q9)
      clear hv3
      refine lv_iconst (v := 0) C.1 C.2.1 dX11_isWord_24 (by decide) ?_
      exact x_retzQ hQ B hw rfl (Or.inl ⟨rfl, rfl, (fun h9 => absurd (show tkW b qm_size.toInt pp = 528 from (kyN_is (i := 19) (by decide)).mp h9.2) (by omega))⟩) (Nat.le_of_ble_eq_true rfl) (Nat.le_of_ble_eq_true rfl) dX11_isWord_25
    · skip
      have c4 : v3.toInt = 0 := i_eqT (X := v3.toInt) (Y := 0) rfl rfl c4
      have bc4_v3 := i_bd v3
      have d6 : qm_word.toInt = 528 := hv3.mp c4
      clear hv3
      refine lv_iconst (v := 1) C.1 C.2.1 dX11_isWord_20 (by decide) ?_
      refine lv_goto (tgt := 25) C.1 C.2.1 dX11_isWord_21 (by decide) ?_
      exact x_retzQ hQ B hw rfl (Or.inr ⟨rfl, rfl, ⟨by omega, (kyN_is (i := 19) (by decide)).mpr (show tkW b qm_size.toInt pp = 528 by omega)⟩⟩) (Nat.le_of_ble_eq_true rfl) (Nat.le_of_ble_eq_true rfl) dX11_isWord_25
set_option maxHeartbeats 4000000 in
set_option maxRecDepth 100000 in
theorem e_isWord_20 {l : Launch} {G : Gc} (qm : Nat) (qm_thrown : Int32) (qm_tape : Nat) (qm_taped : Int32) (qm_size : Int32) (qm_limit : Int32) (qm_to : Int32) (qm_from : Int32) (qm_kind : Int32) (qm_number : Int32) (qm_sign : Int32) (qm_fault : Int32) (qm_place : Int32) (qm_word : Int64) (qm_told : Int32) (qm_now : Nat) (qm_read : Nat) (qm_kept : Nat) (qm_snaps : Nat) (qm_aside : Nat) (qm_name : Nat) (qm_readName : Nat) (qm_keptName : Nat) (qm_isKept : Nat) (qm_onces : Nat) (qm_snapMany : Int32) (qm_order : Nat) (qm_ordered : Nat) (qm_orderMany : Int32) (qm_orderMost : Int32) (qm_passing : Int32) (qm_movedWho : Int32) (qm_scratched : Int32) (qm_text : Nat) (qm_texts : Int32) (qm_seed : Int32) (qm_line : Nat) (qm_written : Nat) (qm_lineMany : Int32) (qm_hasWritten : Int32) (qm_node : Nat) (qm_nodes : Int32) (qm_onesMany : Int32) (qm_within : Int32) (qm_top : Int32) (b : Int → Int) (pp : Int) (hi_qm_size : 0 ≤ qm_size.toInt ∧ qm_size.toInt ≤ 940) (hr_0 : qm_to.toInt = tkX b qm_size.toInt qm_limit.toInt pp) (hr_1 : qm_from.toInt = tkP b qm_size.toInt qm_limit.toInt pp) (hr_2 : qm_kind.toInt = tkK b qm_size.toInt qm_limit.toInt pp) (hr_3 : tkV b qm_size.toInt qm_limit.toInt pp qm_number qm_sign qm_word) : Ci l yX11_isWord cX11_isWord 2 (some .boolean) 2 0 0 G [.ref qm, .int 20] [(qm, .inr (10, [.int qm_thrown, .ref qm_tape, .int qm_taped, .int qm_size, .int qm_limit, .int qm_to, .int qm_from, .int qm_kind, .int qm_number, .int qm_sign, .int qm_fault, .int qm_place, .long qm_word, .int qm_told, .ref qm_now, .ref qm_read, .ref qm_kept, .ref qm_snaps, .ref qm_aside, .ref qm_name, .ref qm_readName, .ref qm_keptName, .ref qm_isKept, .ref qm_onces, .int qm_snapMany, .ref qm_order, .ref qm_ordered, .int qm_orderMany, .int qm_orderMost, .int qm_passing, .int qm_movedWho, .int qm_scratched, .ref qm_text, .int qm_texts, .int qm_seed, .ref qm_line, .ref qm_written, .int qm_lineMany, .int qm_hasWritten, .ref qm_node, .int qm_nodes, .int qm_onesMany, .int qm_within, .int qm_top]))] (fun (r9 : Int32) (u9 : va_W) => (r9 = 0 ∧ u9 = [(qm, .inr (10, [.int qm_thrown, .ref qm_tape, .int qm_taped, .int qm_size, .int qm_limit, .int qm_to, .int qm_from, .int qm_kind, .int qm_number, .int qm_sign, .int qm_fault, .int qm_place, .long qm_word, .int qm_told, .ref qm_now, .ref qm_read, .ref qm_kept, .ref qm_snaps, .ref qm_aside, .ref qm_name, .ref qm_readName, .ref qm_keptName, .ref qm_isKept, .ref qm_onces, .int qm_snapMany, .ref qm_order, .ref qm_ordered, .int qm_orderMany, .int qm_orderMost, .int qm_passing, .int qm_movedWho, .int qm_scratched, .ref qm_text, .int qm_texts, .int qm_seed, .ref qm_line, .ref qm_written, .int qm_lineMany, .int qm_hasWritten, .ref qm_node, .int qm_nodes, .int qm_onesMany, .int qm_within, .int qm_top]))] ∧ (¬ (tkK b qm_size.toInt qm_limit.toInt pp = 2 ∧ kyN (tkW b qm_size.toInt pp) = 20))) ∨ (r9 = 1 ∧ u9 = [(qm, .inr (10, [.int qm_thrown, .ref qm_tape, .int qm_taped, .int qm_size, .int qm_limit, .int qm_to, .int qm_from, .int qm_kind, .int qm_number, .int qm_sign, .int qm_fault, .int qm_place, .long qm_word, .int qm_told, .ref qm_now, .ref qm_read, .ref qm_kept, .ref qm_snaps, .ref qm_aside, .ref qm_name, .ref qm_readName, .ref qm_keptName, .ref qm_isKept, .ref qm_onces, .int qm_snapMany, .ref qm_order, .ref qm_ordered, .int qm_orderMany, .int qm_orderMost, .int qm_passing, .int qm_movedWho, .int qm_scratched, .ref qm_text, .int qm_texts, .int qm_seed, .ref qm_line, .ref qm_written, .int qm_lineMany, .int qm_hasWritten, .ref qm_node, .int qm_nodes, .int qm_onesMany, .int qm_within, .int qm_top]))] ∧ (tkK b qm_size.toInt qm_limit.toInt pp = 2 ∧ kyN (tkW b qm_size.toInt pp) = 20))) := by
  refine Ci.ofQ (by decide) (Nat.le_of_ble_eq_true rfl) ?_
  intro p e s m below meth c ls A args Q hQ B hw hl
  have C : CallFix p m c cX11_isWord 2 s args gw "LanternStateModel" := B.1
  have hl : lv_has ls 2 [(0, .ref qm), (1, .int 20)] := hl
  have tv22 := hr_3.2.2
  refine lv_aload_n C.1 C.2.1 dX11_isWord_0 rfl (lv_at hl 0 rfl) ?_
  refine x_get C hw iwX11 10 rfl 0 rfl 7 (by decide) kw1200 rfl dX11_isWord_1 ?_
  refine lv_iconst (v := 2) C.1 C.2.1 dX11_isWord_4 (by decide) ?_
  refine lv_icmp_ne (tgt := 24) C.1 C.2.1 dX11_isWord_5 (by decide) (fun c1 => ?_) (fun c1 => ?_)
  · skip
    have c1 : qm_kind.toInt ≠ 2 := i_eqF (X := qm_kind.toInt) (Y := 2) rfl rfl c1
    have bc1_qm_kind := i_bd qm_kind
    refine lv_iconst (v := 0) C.1 C.2.1 dX11_isWord_24 (by decide) ?_
    exact x_retzQ hQ B hw rfl (Or.inl ⟨rfl, rfl, (fun h9 => absurd (show tkW b qm_size.toInt pp = 1421140441 from (kyN_is (i := 20) (by decide)).mp h9.2) (by omega))⟩) (Nat.le_of_ble_eq_true rfl) (Nat.le_of_ble_eq_true rfl) dX11_isWord_25
  · skip
    have c1 : qm_kind.toInt = 2 := i_eqT (X := qm_kind.toInt) (Y := 2) rfl rfl c1
    have bc1_qm_kind := i_bd qm_kind
    refine lv_aload_n C.1 C.2.1 dX11_isWord_8 rfl (lv_at hl 0 rfl) ?_
    refine x_get C hw iwX11 10 rfl 0 rfl 12 (by decide) kw1205 rfl dX11_isWord_9 ?_
    refine lv_iload_n C.1 C.2.1 dX11_isWord_12 rfl (lv_at hl 1 rfl) ?_
    refine x_calllS (As := [.int 20]) (rest := [.long qm_word]) (wr := [(qm, .inr (10, [.int qm_thrown, .ref qm_tape, .int qm_taped, .int qm_size, .int qm_limit, .int qm_to, .int qm_from, .int qm_kind, .int qm_number, .int qm_sign, .int qm_fault, .int qm_place, .long qm_word, .int qm_told, .ref qm_now, .ref qm_read, .ref qm_kept, .ref qm_snaps, .ref qm_aside, .ref qm_name, .ref qm_readName, .ref qm_keptName, .ref qm_isKept, .ref qm_onces, .int qm_snapMany, .ref qm_order, .ref qm_ordered, .int qm_orderMany, .int qm_orderMost, .int qm_passing, .int qm_movedWho, .int qm_scratched, .ref qm_text, .int qm_texts, .int qm_seed, .ref qm_line, .ref qm_written, .int qm_lineMany, .int qm_hasWritten, .ref qm_node, .int qm_nodes, .int qm_onesMany, .int qm_within, .int qm_top]))]) C hw e_wordOf_20 mwX11_wordOf kw1363 [] [0] rfl rfl rfl rfl (by decide) rfl hl.1 rfl (Nat.le_of_ble_eq_true rfl) ⟨(Nat.le_of_ble_eq_true rfl), (Nat.le_of_ble_eq_true rfl)⟩ ⟨(Nat.le_of_ble_eq_true rfl), (Nat.le_of_ble_eq_true rfl)⟩ dX11_isWord_13 (fun r2 u9 H locs hp9 hw => ?_)
    obtain ⟨rfl, rfl⟩ := hp9
    have hw : Wd G s A [(qm, .inr (10, [.int qm_thrown, .ref qm_tape, .int qm_taped, .int qm_size, .int qm_limit, .int qm_to, .int qm_from, .int qm_kind, .int qm_number, .int qm_sign, .int qm_fault, .int qm_place, .long qm_word, .int qm_told, .ref qm_now, .ref qm_read, .ref qm_kept, .ref qm_snaps, .ref qm_aside, .ref qm_name, .ref qm_readName, .ref qm_keptName, .ref qm_isKept, .ref qm_onces, .int qm_snapMany, .ref qm_order, .ref qm_ordered, .int qm_orderMany, .int qm_orderMost, .int qm_passing, .int qm_movedWho, .int qm_scratched, .ref qm_text, .int qm_texts, .int qm_seed, .ref qm_line, .ref qm_written, .int qm_lineMany, .int qm_hasWritten, .ref qm_node, .int qm_nodes, .int qm_onesMany, .int qm_within, .int qm_top]))] H _ := hw
    refine W.lcmp C.1 C.2.1 dX11_isWord_16 (x_genP (fun z : Int32 => z.toInt = 0 ↔ qm_word.toInt = 1421140441) (l_cmp0 rfl rfl) (fun v3 hv3 => ?_))
    refine lv_if_ne (tgt := 24) C.1 C.2.1 dX11_isWord_17 (by decide) (fun c4 => ?_) (fun c4 => ?_)
    · skip
      have c4 : v3.toInt ≠ 0 := i_eqF (X := v3.toInt) (Y := 0) rfl rfl c4
      have bc4_v3 := i_bd v3
      have d5 : qm_word.toInt ≠ 1421140441 := fun q9 => c4 (hv3.mpr q9)
      clear hv3
      refine lv_iconst (v := 0) C.1 C.2.1 dX11_isWord_24 (by decide) ?_
      exact x_retzQ hQ B hw rfl (Or.inl ⟨rfl, rfl, (fun h9 => absurd (show tkW b qm_size.toInt pp = 1421140441 from (kyN_is (i := 20) (by decide)).mp h9.2) (by omega))⟩) (Nat.le_of_ble_eq_true rfl) (Nat.le_of_ble_eq_true rfl) dX11_isWord_25
    · skip
      have c4 : v3.toInt = 0 := i_eqT (X := v3.toInt) (Y := 0) rfl rfl c4
      have bc4_v3 := i_bd v3
      have d6 : qm_word.toInt = 1421140441 := hv3.mp c4
      clear hv3
      refine lv_iconst (v := 1) C.1 C.2.1 dX11_isWord_20 (by decide) ?_
      refine lv_goto (tgt := 25) C.1 C.2.1 dX11_isWord_21 (by decide) ?_
      exact x_retzQ hQ B hw rfl (Or.inr ⟨rfl, rfl, ⟨by omega, (kyN_is (i := 20) (by decide)).mpr (show tkW b qm_size.toInt pp = 1421140441 by omega)⟩⟩) (Nat.le_of_ble_eq_true rfl) (Nat.le_of_ble_eq_true rfl) dX11_isWord_25
set_option maxHeartbeats 4000000 in
set_option maxRecDepth 100000 in
theorem e_isWord_21 {l : Launch} {G : Gc} (qm : Nat) (qm_thrown : Int32) (qm_tape : Nat) (qm_taped : Int32) (qm_size : Int32) (qm_limit : Int32) (qm_to : Int32) (qm_from : Int32) (qm_kind : Int32) (qm_number : Int32) (qm_sign : Int32) (qm_fault : Int32) (qm_place : Int32) (qm_word : Int64) (qm_told : Int32) (qm_now : Nat) (qm_read : Nat) (qm_kept : Nat) (qm_snaps : Nat) (qm_aside : Nat) (qm_name : Nat) (qm_readName : Nat) (qm_keptName : Nat) (qm_isKept : Nat) (qm_onces : Nat) (qm_snapMany : Int32) (qm_order : Nat) (qm_ordered : Nat) (qm_orderMany : Int32) (qm_orderMost : Int32) (qm_passing : Int32) (qm_movedWho : Int32) (qm_scratched : Int32) (qm_text : Nat) (qm_texts : Int32) (qm_seed : Int32) (qm_line : Nat) (qm_written : Nat) (qm_lineMany : Int32) (qm_hasWritten : Int32) (qm_node : Nat) (qm_nodes : Int32) (qm_onesMany : Int32) (qm_within : Int32) (qm_top : Int32) (b : Int → Int) (pp : Int) (hi_qm_size : 0 ≤ qm_size.toInt ∧ qm_size.toInt ≤ 940) (hr_0 : qm_to.toInt = tkX b qm_size.toInt qm_limit.toInt pp) (hr_1 : qm_from.toInt = tkP b qm_size.toInt qm_limit.toInt pp) (hr_2 : qm_kind.toInt = tkK b qm_size.toInt qm_limit.toInt pp) (hr_3 : tkV b qm_size.toInt qm_limit.toInt pp qm_number qm_sign qm_word) : Ci l yX11_isWord cX11_isWord 2 (some .boolean) 2 0 0 G [.ref qm, .int 21] [(qm, .inr (10, [.int qm_thrown, .ref qm_tape, .int qm_taped, .int qm_size, .int qm_limit, .int qm_to, .int qm_from, .int qm_kind, .int qm_number, .int qm_sign, .int qm_fault, .int qm_place, .long qm_word, .int qm_told, .ref qm_now, .ref qm_read, .ref qm_kept, .ref qm_snaps, .ref qm_aside, .ref qm_name, .ref qm_readName, .ref qm_keptName, .ref qm_isKept, .ref qm_onces, .int qm_snapMany, .ref qm_order, .ref qm_ordered, .int qm_orderMany, .int qm_orderMost, .int qm_passing, .int qm_movedWho, .int qm_scratched, .ref qm_text, .int qm_texts, .int qm_seed, .ref qm_line, .ref qm_written, .int qm_lineMany, .int qm_hasWritten, .ref qm_node, .int qm_nodes, .int qm_onesMany, .int qm_within, .int qm_top]))] (fun (r9 : Int32) (u9 : va_W) => (r9 = 0 ∧ u9 = [(qm, .inr (10, [.int qm_thrown, .ref qm_tape, .int qm_taped, .int qm_size, .int qm_limit, .int qm_to, .int qm_from, .int qm_kind, .int qm_number, .int qm_sign, .int qm_fault, .int qm_place, .long qm_word, .int qm_told, .ref qm_now, .ref qm_read, .ref qm_kept, .ref qm_snaps, .ref qm_aside, .ref qm_name, .ref qm_readName, .ref qm_keptName, .ref qm_isKept, .ref qm_onces, .int qm_snapMany, .ref qm_order, .ref qm_ordered, .int qm_orderMany, .int qm_orderMost, .int qm_passing, .int qm_movedWho, .int qm_scratched, .ref qm_text, .int qm_texts, .int qm_seed, .ref qm_line, .ref qm_written, .int qm_lineMany, .int qm_hasWritten, .ref qm_node, .int qm_nodes, .int qm_onesMany, .int qm_within, .int qm_top]))] ∧ (¬ (tkK b qm_size.toInt qm_limit.toInt pp = 2 ∧ kyN (tkW b qm_size.toInt pp) = 21))) ∨ (r9 = 1 ∧ u9 = [(qm, .inr (10, [.int qm_thrown, .ref qm_tape, .int qm_taped, .int qm_size, .int qm_limit, .int qm_to, .int qm_from, .int qm_kind, .int qm_number, .int qm_sign, .int qm_fault, .int qm_place, .long qm_word, .int qm_told, .ref qm_now, .ref qm_read, .ref qm_kept, .ref qm_snaps, .ref qm_aside, .ref qm_name, .ref qm_readName, .ref qm_keptName, .ref qm_isKept, .ref qm_onces, .int qm_snapMany, .ref qm_order, .ref qm_ordered, .int qm_orderMany, .int qm_orderMost, .int qm_passing, .int qm_movedWho, .int qm_scratched, .ref qm_text, .int qm_texts, .int qm_seed, .ref qm_line, .ref qm_written, .int qm_lineMany, .int qm_hasWritten, .ref qm_node, .int qm_nodes, .int qm_onesMany, .int qm_within, .int qm_top]))] ∧ (tkK b qm_size.toInt qm_limit.toInt pp = 2 ∧ kyN (tkW b qm_size.toInt pp) = 21))) := by
  refine Ci.ofQ (by decide) (Nat.le_of_ble_eq_true rfl) ?_
  intro p e s m below meth c ls A args Q hQ B hw hl
  have C : CallFix p m c cX11_isWord 2 s args gw "LanternStateModel" := B.1
  have hl : lv_has ls 2 [(0, .ref qm), (1, .int 21)] := hl
  have tv22 := hr_3.2.2
  refine lv_aload_n C.1 C.2.1 dX11_isWord_0 rfl (lv_at hl 0 rfl) ?_
  refine x_get C hw iwX11 10 rfl 0 rfl 7 (by decide) kw1200 rfl dX11_isWord_1 ?_
  refine lv_iconst (v := 2) C.1 C.2.1 dX11_isWord_4 (by decide) ?_
  refine lv_icmp_ne (tgt := 24) C.1 C.2.1 dX11_isWord_5 (by decide) (fun c1 => ?_) (fun c1 => ?_)
  · skip
    have c1 : qm_kind.toInt ≠ 2 := i_eqF (X := qm_kind.toInt) (Y := 2) rfl rfl c1
    have bc1_qm_kind := i_bd qm_kind
    refine lv_iconst (v := 0) C.1 C.2.1 dX11_isWord_24 (by decide) ?_
    exact x_retzQ hQ B hw rfl (Or.inl ⟨rfl, rfl, (fun h9 => absurd (show tkW b qm_size.toInt pp = 114602 from (kyN_is (i := 21) (by decide)).mp h9.2) (by omega))⟩) (Nat.le_of_ble_eq_true rfl) (Nat.le_of_ble_eq_true rfl) dX11_isWord_25
  · skip
    have c1 : qm_kind.toInt = 2 := i_eqT (X := qm_kind.toInt) (Y := 2) rfl rfl c1
    have bc1_qm_kind := i_bd qm_kind
    refine lv_aload_n C.1 C.2.1 dX11_isWord_8 rfl (lv_at hl 0 rfl) ?_
    refine x_get C hw iwX11 10 rfl 0 rfl 12 (by decide) kw1205 rfl dX11_isWord_9 ?_
    refine lv_iload_n C.1 C.2.1 dX11_isWord_12 rfl (lv_at hl 1 rfl) ?_
    refine x_calllS (As := [.int 21]) (rest := [.long qm_word]) (wr := [(qm, .inr (10, [.int qm_thrown, .ref qm_tape, .int qm_taped, .int qm_size, .int qm_limit, .int qm_to, .int qm_from, .int qm_kind, .int qm_number, .int qm_sign, .int qm_fault, .int qm_place, .long qm_word, .int qm_told, .ref qm_now, .ref qm_read, .ref qm_kept, .ref qm_snaps, .ref qm_aside, .ref qm_name, .ref qm_readName, .ref qm_keptName, .ref qm_isKept, .ref qm_onces, .int qm_snapMany, .ref qm_order, .ref qm_ordered, .int qm_orderMany, .int qm_orderMost, .int qm_passing, .int qm_movedWho, .int qm_scratched, .ref qm_text, .int qm_texts, .int qm_seed, .ref qm_line, .ref qm_written, .int qm_lineMany, .int qm_hasWritten, .ref qm_node, .int qm_nodes, .int qm_onesMany, .int qm_within, .int qm_top]))]) C hw e_wordOf_21 mwX11_wordOf kw1363 [] [0] rfl rfl rfl rfl (by decide) rfl hl.1 rfl (Nat.le_of_ble_eq_true rfl) ⟨(Nat.le_of_ble_eq_true rfl), (Nat.le_of_ble_eq_true rfl)⟩ ⟨(Nat.le_of_ble_eq_true rfl), (Nat.le_of_ble_eq_true rfl)⟩ dX11_isWord_13 (fun r2 u9 H locs hp9 hw => ?_)
    obtain ⟨rfl, rfl⟩ := hp9
    have hw : Wd G s A [(qm, .inr (10, [.int qm_thrown, .ref qm_tape, .int qm_taped, .int qm_size, .int qm_limit, .int qm_to, .int qm_from, .int qm_kind, .int qm_number, .int qm_sign, .int qm_fault, .int qm_place, .long qm_word, .int qm_told, .ref qm_now, .ref qm_read, .ref qm_kept, .ref qm_snaps, .ref qm_aside, .ref qm_name, .ref qm_readName, .ref qm_keptName, .ref qm_isKept, .ref qm_onces, .int qm_snapMany, .ref qm_order, .ref qm_ordered, .int qm_orderMany, .int qm_orderMost, .int qm_passing, .int qm_movedWho, .int qm_scratched, .ref qm_text, .int qm_texts, .int qm_seed, .ref qm_line, .ref qm_written, .int qm_lineMany, .int qm_hasWritten, .ref qm_node, .int qm_nodes, .int qm_onesMany, .int qm_within, .int qm_top]))] H _ := hw
    refine W.lcmp C.1 C.2.1 dX11_isWord_16 (x_genP (fun z : Int32 => z.toInt = 0 ↔ qm_word.toInt = 114602) (l_cmp0 rfl rfl) (fun v3 hv3 => ?_))
    refine lv_if_ne (tgt := 24) C.1 C.2.1 dX11_isWord_17 (by decide) (fun c4 => ?_) (fun c4 => ?_)
    · skip
      have c4 : v3.toInt ≠ 0 := i_eqF (X := v3.toInt) (Y := 0) rfl rfl c4
      have bc4_v3 := i_bd v3
      have d5 : qm_word.toInt ≠ 114602 := fun q9 => c4 (hv3.mpr q9)
      clear hv3
      refine lv_iconst (v := 0) C.1 C.2.1 dX11_isWord_24 (by decide) ?_
      exact x_retzQ hQ B hw rfl (Or.inl ⟨rfl, rfl, (fun h9 => absurd (show tkW b qm_size.toInt pp = 114602 from (kyN_is (i := 21) (by decide)).mp h9.2) (by omega))⟩) (Nat.le_of_ble_eq_true rfl) (Nat.le_of_ble_eq_true rfl) dX11_isWord_25
    · skip
      have c4 : v3.toInt = 0 := i_eqT (X := v3.toInt) (Y := 0) rfl rfl c4
      have bc4_v3 := i_bd v3
      have d6 : qm_word.toInt = 114602 := hv3.mp c4
      clear hv3
      refine lv_iconst (v := 1) C.1 C.2.1 dX11_isWord_20 (by decide) ?_
      refine lv_goto (tgt := 25) C.1 C.2.1 dX11_isWord_21 (by decide) ?_
      exact x_retzQ hQ B hw rfl (Or.inr ⟨rfl, rfl, ⟨by omega, (kyN_is (i := 21) (by decide)).mpr (show tkW b qm_size.toInt pp = 114602 by omega)⟩⟩) (Nat.le_of_ble_eq_true rfl) (Nat.le_of_ble_eq_true rfl) dX11_isWord_25
set_option maxHeartbeats 4000000 in
set_option maxRecDepth 100000 in
theorem e_isWord_22 {l : Launch} {G : Gc} (qm : Nat) (qm_thrown : Int32) (qm_tape : Nat) (qm_taped : Int32) (qm_size : Int32) (qm_limit : Int32) (qm_to : Int32) (qm_from : Int32) (qm_kind : Int32) (qm_number : Int32) (qm_sign : Int32) (qm_fault : Int32) (qm_place : Int32) (qm_word : Int64) (qm_told : Int32) (qm_now : Nat) (qm_read : Nat) (qm_kept : Nat) (qm_snaps : Nat) (qm_aside : Nat) (qm_name : Nat) (qm_readName : Nat) (qm_keptName : Nat) (qm_isKept : Nat) (qm_onces : Nat) (qm_snapMany : Int32) (qm_order : Nat) (qm_ordered : Nat) (qm_orderMany : Int32) (qm_orderMost : Int32) (qm_passing : Int32) (qm_movedWho : Int32) (qm_scratched : Int32) (qm_text : Nat) (qm_texts : Int32) (qm_seed : Int32) (qm_line : Nat) (qm_written : Nat) (qm_lineMany : Int32) (qm_hasWritten : Int32) (qm_node : Nat) (qm_nodes : Int32) (qm_onesMany : Int32) (qm_within : Int32) (qm_top : Int32) (b : Int → Int) (pp : Int) (hi_qm_size : 0 ≤ qm_size.toInt ∧ qm_size.toInt ≤ 940) (hr_0 : qm_to.toInt = tkX b qm_size.toInt qm_limit.toInt pp) (hr_1 : qm_from.toInt = tkP b qm_size.toInt qm_limit.toInt pp) (hr_2 : qm_kind.toInt = tkK b qm_size.toInt qm_limit.toInt pp) (hr_3 : tkV b qm_size.toInt qm_limit.toInt pp qm_number qm_sign qm_word) : Ci l yX11_isWord cX11_isWord 2 (some .boolean) 2 0 0 G [.ref qm, .int 22] [(qm, .inr (10, [.int qm_thrown, .ref qm_tape, .int qm_taped, .int qm_size, .int qm_limit, .int qm_to, .int qm_from, .int qm_kind, .int qm_number, .int qm_sign, .int qm_fault, .int qm_place, .long qm_word, .int qm_told, .ref qm_now, .ref qm_read, .ref qm_kept, .ref qm_snaps, .ref qm_aside, .ref qm_name, .ref qm_readName, .ref qm_keptName, .ref qm_isKept, .ref qm_onces, .int qm_snapMany, .ref qm_order, .ref qm_ordered, .int qm_orderMany, .int qm_orderMost, .int qm_passing, .int qm_movedWho, .int qm_scratched, .ref qm_text, .int qm_texts, .int qm_seed, .ref qm_line, .ref qm_written, .int qm_lineMany, .int qm_hasWritten, .ref qm_node, .int qm_nodes, .int qm_onesMany, .int qm_within, .int qm_top]))] (fun (r9 : Int32) (u9 : va_W) => (r9 = 0 ∧ u9 = [(qm, .inr (10, [.int qm_thrown, .ref qm_tape, .int qm_taped, .int qm_size, .int qm_limit, .int qm_to, .int qm_from, .int qm_kind, .int qm_number, .int qm_sign, .int qm_fault, .int qm_place, .long qm_word, .int qm_told, .ref qm_now, .ref qm_read, .ref qm_kept, .ref qm_snaps, .ref qm_aside, .ref qm_name, .ref qm_readName, .ref qm_keptName, .ref qm_isKept, .ref qm_onces, .int qm_snapMany, .ref qm_order, .ref qm_ordered, .int qm_orderMany, .int qm_orderMost, .int qm_passing, .int qm_movedWho, .int qm_scratched, .ref qm_text, .int qm_texts, .int qm_seed, .ref qm_line, .ref qm_written, .int qm_lineMany, .int qm_hasWritten, .ref qm_node, .int qm_nodes, .int qm_onesMany, .int qm_within, .int qm_top]))] ∧ (¬ (tkK b qm_size.toInt qm_limit.toInt pp = 2 ∧ kyN (tkW b qm_size.toInt pp) = 22))) ∨ (r9 = 1 ∧ u9 = [(qm, .inr (10, [.int qm_thrown, .ref qm_tape, .int qm_taped, .int qm_size, .int qm_limit, .int qm_to, .int qm_from, .int qm_kind, .int qm_number, .int qm_sign, .int qm_fault, .int qm_place, .long qm_word, .int qm_told, .ref qm_now, .ref qm_read, .ref qm_kept, .ref qm_snaps, .ref qm_aside, .ref qm_name, .ref qm_readName, .ref qm_keptName, .ref qm_isKept, .ref qm_onces, .int qm_snapMany, .ref qm_order, .ref qm_ordered, .int qm_orderMany, .int qm_orderMost, .int qm_passing, .int qm_movedWho, .int qm_scratched, .ref qm_text, .int qm_texts, .int qm_seed, .ref qm_line, .ref qm_written, .int qm_lineMany, .int qm_hasWritten, .ref qm_node, .int qm_nodes, .int qm_onesMany, .int qm_within, .int qm_top]))] ∧ (tkK b qm_size.toInt qm_limit.toInt pp = 2 ∧ kyN (tkW b qm_size.toInt pp) = 22))) := by
  refine Ci.ofQ (by decide) (Nat.le_of_ble_eq_true rfl) ?_
  intro p e s m below meth c ls A args Q hQ B hw hl
  have C : CallFix p m c cX11_isWord 2 s args gw "LanternStateModel" := B.1
  have hl : lv_has ls 2 [(0, .ref qm), (1, .int 22)] := hl
  have tv22 := hr_3.2.2
  refine lv_aload_n C.1 C.2.1 dX11_isWord_0 rfl (lv_at hl 0 rfl) ?_
  refine x_get C hw iwX11 10 rfl 0 rfl 7 (by decide) kw1200 rfl dX11_isWord_1 ?_
  refine lv_iconst (v := 2) C.1 C.2.1 dX11_isWord_4 (by decide) ?_
  refine lv_icmp_ne (tgt := 24) C.1 C.2.1 dX11_isWord_5 (by decide) (fun c1 => ?_) (fun c1 => ?_)
  · skip
    have c1 : qm_kind.toInt ≠ 2 := i_eqF (X := qm_kind.toInt) (Y := 2) rfl rfl c1
    have bc1_qm_kind := i_bd qm_kind
    refine lv_iconst (v := 0) C.1 C.2.1 dX11_isWord_24 (by decide) ?_
    exact x_retzQ hQ B hw rfl (Or.inl ⟨rfl, rfl, (fun h9 => absurd (show tkW b qm_size.toInt pp = 243059 from (kyN_is (i := 22) (by decide)).mp h9.2) (by omega))⟩) (Nat.le_of_ble_eq_true rfl) (Nat.le_of_ble_eq_true rfl) dX11_isWord_25
  · skip
    have c1 : qm_kind.toInt = 2 := i_eqT (X := qm_kind.toInt) (Y := 2) rfl rfl c1
    have bc1_qm_kind := i_bd qm_kind
    refine lv_aload_n C.1 C.2.1 dX11_isWord_8 rfl (lv_at hl 0 rfl) ?_
    refine x_get C hw iwX11 10 rfl 0 rfl 12 (by decide) kw1205 rfl dX11_isWord_9 ?_
    refine lv_iload_n C.1 C.2.1 dX11_isWord_12 rfl (lv_at hl 1 rfl) ?_
    refine x_calllS (As := [.int 22]) (rest := [.long qm_word]) (wr := [(qm, .inr (10, [.int qm_thrown, .ref qm_tape, .int qm_taped, .int qm_size, .int qm_limit, .int qm_to, .int qm_from, .int qm_kind, .int qm_number, .int qm_sign, .int qm_fault, .int qm_place, .long qm_word, .int qm_told, .ref qm_now, .ref qm_read, .ref qm_kept, .ref qm_snaps, .ref qm_aside, .ref qm_name, .ref qm_readName, .ref qm_keptName, .ref qm_isKept, .ref qm_onces, .int qm_snapMany, .ref qm_order, .ref qm_ordered, .int qm_orderMany, .int qm_orderMost, .int qm_passing, .int qm_movedWho, .int qm_scratched, .ref qm_text, .int qm_texts, .int qm_seed, .ref qm_line, .ref qm_written, .int qm_lineMany, .int qm_hasWritten, .ref qm_node, .int qm_nodes, .int qm_onesMany, .int qm_within, .int qm_top]))]) C hw e_wordOf_22 mwX11_wordOf kw1363 [] [0] rfl rfl rfl rfl (by decide) rfl hl.1 rfl (Nat.le_of_ble_eq_true rfl) ⟨(Nat.le_of_ble_eq_true rfl), (Nat.le_of_ble_eq_true rfl)⟩ ⟨(Nat.le_of_ble_eq_true rfl), (Nat.le_of_ble_eq_true rfl)⟩ dX11_isWord_13 (fun r2 u9 H locs hp9 hw => ?_)
    obtain ⟨rfl, rfl⟩ := hp9
    have hw : Wd G s A [(qm, .inr (10, [.int qm_thrown, .ref qm_tape, .int qm_taped, .int qm_size, .int qm_limit, .int qm_to, .int qm_from, .int qm_kind, .int qm_number, .int qm_sign, .int qm_fault, .int qm_place, .long qm_word, .int qm_told, .ref qm_now, .ref qm_read, .ref qm_kept, .ref qm_snaps, .ref qm_aside, .ref qm_name, .ref qm_readName, .ref qm_keptName, .ref qm_isKept, .ref qm_onces, .int qm_snapMany, .ref qm_order, .ref qm_ordered, .int qm_orderMany, .int qm_orderMost, .int qm_passing, .int qm_movedWho, .int qm_scratched, .ref qm_text, .int qm_texts, .int qm_seed, .ref qm_line, .ref qm_written, .int qm_lineMany, .int qm_hasWritten, .ref qm_node, .int qm_nodes, .int qm_onesMany, .int qm_within, .int qm_top]))] H _ := hw
    refine W.lcmp C.1 C.2.1 dX11_isWord_16 (x_genP (fun z : Int32 => z.toInt = 0 ↔ qm_word.toInt = 243059) (l_cmp0 rfl rfl) (fun v3 hv3 => ?_))
    refine lv_if_ne (tgt := 24) C.1 C.2.1 dX11_isWord_17 (by decide) (fun c4 => ?_) (fun c4 => ?_)
    · skip
      have c4 : v3.toInt ≠ 0 := i_eqF (X := v3.toInt) (Y := 0) rfl rfl c4
      have bc4_v3 := i_bd v3
      have d5 : qm_word.toInt ≠ 243059 := fun q9 => c4 (hv3.mpr q9)
      clear hv3
      refine lv_iconst (v := 0) C.1 C.2.1 dX11_isWord_24 (by decide) ?_
      exact x_retzQ hQ B hw rfl (Or.inl ⟨rfl, rfl, (fun h9 => absurd (show tkW b qm_size.toInt pp = 243059 from (kyN_is (i := 22) (by decide)).mp h9.2) (by omega))⟩) (Nat.le_of_ble_eq_true rfl) (Nat.le_of_ble_eq_true rfl) dX11_isWord_25
    · skip
      have c4 : v3.toInt = 0 := i_eqT (X := v3.toInt) (Y := 0) rfl rfl c4
      have bc4_v3 := i_bd v3
      have d6 : qm_word.toInt = 243059 := hv3.mp c4
      clear hv3
      refine lv_iconst (v := 1) C.1 C.2.1 dX11_isWord_20 (by decide) ?_
      refine lv_goto (tgt := 25) C.1 C.2.1 dX11_isWord_21 (by decide) ?_
      exact x_retzQ hQ B hw rfl (Or.inr ⟨rfl, rfl, ⟨by omega, (kyN_is (i := 22) (by decide)).mpr (show tkW b qm_size.toInt pp = 243059 by omega)⟩⟩) (Nat.le_of_ble_eq_true rfl) (Nat.le_of_ble_eq_true rfl) dX11_isWord_25
set_option maxHeartbeats 4000000 in
set_option maxRecDepth 100000 in
theorem e_isWord_23 {l : Launch} {G : Gc} (qm : Nat) (qm_thrown : Int32) (qm_tape : Nat) (qm_taped : Int32) (qm_size : Int32) (qm_limit : Int32) (qm_to : Int32) (qm_from : Int32) (qm_kind : Int32) (qm_number : Int32) (qm_sign : Int32) (qm_fault : Int32) (qm_place : Int32) (qm_word : Int64) (qm_told : Int32) (qm_now : Nat) (qm_read : Nat) (qm_kept : Nat) (qm_snaps : Nat) (qm_aside : Nat) (qm_name : Nat) (qm_readName : Nat) (qm_keptName : Nat) (qm_isKept : Nat) (qm_onces : Nat) (qm_snapMany : Int32) (qm_order : Nat) (qm_ordered : Nat) (qm_orderMany : Int32) (qm_orderMost : Int32) (qm_passing : Int32) (qm_movedWho : Int32) (qm_scratched : Int32) (qm_text : Nat) (qm_texts : Int32) (qm_seed : Int32) (qm_line : Nat) (qm_written : Nat) (qm_lineMany : Int32) (qm_hasWritten : Int32) (qm_node : Nat) (qm_nodes : Int32) (qm_onesMany : Int32) (qm_within : Int32) (qm_top : Int32) (b : Int → Int) (pp : Int) (hi_qm_size : 0 ≤ qm_size.toInt ∧ qm_size.toInt ≤ 940) (hr_0 : qm_to.toInt = tkX b qm_size.toInt qm_limit.toInt pp) (hr_1 : qm_from.toInt = tkP b qm_size.toInt qm_limit.toInt pp) (hr_2 : qm_kind.toInt = tkK b qm_size.toInt qm_limit.toInt pp) (hr_3 : tkV b qm_size.toInt qm_limit.toInt pp qm_number qm_sign qm_word) : Ci l yX11_isWord cX11_isWord 2 (some .boolean) 2 0 0 G [.ref qm, .int 23] [(qm, .inr (10, [.int qm_thrown, .ref qm_tape, .int qm_taped, .int qm_size, .int qm_limit, .int qm_to, .int qm_from, .int qm_kind, .int qm_number, .int qm_sign, .int qm_fault, .int qm_place, .long qm_word, .int qm_told, .ref qm_now, .ref qm_read, .ref qm_kept, .ref qm_snaps, .ref qm_aside, .ref qm_name, .ref qm_readName, .ref qm_keptName, .ref qm_isKept, .ref qm_onces, .int qm_snapMany, .ref qm_order, .ref qm_ordered, .int qm_orderMany, .int qm_orderMost, .int qm_passing, .int qm_movedWho, .int qm_scratched, .ref qm_text, .int qm_texts, .int qm_seed, .ref qm_line, .ref qm_written, .int qm_lineMany, .int qm_hasWritten, .ref qm_node, .int qm_nodes, .int qm_onesMany, .int qm_within, .int qm_top]))] (fun (r9 : Int32) (u9 : va_W) => (r9 = 0 ∧ u9 = [(qm, .inr (10, [.int qm_thrown, .ref qm_tape, .int qm_taped, .int qm_size, .int qm_limit, .int qm_to, .int qm_from, .int qm_kind, .int qm_number, .int qm_sign, .int qm_fault, .int qm_place, .long qm_word, .int qm_told, .ref qm_now, .ref qm_read, .ref qm_kept, .ref qm_snaps, .ref qm_aside, .ref qm_name, .ref qm_readName, .ref qm_keptName, .ref qm_isKept, .ref qm_onces, .int qm_snapMany, .ref qm_order, .ref qm_ordered, .int qm_orderMany, .int qm_orderMost, .int qm_passing, .int qm_movedWho, .int qm_scratched, .ref qm_text, .int qm_texts, .int qm_seed, .ref qm_line, .ref qm_written, .int qm_lineMany, .int qm_hasWritten, .ref qm_node, .int qm_nodes, .int qm_onesMany, .int qm_within, .int qm_top]))] ∧ (¬ (tkK b qm_size.toInt qm_limit.toInt pp = 2 ∧ kyN (tkW b qm_size.toInt pp) = 23))) ∨ (r9 = 1 ∧ u9 = [(qm, .inr (10, [.int qm_thrown, .ref qm_tape, .int qm_taped, .int qm_size, .int qm_limit, .int qm_to, .int qm_from, .int qm_kind, .int qm_number, .int qm_sign, .int qm_fault, .int qm_place, .long qm_word, .int qm_told, .ref qm_now, .ref qm_read, .ref qm_kept, .ref qm_snaps, .ref qm_aside, .ref qm_name, .ref qm_readName, .ref qm_keptName, .ref qm_isKept, .ref qm_onces, .int qm_snapMany, .ref qm_order, .ref qm_ordered, .int qm_orderMany, .int qm_orderMost, .int qm_passing, .int qm_movedWho, .int qm_scratched, .ref qm_text, .int qm_texts, .int qm_seed, .ref qm_line, .ref qm_written, .int qm_lineMany, .int qm_hasWritten, .ref qm_node, .int qm_nodes, .int qm_onesMany, .int qm_within, .int qm_top]))] ∧ (tkK b qm_size.toInt qm_limit.toInt pp = 2 ∧ kyN (tkW b qm_size.toInt pp) = 23))) := by
  refine Ci.ofQ (by decide) (Nat.le_of_ble_eq_true rfl) ?_
  intro p e s m below meth c ls A args Q hQ B hw hl
  have C : CallFix p m c cX11_isWord 2 s args gw "LanternStateModel" := B.1
  have hl : lv_has ls 2 [(0, .ref qm), (1, .int 23)] := hl
  have tv22 := hr_3.2.2
  refine lv_aload_n C.1 C.2.1 dX11_isWord_0 rfl (lv_at hl 0 rfl) ?_
  refine x_get C hw iwX11 10 rfl 0 rfl 7 (by decide) kw1200 rfl dX11_isWord_1 ?_
  refine lv_iconst (v := 2) C.1 C.2.1 dX11_isWord_4 (by decide) ?_
  refine lv_icmp_ne (tgt := 24) C.1 C.2.1 dX11_isWord_5 (by decide) (fun c1 => ?_) (fun c1 => ?_)
  · skip
    have c1 : qm_kind.toInt ≠ 2 := i_eqF (X := qm_kind.toInt) (Y := 2) rfl rfl c1
    have bc1_qm_kind := i_bd qm_kind
    refine lv_iconst (v := 0) C.1 C.2.1 dX11_isWord_24 (by decide) ?_
    exact x_retzQ hQ B hw rfl (Or.inl ⟨rfl, rfl, (fun h9 => absurd (show tkW b qm_size.toInt pp = 6559778 from (kyN_is (i := 23) (by decide)).mp h9.2) (by omega))⟩) (Nat.le_of_ble_eq_true rfl) (Nat.le_of_ble_eq_true rfl) dX11_isWord_25
  · skip
    have c1 : qm_kind.toInt = 2 := i_eqT (X := qm_kind.toInt) (Y := 2) rfl rfl c1
    have bc1_qm_kind := i_bd qm_kind
    refine lv_aload_n C.1 C.2.1 dX11_isWord_8 rfl (lv_at hl 0 rfl) ?_
    refine x_get C hw iwX11 10 rfl 0 rfl 12 (by decide) kw1205 rfl dX11_isWord_9 ?_
    refine lv_iload_n C.1 C.2.1 dX11_isWord_12 rfl (lv_at hl 1 rfl) ?_
    refine x_calllS (As := [.int 23]) (rest := [.long qm_word]) (wr := [(qm, .inr (10, [.int qm_thrown, .ref qm_tape, .int qm_taped, .int qm_size, .int qm_limit, .int qm_to, .int qm_from, .int qm_kind, .int qm_number, .int qm_sign, .int qm_fault, .int qm_place, .long qm_word, .int qm_told, .ref qm_now, .ref qm_read, .ref qm_kept, .ref qm_snaps, .ref qm_aside, .ref qm_name, .ref qm_readName, .ref qm_keptName, .ref qm_isKept, .ref qm_onces, .int qm_snapMany, .ref qm_order, .ref qm_ordered, .int qm_orderMany, .int qm_orderMost, .int qm_passing, .int qm_movedWho, .int qm_scratched, .ref qm_text, .int qm_texts, .int qm_seed, .ref qm_line, .ref qm_written, .int qm_lineMany, .int qm_hasWritten, .ref qm_node, .int qm_nodes, .int qm_onesMany, .int qm_within, .int qm_top]))]) C hw e_wordOf_23 mwX11_wordOf kw1363 [] [0] rfl rfl rfl rfl (by decide) rfl hl.1 rfl (Nat.le_of_ble_eq_true rfl) ⟨(Nat.le_of_ble_eq_true rfl), (Nat.le_of_ble_eq_true rfl)⟩ ⟨(Nat.le_of_ble_eq_true rfl), (Nat.le_of_ble_eq_true rfl)⟩ dX11_isWord_13 (fun r2 u9 H locs hp9 hw => ?_)
    obtain ⟨rfl, rfl⟩ := hp9
    have hw : Wd G s A [(qm, .inr (10, [.int qm_thrown, .ref qm_tape, .int qm_taped, .int qm_size, .int qm_limit, .int qm_to, .int qm_from, .int qm_kind, .int qm_number, .int qm_sign, .int qm_fault, .int qm_place, .long qm_word, .int qm_told, .ref qm_now, .ref qm_read, .ref qm_kept, .ref qm_snaps, .ref qm_aside, .ref qm_name, .ref qm_readName, .ref qm_keptName, .ref qm_isKept, .ref qm_onces, .int qm_snapMany, .ref qm_order, .ref qm_ordered, .int qm_orderMany, .int qm_orderMost, .int qm_passing, .int qm_movedWho, .int qm_scratched, .ref qm_text, .int qm_texts, .int qm_seed, .ref qm_line, .ref qm_written, .int qm_lineMany, .int qm_hasWritten, .ref qm_node, .int qm_nodes, .int qm_onesMany, .int qm_within, .int qm_top]))] H _ := hw
    refine W.lcmp C.1 C.2.1 dX11_isWord_16 (x_genP (fun z : Int32 => z.toInt = 0 ↔ qm_word.toInt = 6559778) (l_cmp0 rfl rfl) (fun v3 hv3 => ?_))
    refine lv_if_ne (tgt := 24) C.1 C.2.1 dX11_isWord_17 (by decide) (fun c4 => ?_) (fun c4 => ?_)
    · skip
      have c4 : v3.toInt ≠ 0 := i_eqF (X := v3.toInt) (Y := 0) rfl rfl c4
      have bc4_v3 := i_bd v3
      have d5 : qm_word.toInt ≠ 6559778 := fun q9 => c4 (hv3.mpr q9)
      clear hv3
      refine lv_iconst (v := 0) C.1 C.2.1 dX11_isWord_24 (by decide) ?_
      exact x_retzQ hQ B hw rfl (Or.inl ⟨rfl, rfl, (fun h9 => absurd (show tkW b qm_size.toInt pp = 6559778 from (kyN_is (i := 23) (by decide)).mp h9.2) (by omega))⟩) (Nat.le_of_ble_eq_true rfl) (Nat.le_of_ble_eq_true rfl) dX11_isWord_25
    · skip
      have c4 : v3.toInt = 0 := i_eqT (X := v3.toInt) (Y := 0) rfl rfl c4
      have bc4_v3 := i_bd v3
      have d6 : qm_word.toInt = 6559778 := hv3.mp c4
      clear hv3
      refine lv_iconst (v := 1) C.1 C.2.1 dX11_isWord_20 (by decide) ?_
      refine lv_goto (tgt := 25) C.1 C.2.1 dX11_isWord_21 (by decide) ?_
      exact x_retzQ hQ B hw rfl (Or.inr ⟨rfl, rfl, ⟨by omega, (kyN_is (i := 23) (by decide)).mpr (show tkW b qm_size.toInt pp = 6559778 by omega)⟩⟩) (Nat.le_of_ble_eq_true rfl) (Nat.le_of_ble_eq_true rfl) dX11_isWord_25
set_option maxHeartbeats 4000000 in
set_option maxRecDepth 100000 in
theorem e_isWord_24 {l : Launch} {G : Gc} (qm : Nat) (qm_thrown : Int32) (qm_tape : Nat) (qm_taped : Int32) (qm_size : Int32) (qm_limit : Int32) (qm_to : Int32) (qm_from : Int32) (qm_kind : Int32) (qm_number : Int32) (qm_sign : Int32) (qm_fault : Int32) (qm_place : Int32) (qm_word : Int64) (qm_told : Int32) (qm_now : Nat) (qm_read : Nat) (qm_kept : Nat) (qm_snaps : Nat) (qm_aside : Nat) (qm_name : Nat) (qm_readName : Nat) (qm_keptName : Nat) (qm_isKept : Nat) (qm_onces : Nat) (qm_snapMany : Int32) (qm_order : Nat) (qm_ordered : Nat) (qm_orderMany : Int32) (qm_orderMost : Int32) (qm_passing : Int32) (qm_movedWho : Int32) (qm_scratched : Int32) (qm_text : Nat) (qm_texts : Int32) (qm_seed : Int32) (qm_line : Nat) (qm_written : Nat) (qm_lineMany : Int32) (qm_hasWritten : Int32) (qm_node : Nat) (qm_nodes : Int32) (qm_onesMany : Int32) (qm_within : Int32) (qm_top : Int32) (b : Int → Int) (pp : Int) (hi_qm_size : 0 ≤ qm_size.toInt ∧ qm_size.toInt ≤ 940) (hr_0 : qm_to.toInt = tkX b qm_size.toInt qm_limit.toInt pp) (hr_1 : qm_from.toInt = tkP b qm_size.toInt qm_limit.toInt pp) (hr_2 : qm_kind.toInt = tkK b qm_size.toInt qm_limit.toInt pp) (hr_3 : tkV b qm_size.toInt qm_limit.toInt pp qm_number qm_sign qm_word) : Ci l yX11_isWord cX11_isWord 2 (some .boolean) 2 0 0 G [.ref qm, .int 24] [(qm, .inr (10, [.int qm_thrown, .ref qm_tape, .int qm_taped, .int qm_size, .int qm_limit, .int qm_to, .int qm_from, .int qm_kind, .int qm_number, .int qm_sign, .int qm_fault, .int qm_place, .long qm_word, .int qm_told, .ref qm_now, .ref qm_read, .ref qm_kept, .ref qm_snaps, .ref qm_aside, .ref qm_name, .ref qm_readName, .ref qm_keptName, .ref qm_isKept, .ref qm_onces, .int qm_snapMany, .ref qm_order, .ref qm_ordered, .int qm_orderMany, .int qm_orderMost, .int qm_passing, .int qm_movedWho, .int qm_scratched, .ref qm_text, .int qm_texts, .int qm_seed, .ref qm_line, .ref qm_written, .int qm_lineMany, .int qm_hasWritten, .ref qm_node, .int qm_nodes, .int qm_onesMany, .int qm_within, .int qm_top]))] (fun (r9 : Int32) (u9 : va_W) => (r9 = 0 ∧ u9 = [(qm, .inr (10, [.int qm_thrown, .ref qm_tape, .int qm_taped, .int qm_size, .int qm_limit, .int qm_to, .int qm_from, .int qm_kind, .int qm_number, .int qm_sign, .int qm_fault, .int qm_place, .long qm_word, .int qm_told, .ref qm_now, .ref qm_read, .ref qm_kept, .ref qm_snaps, .ref qm_aside, .ref qm_name, .ref qm_readName, .ref qm_keptName, .ref qm_isKept, .ref qm_onces, .int qm_snapMany, .ref qm_order, .ref qm_ordered, .int qm_orderMany, .int qm_orderMost, .int qm_passing, .int qm_movedWho, .int qm_scratched, .ref qm_text, .int qm_texts, .int qm_seed, .ref qm_line, .ref qm_written, .int qm_lineMany, .int qm_hasWritten, .ref qm_node, .int qm_nodes, .int qm_onesMany, .int qm_within, .int qm_top]))] ∧ (¬ (tkK b qm_size.toInt qm_limit.toInt pp = 2 ∧ kyN (tkW b qm_size.toInt pp) = 24))) ∨ (r9 = 1 ∧ u9 = [(qm, .inr (10, [.int qm_thrown, .ref qm_tape, .int qm_taped, .int qm_size, .int qm_limit, .int qm_to, .int qm_from, .int qm_kind, .int qm_number, .int qm_sign, .int qm_fault, .int qm_place, .long qm_word, .int qm_told, .ref qm_now, .ref qm_read, .ref qm_kept, .ref qm_snaps, .ref qm_aside, .ref qm_name, .ref qm_readName, .ref qm_keptName, .ref qm_isKept, .ref qm_onces, .int qm_snapMany, .ref qm_order, .ref qm_ordered, .int qm_orderMany, .int qm_orderMost, .int qm_passing, .int qm_movedWho, .int qm_scratched, .ref qm_text, .int qm_texts, .int qm_seed, .ref qm_line, .ref qm_written, .int qm_lineMany, .int qm_hasWritten, .ref qm_node, .int qm_nodes, .int qm_onesMany, .int qm_within, .int qm_top]))] ∧ (tkK b qm_size.toInt qm_limit.toInt pp = 2 ∧ kyN (tkW b qm_size.toInt pp) = 24))) := by
  refine Ci.ofQ (by decide) (Nat.le_of_ble_eq_true rfl) ?_
  intro p e s m below meth c ls A args Q hQ B hw hl
  have C : CallFix p m c cX11_isWord 2 s args gw "LanternStateModel" := B.1
  have hl : lv_has ls 2 [(0, .ref qm), (1, .int 24)] := hl
  have tv22 := hr_3.2.2
  refine lv_aload_n C.1 C.2.1 dX11_isWord_0 rfl (lv_at hl 0 rfl) ?_
  refine x_get C hw iwX11 10 rfl 0 rfl 7 (by decide) kw1200 rfl dX11_isWord_1 ?_
  refine lv_iconst (v := 2) C.1 C.2.1 dX11_isWord_4 (by decide) ?_
  refine lv_icmp_ne (tgt := 24) C.1 C.2.1 dX11_isWord_5 (by decide) (fun c1 => ?_) (fun c1 => ?_)
  · skip
    have c1 : qm_kind.toInt ≠ 2 := i_eqF (X := qm_kind.toInt) (Y := 2) rfl rfl c1
    have bc1_qm_kind := i_bd qm_kind
    refine lv_iconst (v := 0) C.1 C.2.1 dX11_isWord_24 (by decide) ?_
    exact x_retzQ hQ B hw rfl (Or.inl ⟨rfl, rfl, (fun h9 => absurd (show tkW b qm_size.toInt pp = 161156 from (kyN_is (i := 24) (by decide)).mp h9.2) (by omega))⟩) (Nat.le_of_ble_eq_true rfl) (Nat.le_of_ble_eq_true rfl) dX11_isWord_25
  · skip
    have c1 : qm_kind.toInt = 2 := i_eqT (X := qm_kind.toInt) (Y := 2) rfl rfl c1
    have bc1_qm_kind := i_bd qm_kind
    refine lv_aload_n C.1 C.2.1 dX11_isWord_8 rfl (lv_at hl 0 rfl) ?_
    refine x_get C hw iwX11 10 rfl 0 rfl 12 (by decide) kw1205 rfl dX11_isWord_9 ?_
    refine lv_iload_n C.1 C.2.1 dX11_isWord_12 rfl (lv_at hl 1 rfl) ?_
    refine x_calllS (As := [.int 24]) (rest := [.long qm_word]) (wr := [(qm, .inr (10, [.int qm_thrown, .ref qm_tape, .int qm_taped, .int qm_size, .int qm_limit, .int qm_to, .int qm_from, .int qm_kind, .int qm_number, .int qm_sign, .int qm_fault, .int qm_place, .long qm_word, .int qm_told, .ref qm_now, .ref qm_read, .ref qm_kept, .ref qm_snaps, .ref qm_aside, .ref qm_name, .ref qm_readName, .ref qm_keptName, .ref qm_isKept, .ref qm_onces, .int qm_snapMany, .ref qm_order, .ref qm_ordered, .int qm_orderMany, .int qm_orderMost, .int qm_passing, .int qm_movedWho, .int qm_scratched, .ref qm_text, .int qm_texts, .int qm_seed, .ref qm_line, .ref qm_written, .int qm_lineMany, .int qm_hasWritten, .ref qm_node, .int qm_nodes, .int qm_onesMany, .int qm_within, .int qm_top]))]) C hw e_wordOf_24 mwX11_wordOf kw1363 [] [0] rfl rfl rfl rfl (by decide) rfl hl.1 rfl (Nat.le_of_ble_eq_true rfl) ⟨(Nat.le_of_ble_eq_true rfl), (Nat.le_of_ble_eq_true rfl)⟩ ⟨(Nat.le_of_ble_eq_true rfl), (Nat.le_of_ble_eq_true rfl)⟩ dX11_isWord_13 (fun r2 u9 H locs hp9 hw => ?_)
    obtain ⟨rfl, rfl⟩ := hp9
    have hw : Wd G s A [(qm, .inr (10, [.int qm_thrown, .ref qm_tape, .int qm_taped, .int qm_size, .int qm_limit, .int qm_to, .int qm_from, .int qm_kind, .int qm_number, .int qm_sign, .int qm_fault, .int qm_place, .long qm_word, .int qm_told, .ref qm_now, .ref qm_read, .ref qm_kept, .ref qm_snaps, .ref qm_aside, .ref qm_name, .ref qm_readName, .ref qm_keptName, .ref qm_isKept, .ref qm_onces, .int qm_snapMany, .ref qm_order, .ref qm_ordered, .int qm_orderMany, .int qm_orderMost, .int qm_passing, .int qm_movedWho, .int qm_scratched, .ref qm_text, .int qm_texts, .int qm_seed, .ref qm_line, .ref qm_written, .int qm_lineMany, .int qm_hasWritten, .ref qm_node, .int qm_nodes, .int qm_onesMany, .int qm_within, .int qm_top]))] H _ := hw
    refine W.lcmp C.1 C.2.1 dX11_isWord_16 (x_genP (fun z : Int32 => z.toInt = 0 ↔ qm_word.toInt = 161156) (l_cmp0 rfl rfl) (fun v3 hv3 => ?_))
    refine lv_if_ne (tgt := 24) C.1 C.2.1 dX11_isWord_17 (by decide) (fun c4 => ?_) (fun c4 => ?_)
    · skip
      have c4 : v3.toInt ≠ 0 := i_eqF (X := v3.toInt) (Y := 0) rfl rfl c4
      have bc4_v3 := i_bd v3
      have d5 : qm_word.toInt ≠ 161156 := fun q9 => c4 (hv3.mpr q9)
      clear hv3
      refine lv_iconst (v := 0) C.1 C.2.1 dX11_isWord_24 (by decide) ?_
      exact x_retzQ hQ B hw rfl (Or.inl ⟨rfl, rfl, (fun h9 => absurd (show tkW b qm_size.toInt pp = 161156 from (kyN_is (i := 24) (by decide)).mp h9.2) (by omega))⟩) (Nat.le_of_ble_eq_true rfl) (Nat.le_of_ble_eq_true rfl) dX11_isWord_25
    · skip
      have c4 : v3.toInt = 0 := i_eqT (X := v3.toInt) (Y := 0) rfl rfl c4
      have bc4_v3 := i_bd v3
      have d6 : qm_word.toInt = 161156 := hv3.mp c4
      clear hv3
      refine lv_iconst (v := 1) C.1 C.2.1 dX11_isWord_20 (by decide) ?_
      refine lv_goto (tgt := 25) C.1 C.2.1 dX11_isWord_21 (by decide) ?_
      exact x_retzQ hQ B hw rfl (Or.inr ⟨rfl, rfl, ⟨by omega, (kyN_is (i := 24) (by decide)).mpr (show tkW b qm_size.toInt pp = 161156 by omega)⟩⟩) (Nat.le_of_ble_eq_true rfl) (Nat.le_of_ble_eq_true rfl) dX11_isWord_25
set_option maxHeartbeats 4000000 in
set_option maxRecDepth 100000 in
theorem e_isWord_25 {l : Launch} {G : Gc} (qm : Nat) (qm_thrown : Int32) (qm_tape : Nat) (qm_taped : Int32) (qm_size : Int32) (qm_limit : Int32) (qm_to : Int32) (qm_from : Int32) (qm_kind : Int32) (qm_number : Int32) (qm_sign : Int32) (qm_fault : Int32) (qm_place : Int32) (qm_word : Int64) (qm_told : Int32) (qm_now : Nat) (qm_read : Nat) (qm_kept : Nat) (qm_snaps : Nat) (qm_aside : Nat) (qm_name : Nat) (qm_readName : Nat) (qm_keptName : Nat) (qm_isKept : Nat) (qm_onces : Nat) (qm_snapMany : Int32) (qm_order : Nat) (qm_ordered : Nat) (qm_orderMany : Int32) (qm_orderMost : Int32) (qm_passing : Int32) (qm_movedWho : Int32) (qm_scratched : Int32) (qm_text : Nat) (qm_texts : Int32) (qm_seed : Int32) (qm_line : Nat) (qm_written : Nat) (qm_lineMany : Int32) (qm_hasWritten : Int32) (qm_node : Nat) (qm_nodes : Int32) (qm_onesMany : Int32) (qm_within : Int32) (qm_top : Int32) (b : Int → Int) (pp : Int) (hi_qm_size : 0 ≤ qm_size.toInt ∧ qm_size.toInt ≤ 940) (hr_0 : qm_to.toInt = tkX b qm_size.toInt qm_limit.toInt pp) (hr_1 : qm_from.toInt = tkP b qm_size.toInt qm_limit.toInt pp) (hr_2 : qm_kind.toInt = tkK b qm_size.toInt qm_limit.toInt pp) (hr_3 : tkV b qm_size.toInt qm_limit.toInt pp qm_number qm_sign qm_word) : Ci l yX11_isWord cX11_isWord 2 (some .boolean) 2 0 0 G [.ref qm, .int 25] [(qm, .inr (10, [.int qm_thrown, .ref qm_tape, .int qm_taped, .int qm_size, .int qm_limit, .int qm_to, .int qm_from, .int qm_kind, .int qm_number, .int qm_sign, .int qm_fault, .int qm_place, .long qm_word, .int qm_told, .ref qm_now, .ref qm_read, .ref qm_kept, .ref qm_snaps, .ref qm_aside, .ref qm_name, .ref qm_readName, .ref qm_keptName, .ref qm_isKept, .ref qm_onces, .int qm_snapMany, .ref qm_order, .ref qm_ordered, .int qm_orderMany, .int qm_orderMost, .int qm_passing, .int qm_movedWho, .int qm_scratched, .ref qm_text, .int qm_texts, .int qm_seed, .ref qm_line, .ref qm_written, .int qm_lineMany, .int qm_hasWritten, .ref qm_node, .int qm_nodes, .int qm_onesMany, .int qm_within, .int qm_top]))] (fun (r9 : Int32) (u9 : va_W) => (r9 = 0 ∧ u9 = [(qm, .inr (10, [.int qm_thrown, .ref qm_tape, .int qm_taped, .int qm_size, .int qm_limit, .int qm_to, .int qm_from, .int qm_kind, .int qm_number, .int qm_sign, .int qm_fault, .int qm_place, .long qm_word, .int qm_told, .ref qm_now, .ref qm_read, .ref qm_kept, .ref qm_snaps, .ref qm_aside, .ref qm_name, .ref qm_readName, .ref qm_keptName, .ref qm_isKept, .ref qm_onces, .int qm_snapMany, .ref qm_order, .ref qm_ordered, .int qm_orderMany, .int qm_orderMost, .int qm_passing, .int qm_movedWho, .int qm_scratched, .ref qm_text, .int qm_texts, .int qm_seed, .ref qm_line, .ref qm_written, .int qm_lineMany, .int qm_hasWritten, .ref qm_node, .int qm_nodes, .int qm_onesMany, .int qm_within, .int qm_top]))] ∧ (¬ (tkK b qm_size.toInt qm_limit.toInt pp = 2 ∧ kyN (tkW b qm_size.toInt pp) = 25))) ∨ (r9 = 1 ∧ u9 = [(qm, .inr (10, [.int qm_thrown, .ref qm_tape, .int qm_taped, .int qm_size, .int qm_limit, .int qm_to, .int qm_from, .int qm_kind, .int qm_number, .int qm_sign, .int qm_fault, .int qm_place, .long qm_word, .int qm_told, .ref qm_now, .ref qm_read, .ref qm_kept, .ref qm_snaps, .ref qm_aside, .ref qm_name, .ref qm_readName, .ref qm_keptName, .ref qm_isKept, .ref qm_onces, .int qm_snapMany, .ref qm_order, .ref qm_ordered, .int qm_orderMany, .int qm_orderMost, .int qm_passing, .int qm_movedWho, .int qm_scratched, .ref qm_text, .int qm_texts, .int qm_seed, .ref qm_line, .ref qm_written, .int qm_lineMany, .int qm_hasWritten, .ref qm_node, .int qm_nodes, .int qm_onesMany, .int qm_within, .int qm_top]))] ∧ (tkK b qm_size.toInt qm_limit.toInt pp = 2 ∧ kyN (tkW b qm_size.toInt pp) = 25))) := by
  refine Ci.ofQ (by decide) (Nat.le_of_ble_eq_true rfl) ?_
  intro p e s m below meth c ls A args Q hQ B hw hl
  have C : CallFix p m c cX11_isWord 2 s args gw "LanternStateModel" := B.1
  have hl : lv_has ls 2 [(0, .ref qm), (1, .int 25)] := hl
  have tv22 := hr_3.2.2
  refine lv_aload_n C.1 C.2.1 dX11_isWord_0 rfl (lv_at hl 0 rfl) ?_
  refine x_get C hw iwX11 10 rfl 0 rfl 7 (by decide) kw1200 rfl dX11_isWord_1 ?_
  refine lv_iconst (v := 2) C.1 C.2.1 dX11_isWord_4 (by decide) ?_
  refine lv_icmp_ne (tgt := 24) C.1 C.2.1 dX11_isWord_5 (by decide) (fun c1 => ?_) (fun c1 => ?_)
  · skip
    have c1 : qm_kind.toInt ≠ 2 := i_eqF (X := qm_kind.toInt) (Y := 2) rfl rfl c1
    have bc1_qm_kind := i_bd qm_kind
    refine lv_iconst (v := 0) C.1 C.2.1 dX11_isWord_24 (by decide) ?_
    exact x_retzQ hQ B hw rfl (Or.inl ⟨rfl, rfl, (fun h9 => absurd (show tkW b qm_size.toInt pp = 10279864 from (kyN_is (i := 25) (by decide)).mp h9.2) (by omega))⟩) (Nat.le_of_ble_eq_true rfl) (Nat.le_of_ble_eq_true rfl) dX11_isWord_25
  · skip
    have c1 : qm_kind.toInt = 2 := i_eqT (X := qm_kind.toInt) (Y := 2) rfl rfl c1
    have bc1_qm_kind := i_bd qm_kind
    refine lv_aload_n C.1 C.2.1 dX11_isWord_8 rfl (lv_at hl 0 rfl) ?_
    refine x_get C hw iwX11 10 rfl 0 rfl 12 (by decide) kw1205 rfl dX11_isWord_9 ?_
    refine lv_iload_n C.1 C.2.1 dX11_isWord_12 rfl (lv_at hl 1 rfl) ?_
    refine x_calllS (As := [.int 25]) (rest := [.long qm_word]) (wr := [(qm, .inr (10, [.int qm_thrown, .ref qm_tape, .int qm_taped, .int qm_size, .int qm_limit, .int qm_to, .int qm_from, .int qm_kind, .int qm_number, .int qm_sign, .int qm_fault, .int qm_place, .long qm_word, .int qm_told, .ref qm_now, .ref qm_read, .ref qm_kept, .ref qm_snaps, .ref qm_aside, .ref qm_name, .ref qm_readName, .ref qm_keptName, .ref qm_isKept, .ref qm_onces, .int qm_snapMany, .ref qm_order, .ref qm_ordered, .int qm_orderMany, .int qm_orderMost, .int qm_passing, .int qm_movedWho, .int qm_scratched, .ref qm_text, .int qm_texts, .int qm_seed, .ref qm_line, .ref qm_written, .int qm_lineMany, .int qm_hasWritten, .ref qm_node, .int qm_nodes, .int qm_onesMany, .int qm_within, .int qm_top]))]) C hw e_wordOf_25 mwX11_wordOf kw1363 [] [0] rfl rfl rfl rfl (by decide) rfl hl.1 rfl (Nat.le_of_ble_eq_true rfl) ⟨(Nat.le_of_ble_eq_true rfl), (Nat.le_of_ble_eq_true rfl)⟩ ⟨(Nat.le_of_ble_eq_true rfl), (Nat.le_of_ble_eq_true rfl)⟩ dX11_isWord_13 (fun r2 u9 H locs hp9 hw => ?_)
    obtain ⟨rfl, rfl⟩ := hp9
    have hw : Wd G s A [(qm, .inr (10, [.int qm_thrown, .ref qm_tape, .int qm_taped, .int qm_size, .int qm_limit, .int qm_to, .int qm_from, .int qm_kind, .int qm_number, .int qm_sign, .int qm_fault, .int qm_place, .long qm_word, .int qm_told, .ref qm_now, .ref qm_read, .ref qm_kept, .ref qm_snaps, .ref qm_aside, .ref qm_name, .ref qm_readName, .ref qm_keptName, .ref qm_isKept, .ref qm_onces, .int qm_snapMany, .ref qm_order, .ref qm_ordered, .int qm_orderMany, .int qm_orderMost, .int qm_passing, .int qm_movedWho, .int qm_scratched, .ref qm_text, .int qm_texts, .int qm_seed, .ref qm_line, .ref qm_written, .int qm_lineMany, .int qm_hasWritten, .ref qm_node, .int qm_nodes, .int qm_onesMany, .int qm_within, .int qm_top]))] H _ := hw
    refine W.lcmp C.1 C.2.1 dX11_isWord_16 (x_genP (fun z : Int32 => z.toInt = 0 ↔ qm_word.toInt = 10279864) (l_cmp0 rfl rfl) (fun v3 hv3 => ?_))
    refine lv_if_ne (tgt := 24) C.1 C.2.1 dX11_isWord_17 (by decide) (fun c4 => ?_) (fun c4 => ?_)
    · skip
      have c4 : v3.toInt ≠ 0 := i_eqF (X := v3.toInt) (Y := 0) rfl rfl c4
      have bc4_v3 := i_bd v3
      have d5 : qm_word.toInt ≠ 10279864 := fun q9 => c4 (hv3.mpr q9)
      clear hv3
      refine lv_iconst (v := 0) C.1 C.2.1 dX11_isWord_24 (by decide) ?_
      exact x_retzQ hQ B hw rfl (Or.inl ⟨rfl, rfl, (fun h9 => absurd (show tkW b qm_size.toInt pp = 10279864 from (kyN_is (i := 25) (by decide)).mp h9.2) (by omega))⟩) (Nat.le_of_ble_eq_true rfl) (Nat.le_of_ble_eq_true rfl) dX11_isWord_25
    · skip
      have c4 : v3.toInt = 0 := i_eqT (X := v3.toInt) (Y := 0) rfl rfl c4
      have bc4_v3 := i_bd v3
      have d6 : qm_word.toInt = 10279864 := hv3.mp c4
      clear hv3
      refine lv_iconst (v := 1) C.1 C.2.1 dX11_isWord_20 (by decide) ?_
      refine lv_goto (tgt := 25) C.1 C.2.1 dX11_isWord_21 (by decide) ?_
      exact x_retzQ hQ B hw rfl (Or.inr ⟨rfl, rfl, ⟨by omega, (kyN_is (i := 25) (by decide)).mpr (show tkW b qm_size.toInt pp = 10279864 by omega)⟩⟩) (Nat.le_of_ble_eq_true rfl) (Nat.le_of_ble_eq_true rfl) dX11_isWord_25
set_option maxHeartbeats 4000000 in
set_option maxRecDepth 100000 in
theorem e_isWord_26 {l : Launch} {G : Gc} (qm : Nat) (qm_thrown : Int32) (qm_tape : Nat) (qm_taped : Int32) (qm_size : Int32) (qm_limit : Int32) (qm_to : Int32) (qm_from : Int32) (qm_kind : Int32) (qm_number : Int32) (qm_sign : Int32) (qm_fault : Int32) (qm_place : Int32) (qm_word : Int64) (qm_told : Int32) (qm_now : Nat) (qm_read : Nat) (qm_kept : Nat) (qm_snaps : Nat) (qm_aside : Nat) (qm_name : Nat) (qm_readName : Nat) (qm_keptName : Nat) (qm_isKept : Nat) (qm_onces : Nat) (qm_snapMany : Int32) (qm_order : Nat) (qm_ordered : Nat) (qm_orderMany : Int32) (qm_orderMost : Int32) (qm_passing : Int32) (qm_movedWho : Int32) (qm_scratched : Int32) (qm_text : Nat) (qm_texts : Int32) (qm_seed : Int32) (qm_line : Nat) (qm_written : Nat) (qm_lineMany : Int32) (qm_hasWritten : Int32) (qm_node : Nat) (qm_nodes : Int32) (qm_onesMany : Int32) (qm_within : Int32) (qm_top : Int32) (b : Int → Int) (pp : Int) (hi_qm_size : 0 ≤ qm_size.toInt ∧ qm_size.toInt ≤ 940) (hr_0 : qm_to.toInt = tkX b qm_size.toInt qm_limit.toInt pp) (hr_1 : qm_from.toInt = tkP b qm_size.toInt qm_limit.toInt pp) (hr_2 : qm_kind.toInt = tkK b qm_size.toInt qm_limit.toInt pp) (hr_3 : tkV b qm_size.toInt qm_limit.toInt pp qm_number qm_sign qm_word) : Ci l yX11_isWord cX11_isWord 2 (some .boolean) 2 0 0 G [.ref qm, .int 26] [(qm, .inr (10, [.int qm_thrown, .ref qm_tape, .int qm_taped, .int qm_size, .int qm_limit, .int qm_to, .int qm_from, .int qm_kind, .int qm_number, .int qm_sign, .int qm_fault, .int qm_place, .long qm_word, .int qm_told, .ref qm_now, .ref qm_read, .ref qm_kept, .ref qm_snaps, .ref qm_aside, .ref qm_name, .ref qm_readName, .ref qm_keptName, .ref qm_isKept, .ref qm_onces, .int qm_snapMany, .ref qm_order, .ref qm_ordered, .int qm_orderMany, .int qm_orderMost, .int qm_passing, .int qm_movedWho, .int qm_scratched, .ref qm_text, .int qm_texts, .int qm_seed, .ref qm_line, .ref qm_written, .int qm_lineMany, .int qm_hasWritten, .ref qm_node, .int qm_nodes, .int qm_onesMany, .int qm_within, .int qm_top]))] (fun (r9 : Int32) (u9 : va_W) => (r9 = 0 ∧ u9 = [(qm, .inr (10, [.int qm_thrown, .ref qm_tape, .int qm_taped, .int qm_size, .int qm_limit, .int qm_to, .int qm_from, .int qm_kind, .int qm_number, .int qm_sign, .int qm_fault, .int qm_place, .long qm_word, .int qm_told, .ref qm_now, .ref qm_read, .ref qm_kept, .ref qm_snaps, .ref qm_aside, .ref qm_name, .ref qm_readName, .ref qm_keptName, .ref qm_isKept, .ref qm_onces, .int qm_snapMany, .ref qm_order, .ref qm_ordered, .int qm_orderMany, .int qm_orderMost, .int qm_passing, .int qm_movedWho, .int qm_scratched, .ref qm_text, .int qm_texts, .int qm_seed, .ref qm_line, .ref qm_written, .int qm_lineMany, .int qm_hasWritten, .ref qm_node, .int qm_nodes, .int qm_onesMany, .int qm_within, .int qm_top]))] ∧ (¬ (tkK b qm_size.toInt qm_limit.toInt pp = 2 ∧ kyN (tkW b qm_size.toInt pp) = 26))) ∨ (r9 = 1 ∧ u9 = [(qm, .inr (10, [.int qm_thrown, .ref qm_tape, .int qm_taped, .int qm_size, .int qm_limit, .int qm_to, .int qm_from, .int qm_kind, .int qm_number, .int qm_sign, .int qm_fault, .int qm_place, .long qm_word, .int qm_told, .ref qm_now, .ref qm_read, .ref qm_kept, .ref qm_snaps, .ref qm_aside, .ref qm_name, .ref qm_readName, .ref qm_keptName, .ref qm_isKept, .ref qm_onces, .int qm_snapMany, .ref qm_order, .ref qm_ordered, .int qm_orderMany, .int qm_orderMost, .int qm_passing, .int qm_movedWho, .int qm_scratched, .ref qm_text, .int qm_texts, .int qm_seed, .ref qm_line, .ref qm_written, .int qm_lineMany, .int qm_hasWritten, .ref qm_node, .int qm_nodes, .int qm_onesMany, .int qm_within, .int qm_top]))] ∧ (tkK b qm_size.toInt qm_limit.toInt pp = 2 ∧ kyN (tkW b qm_size.toInt pp) = 26))) := by
  refine Ci.ofQ (by decide) (Nat.le_of_ble_eq_true rfl) ?_
  intro p e s m below meth c ls A args Q hQ B hw hl
  have C : CallFix p m c cX11_isWord 2 s args gw "LanternStateModel" := B.1
  have hl : lv_has ls 2 [(0, .ref qm), (1, .int 26)] := hl
  have tv22 := hr_3.2.2
  refine lv_aload_n C.1 C.2.1 dX11_isWord_0 rfl (lv_at hl 0 rfl) ?_
  refine x_get C hw iwX11 10 rfl 0 rfl 7 (by decide) kw1200 rfl dX11_isWord_1 ?_
  refine lv_iconst (v := 2) C.1 C.2.1 dX11_isWord_4 (by decide) ?_
  refine lv_icmp_ne (tgt := 24) C.1 C.2.1 dX11_isWord_5 (by decide) (fun c1 => ?_) (fun c1 => ?_)
  · skip
    have c1 : qm_kind.toInt ≠ 2 := i_eqF (X := qm_kind.toInt) (Y := 2) rfl rfl c1
    have bc1_qm_kind := i_bd qm_kind
    refine lv_iconst (v := 0) C.1 C.2.1 dX11_isWord_24 (by decide) ?_
    exact x_retzQ hQ B hw rfl (Or.inl ⟨rfl, rfl, (fun h9 => absurd (show tkW b qm_size.toInt pp = 212302449 from (kyN_is (i := 26) (by decide)).mp h9.2) (by omega))⟩) (Nat.le_of_ble_eq_true rfl) (Nat.le_of_ble_eq_true rfl) dX11_isWord_25
  · skip
    have c1 : qm_kind.toInt = 2 := i_eqT (X := qm_kind.toInt) (Y := 2) rfl rfl c1
    have bc1_qm_kind := i_bd qm_kind
    refine lv_aload_n C.1 C.2.1 dX11_isWord_8 rfl (lv_at hl 0 rfl) ?_
    refine x_get C hw iwX11 10 rfl 0 rfl 12 (by decide) kw1205 rfl dX11_isWord_9 ?_
    refine lv_iload_n C.1 C.2.1 dX11_isWord_12 rfl (lv_at hl 1 rfl) ?_
    refine x_calllS (As := [.int 26]) (rest := [.long qm_word]) (wr := [(qm, .inr (10, [.int qm_thrown, .ref qm_tape, .int qm_taped, .int qm_size, .int qm_limit, .int qm_to, .int qm_from, .int qm_kind, .int qm_number, .int qm_sign, .int qm_fault, .int qm_place, .long qm_word, .int qm_told, .ref qm_now, .ref qm_read, .ref qm_kept, .ref qm_snaps, .ref qm_aside, .ref qm_name, .ref qm_readName, .ref qm_keptName, .ref qm_isKept, .ref qm_onces, .int qm_snapMany, .ref qm_order, .ref qm_ordered, .int qm_orderMany, .int qm_orderMost, .int qm_passing, .int qm_movedWho, .int qm_scratched, .ref qm_text, .int qm_texts, .int qm_seed, .ref qm_line, .ref qm_written, .int qm_lineMany, .int qm_hasWritten, .ref qm_node, .int qm_nodes, .int qm_onesMany, .int qm_within, .int qm_top]))]) C hw e_wordOf_26 mwX11_wordOf kw1363 [] [0] rfl rfl rfl rfl (by decide) rfl hl.1 rfl (Nat.le_of_ble_eq_true rfl) ⟨(Nat.le_of_ble_eq_true rfl), (Nat.le_of_ble_eq_true rfl)⟩ ⟨(Nat.le_of_ble_eq_true rfl), (Nat.le_of_ble_eq_true rfl)⟩ dX11_isWord_13 (fun r2 u9 H locs hp9 hw => ?_)
    obtain ⟨rfl, rfl⟩ := hp9
    have hw : Wd G s A [(qm, .inr (10, [.int qm_thrown, .ref qm_tape, .int qm_taped, .int qm_size, .int qm_limit, .int qm_to, .int qm_from, .int qm_kind, .int qm_number, .int qm_sign, .int qm_fault, .int qm_place, .long qm_word, .int qm_told, .ref qm_now, .ref qm_read, .ref qm_kept, .ref qm_snaps, .ref qm_aside, .ref qm_name, .ref qm_readName, .ref qm_keptName, .ref qm_isKept, .ref qm_onces, .int qm_snapMany, .ref qm_order, .ref qm_ordered, .int qm_orderMany, .int qm_orderMost, .int qm_passing, .int qm_movedWho, .int qm_scratched, .ref qm_text, .int qm_texts, .int qm_seed, .ref qm_line, .ref qm_written, .int qm_lineMany, .int qm_hasWritten, .ref qm_node, .int qm_nodes, .int qm_onesMany, .int qm_within, .int qm_top]))] H _ := hw
    refine W.lcmp C.1 C.2.1 dX11_isWord_16 (x_genP (fun z : Int32 => z.toInt = 0 ↔ qm_word.toInt = 212302449) (l_cmp0 rfl rfl) (fun v3 hv3 => ?_))
    refine lv_if_ne (tgt := 24) C.1 C.2.1 dX11_isWord_17 (by decide) (fun c4 => ?_) (fun c4 => ?_)
    · skip
      have c4 : v3.toInt ≠ 0 := i_eqF (X := v3.toInt) (Y := 0) rfl rfl c4
      have bc4_v3 := i_bd v3
      have d5 : qm_word.toInt ≠ 212302449 := fun q9 => c4 (hv3.mpr q9)
      clear hv3
      refine lv_iconst (v := 0) C.1 C.2.1 dX11_isWord_24 (by decide) ?_
      exact x_retzQ hQ B hw rfl (Or.inl ⟨rfl, rfl, (fun h9 => absurd (show tkW b qm_size.toInt pp = 212302449 from (kyN_is (i := 26) (by decide)).mp h9.2) (by omega))⟩) (Nat.le_of_ble_eq_true rfl) (Nat.le_of_ble_eq_true rfl) dX11_isWord_25
    · skip
      have c4 : v3.toInt = 0 := i_eqT (X := v3.toInt) (Y := 0) rfl rfl c4
      have bc4_v3 := i_bd v3
      have d6 : qm_word.toInt = 212302449 := hv3.mp c4
      clear hv3
      refine lv_iconst (v := 1) C.1 C.2.1 dX11_isWord_20 (by decide) ?_
      refine lv_goto (tgt := 25) C.1 C.2.1 dX11_isWord_21 (by decide) ?_
      exact x_retzQ hQ B hw rfl (Or.inr ⟨rfl, rfl, ⟨by omega, (kyN_is (i := 26) (by decide)).mpr (show tkW b qm_size.toInt pp = 212302449 by omega)⟩⟩) (Nat.le_of_ble_eq_true rfl) (Nat.le_of_ble_eq_true rfl) dX11_isWord_25
theorem dX11_isName_0 : decode cX11_isName 0 = .ok (.aload_n 0, 1) := by decide +kernel
theorem dX11_isName_1 : decode cX11_isName 1 = .ok (.getfield 30, 3) := by decide +kernel
theorem dX11_isName_4 : decode cX11_isName 4 = .ok (.iconst 2, 1) := by decide +kernel
theorem dX11_isName_5 : decode cX11_isName 5 = .ok (.if_icmp .eq 5, 3) := by decide +kernel
theorem dX11_isName_10 : decode cX11_isName 10 = .ok (.iconst 0, 1) := by decide +kernel
theorem dX11_isName_11 : decode cX11_isName 11 = .ok (.istore_n 1, 1) := by decide +kernel
theorem dX11_isName_12 : decode cX11_isName 12 = .ok (.iload_n 1, 1) := by decide +kernel
theorem dX11_isName_13 : decode cX11_isName 13 = .ok (.bipush 26, 2) := by decide +kernel
theorem dX11_isName_15 : decode cX11_isName 15 = .ok (.if_icmp .gt 23, 3) := by decide +kernel
theorem dX11_isName_18 : decode cX11_isName 18 = .ok (.aload_n 0, 1) := by decide +kernel
theorem dX11_isName_19 : decode cX11_isName 19 = .ok (.getfield 43, 3) := by decide +kernel
theorem dX11_isName_22 : decode cX11_isName 22 = .ok (.iload_n 1, 1) := by decide +kernel
theorem dX11_isName_23 : decode cX11_isName 23 = .ok (.invokestatic 62, 3) := by decide +kernel
theorem dX11_isName_26 : decode cX11_isName 26 = .ok (.lcmp, 1) := by decide +kernel
theorem dX11_isName_27 : decode cX11_isName 27 = .ok (.ifCond .ne 5, 3) := by decide +kernel
theorem dX11_isName_32 : decode cX11_isName 32 = .ok (.iinc 1 1, 3) := by decide +kernel
theorem dX11_isName_35 : decode cX11_isName 35 = .ok (.goto (-23), 3) := by decide +kernel
theorem dX11_isName_38 : decode cX11_isName 38 = .ok (.iconst 1, 1) := by decide +kernel
theorem dX11_isName_39 : decode cX11_isName 39 = .ok (.ireturn, 1) := by decide +kernel
theorem dX11_isName_30 : decode cX11_isName 30 = .ok (.iconst 0, 1) := by decide +kernel
theorem dX11_isName_31 : decode cX11_isName 31 = .ok (.ireturn, 1) := by decide +kernel
theorem dX11_isName_8 : decode cX11_isName 8 = .ok (.iconst 0, 1) := by decide +kernel
theorem dX11_isName_9 : decode cX11_isName 9 = .ok (.ireturn, 1) := by decide +kernel
set_option maxHeartbeats 4000000 in
set_option maxRecDepth 100000 in
theorem e_X11_isName {l : Launch} {G : Gc} (qm : Nat) (qm_thrown : Int32) (qm_tape : Nat) (qm_taped : Int32) (qm_size : Int32) (qm_limit : Int32) (qm_to : Int32) (qm_from : Int32) (qm_kind : Int32) (qm_number : Int32) (qm_sign : Int32) (qm_fault : Int32) (qm_place : Int32) (qm_word : Int64) (qm_told : Int32) (qm_now : Nat) (qm_read : Nat) (qm_kept : Nat) (qm_snaps : Nat) (qm_aside : Nat) (qm_name : Nat) (qm_readName : Nat) (qm_keptName : Nat) (qm_isKept : Nat) (qm_onces : Nat) (qm_snapMany : Int32) (qm_order : Nat) (qm_ordered : Nat) (qm_orderMany : Int32) (qm_orderMost : Int32) (qm_passing : Int32) (qm_movedWho : Int32) (qm_scratched : Int32) (qm_text : Nat) (qm_texts : Int32) (qm_seed : Int32) (qm_line : Nat) (qm_written : Nat) (qm_lineMany : Int32) (qm_hasWritten : Int32) (qm_node : Nat) (qm_nodes : Int32) (qm_onesMany : Int32) (qm_within : Int32) (qm_top : Int32) (b : Int → Int) (pp : Int) (hi_qm_size : 0 ≤ qm_size.toInt ∧ qm_size.toInt ≤ 940) (hr_0 : qm_to.toInt = tkX b qm_size.toInt qm_limit.toInt pp) (hr_1 : qm_from.toInt = tkP b qm_size.toInt qm_limit.toInt pp) (hr_2 : qm_kind.toInt = tkK b qm_size.toInt qm_limit.toInt pp) (hr_3 : tkV b qm_size.toInt qm_limit.toInt pp qm_number qm_sign qm_word) : Ci l yX11_isName cX11_isName 2 (some .boolean) 2 0 0 G [.ref qm] [(qm, .inr (10, [.int qm_thrown, .ref qm_tape, .int qm_taped, .int qm_size, .int qm_limit, .int qm_to, .int qm_from, .int qm_kind, .int qm_number, .int qm_sign, .int qm_fault, .int qm_place, .long qm_word, .int qm_told, .ref qm_now, .ref qm_read, .ref qm_kept, .ref qm_snaps, .ref qm_aside, .ref qm_name, .ref qm_readName, .ref qm_keptName, .ref qm_isKept, .ref qm_onces, .int qm_snapMany, .ref qm_order, .ref qm_ordered, .int qm_orderMany, .int qm_orderMost, .int qm_passing, .int qm_movedWho, .int qm_scratched, .ref qm_text, .int qm_texts, .int qm_seed, .ref qm_line, .ref qm_written, .int qm_lineMany, .int qm_hasWritten, .ref qm_node, .int qm_nodes, .int qm_onesMany, .int qm_within, .int qm_top]))] (fun (r9 : Int32) (u9 : va_W) => (r9 = 0 ∧ u9 = [(qm, .inr (10, [.int qm_thrown, .ref qm_tape, .int qm_taped, .int qm_size, .int qm_limit, .int qm_to, .int qm_from, .int qm_kind, .int qm_number, .int qm_sign, .int qm_fault, .int qm_place, .long qm_word, .int qm_told, .ref qm_now, .ref qm_read, .ref qm_kept, .ref qm_snaps, .ref qm_aside, .ref qm_name, .ref qm_readName, .ref qm_keptName, .ref qm_isKept, .ref qm_onces, .int qm_snapMany, .ref qm_order, .ref qm_ordered, .int qm_orderMany, .int qm_orderMost, .int qm_passing, .int qm_movedWho, .int qm_scratched, .ref qm_text, .int qm_texts, .int qm_seed, .ref qm_line, .ref qm_written, .int qm_lineMany, .int qm_hasWritten, .ref qm_node, .int qm_nodes, .int qm_onesMany, .int qm_within, .int qm_top]))] ∧ (¬ (tkK b qm_size.toInt qm_limit.toInt pp = 2 ∧ kyN (tkW b qm_size.toInt pp) = -1))) ∨ (r9 = 1 ∧ u9 = [(qm, .inr (10, [.int qm_thrown, .ref qm_tape, .int qm_taped, .int qm_size, .int qm_limit, .int qm_to, .int qm_from, .int qm_kind, .int qm_number, .int qm_sign, .int qm_fault, .int qm_place, .long qm_word, .int qm_told, .ref qm_now, .ref qm_read, .ref qm_kept, .ref qm_snaps, .ref qm_aside, .ref qm_name, .ref qm_readName, .ref qm_keptName, .ref qm_isKept, .ref qm_onces, .int qm_snapMany, .ref qm_order, .ref qm_ordered, .int qm_orderMany, .int qm_orderMost, .int qm_passing, .int qm_movedWho, .int qm_scratched, .ref qm_text, .int qm_texts, .int qm_seed, .ref qm_line, .ref qm_written, .int qm_lineMany, .int qm_hasWritten, .ref qm_node, .int qm_nodes, .int qm_onesMany, .int qm_within, .int qm_top]))] ∧ (tkK b qm_size.toInt qm_limit.toInt pp = 2 ∧ kyN (tkW b qm_size.toInt pp) = -1))) := by
  refine Ci.ofQ (by decide) (Nat.le_of_ble_eq_true rfl) ?_
  intro p e s m below meth c ls A args Q hQ B hw hl
  have C : CallFix p m c cX11_isName 2 s args gw "LanternStateModel" := B.1
  have hl : lv_has ls 2 [(0, .ref qm)] := hl
  refine lv_aload_n C.1 C.2.1 dX11_isName_0 rfl (lv_at hl 0 rfl) ?_
  refine x_get C hw iwX11 10 rfl 0 rfl 7 (by decide) kw1200 rfl dX11_isName_1 ?_
  refine lv_iconst (v := 2) C.1 C.2.1 dX11_isName_4 (by decide) ?_
  refine lv_icmp_eq (tgt := 10) C.1 C.2.1 dX11_isName_5 (by decide) (fun c1 => ?_) (fun c1 => ?_)
  · skip
    have c1 : qm_kind.toInt = 2 := i_eqT (X := qm_kind.toInt) (Y := 2) rfl rfl c1
    have bc1_qm_kind := i_bd qm_kind
    have hk2 : tkK b qm_size.toInt qm_limit.toInt pp = 2 := by omega
    have hwd : qm_word.toInt = tkW b qm_size.toInt pp := hr_3.2.2 hk2
    refine lv_iconst (v := 0) C.1 C.2.1 dX11_isName_10 (by decide) ?_
    refine lv_istore_n (lv' := [(1, .int 0), (0, .ref qm)]) C.1 C.2.1 dX11_isName_11 rfl hl (by decide) rfl (fun ls hl => ?_)
    refine lv_iload_n C.1 C.2.1 dX11_isName_12 rfl (lv_at hl 0 rfl) ?_
    refine lv_bipush (v := 26) C.1 C.2.1 dX11_isName_13 (by decide) ?_
    refine lv_icmp_gt (tgt := 38) C.1 C.2.1 dX11_isName_15 (by decide) (fun h9 => absurd h9 (by decide)) (fun _ => ?_)
    refine lv_aload_n C.1 C.2.1 dX11_isName_18 rfl (lv_at hl 1 rfl) ?_
    refine x_get C hw iwX11 10 rfl 0 rfl 12 (by decide) kw1205 rfl dX11_isName_19 ?_
    refine lv_iload_n C.1 C.2.1 dX11_isName_22 rfl (lv_at hl 0 rfl) ?_
    refine x_calllS (As := [.int 0]) (rest := [.long qm_word]) (wr := [(qm, .inr (10, [.int qm_thrown, .ref qm_tape, .int qm_taped, .int qm_size, .int qm_limit, .int qm_to, .int qm_from, .int qm_kind, .int qm_number, .int qm_sign, .int qm_fault, .int qm_place, .long qm_word, .int qm_told, .ref qm_now, .ref qm_read, .ref qm_kept, .ref qm_snaps, .ref qm_aside, .ref qm_name, .ref qm_readName, .ref qm_keptName, .ref qm_isKept, .ref qm_onces, .int qm_snapMany, .ref qm_order, .ref qm_ordered, .int qm_orderMany, .int qm_orderMost, .int qm_passing, .int qm_movedWho, .int qm_scratched, .ref qm_text, .int qm_texts, .int qm_seed, .ref qm_line, .ref qm_written, .int qm_lineMany, .int qm_hasWritten, .ref qm_node, .int qm_nodes, .int qm_onesMany, .int qm_within, .int qm_top]))]) C hw e_wordOf_0 mwX11_wordOf kw1363 [] [0] rfl rfl rfl rfl (by decide) rfl hl.1 rfl (Nat.le_of_ble_eq_true rfl) ⟨(Nat.le_of_ble_eq_true rfl), (Nat.le_of_ble_eq_true rfl)⟩ ⟨(Nat.le_of_ble_eq_true rfl), (Nat.le_of_ble_eq_true rfl)⟩ dX11_isName_23 (fun r2 u9 H locs hp9 hw => ?_)
    obtain ⟨rfl, rfl⟩ := hp9
    have hw : Wd G s A [(qm, .inr (10, [.int qm_thrown, .ref qm_tape, .int qm_taped, .int qm_size, .int qm_limit, .int qm_to, .int qm_from, .int qm_kind, .int qm_number, .int qm_sign, .int qm_fault, .int qm_place, .long qm_word, .int qm_told, .ref qm_now, .ref qm_read, .ref qm_kept, .ref qm_snaps, .ref qm_aside, .ref qm_name, .ref qm_readName, .ref qm_keptName, .ref qm_isKept, .ref qm_onces, .int qm_snapMany, .ref qm_order, .ref qm_ordered, .int qm_orderMany, .int qm_orderMost, .int qm_passing, .int qm_movedWho, .int qm_scratched, .ref qm_text, .int qm_texts, .int qm_seed, .ref qm_line, .ref qm_written, .int qm_lineMany, .int qm_hasWritten, .ref qm_node, .int qm_nodes, .int qm_onesMany, .int qm_within, .int qm_top]))] H _ := hw
    refine W.lcmp C.1 C.2.1 dX11_isName_26 (x_genP (fun z : Int32 => z.toInt = 0 ↔ qm_word.toInt = 10340249) (l_cmp0 rfl rfl) (fun v3 hv3 => ?_))
    refine lv_if_ne (tgt := 32) C.1 C.2.1 dX11_isName_27 (by decide) (fun c4 => ?_) (fun c4 => ?_)
    · skip
      have c4 : v3.toInt ≠ 0 := i_eqF (X := v3.toInt) (Y := 0) rfl rfl c4
      have bc4_v3 := i_bd v3
      have d5 : qm_word.toInt ≠ 10340249 := fun q9 => c4 (hv3.mpr q9)
      clear hv3
      refine lv_iinc (v := 1) (lv' := [(1, .int 1), (0, .ref qm)]) C.1 C.2.1 dX11_isName_32 hl (k := 0) rfl (by decide) (by decide) rfl (fun ls hl => ?_)
      refine lv_goto (tgt := 12) C.1 C.2.1 dX11_isName_35 (by decide) ?_
      refine lv_iload_n C.1 C.2.1 dX11_isName_12 rfl (lv_at hl 0 rfl) ?_
      refine lv_bipush (v := 26) C.1 C.2.1 dX11_isName_13 (by decide) ?_
      refine lv_icmp_gt (tgt := 38) C.1 C.2.1 dX11_isName_15 (by decide) (fun h9 => absurd h9 (by decide)) (fun _ => ?_)
      refine lv_aload_n C.1 C.2.1 dX11_isName_18 rfl (lv_at hl 1 rfl) ?_
      refine x_get C hw iwX11 10 rfl 0 rfl 12 (by decide) kw1205 rfl dX11_isName_19 ?_
      refine lv_iload_n C.1 C.2.1 dX11_isName_22 rfl (lv_at hl 0 rfl) ?_
      refine x_calllS (As := [.int 1]) (rest := [.long qm_word]) (wr := [(qm, .inr (10, [.int qm_thrown, .ref qm_tape, .int qm_taped, .int qm_size, .int qm_limit, .int qm_to, .int qm_from, .int qm_kind, .int qm_number, .int qm_sign, .int qm_fault, .int qm_place, .long qm_word, .int qm_told, .ref qm_now, .ref qm_read, .ref qm_kept, .ref qm_snaps, .ref qm_aside, .ref qm_name, .ref qm_readName, .ref qm_keptName, .ref qm_isKept, .ref qm_onces, .int qm_snapMany, .ref qm_order, .ref qm_ordered, .int qm_orderMany, .int qm_orderMost, .int qm_passing, .int qm_movedWho, .int qm_scratched, .ref qm_text, .int qm_texts, .int qm_seed, .ref qm_line, .ref qm_written, .int qm_lineMany, .int qm_hasWritten, .ref qm_node, .int qm_nodes, .int qm_onesMany, .int qm_within, .int qm_top]))]) C hw e_wordOf_1 mwX11_wordOf kw1363 [] [0] rfl rfl rfl rfl (by decide) rfl hl.1 rfl (Nat.le_of_ble_eq_true rfl) ⟨(Nat.le_of_ble_eq_true rfl), (Nat.le_of_ble_eq_true rfl)⟩ ⟨(Nat.le_of_ble_eq_true rfl), (Nat.le_of_ble_eq_true rfl)⟩ dX11_isName_23 (fun r7 u9 H locs hp9 hw => ?_)
      obtain ⟨rfl, rfl⟩ := hp9
      have hw : Wd G s A [(qm, .inr (10, [.int qm_thrown, .ref qm_tape, .int qm_taped, .int qm_size, .int qm_limit, .int qm_to, .int qm_from, .int qm_kind, .int qm_number, .int qm_sign, .int qm_fault, .int qm_place, .long qm_word, .int qm_told, .ref qm_now, .ref qm_read, .ref qm_kept, .ref qm_snaps, .ref qm_aside, .ref qm_name, .ref qm_readName, .ref qm_keptName, .ref qm_isKept, .ref qm_onces, .int qm_snapMany, .ref qm_order, .ref qm_ordered, .int qm_orderMany, .int qm_orderMost, .int qm_passing, .int qm_movedWho, .int qm_scratched, .ref qm_text, .int qm_texts, .int qm_seed, .ref qm_line, .ref qm_written, .int qm_lineMany, .int qm_hasWritten, .ref qm_node, .int qm_nodes, .int qm_onesMany, .int qm_within, .int qm_top]))] H _ := hw
      refine W.lcmp C.1 C.2.1 dX11_isName_26 (x_genP (fun z : Int32 => z.toInt = 0 ↔ qm_word.toInt = 117481419) (l_cmp0 rfl rfl) (fun v8 hv8 => ?_))
      refine lv_if_ne (tgt := 32) C.1 C.2.1 dX11_isName_27 (by decide) (fun c9 => ?_) (fun c9 => ?_)
      · skip
        have c9 : v8.toInt ≠ 0 := i_eqF (X := v8.toInt) (Y := 0) rfl rfl c9
        have bc9_v8 := i_bd v8
        have d10 : qm_word.toInt ≠ 117481419 := fun q9 => c9 (hv8.mpr q9)
        clear hv8
        refine lv_iinc (v := 2) (lv' := [(1, .int 2), (0, .ref qm)]) C.1 C.2.1 dX11_isName_32 hl (k := 0) rfl (by decide) (by decide) rfl (fun ls hl => ?_)
        refine lv_goto (tgt := 12) C.1 C.2.1 dX11_isName_35 (by decide) ?_
        refine lv_iload_n C.1 C.2.1 dX11_isName_12 rfl (lv_at hl 0 rfl) ?_
        refine lv_bipush (v := 26) C.1 C.2.1 dX11_isName_13 (by decide) ?_
        refine lv_icmp_gt (tgt := 38) C.1 C.2.1 dX11_isName_15 (by decide) (fun h9 => absurd h9 (by decide)) (fun _ => ?_)
        refine lv_aload_n C.1 C.2.1 dX11_isName_18 rfl (lv_at hl 1 rfl) ?_
        refine x_get C hw iwX11 10 rfl 0 rfl 12 (by decide) kw1205 rfl dX11_isName_19 ?_
        refine lv_iload_n C.1 C.2.1 dX11_isName_22 rfl (lv_at hl 0 rfl) ?_
        refine x_calllS (As := [.int 2]) (rest := [.long qm_word]) (wr := [(qm, .inr (10, [.int qm_thrown, .ref qm_tape, .int qm_taped, .int qm_size, .int qm_limit, .int qm_to, .int qm_from, .int qm_kind, .int qm_number, .int qm_sign, .int qm_fault, .int qm_place, .long qm_word, .int qm_told, .ref qm_now, .ref qm_read, .ref qm_kept, .ref qm_snaps, .ref qm_aside, .ref qm_name, .ref qm_readName, .ref qm_keptName, .ref qm_isKept, .ref qm_onces, .int qm_snapMany, .ref qm_order, .ref qm_ordered, .int qm_orderMany, .int qm_orderMost, .int qm_passing, .int qm_movedWho, .int qm_scratched, .ref qm_text, .int qm_texts, .int qm_seed, .ref qm_line, .ref qm_written, .int qm_lineMany, .int qm_hasWritten, .ref qm_node, .int qm_nodes, .int qm_onesMany, .int qm_within, .int qm_top]))]) C hw e_wordOf_2 mwX11_wordOf kw1363 [] [0] rfl rfl rfl rfl (by decide) rfl hl.1 rfl (Nat.le_of_ble_eq_true rfl) ⟨(Nat.le_of_ble_eq_true rfl), (Nat.le_of_ble_eq_true rfl)⟩ ⟨(Nat.le_of_ble_eq_true rfl), (Nat.le_of_ble_eq_true rfl)⟩ dX11_isName_23 (fun r12 u9 H locs hp9 hw => ?_)
        obtain ⟨rfl, rfl⟩ := hp9
        have hw : Wd G s A [(qm, .inr (10, [.int qm_thrown, .ref qm_tape, .int qm_taped, .int qm_size, .int qm_limit, .int qm_to, .int qm_from, .int qm_kind, .int qm_number, .int qm_sign, .int qm_fault, .int qm_place, .long qm_word, .int qm_told, .ref qm_now, .ref qm_read, .ref qm_kept, .ref qm_snaps, .ref qm_aside, .ref qm_name, .ref qm_readName, .ref qm_keptName, .ref qm_isKept, .ref qm_onces, .int qm_snapMany, .ref qm_order, .ref qm_ordered, .int qm_orderMany, .int qm_orderMost, .int qm_passing, .int qm_movedWho, .int qm_scratched, .ref qm_text, .int qm_texts, .int qm_seed, .ref qm_line, .ref qm_written, .int qm_lineMany, .int qm_hasWritten, .ref qm_node, .int qm_nodes, .int qm_onesMany, .int qm_within, .int qm_top]))] H _ := hw
        refine W.lcmp C.1 C.2.1 dX11_isName_26 (x_genP (fun z : Int32 => z.toInt = 0 ↔ qm_word.toInt = 3554273) (l_cmp0 rfl rfl) (fun v13 hv13 => ?_))
        refine lv_if_ne (tgt := 32) C.1 C.2.1 dX11_isName_27 (by decide) (fun c14 => ?_) (fun c14 => ?_)
        · skip
          have c14 : v13.toInt ≠ 0 := i_eqF (X := v13.toInt) (Y := 0) rfl rfl c14
          have bc14_v13 := i_bd v13
          have d15 : qm_word.toInt ≠ 3554273 := fun q9 => c14 (hv13.mpr q9)
          clear hv13
          refine lv_iinc (v := 3) (lv' := [(1, .int 3), (0, .ref qm)]) C.1 C.2.1 dX11_isName_32 hl (k := 0) rfl (by decide) (by decide) rfl (fun ls hl => ?_)
          refine lv_goto (tgt := 12) C.1 C.2.1 dX11_isName_35 (by decide) ?_
          refine lv_iload_n C.1 C.2.1 dX11_isName_12 rfl (lv_at hl 0 rfl) ?_
          refine lv_bipush (v := 26) C.1 C.2.1 dX11_isName_13 (by decide) ?_
          refine lv_icmp_gt (tgt := 38) C.1 C.2.1 dX11_isName_15 (by decide) (fun h9 => absurd h9 (by decide)) (fun _ => ?_)
          refine lv_aload_n C.1 C.2.1 dX11_isName_18 rfl (lv_at hl 1 rfl) ?_
          refine x_get C hw iwX11 10 rfl 0 rfl 12 (by decide) kw1205 rfl dX11_isName_19 ?_
          refine lv_iload_n C.1 C.2.1 dX11_isName_22 rfl (lv_at hl 0 rfl) ?_
          refine x_calllS (As := [.int 3]) (rest := [.long qm_word]) (wr := [(qm, .inr (10, [.int qm_thrown, .ref qm_tape, .int qm_taped, .int qm_size, .int qm_limit, .int qm_to, .int qm_from, .int qm_kind, .int qm_number, .int qm_sign, .int qm_fault, .int qm_place, .long qm_word, .int qm_told, .ref qm_now, .ref qm_read, .ref qm_kept, .ref qm_snaps, .ref qm_aside, .ref qm_name, .ref qm_readName, .ref qm_keptName, .ref qm_isKept, .ref qm_onces, .int qm_snapMany, .ref qm_order, .ref qm_ordered, .int qm_orderMany, .int qm_orderMost, .int qm_passing, .int qm_movedWho, .int qm_scratched, .ref qm_text, .int qm_texts, .int qm_seed, .ref qm_line, .ref qm_written, .int qm_lineMany, .int qm_hasWritten, .ref qm_node, .int qm_nodes, .int qm_onesMany, .int qm_within, .int qm_top]))]) C hw e_wordOf_3 mwX11_wordOf kw1363 [] [0] rfl rfl rfl rfl (by decide) rfl hl.1 rfl (Nat.le_of_ble_eq_true rfl) ⟨(Nat.le_of_ble_eq_true rfl), (Nat.le_of_ble_eq_true rfl)⟩ ⟨(Nat.le_of_ble_eq_true rfl), (Nat.le_of_ble_eq_true rfl)⟩ dX11_isName_23 (fun r17 u9 H locs hp9 hw => ?_)
          obtain ⟨rfl, rfl⟩ := hp9
          have hw : Wd G s A [(qm, .inr (10, [.int qm_thrown, .ref qm_tape, .int qm_taped, .int qm_size, .int qm_limit, .int qm_to, .int qm_from, .int qm_kind, .int qm_number, .int qm_sign, .int qm_fault, .int qm_place, .long qm_word, .int qm_told, .ref qm_now, .ref qm_read, .ref qm_kept, .ref qm_snaps, .ref qm_aside, .ref qm_name, .ref qm_readName, .ref qm_keptName, .ref qm_isKept, .ref qm_onces, .int qm_snapMany, .ref qm_order, .ref qm_ordered, .int qm_orderMany, .int qm_orderMost, .int qm_passing, .int qm_movedWho, .int qm_scratched, .ref qm_text, .int qm_texts, .int qm_seed, .ref qm_line, .ref qm_written, .int qm_lineMany, .int qm_hasWritten, .ref qm_node, .int qm_nodes, .int qm_onesMany, .int qm_within, .int qm_top]))] H _ := hw
          refine W.lcmp C.1 C.2.1 dX11_isName_26 (x_genP (fun z : Int32 => z.toInt = 0 ↔ qm_word.toInt = 31519426) (l_cmp0 rfl rfl) (fun v18 hv18 => ?_))
          refine lv_if_ne (tgt := 32) C.1 C.2.1 dX11_isName_27 (by decide) (fun c19 => ?_) (fun c19 => ?_)
          · skip
            have c19 : v18.toInt ≠ 0 := i_eqF (X := v18.toInt) (Y := 0) rfl rfl c19
            have bc19_v18 := i_bd v18
            have d20 : qm_word.toInt ≠ 31519426 := fun q9 => c19 (hv18.mpr q9)
            clear hv18
            refine lv_iinc (v := 4) (lv' := [(1, .int 4), (0, .ref qm)]) C.1 C.2.1 dX11_isName_32 hl (k := 0) rfl (by decide) (by decide) rfl (fun ls hl => ?_)
            refine lv_goto (tgt := 12) C.1 C.2.1 dX11_isName_35 (by decide) ?_
            refine lv_iload_n C.1 C.2.1 dX11_isName_12 rfl (lv_at hl 0 rfl) ?_
            refine lv_bipush (v := 26) C.1 C.2.1 dX11_isName_13 (by decide) ?_
            refine lv_icmp_gt (tgt := 38) C.1 C.2.1 dX11_isName_15 (by decide) (fun h9 => absurd h9 (by decide)) (fun _ => ?_)
            refine lv_aload_n C.1 C.2.1 dX11_isName_18 rfl (lv_at hl 1 rfl) ?_
            refine x_get C hw iwX11 10 rfl 0 rfl 12 (by decide) kw1205 rfl dX11_isName_19 ?_
            refine lv_iload_n C.1 C.2.1 dX11_isName_22 rfl (lv_at hl 0 rfl) ?_
            refine x_calllS (As := [.int 4]) (rest := [.long qm_word]) (wr := [(qm, .inr (10, [.int qm_thrown, .ref qm_tape, .int qm_taped, .int qm_size, .int qm_limit, .int qm_to, .int qm_from, .int qm_kind, .int qm_number, .int qm_sign, .int qm_fault, .int qm_place, .long qm_word, .int qm_told, .ref qm_now, .ref qm_read, .ref qm_kept, .ref qm_snaps, .ref qm_aside, .ref qm_name, .ref qm_readName, .ref qm_keptName, .ref qm_isKept, .ref qm_onces, .int qm_snapMany, .ref qm_order, .ref qm_ordered, .int qm_orderMany, .int qm_orderMost, .int qm_passing, .int qm_movedWho, .int qm_scratched, .ref qm_text, .int qm_texts, .int qm_seed, .ref qm_line, .ref qm_written, .int qm_lineMany, .int qm_hasWritten, .ref qm_node, .int qm_nodes, .int qm_onesMany, .int qm_within, .int qm_top]))]) C hw e_wordOf_4 mwX11_wordOf kw1363 [] [0] rfl rfl rfl rfl (by decide) rfl hl.1 rfl (Nat.le_of_ble_eq_true rfl) ⟨(Nat.le_of_ble_eq_true rfl), (Nat.le_of_ble_eq_true rfl)⟩ ⟨(Nat.le_of_ble_eq_true rfl), (Nat.le_of_ble_eq_true rfl)⟩ dX11_isName_23 (fun r22 u9 H locs hp9 hw => ?_)
            obtain ⟨rfl, rfl⟩ := hp9
            have hw : Wd G s A [(qm, .inr (10, [.int qm_thrown, .ref qm_tape, .int qm_taped, .int qm_size, .int qm_limit, .int qm_to, .int qm_from, .int qm_kind, .int qm_number, .int qm_sign, .int qm_fault, .int qm_place, .long qm_word, .int qm_told, .ref qm_now, .ref qm_read, .ref qm_kept, .ref qm_snaps, .ref qm_aside, .ref qm_name, .ref qm_readName, .ref qm_keptName, .ref qm_isKept, .ref qm_onces, .int qm_snapMany, .ref qm_order, .ref qm_ordered, .int qm_orderMany, .int qm_orderMost, .int qm_passing, .int qm_movedWho, .int qm_scratched, .ref qm_text, .int qm_texts, .int qm_seed, .ref qm_line, .ref qm_written, .int qm_lineMany, .int qm_hasWritten, .ref qm_node, .int qm_nodes, .int qm_onesMany, .int qm_within, .int qm_top]))] H _ := hw
            refine W.lcmp C.1 C.2.1 dX11_isName_26 (x_genP (fun z : Int32 => z.toInt = 0 ↔ qm_word.toInt = 6562612) (l_cmp0 rfl rfl) (fun v23 hv23 => ?_))
            refine lv_if_ne (tgt := 32) C.1 C.2.1 dX11_isName_27 (by decide) (fun c24 => ?_) (fun c24 => ?_)
            · skip
              have c24 : v23.toInt ≠ 0 := i_eqF (X := v23.toInt) (Y := 0) rfl rfl c24
              have bc24_v23 := i_bd v23
              have d25 : qm_word.toInt ≠ 6562612 := fun q9 => c24 (hv23.mpr q9)
              clear hv23
              refine lv_iinc (v := 5) (lv' := [(1, .int 5), (0, .ref qm)]) C.1 C.2.1 dX11_isName_32 hl (k := 0) rfl (by decide) (by decide) rfl (fun ls hl => ?_)
              refine lv_goto (tgt := 12) C.1 C.2.1 dX11_isName_35 (by decide) ?_
              refine lv_iload_n C.1 C.2.1 dX11_isName_12 rfl (lv_at hl 0 rfl) ?_
              refine lv_bipush (v := 26) C.1 C.2.1 dX11_isName_13 (by decide) ?_
              refine lv_icmp_gt (tgt := 38) C.1 C.2.1 dX11_isName_15 (by decide) (fun h9 => absurd h9 (by decide)) (fun _ => ?_)
              refine lv_aload_n C.1 C.2.1 dX11_isName_18 rfl (lv_at hl 1 rfl) ?_
              refine x_get C hw iwX11 10 rfl 0 rfl 12 (by decide) kw1205 rfl dX11_isName_19 ?_
              refine lv_iload_n C.1 C.2.1 dX11_isName_22 rfl (lv_at hl 0 rfl) ?_
              refine x_calllS (As := [.int 5]) (rest := [.long qm_word]) (wr := [(qm, .inr (10, [.int qm_thrown, .ref qm_tape, .int qm_taped, .int qm_size, .int qm_limit, .int qm_to, .int qm_from, .int qm_kind, .int qm_number, .int qm_sign, .int qm_fault, .int qm_place, .long qm_word, .int qm_told, .ref qm_now, .ref qm_read, .ref qm_kept, .ref qm_snaps, .ref qm_aside, .ref qm_name, .ref qm_readName, .ref qm_keptName, .ref qm_isKept, .ref qm_onces, .int qm_snapMany, .ref qm_order, .ref qm_ordered, .int qm_orderMany, .int qm_orderMost, .int qm_passing, .int qm_movedWho, .int qm_scratched, .ref qm_text, .int qm_texts, .int qm_seed, .ref qm_line, .ref qm_written, .int qm_lineMany, .int qm_hasWritten, .ref qm_node, .int qm_nodes, .int qm_onesMany, .int qm_within, .int qm_top]))]) C hw e_wordOf_5 mwX11_wordOf kw1363 [] [0] rfl rfl rfl rfl (by decide) rfl hl.1 rfl (Nat.le_of_ble_eq_true rfl) ⟨(Nat.le_of_ble_eq_true rfl), (Nat.le_of_ble_eq_true rfl)⟩ ⟨(Nat.le_of_ble_eq_true rfl), (Nat.le_of_ble_eq_true rfl)⟩ dX11_isName_23 (fun r27 u9 H locs hp9 hw => ?_)
              obtain ⟨rfl, rfl⟩ := hp9
              have hw : Wd G s A [(qm, .inr (10, [.int qm_thrown, .ref qm_tape, .int qm_taped, .int qm_size, .int qm_limit, .int qm_to, .int qm_from, .int qm_kind, .int qm_number, .int qm_sign, .int qm_fault, .int qm_place, .long qm_word, .int qm_told, .ref qm_now, .ref qm_read, .ref qm_kept, .ref qm_snaps, .ref qm_aside, .ref qm_name, .ref qm_readName, .ref qm_keptName, .ref qm_isKept, .ref qm_onces, .int qm_snapMany, .ref qm_order, .ref qm_ordered, .int qm_orderMany, .int qm_orderMost, .int qm_passing, .int qm_movedWho, .int qm_scratched, .ref qm_text, .int qm_texts, .int qm_seed, .ref qm_line, .ref qm_written, .int qm_lineMany, .int qm_hasWritten, .ref qm_node, .int qm_nodes, .int qm_onesMany, .int qm_within, .int qm_top]))] H _ := hw
              refine W.lcmp C.1 C.2.1 dX11_isName_26 (x_genP (fun z : Int32 => z.toInt = 0 ↔ qm_word.toInt = 4285945) (l_cmp0 rfl rfl) (fun v28 hv28 => ?_))
              refine lv_if_ne (tgt := 32) C.1 C.2.1 dX11_isName_27 (by decide) (fun c29 => ?_) (fun c29 => ?_)
              · skip
                have c29 : v28.toInt ≠ 0 := i_eqF (X := v28.toInt) (Y := 0) rfl rfl c29
                have bc29_v28 := i_bd v28
                have d30 : qm_word.toInt ≠ 4285945 := fun q9 => c29 (hv28.mpr q9)
                clear hv28
                refine lv_iinc (v := 6) (lv' := [(1, .int 6), (0, .ref qm)]) C.1 C.2.1 dX11_isName_32 hl (k := 0) rfl (by decide) (by decide) rfl (fun ls hl => ?_)
                refine lv_goto (tgt := 12) C.1 C.2.1 dX11_isName_35 (by decide) ?_
                refine lv_iload_n C.1 C.2.1 dX11_isName_12 rfl (lv_at hl 0 rfl) ?_
                refine lv_bipush (v := 26) C.1 C.2.1 dX11_isName_13 (by decide) ?_
                refine lv_icmp_gt (tgt := 38) C.1 C.2.1 dX11_isName_15 (by decide) (fun h9 => absurd h9 (by decide)) (fun _ => ?_)
                refine lv_aload_n C.1 C.2.1 dX11_isName_18 rfl (lv_at hl 1 rfl) ?_
                refine x_get C hw iwX11 10 rfl 0 rfl 12 (by decide) kw1205 rfl dX11_isName_19 ?_
                refine lv_iload_n C.1 C.2.1 dX11_isName_22 rfl (lv_at hl 0 rfl) ?_
                refine x_calllS (As := [.int 6]) (rest := [.long qm_word]) (wr := [(qm, .inr (10, [.int qm_thrown, .ref qm_tape, .int qm_taped, .int qm_size, .int qm_limit, .int qm_to, .int qm_from, .int qm_kind, .int qm_number, .int qm_sign, .int qm_fault, .int qm_place, .long qm_word, .int qm_told, .ref qm_now, .ref qm_read, .ref qm_kept, .ref qm_snaps, .ref qm_aside, .ref qm_name, .ref qm_readName, .ref qm_keptName, .ref qm_isKept, .ref qm_onces, .int qm_snapMany, .ref qm_order, .ref qm_ordered, .int qm_orderMany, .int qm_orderMost, .int qm_passing, .int qm_movedWho, .int qm_scratched, .ref qm_text, .int qm_texts, .int qm_seed, .ref qm_line, .ref qm_written, .int qm_lineMany, .int qm_hasWritten, .ref qm_node, .int qm_nodes, .int qm_onesMany, .int qm_within, .int qm_top]))]) C hw e_wordOf_6 mwX11_wordOf kw1363 [] [0] rfl rfl rfl rfl (by decide) rfl hl.1 rfl (Nat.le_of_ble_eq_true rfl) ⟨(Nat.le_of_ble_eq_true rfl), (Nat.le_of_ble_eq_true rfl)⟩ ⟨(Nat.le_of_ble_eq_true rfl), (Nat.le_of_ble_eq_true rfl)⟩ dX11_isName_23 (fun r32 u9 H locs hp9 hw => ?_)
                obtain ⟨rfl, rfl⟩ := hp9
                have hw : Wd G s A [(qm, .inr (10, [.int qm_thrown, .ref qm_tape, .int qm_taped, .int qm_size, .int qm_limit, .int qm_to, .int qm_from, .int qm_kind, .int qm_number, .int qm_sign, .int qm_fault, .int qm_place, .long qm_word, .int qm_told, .ref qm_now, .ref qm_read, .ref qm_kept, .ref qm_snaps, .ref qm_aside, .ref qm_name, .ref qm_readName, .ref qm_keptName, .ref qm_isKept, .ref qm_onces, .int qm_snapMany, .ref qm_order, .ref qm_ordered, .int qm_orderMany, .int qm_orderMost, .int qm_passing, .int qm_movedWho, .int qm_scratched, .ref qm_text, .int qm_texts, .int qm_seed, .ref qm_line, .ref qm_written, .int qm_lineMany, .int qm_hasWritten, .ref qm_node, .int qm_nodes, .int qm_onesMany, .int qm_within, .int qm_top]))] H _ := hw
                refine W.lcmp C.1 C.2.1 dX11_isName_26 (x_genP (fun z : Int32 => z.toInt = 0 ↔ qm_word.toInt = 279252) (l_cmp0 rfl rfl) (fun v33 hv33 => ?_))
                refine lv_if_ne (tgt := 32) C.1 C.2.1 dX11_isName_27 (by decide) (fun c34 => ?_) (fun c34 => ?_)
                · skip
                  have c34 : v33.toInt ≠ 0 := i_eqF (X := v33.toInt) (Y := 0) rfl rfl c34
                  have bc34_v33 := i_bd v33
                  have d35 : qm_word.toInt ≠ 279252 := fun q9 => c34 (hv33.mpr q9)
                  clear hv33
                  refine lv_iinc (v := 7) (lv' := [(1, .int 7), (0, .ref qm)]) C.1 C.2.1 dX11_isName_32 hl (k := 0) rfl (by decide) (by decide) rfl (fun ls hl => ?_)
                  refine lv_goto (tgt := 12) C.1 C.2.1 dX11_isName_35 (by decide) ?_
                  refine lv_iload_n C.1 C.2.1 dX11_isName_12 rfl (lv_at hl 0 rfl) ?_
                  refine lv_bipush (v := 26) C.1 C.2.1 dX11_isName_13 (by decide) ?_
                  refine lv_icmp_gt (tgt := 38) C.1 C.2.1 dX11_isName_15 (by decide) (fun h9 => absurd h9 (by decide)) (fun _ => ?_)
                  refine lv_aload_n C.1 C.2.1 dX11_isName_18 rfl (lv_at hl 1 rfl) ?_
                  refine x_get C hw iwX11 10 rfl 0 rfl 12 (by decide) kw1205 rfl dX11_isName_19 ?_
                  refine lv_iload_n C.1 C.2.1 dX11_isName_22 rfl (lv_at hl 0 rfl) ?_
                  refine x_calllS (As := [.int 7]) (rest := [.long qm_word]) (wr := [(qm, .inr (10, [.int qm_thrown, .ref qm_tape, .int qm_taped, .int qm_size, .int qm_limit, .int qm_to, .int qm_from, .int qm_kind, .int qm_number, .int qm_sign, .int qm_fault, .int qm_place, .long qm_word, .int qm_told, .ref qm_now, .ref qm_read, .ref qm_kept, .ref qm_snaps, .ref qm_aside, .ref qm_name, .ref qm_readName, .ref qm_keptName, .ref qm_isKept, .ref qm_onces, .int qm_snapMany, .ref qm_order, .ref qm_ordered, .int qm_orderMany, .int qm_orderMost, .int qm_passing, .int qm_movedWho, .int qm_scratched, .ref qm_text, .int qm_texts, .int qm_seed, .ref qm_line, .ref qm_written, .int qm_lineMany, .int qm_hasWritten, .ref qm_node, .int qm_nodes, .int qm_onesMany, .int qm_within, .int qm_top]))]) C hw e_wordOf_7 mwX11_wordOf kw1363 [] [0] rfl rfl rfl rfl (by decide) rfl hl.1 rfl (Nat.le_of_ble_eq_true rfl) ⟨(Nat.le_of_ble_eq_true rfl), (Nat.le_of_ble_eq_true rfl)⟩ ⟨(Nat.le_of_ble_eq_true rfl), (Nat.le_of_ble_eq_true rfl)⟩ dX11_isName_23 (fun r37 u9 H locs hp9 hw => ?_)
                  obtain ⟨rfl, rfl⟩ := hp9
                  have hw : Wd G s A [(qm, .inr (10, [.int qm_thrown, .ref qm_tape, .int qm_taped, .int qm_size, .int qm_limit, .int qm_to, .int qm_from, .int qm_kind, .int qm_number, .int qm_sign, .int qm_fault, .int qm_place, .long qm_word, .int qm_told, .ref qm_now, .ref qm_read, .ref qm_kept, .ref qm_snaps, .ref qm_aside, .ref qm_name, .ref qm_readName, .ref qm_keptName, .ref qm_isKept, .ref qm_onces, .int qm_snapMany, .ref qm_order, .ref qm_ordered, .int qm_orderMany, .int qm_orderMost, .int qm_passing, .int qm_movedWho, .int qm_scratched, .ref qm_text, .int qm_texts, .int qm_seed, .ref qm_line, .ref qm_written, .int qm_lineMany, .int qm_hasWritten, .ref qm_node, .int qm_nodes, .int qm_onesMany, .int qm_within, .int qm_top]))] H _ := hw
                  refine W.lcmp C.1 C.2.1 dX11_isName_26 (x_genP (fun z : Int32 => z.toInt = 0 ↔ qm_word.toInt = 664272) (l_cmp0 rfl rfl) (fun v38 hv38 => ?_))
                  refine lv_if_ne (tgt := 32) C.1 C.2.1 dX11_isName_27 (by decide) (fun c39 => ?_) (fun c39 => ?_)
                  · skip
                    have c39 : v38.toInt ≠ 0 := i_eqF (X := v38.toInt) (Y := 0) rfl rfl c39
                    have bc39_v38 := i_bd v38
                    have d40 : qm_word.toInt ≠ 664272 := fun q9 => c39 (hv38.mpr q9)
                    clear hv38
                    refine lv_iinc (v := 8) (lv' := [(1, .int 8), (0, .ref qm)]) C.1 C.2.1 dX11_isName_32 hl (k := 0) rfl (by decide) (by decide) rfl (fun ls hl => ?_)
                    refine lv_goto (tgt := 12) C.1 C.2.1 dX11_isName_35 (by decide) ?_
                    refine lv_iload_n C.1 C.2.1 dX11_isName_12 rfl (lv_at hl 0 rfl) ?_
                    refine lv_bipush (v := 26) C.1 C.2.1 dX11_isName_13 (by decide) ?_
                    refine lv_icmp_gt (tgt := 38) C.1 C.2.1 dX11_isName_15 (by decide) (fun h9 => absurd h9 (by decide)) (fun _ => ?_)
                    refine lv_aload_n C.1 C.2.1 dX11_isName_18 rfl (lv_at hl 1 rfl) ?_
                    refine x_get C hw iwX11 10 rfl 0 rfl 12 (by decide) kw1205 rfl dX11_isName_19 ?_
                    refine lv_iload_n C.1 C.2.1 dX11_isName_22 rfl (lv_at hl 0 rfl) ?_
                    refine x_calllS (As := [.int 8]) (rest := [.long qm_word]) (wr := [(qm, .inr (10, [.int qm_thrown, .ref qm_tape, .int qm_taped, .int qm_size, .int qm_limit, .int qm_to, .int qm_from, .int qm_kind, .int qm_number, .int qm_sign, .int qm_fault, .int qm_place, .long qm_word, .int qm_told, .ref qm_now, .ref qm_read, .ref qm_kept, .ref qm_snaps, .ref qm_aside, .ref qm_name, .ref qm_readName, .ref qm_keptName, .ref qm_isKept, .ref qm_onces, .int qm_snapMany, .ref qm_order, .ref qm_ordered, .int qm_orderMany, .int qm_orderMost, .int qm_passing, .int qm_movedWho, .int qm_scratched, .ref qm_text, .int qm_texts, .int qm_seed, .ref qm_line, .ref qm_written, .int qm_lineMany, .int qm_hasWritten, .ref qm_node, .int qm_nodes, .int qm_onesMany, .int qm_within, .int qm_top]))]) C hw e_wordOf_8 mwX11_wordOf kw1363 [] [0] rfl rfl rfl rfl (by decide) rfl hl.1 rfl (Nat.le_of_ble_eq_true rfl) ⟨(Nat.le_of_ble_eq_true rfl), (Nat.le_of_ble_eq_true rfl)⟩ ⟨(Nat.le_of_ble_eq_true rfl), (Nat.le_of_ble_eq_true rfl)⟩ dX11_isName_23 (fun r42 u9 H locs hp9 hw => ?_)
                    obtain ⟨rfl, rfl⟩ := hp9
                    have hw : Wd G s A [(qm, .inr (10, [.int qm_thrown, .ref qm_tape, .int qm_taped, .int qm_size, .int qm_limit, .int qm_to, .int qm_from, .int qm_kind, .int qm_number, .int qm_sign, .int qm_fault, .int qm_place, .long qm_word, .int qm_told, .ref qm_now, .ref qm_read, .ref qm_kept, .ref qm_snaps, .ref qm_aside, .ref qm_name, .ref qm_readName, .ref qm_keptName, .ref qm_isKept, .ref qm_onces, .int qm_snapMany, .ref qm_order, .ref qm_ordered, .int qm_orderMany, .int qm_orderMost, .int qm_passing, .int qm_movedWho, .int qm_scratched, .ref qm_text, .int qm_texts, .int qm_seed, .ref qm_line, .ref qm_written, .int qm_lineMany, .int qm_hasWritten, .ref qm_node, .int qm_nodes, .int qm_onesMany, .int qm_within, .int qm_top]))] H _ := hw
                    refine W.lcmp C.1 C.2.1 dX11_isName_26 (x_genP (fun z : Int32 => z.toInt = 0 ↔ qm_word.toInt = 316189) (l_cmp0 rfl rfl) (fun v43 hv43 => ?_))
                    refine lv_if_ne (tgt := 32) C.1 C.2.1 dX11_isName_27 (by decide) (fun c44 => ?_) (fun c44 => ?_)
                    · skip
                      have c44 : v43.toInt ≠ 0 := i_eqF (X := v43.toInt) (Y := 0) rfl rfl c44
                      have bc44_v43 := i_bd v43
                      have d45 : qm_word.toInt ≠ 316189 := fun q9 => c44 (hv43.mpr q9)
                      clear hv43
                      refine lv_iinc (v := 9) (lv' := [(1, .int 9), (0, .ref qm)]) C.1 C.2.1 dX11_isName_32 hl (k := 0) rfl (by decide) (by decide) rfl (fun ls hl => ?_)
                      refine lv_goto (tgt := 12) C.1 C.2.1 dX11_isName_35 (by decide) ?_
                      refine lv_iload_n C.1 C.2.1 dX11_isName_12 rfl (lv_at hl 0 rfl) ?_
                      refine lv_bipush (v := 26) C.1 C.2.1 dX11_isName_13 (by decide) ?_
                      refine lv_icmp_gt (tgt := 38) C.1 C.2.1 dX11_isName_15 (by decide) (fun h9 => absurd h9 (by decide)) (fun _ => ?_)
                      refine lv_aload_n C.1 C.2.1 dX11_isName_18 rfl (lv_at hl 1 rfl) ?_
                      refine x_get C hw iwX11 10 rfl 0 rfl 12 (by decide) kw1205 rfl dX11_isName_19 ?_
                      refine lv_iload_n C.1 C.2.1 dX11_isName_22 rfl (lv_at hl 0 rfl) ?_
                      refine x_calllS (As := [.int 9]) (rest := [.long qm_word]) (wr := [(qm, .inr (10, [.int qm_thrown, .ref qm_tape, .int qm_taped, .int qm_size, .int qm_limit, .int qm_to, .int qm_from, .int qm_kind, .int qm_number, .int qm_sign, .int qm_fault, .int qm_place, .long qm_word, .int qm_told, .ref qm_now, .ref qm_read, .ref qm_kept, .ref qm_snaps, .ref qm_aside, .ref qm_name, .ref qm_readName, .ref qm_keptName, .ref qm_isKept, .ref qm_onces, .int qm_snapMany, .ref qm_order, .ref qm_ordered, .int qm_orderMany, .int qm_orderMost, .int qm_passing, .int qm_movedWho, .int qm_scratched, .ref qm_text, .int qm_texts, .int qm_seed, .ref qm_line, .ref qm_written, .int qm_lineMany, .int qm_hasWritten, .ref qm_node, .int qm_nodes, .int qm_onesMany, .int qm_within, .int qm_top]))]) C hw e_wordOf_9 mwX11_wordOf kw1363 [] [0] rfl rfl rfl rfl (by decide) rfl hl.1 rfl (Nat.le_of_ble_eq_true rfl) ⟨(Nat.le_of_ble_eq_true rfl), (Nat.le_of_ble_eq_true rfl)⟩ ⟨(Nat.le_of_ble_eq_true rfl), (Nat.le_of_ble_eq_true rfl)⟩ dX11_isName_23 (fun r47 u9 H locs hp9 hw => ?_)
                      obtain ⟨rfl, rfl⟩ := hp9
                      have hw : Wd G s A [(qm, .inr (10, [.int qm_thrown, .ref qm_tape, .int qm_taped, .int qm_size, .int qm_limit, .int qm_to, .int qm_from, .int qm_kind, .int qm_number, .int qm_sign, .int qm_fault, .int qm_place, .long qm_word, .int qm_told, .ref qm_now, .ref qm_read, .ref qm_kept, .ref qm_snaps, .ref qm_aside, .ref qm_name, .ref qm_readName, .ref qm_keptName, .ref qm_isKept, .ref qm_onces, .int qm_snapMany, .ref qm_order, .ref qm_ordered, .int qm_orderMany, .int qm_orderMost, .int qm_passing, .int qm_movedWho, .int qm_scratched, .ref qm_text, .int qm_texts, .int qm_seed, .ref qm_line, .ref qm_written, .int qm_lineMany, .int qm_hasWritten, .ref qm_node, .int qm_nodes, .int qm_onesMany, .int qm_within, .int qm_top]))] H _ := hw
                      refine W.lcmp C.1 C.2.1 dX11_isName_26 (x_genP (fun z : Int32 => z.toInt = 0 ↔ qm_word.toInt = 281490259) (l_cmp0 rfl rfl) (fun v48 hv48 => ?_))
                      refine lv_if_ne (tgt := 32) C.1 C.2.1 dX11_isName_27 (by decide) (fun c49 => ?_) (fun c49 => ?_)
                      · skip
                        have c49 : v48.toInt ≠ 0 := i_eqF (X := v48.toInt) (Y := 0) rfl rfl c49
                        have bc49_v48 := i_bd v48
                        have d50 : qm_word.toInt ≠ 281490259 := fun q9 => c49 (hv48.mpr q9)
                        clear hv48
                        refine lv_iinc (v := 10) (lv' := [(1, .int 10), (0, .ref qm)]) C.1 C.2.1 dX11_isName_32 hl (k := 0) rfl (by decide) (by decide) rfl (fun ls hl => ?_)
                        refine lv_goto (tgt := 12) C.1 C.2.1 dX11_isName_35 (by decide) ?_
                        refine lv_iload_n C.1 C.2.1 dX11_isName_12 rfl (lv_at hl 0 rfl) ?_
                        refine lv_bipush (v := 26) C.1 C.2.1 dX11_isName_13 (by decide) ?_
                        refine lv_icmp_gt (tgt := 38) C.1 C.2.1 dX11_isName_15 (by decide) (fun h9 => absurd h9 (by decide)) (fun _ => ?_)
                        refine lv_aload_n C.1 C.2.1 dX11_isName_18 rfl (lv_at hl 1 rfl) ?_
                        refine x_get C hw iwX11 10 rfl 0 rfl 12 (by decide) kw1205 rfl dX11_isName_19 ?_
                        refine lv_iload_n C.1 C.2.1 dX11_isName_22 rfl (lv_at hl 0 rfl) ?_
                        refine x_calllS (As := [.int 10]) (rest := [.long qm_word]) (wr := [(qm, .inr (10, [.int qm_thrown, .ref qm_tape, .int qm_taped, .int qm_size, .int qm_limit, .int qm_to, .int qm_from, .int qm_kind, .int qm_number, .int qm_sign, .int qm_fault, .int qm_place, .long qm_word, .int qm_told, .ref qm_now, .ref qm_read, .ref qm_kept, .ref qm_snaps, .ref qm_aside, .ref qm_name, .ref qm_readName, .ref qm_keptName, .ref qm_isKept, .ref qm_onces, .int qm_snapMany, .ref qm_order, .ref qm_ordered, .int qm_orderMany, .int qm_orderMost, .int qm_passing, .int qm_movedWho, .int qm_scratched, .ref qm_text, .int qm_texts, .int qm_seed, .ref qm_line, .ref qm_written, .int qm_lineMany, .int qm_hasWritten, .ref qm_node, .int qm_nodes, .int qm_onesMany, .int qm_within, .int qm_top]))]) C hw e_wordOf_10 mwX11_wordOf kw1363 [] [0] rfl rfl rfl rfl (by decide) rfl hl.1 rfl (Nat.le_of_ble_eq_true rfl) ⟨(Nat.le_of_ble_eq_true rfl), (Nat.le_of_ble_eq_true rfl)⟩ ⟨(Nat.le_of_ble_eq_true rfl), (Nat.le_of_ble_eq_true rfl)⟩ dX11_isName_23 (fun r52 u9 H locs hp9 hw => ?_)
                        obtain ⟨rfl, rfl⟩ := hp9
                        have hw : Wd G s A [(qm, .inr (10, [.int qm_thrown, .ref qm_tape, .int qm_taped, .int qm_size, .int qm_limit, .int qm_to, .int qm_from, .int qm_kind, .int qm_number, .int qm_sign, .int qm_fault, .int qm_place, .long qm_word, .int qm_told, .ref qm_now, .ref qm_read, .ref qm_kept, .ref qm_snaps, .ref qm_aside, .ref qm_name, .ref qm_readName, .ref qm_keptName, .ref qm_isKept, .ref qm_onces, .int qm_snapMany, .ref qm_order, .ref qm_ordered, .int qm_orderMany, .int qm_orderMost, .int qm_passing, .int qm_movedWho, .int qm_scratched, .ref qm_text, .int qm_texts, .int qm_seed, .ref qm_line, .ref qm_written, .int qm_lineMany, .int qm_hasWritten, .ref qm_node, .int qm_nodes, .int qm_onesMany, .int qm_within, .int qm_top]))] H _ := hw
                        refine W.lcmp C.1 C.2.1 dX11_isName_26 (x_genP (fun z : Int32 => z.toInt = 0 ↔ qm_word.toInt = 237292) (l_cmp0 rfl rfl) (fun v53 hv53 => ?_))
                        refine lv_if_ne (tgt := 32) C.1 C.2.1 dX11_isName_27 (by decide) (fun c54 => ?_) (fun c54 => ?_)
                        · skip
                          have c54 : v53.toInt ≠ 0 := i_eqF (X := v53.toInt) (Y := 0) rfl rfl c54
                          have bc54_v53 := i_bd v53
                          have d55 : qm_word.toInt ≠ 237292 := fun q9 => c54 (hv53.mpr q9)
                          clear hv53
                          refine lv_iinc (v := 11) (lv' := [(1, .int 11), (0, .ref qm)]) C.1 C.2.1 dX11_isName_32 hl (k := 0) rfl (by decide) (by decide) rfl (fun ls hl => ?_)
                          refine lv_goto (tgt := 12) C.1 C.2.1 dX11_isName_35 (by decide) ?_
                          refine lv_iload_n C.1 C.2.1 dX11_isName_12 rfl (lv_at hl 0 rfl) ?_
                          refine lv_bipush (v := 26) C.1 C.2.1 dX11_isName_13 (by decide) ?_
                          refine lv_icmp_gt (tgt := 38) C.1 C.2.1 dX11_isName_15 (by decide) (fun h9 => absurd h9 (by decide)) (fun _ => ?_)
                          refine lv_aload_n C.1 C.2.1 dX11_isName_18 rfl (lv_at hl 1 rfl) ?_
                          refine x_get C hw iwX11 10 rfl 0 rfl 12 (by decide) kw1205 rfl dX11_isName_19 ?_
                          refine lv_iload_n C.1 C.2.1 dX11_isName_22 rfl (lv_at hl 0 rfl) ?_
                          refine x_calllS (As := [.int 11]) (rest := [.long qm_word]) (wr := [(qm, .inr (10, [.int qm_thrown, .ref qm_tape, .int qm_taped, .int qm_size, .int qm_limit, .int qm_to, .int qm_from, .int qm_kind, .int qm_number, .int qm_sign, .int qm_fault, .int qm_place, .long qm_word, .int qm_told, .ref qm_now, .ref qm_read, .ref qm_kept, .ref qm_snaps, .ref qm_aside, .ref qm_name, .ref qm_readName, .ref qm_keptName, .ref qm_isKept, .ref qm_onces, .int qm_snapMany, .ref qm_order, .ref qm_ordered, .int qm_orderMany, .int qm_orderMost, .int qm_passing, .int qm_movedWho, .int qm_scratched, .ref qm_text, .int qm_texts, .int qm_seed, .ref qm_line, .ref qm_written, .int qm_lineMany, .int qm_hasWritten, .ref qm_node, .int qm_nodes, .int qm_onesMany, .int qm_within, .int qm_top]))]) C hw e_wordOf_11 mwX11_wordOf kw1363 [] [0] rfl rfl rfl rfl (by decide) rfl hl.1 rfl (Nat.le_of_ble_eq_true rfl) ⟨(Nat.le_of_ble_eq_true rfl), (Nat.le_of_ble_eq_true rfl)⟩ ⟨(Nat.le_of_ble_eq_true rfl), (Nat.le_of_ble_eq_true rfl)⟩ dX11_isName_23 (fun r57 u9 H locs hp9 hw => ?_)
                          obtain ⟨rfl, rfl⟩ := hp9
                          have hw : Wd G s A [(qm, .inr (10, [.int qm_thrown, .ref qm_tape, .int qm_taped, .int qm_size, .int qm_limit, .int qm_to, .int qm_from, .int qm_kind, .int qm_number, .int qm_sign, .int qm_fault, .int qm_place, .long qm_word, .int qm_told, .ref qm_now, .ref qm_read, .ref qm_kept, .ref qm_snaps, .ref qm_aside, .ref qm_name, .ref qm_readName, .ref qm_keptName, .ref qm_isKept, .ref qm_onces, .int qm_snapMany, .ref qm_order, .ref qm_ordered, .int qm_orderMany, .int qm_orderMost, .int qm_passing, .int qm_movedWho, .int qm_scratched, .ref qm_text, .int qm_texts, .int qm_seed, .ref qm_line, .ref qm_written, .int qm_lineMany, .int qm_hasWritten, .ref qm_node, .int qm_nodes, .int qm_onesMany, .int qm_within, .int qm_top]))] H _ := hw
                          refine W.lcmp C.1 C.2.1 dX11_isName_26 (x_genP (fun z : Int32 => z.toInt = 0 ↔ qm_word.toInt = 10266413) (l_cmp0 rfl rfl) (fun v58 hv58 => ?_))
                          refine lv_if_ne (tgt := 32) C.1 C.2.1 dX11_isName_27 (by decide) (fun c59 => ?_) (fun c59 => ?_)
                          · skip
                            have c59 : v58.toInt ≠ 0 := i_eqF (X := v58.toInt) (Y := 0) rfl rfl c59
                            have bc59_v58 := i_bd v58
                            have d60 : qm_word.toInt ≠ 10266413 := fun q9 => c59 (hv58.mpr q9)
                            clear hv58
                            refine lv_iinc (v := 12) (lv' := [(1, .int 12), (0, .ref qm)]) C.1 C.2.1 dX11_isName_32 hl (k := 0) rfl (by decide) (by decide) rfl (fun ls hl => ?_)
                            refine lv_goto (tgt := 12) C.1 C.2.1 dX11_isName_35 (by decide) ?_
                            refine lv_iload_n C.1 C.2.1 dX11_isName_12 rfl (lv_at hl 0 rfl) ?_
                            refine lv_bipush (v := 26) C.1 C.2.1 dX11_isName_13 (by decide) ?_
                            refine lv_icmp_gt (tgt := 38) C.1 C.2.1 dX11_isName_15 (by decide) (fun h9 => absurd h9 (by decide)) (fun _ => ?_)
                            refine lv_aload_n C.1 C.2.1 dX11_isName_18 rfl (lv_at hl 1 rfl) ?_
                            refine x_get C hw iwX11 10 rfl 0 rfl 12 (by decide) kw1205 rfl dX11_isName_19 ?_
                            refine lv_iload_n C.1 C.2.1 dX11_isName_22 rfl (lv_at hl 0 rfl) ?_
                            refine x_calllS (As := [.int 12]) (rest := [.long qm_word]) (wr := [(qm, .inr (10, [.int qm_thrown, .ref qm_tape, .int qm_taped, .int qm_size, .int qm_limit, .int qm_to, .int qm_from, .int qm_kind, .int qm_number, .int qm_sign, .int qm_fault, .int qm_place, .long qm_word, .int qm_told, .ref qm_now, .ref qm_read, .ref qm_kept, .ref qm_snaps, .ref qm_aside, .ref qm_name, .ref qm_readName, .ref qm_keptName, .ref qm_isKept, .ref qm_onces, .int qm_snapMany, .ref qm_order, .ref qm_ordered, .int qm_orderMany, .int qm_orderMost, .int qm_passing, .int qm_movedWho, .int qm_scratched, .ref qm_text, .int qm_texts, .int qm_seed, .ref qm_line, .ref qm_written, .int qm_lineMany, .int qm_hasWritten, .ref qm_node, .int qm_nodes, .int qm_onesMany, .int qm_within, .int qm_top]))]) C hw e_wordOf_12 mwX11_wordOf kw1363 [] [0] rfl rfl rfl rfl (by decide) rfl hl.1 rfl (Nat.le_of_ble_eq_true rfl) ⟨(Nat.le_of_ble_eq_true rfl), (Nat.le_of_ble_eq_true rfl)⟩ ⟨(Nat.le_of_ble_eq_true rfl), (Nat.le_of_ble_eq_true rfl)⟩ dX11_isName_23 (fun r62 u9 H locs hp9 hw => ?_)
                            obtain ⟨rfl, rfl⟩ := hp9
                            have hw : Wd G s A [(qm, .inr (10, [.int qm_thrown, .ref qm_tape, .int qm_taped, .int qm_size, .int qm_limit, .int qm_to, .int qm_from, .int qm_kind, .int qm_number, .int qm_sign, .int qm_fault, .int qm_place, .long qm_word, .int qm_told, .ref qm_now, .ref qm_read, .ref qm_kept, .ref qm_snaps, .ref qm_aside, .ref qm_name, .ref qm_readName, .ref qm_keptName, .ref qm_isKept, .ref qm_onces, .int qm_snapMany, .ref qm_order, .ref qm_ordered, .int qm_orderMany, .int qm_orderMost, .int qm_passing, .int qm_movedWho, .int qm_scratched, .ref qm_text, .int qm_texts, .int qm_seed, .ref qm_line, .ref qm_written, .int qm_lineMany, .int qm_hasWritten, .ref qm_node, .int qm_nodes, .int qm_onesMany, .int qm_within, .int qm_top]))] H _ := hw
                            refine W.lcmp C.1 C.2.1 dX11_isName_26 (x_genP (fun z : Int32 => z.toInt = 0 ↔ qm_word.toInt = 311436) (l_cmp0 rfl rfl) (fun v63 hv63 => ?_))
                            refine lv_if_ne (tgt := 32) C.1 C.2.1 dX11_isName_27 (by decide) (fun c64 => ?_) (fun c64 => ?_)
                            · skip
                              have c64 : v63.toInt ≠ 0 := i_eqF (X := v63.toInt) (Y := 0) rfl rfl c64
                              have bc64_v63 := i_bd v63
                              have d65 : qm_word.toInt ≠ 311436 := fun q9 => c64 (hv63.mpr q9)
                              clear hv63
                              refine lv_iinc (v := 13) (lv' := [(1, .int 13), (0, .ref qm)]) C.1 C.2.1 dX11_isName_32 hl (k := 0) rfl (by decide) (by decide) rfl (fun ls hl => ?_)
                              refine lv_goto (tgt := 12) C.1 C.2.1 dX11_isName_35 (by decide) ?_
                              refine lv_iload_n C.1 C.2.1 dX11_isName_12 rfl (lv_at hl 0 rfl) ?_
                              refine lv_bipush (v := 26) C.1 C.2.1 dX11_isName_13 (by decide) ?_
                              refine lv_icmp_gt (tgt := 38) C.1 C.2.1 dX11_isName_15 (by decide) (fun h9 => absurd h9 (by decide)) (fun _ => ?_)
                              refine lv_aload_n C.1 C.2.1 dX11_isName_18 rfl (lv_at hl 1 rfl) ?_
                              refine x_get C hw iwX11 10 rfl 0 rfl 12 (by decide) kw1205 rfl dX11_isName_19 ?_
                              refine lv_iload_n C.1 C.2.1 dX11_isName_22 rfl (lv_at hl 0 rfl) ?_
                              refine x_calllS (As := [.int 13]) (rest := [.long qm_word]) (wr := [(qm, .inr (10, [.int qm_thrown, .ref qm_tape, .int qm_taped, .int qm_size, .int qm_limit, .int qm_to, .int qm_from, .int qm_kind, .int qm_number, .int qm_sign, .int qm_fault, .int qm_place, .long qm_word, .int qm_told, .ref qm_now, .ref qm_read, .ref qm_kept, .ref qm_snaps, .ref qm_aside, .ref qm_name, .ref qm_readName, .ref qm_keptName, .ref qm_isKept, .ref qm_onces, .int qm_snapMany, .ref qm_order, .ref qm_ordered, .int qm_orderMany, .int qm_orderMost, .int qm_passing, .int qm_movedWho, .int qm_scratched, .ref qm_text, .int qm_texts, .int qm_seed, .ref qm_line, .ref qm_written, .int qm_lineMany, .int qm_hasWritten, .ref qm_node, .int qm_nodes, .int qm_onesMany, .int qm_within, .int qm_top]))]) C hw e_wordOf_13 mwX11_wordOf kw1363 [] [0] rfl rfl rfl rfl (by decide) rfl hl.1 rfl (Nat.le_of_ble_eq_true rfl) ⟨(Nat.le_of_ble_eq_true rfl), (Nat.le_of_ble_eq_true rfl)⟩ ⟨(Nat.le_of_ble_eq_true rfl), (Nat.le_of_ble_eq_true rfl)⟩ dX11_isName_23 (fun r67 u9 H locs hp9 hw => ?_)
                              obtain ⟨rfl, rfl⟩ := hp9
                              have hw : Wd G s A [(qm, .inr (10, [.int qm_thrown, .ref qm_tape, .int qm_taped, .int qm_size, .int qm_limit, .int qm_to, .int qm_from, .int qm_kind, .int qm_number, .int qm_sign, .int qm_fault, .int qm_place, .long qm_word, .int qm_told, .ref qm_now, .ref qm_read, .ref qm_kept, .ref qm_snaps, .ref qm_aside, .ref qm_name, .ref qm_readName, .ref qm_keptName, .ref qm_isKept, .ref qm_onces, .int qm_snapMany, .ref qm_order, .ref qm_ordered, .int qm_orderMany, .int qm_orderMost, .int qm_passing, .int qm_movedWho, .int qm_scratched, .ref qm_text, .int qm_texts, .int qm_seed, .ref qm_line, .ref qm_written, .int qm_lineMany, .int qm_hasWritten, .ref qm_node, .int qm_nodes, .int qm_onesMany, .int qm_within, .int qm_top]))] H _ := hw
                              refine W.lcmp C.1 C.2.1 dX11_isName_26 (x_genP (fun z : Int32 => z.toInt = 0 ↔ qm_word.toInt = 7413636302) (l_cmp0 rfl rfl) (fun v68 hv68 => ?_))
                              refine lv_if_ne (tgt := 32) C.1 C.2.1 dX11_isName_27 (by decide) (fun c69 => ?_) (fun c69 => ?_)
                              · skip
                                have c69 : v68.toInt ≠ 0 := i_eqF (X := v68.toInt) (Y := 0) rfl rfl c69
                                have bc69_v68 := i_bd v68
                                have d70 : qm_word.toInt ≠ 7413636302 := fun q9 => c69 (hv68.mpr q9)
                                clear hv68
                                refine lv_iinc (v := 14) (lv' := [(1, .int 14), (0, .ref qm)]) C.1 C.2.1 dX11_isName_32 hl (k := 0) rfl (by decide) (by decide) rfl (fun ls hl => ?_)
                                refine lv_goto (tgt := 12) C.1 C.2.1 dX11_isName_35 (by decide) ?_
                                refine lv_iload_n C.1 C.2.1 dX11_isName_12 rfl (lv_at hl 0 rfl) ?_
                                refine lv_bipush (v := 26) C.1 C.2.1 dX11_isName_13 (by decide) ?_
                                refine lv_icmp_gt (tgt := 38) C.1 C.2.1 dX11_isName_15 (by decide) (fun h9 => absurd h9 (by decide)) (fun _ => ?_)
                                refine lv_aload_n C.1 C.2.1 dX11_isName_18 rfl (lv_at hl 1 rfl) ?_
                                refine x_get C hw iwX11 10 rfl 0 rfl 12 (by decide) kw1205 rfl dX11_isName_19 ?_
                                refine lv_iload_n C.1 C.2.1 dX11_isName_22 rfl (lv_at hl 0 rfl) ?_
                                refine x_calllS (As := [.int 14]) (rest := [.long qm_word]) (wr := [(qm, .inr (10, [.int qm_thrown, .ref qm_tape, .int qm_taped, .int qm_size, .int qm_limit, .int qm_to, .int qm_from, .int qm_kind, .int qm_number, .int qm_sign, .int qm_fault, .int qm_place, .long qm_word, .int qm_told, .ref qm_now, .ref qm_read, .ref qm_kept, .ref qm_snaps, .ref qm_aside, .ref qm_name, .ref qm_readName, .ref qm_keptName, .ref qm_isKept, .ref qm_onces, .int qm_snapMany, .ref qm_order, .ref qm_ordered, .int qm_orderMany, .int qm_orderMost, .int qm_passing, .int qm_movedWho, .int qm_scratched, .ref qm_text, .int qm_texts, .int qm_seed, .ref qm_line, .ref qm_written, .int qm_lineMany, .int qm_hasWritten, .ref qm_node, .int qm_nodes, .int qm_onesMany, .int qm_within, .int qm_top]))]) C hw e_wordOf_14 mwX11_wordOf kw1363 [] [0] rfl rfl rfl rfl (by decide) rfl hl.1 rfl (Nat.le_of_ble_eq_true rfl) ⟨(Nat.le_of_ble_eq_true rfl), (Nat.le_of_ble_eq_true rfl)⟩ ⟨(Nat.le_of_ble_eq_true rfl), (Nat.le_of_ble_eq_true rfl)⟩ dX11_isName_23 (fun r72 u9 H locs hp9 hw => ?_)
                                obtain ⟨rfl, rfl⟩ := hp9
                                have hw : Wd G s A [(qm, .inr (10, [.int qm_thrown, .ref qm_tape, .int qm_taped, .int qm_size, .int qm_limit, .int qm_to, .int qm_from, .int qm_kind, .int qm_number, .int qm_sign, .int qm_fault, .int qm_place, .long qm_word, .int qm_told, .ref qm_now, .ref qm_read, .ref qm_kept, .ref qm_snaps, .ref qm_aside, .ref qm_name, .ref qm_readName, .ref qm_keptName, .ref qm_isKept, .ref qm_onces, .int qm_snapMany, .ref qm_order, .ref qm_ordered, .int qm_orderMany, .int qm_orderMost, .int qm_passing, .int qm_movedWho, .int qm_scratched, .ref qm_text, .int qm_texts, .int qm_seed, .ref qm_line, .ref qm_written, .int qm_lineMany, .int qm_hasWritten, .ref qm_node, .int qm_nodes, .int qm_onesMany, .int qm_within, .int qm_top]))] H _ := hw
                                refine W.lcmp C.1 C.2.1 dX11_isName_26 (x_genP (fun z : Int32 => z.toInt = 0 ↔ qm_word.toInt = 381097) (l_cmp0 rfl rfl) (fun v73 hv73 => ?_))
                                refine lv_if_ne (tgt := 32) C.1 C.2.1 dX11_isName_27 (by decide) (fun c74 => ?_) (fun c74 => ?_)
                                · skip
                                  have c74 : v73.toInt ≠ 0 := i_eqF (X := v73.toInt) (Y := 0) rfl rfl c74
                                  have bc74_v73 := i_bd v73
                                  have d75 : qm_word.toInt ≠ 381097 := fun q9 => c74 (hv73.mpr q9)
                                  clear hv73
                                  refine lv_iinc (v := 15) (lv' := [(1, .int 15), (0, .ref qm)]) C.1 C.2.1 dX11_isName_32 hl (k := 0) rfl (by decide) (by decide) rfl (fun ls hl => ?_)
                                  refine lv_goto (tgt := 12) C.1 C.2.1 dX11_isName_35 (by decide) ?_
                                  refine lv_iload_n C.1 C.2.1 dX11_isName_12 rfl (lv_at hl 0 rfl) ?_
                                  refine lv_bipush (v := 26) C.1 C.2.1 dX11_isName_13 (by decide) ?_
                                  refine lv_icmp_gt (tgt := 38) C.1 C.2.1 dX11_isName_15 (by decide) (fun h9 => absurd h9 (by decide)) (fun _ => ?_)
                                  refine lv_aload_n C.1 C.2.1 dX11_isName_18 rfl (lv_at hl 1 rfl) ?_
                                  refine x_get C hw iwX11 10 rfl 0 rfl 12 (by decide) kw1205 rfl dX11_isName_19 ?_
                                  refine lv_iload_n C.1 C.2.1 dX11_isName_22 rfl (lv_at hl 0 rfl) ?_
                                  refine x_calllS (As := [.int 15]) (rest := [.long qm_word]) (wr := [(qm, .inr (10, [.int qm_thrown, .ref qm_tape, .int qm_taped, .int qm_size, .int qm_limit, .int qm_to, .int qm_from, .int qm_kind, .int qm_number, .int qm_sign, .int qm_fault, .int qm_place, .long qm_word, .int qm_told, .ref qm_now, .ref qm_read, .ref qm_kept, .ref qm_snaps, .ref qm_aside, .ref qm_name, .ref qm_readName, .ref qm_keptName, .ref qm_isKept, .ref qm_onces, .int qm_snapMany, .ref qm_order, .ref qm_ordered, .int qm_orderMany, .int qm_orderMost, .int qm_passing, .int qm_movedWho, .int qm_scratched, .ref qm_text, .int qm_texts, .int qm_seed, .ref qm_line, .ref qm_written, .int qm_lineMany, .int qm_hasWritten, .ref qm_node, .int qm_nodes, .int qm_onesMany, .int qm_within, .int qm_top]))]) C hw e_wordOf_15 mwX11_wordOf kw1363 [] [0] rfl rfl rfl rfl (by decide) rfl hl.1 rfl (Nat.le_of_ble_eq_true rfl) ⟨(Nat.le_of_ble_eq_true rfl), (Nat.le_of_ble_eq_true rfl)⟩ ⟨(Nat.le_of_ble_eq_true rfl), (Nat.le_of_ble_eq_true rfl)⟩ dX11_isName_23 (fun r77 u9 H locs hp9 hw => ?_)
                                  obtain ⟨rfl, rfl⟩ := hp9
                                  have hw : Wd G s A [(qm, .inr (10, [.int qm_thrown, .ref qm_tape, .int qm_taped, .int qm_size, .int qm_limit, .int qm_to, .int qm_from, .int qm_kind, .int qm_number, .int qm_sign, .int qm_fault, .int qm_place, .long qm_word, .int qm_told, .ref qm_now, .ref qm_read, .ref qm_kept, .ref qm_snaps, .ref qm_aside, .ref qm_name, .ref qm_readName, .ref qm_keptName, .ref qm_isKept, .ref qm_onces, .int qm_snapMany, .ref qm_order, .ref qm_ordered, .int qm_orderMany, .int qm_orderMost, .int qm_passing, .int qm_movedWho, .int qm_scratched, .ref qm_text, .int qm_texts, .int qm_seed, .ref qm_line, .ref qm_written, .int qm_lineMany, .int qm_hasWritten, .ref qm_node, .int qm_nodes, .int qm_onesMany, .int qm_within, .int qm_top]))] H _ := hw
                                  refine W.lcmp C.1 C.2.1 dX11_isName_26 (x_genP (fun z : Int32 => z.toInt = 0 ↔ qm_word.toInt = 168984) (l_cmp0 rfl rfl) (fun v78 hv78 => ?_))
                                  refine lv_if_ne (tgt := 32) C.1 C.2.1 dX11_isName_27 (by decide) (fun c79 => ?_) (fun c79 => ?_)
                                  · skip
                                    have c79 : v78.toInt ≠ 0 := i_eqF (X := v78.toInt) (Y := 0) rfl rfl c79
                                    have bc79_v78 := i_bd v78
                                    have d80 : qm_word.toInt ≠ 168984 := fun q9 => c79 (hv78.mpr q9)
                                    clear hv78
                                    refine lv_iinc (v := 16) (lv' := [(1, .int 16), (0, .ref qm)]) C.1 C.2.1 dX11_isName_32 hl (k := 0) rfl (by decide) (by decide) rfl (fun ls hl => ?_)
                                    refine lv_goto (tgt := 12) C.1 C.2.1 dX11_isName_35 (by decide) ?_
                                    refine lv_iload_n C.1 C.2.1 dX11_isName_12 rfl (lv_at hl 0 rfl) ?_
                                    refine lv_bipush (v := 26) C.1 C.2.1 dX11_isName_13 (by decide) ?_
                                    refine lv_icmp_gt (tgt := 38) C.1 C.2.1 dX11_isName_15 (by decide) (fun h9 => absurd h9 (by decide)) (fun _ => ?_)
                                    refine lv_aload_n C.1 C.2.1 dX11_isName_18 rfl (lv_at hl 1 rfl) ?_
                                    refine x_get C hw iwX11 10 rfl 0 rfl 12 (by decide) kw1205 rfl dX11_isName_19 ?_
                                    refine lv_iload_n C.1 C.2.1 dX11_isName_22 rfl (lv_at hl 0 rfl) ?_
                                    refine x_calllS (As := [.int 16]) (rest := [.long qm_word]) (wr := [(qm, .inr (10, [.int qm_thrown, .ref qm_tape, .int qm_taped, .int qm_size, .int qm_limit, .int qm_to, .int qm_from, .int qm_kind, .int qm_number, .int qm_sign, .int qm_fault, .int qm_place, .long qm_word, .int qm_told, .ref qm_now, .ref qm_read, .ref qm_kept, .ref qm_snaps, .ref qm_aside, .ref qm_name, .ref qm_readName, .ref qm_keptName, .ref qm_isKept, .ref qm_onces, .int qm_snapMany, .ref qm_order, .ref qm_ordered, .int qm_orderMany, .int qm_orderMost, .int qm_passing, .int qm_movedWho, .int qm_scratched, .ref qm_text, .int qm_texts, .int qm_seed, .ref qm_line, .ref qm_written, .int qm_lineMany, .int qm_hasWritten, .ref qm_node, .int qm_nodes, .int qm_onesMany, .int qm_within, .int qm_top]))]) C hw e_wordOf_16 mwX11_wordOf kw1363 [] [0] rfl rfl rfl rfl (by decide) rfl hl.1 rfl (Nat.le_of_ble_eq_true rfl) ⟨(Nat.le_of_ble_eq_true rfl), (Nat.le_of_ble_eq_true rfl)⟩ ⟨(Nat.le_of_ble_eq_true rfl), (Nat.le_of_ble_eq_true rfl)⟩ dX11_isName_23 (fun r82 u9 H locs hp9 hw => ?_)
                                    obtain ⟨rfl, rfl⟩ := hp9
                                    have hw : Wd G s A [(qm, .inr (10, [.int qm_thrown, .ref qm_tape, .int qm_taped, .int qm_size, .int qm_limit, .int qm_to, .int qm_from, .int qm_kind, .int qm_number, .int qm_sign, .int qm_fault, .int qm_place, .long qm_word, .int qm_told, .ref qm_now, .ref qm_read, .ref qm_kept, .ref qm_snaps, .ref qm_aside, .ref qm_name, .ref qm_readName, .ref qm_keptName, .ref qm_isKept, .ref qm_onces, .int qm_snapMany, .ref qm_order, .ref qm_ordered, .int qm_orderMany, .int qm_orderMost, .int qm_passing, .int qm_movedWho, .int qm_scratched, .ref qm_text, .int qm_texts, .int qm_seed, .ref qm_line, .ref qm_written, .int qm_lineMany, .int qm_hasWritten, .ref qm_node, .int qm_nodes, .int qm_onesMany, .int qm_within, .int qm_top]))] H _ := hw
                                    refine W.lcmp C.1 C.2.1 dX11_isName_26 (x_genP (fun z : Int32 => z.toInt = 0 ↔ qm_word.toInt = 423) (l_cmp0 rfl rfl) (fun v83 hv83 => ?_))
                                    refine lv_if_ne (tgt := 32) C.1 C.2.1 dX11_isName_27 (by decide) (fun c84 => ?_) (fun c84 => ?_)
                                    · skip
                                      have c84 : v83.toInt ≠ 0 := i_eqF (X := v83.toInt) (Y := 0) rfl rfl c84
                                      have bc84_v83 := i_bd v83
                                      have d85 : qm_word.toInt ≠ 423 := fun q9 => c84 (hv83.mpr q9)
                                      clear hv83
                                      refine lv_iinc (v := 17) (lv' := [(1, .int 17), (0, .ref qm)]) C.1 C.2.1 dX11_isName_32 hl (k := 0) rfl (by decide) (by decide) rfl (fun ls hl => ?_)
                                      refine lv_goto (tgt := 12) C.1 C.2.1 dX11_isName_35 (by decide) ?_
                                      refine lv_iload_n C.1 C.2.1 dX11_isName_12 rfl (lv_at hl 0 rfl) ?_
                                      refine lv_bipush (v := 26) C.1 C.2.1 dX11_isName_13 (by decide) ?_
                                      refine lv_icmp_gt (tgt := 38) C.1 C.2.1 dX11_isName_15 (by decide) (fun h9 => absurd h9 (by decide)) (fun _ => ?_)
                                      refine lv_aload_n C.1 C.2.1 dX11_isName_18 rfl (lv_at hl 1 rfl) ?_
                                      refine x_get C hw iwX11 10 rfl 0 rfl 12 (by decide) kw1205 rfl dX11_isName_19 ?_
                                      refine lv_iload_n C.1 C.2.1 dX11_isName_22 rfl (lv_at hl 0 rfl) ?_
                                      refine x_calllS (As := [.int 17]) (rest := [.long qm_word]) (wr := [(qm, .inr (10, [.int qm_thrown, .ref qm_tape, .int qm_taped, .int qm_size, .int qm_limit, .int qm_to, .int qm_from, .int qm_kind, .int qm_number, .int qm_sign, .int qm_fault, .int qm_place, .long qm_word, .int qm_told, .ref qm_now, .ref qm_read, .ref qm_kept, .ref qm_snaps, .ref qm_aside, .ref qm_name, .ref qm_readName, .ref qm_keptName, .ref qm_isKept, .ref qm_onces, .int qm_snapMany, .ref qm_order, .ref qm_ordered, .int qm_orderMany, .int qm_orderMost, .int qm_passing, .int qm_movedWho, .int qm_scratched, .ref qm_text, .int qm_texts, .int qm_seed, .ref qm_line, .ref qm_written, .int qm_lineMany, .int qm_hasWritten, .ref qm_node, .int qm_nodes, .int qm_onesMany, .int qm_within, .int qm_top]))]) C hw e_wordOf_17 mwX11_wordOf kw1363 [] [0] rfl rfl rfl rfl (by decide) rfl hl.1 rfl (Nat.le_of_ble_eq_true rfl) ⟨(Nat.le_of_ble_eq_true rfl), (Nat.le_of_ble_eq_true rfl)⟩ ⟨(Nat.le_of_ble_eq_true rfl), (Nat.le_of_ble_eq_true rfl)⟩ dX11_isName_23 (fun r87 u9 H locs hp9 hw => ?_)
                                      obtain ⟨rfl, rfl⟩ := hp9
                                      have hw : Wd G s A [(qm, .inr (10, [.int qm_thrown, .ref qm_tape, .int qm_taped, .int qm_size, .int qm_limit, .int qm_to, .int qm_from, .int qm_kind, .int qm_number, .int qm_sign, .int qm_fault, .int qm_place, .long qm_word, .int qm_told, .ref qm_now, .ref qm_read, .ref qm_kept, .ref qm_snaps, .ref qm_aside, .ref qm_name, .ref qm_readName, .ref qm_keptName, .ref qm_isKept, .ref qm_onces, .int qm_snapMany, .ref qm_order, .ref qm_ordered, .int qm_orderMany, .int qm_orderMost, .int qm_passing, .int qm_movedWho, .int qm_scratched, .ref qm_text, .int qm_texts, .int qm_seed, .ref qm_line, .ref qm_written, .int qm_lineMany, .int qm_hasWritten, .ref qm_node, .int qm_nodes, .int qm_onesMany, .int qm_within, .int qm_top]))] H _ := hw
                                      refine W.lcmp C.1 C.2.1 dX11_isName_26 (x_genP (fun z : Int32 => z.toInt = 0 ↔ qm_word.toInt = 1111) (l_cmp0 rfl rfl) (fun v88 hv88 => ?_))
                                      refine lv_if_ne (tgt := 32) C.1 C.2.1 dX11_isName_27 (by decide) (fun c89 => ?_) (fun c89 => ?_)
                                      · skip
                                        have c89 : v88.toInt ≠ 0 := i_eqF (X := v88.toInt) (Y := 0) rfl rfl c89
                                        have bc89_v88 := i_bd v88
                                        have d90 : qm_word.toInt ≠ 1111 := fun q9 => c89 (hv88.mpr q9)
                                        clear hv88
                                        refine lv_iinc (v := 18) (lv' := [(1, .int 18), (0, .ref qm)]) C.1 C.2.1 dX11_isName_32 hl (k := 0) rfl (by decide) (by decide) rfl (fun ls hl => ?_)
                                        refine lv_goto (tgt := 12) C.1 C.2.1 dX11_isName_35 (by decide) ?_
                                        refine lv_iload_n C.1 C.2.1 dX11_isName_12 rfl (lv_at hl 0 rfl) ?_
                                        refine lv_bipush (v := 26) C.1 C.2.1 dX11_isName_13 (by decide) ?_
                                        refine lv_icmp_gt (tgt := 38) C.1 C.2.1 dX11_isName_15 (by decide) (fun h9 => absurd h9 (by decide)) (fun _ => ?_)
                                        refine lv_aload_n C.1 C.2.1 dX11_isName_18 rfl (lv_at hl 1 rfl) ?_
                                        refine x_get C hw iwX11 10 rfl 0 rfl 12 (by decide) kw1205 rfl dX11_isName_19 ?_
                                        refine lv_iload_n C.1 C.2.1 dX11_isName_22 rfl (lv_at hl 0 rfl) ?_
                                        refine x_calllS (As := [.int 18]) (rest := [.long qm_word]) (wr := [(qm, .inr (10, [.int qm_thrown, .ref qm_tape, .int qm_taped, .int qm_size, .int qm_limit, .int qm_to, .int qm_from, .int qm_kind, .int qm_number, .int qm_sign, .int qm_fault, .int qm_place, .long qm_word, .int qm_told, .ref qm_now, .ref qm_read, .ref qm_kept, .ref qm_snaps, .ref qm_aside, .ref qm_name, .ref qm_readName, .ref qm_keptName, .ref qm_isKept, .ref qm_onces, .int qm_snapMany, .ref qm_order, .ref qm_ordered, .int qm_orderMany, .int qm_orderMost, .int qm_passing, .int qm_movedWho, .int qm_scratched, .ref qm_text, .int qm_texts, .int qm_seed, .ref qm_line, .ref qm_written, .int qm_lineMany, .int qm_hasWritten, .ref qm_node, .int qm_nodes, .int qm_onesMany, .int qm_within, .int qm_top]))]) C hw e_wordOf_18 mwX11_wordOf kw1363 [] [0] rfl rfl rfl rfl (by decide) rfl hl.1 rfl (Nat.le_of_ble_eq_true rfl) ⟨(Nat.le_of_ble_eq_true rfl), (Nat.le_of_ble_eq_true rfl)⟩ ⟨(Nat.le_of_ble_eq_true rfl), (Nat.le_of_ble_eq_true rfl)⟩ dX11_isName_23 (fun r92 u9 H locs hp9 hw => ?_)
                                        obtain ⟨rfl, rfl⟩ := hp9
                                        have hw : Wd G s A [(qm, .inr (10, [.int qm_thrown, .ref qm_tape, .int qm_taped, .int qm_size, .int qm_limit, .int qm_to, .int qm_from, .int qm_kind, .int qm_number, .int qm_sign, .int qm_fault, .int qm_place, .long qm_word, .int qm_told, .ref qm_now, .ref qm_read, .ref qm_kept, .ref qm_snaps, .ref qm_aside, .ref qm_name, .ref qm_readName, .ref qm_keptName, .ref qm_isKept, .ref qm_onces, .int qm_snapMany, .ref qm_order, .ref qm_ordered, .int qm_orderMany, .int qm_orderMost, .int qm_passing, .int qm_movedWho, .int qm_scratched, .ref qm_text, .int qm_texts, .int qm_seed, .ref qm_line, .ref qm_written, .int qm_lineMany, .int qm_hasWritten, .ref qm_node, .int qm_nodes, .int qm_onesMany, .int qm_within, .int qm_top]))] H _ := hw
                                        refine W.lcmp C.1 C.2.1 dX11_isName_26 (x_genP (fun z : Int32 => z.toInt = 0 ↔ qm_word.toInt = 10631) (l_cmp0 rfl rfl) (fun v93 hv93 => ?_))
                                        refine lv_if_ne (tgt := 32) C.1 C.2.1 dX11_isName_27 (by decide) (fun c94 => ?_) (fun c94 => ?_)
                                        · skip
                                          have c94 : v93.toInt ≠ 0 := i_eqF (X := v93.toInt) (Y := 0) rfl rfl c94
                                          have bc94_v93 := i_bd v93
                                          have d95 : qm_word.toInt ≠ 10631 := fun q9 => c94 (hv93.mpr q9)
                                          clear hv93
                                          refine lv_iinc (v := 19) (lv' := [(1, .int 19), (0, .ref qm)]) C.1 C.2.1 dX11_isName_32 hl (k := 0) rfl (by decide) (by decide) rfl (fun ls hl => ?_)
                                          refine lv_goto (tgt := 12) C.1 C.2.1 dX11_isName_35 (by decide) ?_
                                          refine lv_iload_n C.1 C.2.1 dX11_isName_12 rfl (lv_at hl 0 rfl) ?_
                                          refine lv_bipush (v := 26) C.1 C.2.1 dX11_isName_13 (by decide) ?_
                                          refine lv_icmp_gt (tgt := 38) C.1 C.2.1 dX11_isName_15 (by decide) (fun h9 => absurd h9 (by decide)) (fun _ => ?_)
                                          refine lv_aload_n C.1 C.2.1 dX11_isName_18 rfl (lv_at hl 1 rfl) ?_
                                          refine x_get C hw iwX11 10 rfl 0 rfl 12 (by decide) kw1205 rfl dX11_isName_19 ?_
                                          refine lv_iload_n C.1 C.2.1 dX11_isName_22 rfl (lv_at hl 0 rfl) ?_
                                          refine x_calllS (As := [.int 19]) (rest := [.long qm_word]) (wr := [(qm, .inr (10, [.int qm_thrown, .ref qm_tape, .int qm_taped, .int qm_size, .int qm_limit, .int qm_to, .int qm_from, .int qm_kind, .int qm_number, .int qm_sign, .int qm_fault, .int qm_place, .long qm_word, .int qm_told, .ref qm_now, .ref qm_read, .ref qm_kept, .ref qm_snaps, .ref qm_aside, .ref qm_name, .ref qm_readName, .ref qm_keptName, .ref qm_isKept, .ref qm_onces, .int qm_snapMany, .ref qm_order, .ref qm_ordered, .int qm_orderMany, .int qm_orderMost, .int qm_passing, .int qm_movedWho, .int qm_scratched, .ref qm_text, .int qm_texts, .int qm_seed, .ref qm_line, .ref qm_written, .int qm_lineMany, .int qm_hasWritten, .ref qm_node, .int qm_nodes, .int qm_onesMany, .int qm_within, .int qm_top]))]) C hw e_wordOf_19 mwX11_wordOf kw1363 [] [0] rfl rfl rfl rfl (by decide) rfl hl.1 rfl (Nat.le_of_ble_eq_true rfl) ⟨(Nat.le_of_ble_eq_true rfl), (Nat.le_of_ble_eq_true rfl)⟩ ⟨(Nat.le_of_ble_eq_true rfl), (Nat.le_of_ble_eq_true rfl)⟩ dX11_isName_23 (fun r97 u9 H locs hp9 hw => ?_)
                                          obtain ⟨rfl, rfl⟩ := hp9
                                          have hw : Wd G s A [(qm, .inr (10, [.int qm_thrown, .ref qm_tape, .int qm_taped, .int qm_size, .int qm_limit, .int qm_to, .int qm_from, .int qm_kind, .int qm_number, .int qm_sign, .int qm_fault, .int qm_place, .long qm_word, .int qm_told, .ref qm_now, .ref qm_read, .ref qm_kept, .ref qm_snaps, .ref qm_aside, .ref qm_name, .ref qm_readName, .ref qm_keptName, .ref qm_isKept, .ref qm_onces, .int qm_snapMany, .ref qm_order, .ref qm_ordered, .int qm_orderMany, .int qm_orderMost, .int qm_passing, .int qm_movedWho, .int qm_scratched, .ref qm_text, .int qm_texts, .int qm_seed, .ref qm_line, .ref qm_written, .int qm_lineMany, .int qm_hasWritten, .ref qm_node, .int qm_nodes, .int qm_onesMany, .int qm_within, .int qm_top]))] H _ := hw
                                          refine W.lcmp C.1 C.2.1 dX11_isName_26 (x_genP (fun z : Int32 => z.toInt = 0 ↔ qm_word.toInt = 528) (l_cmp0 rfl rfl) (fun v98 hv98 => ?_))
                                          refine lv_if_ne (tgt := 32) C.1 C.2.1 dX11_isName_27 (by decide) (fun c99 => ?_) (fun c99 => ?_)
                                          · skip
                                            have c99 : v98.toInt ≠ 0 := i_eqF (X := v98.toInt) (Y := 0) rfl rfl c99
                                            have bc99_v98 := i_bd v98
                                            have d100 : qm_word.toInt ≠ 528 := fun q9 => c99 (hv98.mpr q9)
                                            clear hv98
                                            refine lv_iinc (v := 20) (lv' := [(1, .int 20), (0, .ref qm)]) C.1 C.2.1 dX11_isName_32 hl (k := 0) rfl (by decide) (by decide) rfl (fun ls hl => ?_)
                                            refine lv_goto (tgt := 12) C.1 C.2.1 dX11_isName_35 (by decide) ?_
                                            refine lv_iload_n C.1 C.2.1 dX11_isName_12 rfl (lv_at hl 0 rfl) ?_
                                            refine lv_bipush (v := 26) C.1 C.2.1 dX11_isName_13 (by decide) ?_
                                            refine lv_icmp_gt (tgt := 38) C.1 C.2.1 dX11_isName_15 (by decide) (fun h9 => absurd h9 (by decide)) (fun _ => ?_)
                                            refine lv_aload_n C.1 C.2.1 dX11_isName_18 rfl (lv_at hl 1 rfl) ?_
                                            refine x_get C hw iwX11 10 rfl 0 rfl 12 (by decide) kw1205 rfl dX11_isName_19 ?_
                                            refine lv_iload_n C.1 C.2.1 dX11_isName_22 rfl (lv_at hl 0 rfl) ?_
                                            refine x_calllS (As := [.int 20]) (rest := [.long qm_word]) (wr := [(qm, .inr (10, [.int qm_thrown, .ref qm_tape, .int qm_taped, .int qm_size, .int qm_limit, .int qm_to, .int qm_from, .int qm_kind, .int qm_number, .int qm_sign, .int qm_fault, .int qm_place, .long qm_word, .int qm_told, .ref qm_now, .ref qm_read, .ref qm_kept, .ref qm_snaps, .ref qm_aside, .ref qm_name, .ref qm_readName, .ref qm_keptName, .ref qm_isKept, .ref qm_onces, .int qm_snapMany, .ref qm_order, .ref qm_ordered, .int qm_orderMany, .int qm_orderMost, .int qm_passing, .int qm_movedWho, .int qm_scratched, .ref qm_text, .int qm_texts, .int qm_seed, .ref qm_line, .ref qm_written, .int qm_lineMany, .int qm_hasWritten, .ref qm_node, .int qm_nodes, .int qm_onesMany, .int qm_within, .int qm_top]))]) C hw e_wordOf_20 mwX11_wordOf kw1363 [] [0] rfl rfl rfl rfl (by decide) rfl hl.1 rfl (Nat.le_of_ble_eq_true rfl) ⟨(Nat.le_of_ble_eq_true rfl), (Nat.le_of_ble_eq_true rfl)⟩ ⟨(Nat.le_of_ble_eq_true rfl), (Nat.le_of_ble_eq_true rfl)⟩ dX11_isName_23 (fun r102 u9 H locs hp9 hw => ?_)
                                            obtain ⟨rfl, rfl⟩ := hp9
                                            have hw : Wd G s A [(qm, .inr (10, [.int qm_thrown, .ref qm_tape, .int qm_taped, .int qm_size, .int qm_limit, .int qm_to, .int qm_from, .int qm_kind, .int qm_number, .int qm_sign, .int qm_fault, .int qm_place, .long qm_word, .int qm_told, .ref qm_now, .ref qm_read, .ref qm_kept, .ref qm_snaps, .ref qm_aside, .ref qm_name, .ref qm_readName, .ref qm_keptName, .ref qm_isKept, .ref qm_onces, .int qm_snapMany, .ref qm_order, .ref qm_ordered, .int qm_orderMany, .int qm_orderMost, .int qm_passing, .int qm_movedWho, .int qm_scratched, .ref qm_text, .int qm_texts, .int qm_seed, .ref qm_line, .ref qm_written, .int qm_lineMany, .int qm_hasWritten, .ref qm_node, .int qm_nodes, .int qm_onesMany, .int qm_within, .int qm_top]))] H _ := hw
                                            refine W.lcmp C.1 C.2.1 dX11_isName_26 (x_genP (fun z : Int32 => z.toInt = 0 ↔ qm_word.toInt = 1421140441) (l_cmp0 rfl rfl) (fun v103 hv103 => ?_))
                                            refine lv_if_ne (tgt := 32) C.1 C.2.1 dX11_isName_27 (by decide) (fun c104 => ?_) (fun c104 => ?_)
                                            · skip
                                              have c104 : v103.toInt ≠ 0 := i_eqF (X := v103.toInt) (Y := 0) rfl rfl c104
                                              have bc104_v103 := i_bd v103
                                              have d105 : qm_word.toInt ≠ 1421140441 := fun q9 => c104 (hv103.mpr q9)
                                              clear hv103
                                              refine lv_iinc (v := 21) (lv' := [(1, .int 21), (0, .ref qm)]) C.1 C.2.1 dX11_isName_32 hl (k := 0) rfl (by decide) (by decide) rfl (fun ls hl => ?_)
                                              refine lv_goto (tgt := 12) C.1 C.2.1 dX11_isName_35 (by decide) ?_
                                              refine lv_iload_n C.1 C.2.1 dX11_isName_12 rfl (lv_at hl 0 rfl) ?_
                                              refine lv_bipush (v := 26) C.1 C.2.1 dX11_isName_13 (by decide) ?_
                                              refine lv_icmp_gt (tgt := 38) C.1 C.2.1 dX11_isName_15 (by decide) (fun h9 => absurd h9 (by decide)) (fun _ => ?_)
                                              refine lv_aload_n C.1 C.2.1 dX11_isName_18 rfl (lv_at hl 1 rfl) ?_
                                              refine x_get C hw iwX11 10 rfl 0 rfl 12 (by decide) kw1205 rfl dX11_isName_19 ?_
                                              refine lv_iload_n C.1 C.2.1 dX11_isName_22 rfl (lv_at hl 0 rfl) ?_
                                              refine x_calllS (As := [.int 21]) (rest := [.long qm_word]) (wr := [(qm, .inr (10, [.int qm_thrown, .ref qm_tape, .int qm_taped, .int qm_size, .int qm_limit, .int qm_to, .int qm_from, .int qm_kind, .int qm_number, .int qm_sign, .int qm_fault, .int qm_place, .long qm_word, .int qm_told, .ref qm_now, .ref qm_read, .ref qm_kept, .ref qm_snaps, .ref qm_aside, .ref qm_name, .ref qm_readName, .ref qm_keptName, .ref qm_isKept, .ref qm_onces, .int qm_snapMany, .ref qm_order, .ref qm_ordered, .int qm_orderMany, .int qm_orderMost, .int qm_passing, .int qm_movedWho, .int qm_scratched, .ref qm_text, .int qm_texts, .int qm_seed, .ref qm_line, .ref qm_written, .int qm_lineMany, .int qm_hasWritten, .ref qm_node, .int qm_nodes, .int qm_onesMany, .int qm_within, .int qm_top]))]) C hw e_wordOf_21 mwX11_wordOf kw1363 [] [0] rfl rfl rfl rfl (by decide) rfl hl.1 rfl (Nat.le_of_ble_eq_true rfl) ⟨(Nat.le_of_ble_eq_true rfl), (Nat.le_of_ble_eq_true rfl)⟩ ⟨(Nat.le_of_ble_eq_true rfl), (Nat.le_of_ble_eq_true rfl)⟩ dX11_isName_23 (fun r107 u9 H locs hp9 hw => ?_)
                                              obtain ⟨rfl, rfl⟩ := hp9
                                              have hw : Wd G s A [(qm, .inr (10, [.int qm_thrown, .ref qm_tape, .int qm_taped, .int qm_size, .int qm_limit, .int qm_to, .int qm_from, .int qm_kind, .int qm_number, .int qm_sign, .int qm_fault, .int qm_place, .long qm_word, .int qm_told, .ref qm_now, .ref qm_read, .ref qm_kept, .ref qm_snaps, .ref qm_aside, .ref qm_name, .ref qm_readName, .ref qm_keptName, .ref qm_isKept, .ref qm_onces, .int qm_snapMany, .ref qm_order, .ref qm_ordered, .int qm_orderMany, .int qm_orderMost, .int qm_passing, .int qm_movedWho, .int qm_scratched, .ref qm_text, .int qm_texts, .int qm_seed, .ref qm_line, .ref qm_written, .int qm_lineMany, .int qm_hasWritten, .ref qm_node, .int qm_nodes, .int qm_onesMany, .int qm_within, .int qm_top]))] H _ := hw
                                              refine W.lcmp C.1 C.2.1 dX11_isName_26 (x_genP (fun z : Int32 => z.toInt = 0 ↔ qm_word.toInt = 114602) (l_cmp0 rfl rfl) (fun v108 hv108 => ?_))
                                              refine lv_if_ne (tgt := 32) C.1 C.2.1 dX11_isName_27 (by decide) (fun c109 => ?_) (fun c109 => ?_)
                                              · skip
                                                have c109 : v108.toInt ≠ 0 := i_eqF (X := v108.toInt) (Y := 0) rfl rfl c109
                                                have bc109_v108 := i_bd v108
                                                have d110 : qm_word.toInt ≠ 114602 := fun q9 => c109 (hv108.mpr q9)
                                                clear hv108
                                                refine lv_iinc (v := 22) (lv' := [(1, .int 22), (0, .ref qm)]) C.1 C.2.1 dX11_isName_32 hl (k := 0) rfl (by decide) (by decide) rfl (fun ls hl => ?_)
                                                refine lv_goto (tgt := 12) C.1 C.2.1 dX11_isName_35 (by decide) ?_
                                                refine lv_iload_n C.1 C.2.1 dX11_isName_12 rfl (lv_at hl 0 rfl) ?_
                                                refine lv_bipush (v := 26) C.1 C.2.1 dX11_isName_13 (by decide) ?_
                                                refine lv_icmp_gt (tgt := 38) C.1 C.2.1 dX11_isName_15 (by decide) (fun h9 => absurd h9 (by decide)) (fun _ => ?_)
                                                refine lv_aload_n C.1 C.2.1 dX11_isName_18 rfl (lv_at hl 1 rfl) ?_
                                                refine x_get C hw iwX11 10 rfl 0 rfl 12 (by decide) kw1205 rfl dX11_isName_19 ?_
                                                refine lv_iload_n C.1 C.2.1 dX11_isName_22 rfl (lv_at hl 0 rfl) ?_
                                                refine x_calllS (As := [.int 22]) (rest := [.long qm_word]) (wr := [(qm, .inr (10, [.int qm_thrown, .ref qm_tape, .int qm_taped, .int qm_size, .int qm_limit, .int qm_to, .int qm_from, .int qm_kind, .int qm_number, .int qm_sign, .int qm_fault, .int qm_place, .long qm_word, .int qm_told, .ref qm_now, .ref qm_read, .ref qm_kept, .ref qm_snaps, .ref qm_aside, .ref qm_name, .ref qm_readName, .ref qm_keptName, .ref qm_isKept, .ref qm_onces, .int qm_snapMany, .ref qm_order, .ref qm_ordered, .int qm_orderMany, .int qm_orderMost, .int qm_passing, .int qm_movedWho, .int qm_scratched, .ref qm_text, .int qm_texts, .int qm_seed, .ref qm_line, .ref qm_written, .int qm_lineMany, .int qm_hasWritten, .ref qm_node, .int qm_nodes, .int qm_onesMany, .int qm_within, .int qm_top]))]) C hw e_wordOf_22 mwX11_wordOf kw1363 [] [0] rfl rfl rfl rfl (by decide) rfl hl.1 rfl (Nat.le_of_ble_eq_true rfl) ⟨(Nat.le_of_ble_eq_true rfl), (Nat.le_of_ble_eq_true rfl)⟩ ⟨(Nat.le_of_ble_eq_true rfl), (Nat.le_of_ble_eq_true rfl)⟩ dX11_isName_23 (fun r112 u9 H locs hp9 hw => ?_)
                                                obtain ⟨rfl, rfl⟩ := hp9
                                                have hw : Wd G s A [(qm, .inr (10, [.int qm_thrown, .ref qm_tape, .int qm_taped, .int qm_size, .int qm_limit, .int qm_to, .int qm_from, .int qm_kind, .int qm_number, .int qm_sign, .int qm_fault, .int qm_place, .long qm_word, .int qm_told, .ref qm_now, .ref qm_read, .ref qm_kept, .ref qm_snaps, .ref qm_aside, .ref qm_name, .ref qm_readName, .ref qm_keptName, .ref qm_isKept, .ref qm_onces, .int qm_snapMany, .ref qm_order, .ref qm_ordered, .int qm_orderMany, .int qm_orderMost, .int qm_passing, .int qm_movedWho, .int qm_scratched, .ref qm_text, .int qm_texts, .int qm_seed, .ref qm_line, .ref qm_written, .int qm_lineMany, .int qm_hasWritten, .ref qm_node, .int qm_nodes, .int qm_onesMany, .int qm_within, .int qm_top]))] H _ := hw
                                                refine W.lcmp C.1 C.2.1 dX11_isName_26 (x_genP (fun z : Int32 => z.toInt = 0 ↔ qm_word.toInt = 243059) (l_cmp0 rfl rfl) (fun v113 hv113 => ?_))
                                                refine lv_if_ne (tgt := 32) C.1 C.2.1 dX11_isName_27 (by decide) (fun c114 => ?_) (fun c114 => ?_)
                                                · skip
                                                  have c114 : v113.toInt ≠ 0 := i_eqF (X := v113.toInt) (Y := 0) rfl rfl c114
                                                  have bc114_v113 := i_bd v113
                                                  have d115 : qm_word.toInt ≠ 243059 := fun q9 => c114 (hv113.mpr q9)
                                                  clear hv113
                                                  refine lv_iinc (v := 23) (lv' := [(1, .int 23), (0, .ref qm)]) C.1 C.2.1 dX11_isName_32 hl (k := 0) rfl (by decide) (by decide) rfl (fun ls hl => ?_)
                                                  refine lv_goto (tgt := 12) C.1 C.2.1 dX11_isName_35 (by decide) ?_
                                                  refine lv_iload_n C.1 C.2.1 dX11_isName_12 rfl (lv_at hl 0 rfl) ?_
                                                  refine lv_bipush (v := 26) C.1 C.2.1 dX11_isName_13 (by decide) ?_
                                                  refine lv_icmp_gt (tgt := 38) C.1 C.2.1 dX11_isName_15 (by decide) (fun h9 => absurd h9 (by decide)) (fun _ => ?_)
                                                  refine lv_aload_n C.1 C.2.1 dX11_isName_18 rfl (lv_at hl 1 rfl) ?_
                                                  refine x_get C hw iwX11 10 rfl 0 rfl 12 (by decide) kw1205 rfl dX11_isName_19 ?_
                                                  refine lv_iload_n C.1 C.2.1 dX11_isName_22 rfl (lv_at hl 0 rfl) ?_
                                                  refine x_calllS (As := [.int 23]) (rest := [.long qm_word]) (wr := [(qm, .inr (10, [.int qm_thrown, .ref qm_tape, .int qm_taped, .int qm_size, .int qm_limit, .int qm_to, .int qm_from, .int qm_kind, .int qm_number, .int qm_sign, .int qm_fault, .int qm_place, .long qm_word, .int qm_told, .ref qm_now, .ref qm_read, .ref qm_kept, .ref qm_snaps, .ref qm_aside, .ref qm_name, .ref qm_readName, .ref qm_keptName, .ref qm_isKept, .ref qm_onces, .int qm_snapMany, .ref qm_order, .ref qm_ordered, .int qm_orderMany, .int qm_orderMost, .int qm_passing, .int qm_movedWho, .int qm_scratched, .ref qm_text, .int qm_texts, .int qm_seed, .ref qm_line, .ref qm_written, .int qm_lineMany, .int qm_hasWritten, .ref qm_node, .int qm_nodes, .int qm_onesMany, .int qm_within, .int qm_top]))]) C hw e_wordOf_23 mwX11_wordOf kw1363 [] [0] rfl rfl rfl rfl (by decide) rfl hl.1 rfl (Nat.le_of_ble_eq_true rfl) ⟨(Nat.le_of_ble_eq_true rfl), (Nat.le_of_ble_eq_true rfl)⟩ ⟨(Nat.le_of_ble_eq_true rfl), (Nat.le_of_ble_eq_true rfl)⟩ dX11_isName_23 (fun r117 u9 H locs hp9 hw => ?_)
                                                  obtain ⟨rfl, rfl⟩ := hp9
                                                  have hw : Wd G s A [(qm, .inr (10, [.int qm_thrown, .ref qm_tape, .int qm_taped, .int qm_size, .int qm_limit, .int qm_to, .int qm_from, .int qm_kind, .int qm_number, .int qm_sign, .int qm_fault, .int qm_place, .long qm_word, .int qm_told, .ref qm_now, .ref qm_read, .ref qm_kept, .ref qm_snaps, .ref qm_aside, .ref qm_name, .ref qm_readName, .ref qm_keptName, .ref qm_isKept, .ref qm_onces, .int qm_snapMany, .ref qm_order, .ref qm_ordered, .int qm_orderMany, .int qm_orderMost, .int qm_passing, .int qm_movedWho, .int qm_scratched, .ref qm_text, .int qm_texts, .int qm_seed, .ref qm_line, .ref qm_written, .int qm_lineMany, .int qm_hasWritten, .ref qm_node, .int qm_nodes, .int qm_onesMany, .int qm_within, .int qm_top]))] H _ := hw
                                                  refine W.lcmp C.1 C.2.1 dX11_isName_26 (x_genP (fun z : Int32 => z.toInt = 0 ↔ qm_word.toInt = 6559778) (l_cmp0 rfl rfl) (fun v118 hv118 => ?_))
                                                  refine lv_if_ne (tgt := 32) C.1 C.2.1 dX11_isName_27 (by decide) (fun c119 => ?_) (fun c119 => ?_)
                                                  · skip
                                                    have c119 : v118.toInt ≠ 0 := i_eqF (X := v118.toInt) (Y := 0) rfl rfl c119
                                                    have bc119_v118 := i_bd v118
                                                    have d120 : qm_word.toInt ≠ 6559778 := fun q9 => c119 (hv118.mpr q9)
                                                    clear hv118
                                                    refine lv_iinc (v := 24) (lv' := [(1, .int 24), (0, .ref qm)]) C.1 C.2.1 dX11_isName_32 hl (k := 0) rfl (by decide) (by decide) rfl (fun ls hl => ?_)
                                                    refine lv_goto (tgt := 12) C.1 C.2.1 dX11_isName_35 (by decide) ?_
                                                    refine lv_iload_n C.1 C.2.1 dX11_isName_12 rfl (lv_at hl 0 rfl) ?_
                                                    refine lv_bipush (v := 26) C.1 C.2.1 dX11_isName_13 (by decide) ?_
                                                    refine lv_icmp_gt (tgt := 38) C.1 C.2.1 dX11_isName_15 (by decide) (fun h9 => absurd h9 (by decide)) (fun _ => ?_)
                                                    refine lv_aload_n C.1 C.2.1 dX11_isName_18 rfl (lv_at hl 1 rfl) ?_
                                                    refine x_get C hw iwX11 10 rfl 0 rfl 12 (by decide) kw1205 rfl dX11_isName_19 ?_
                                                    refine lv_iload_n C.1 C.2.1 dX11_isName_22 rfl (lv_at hl 0 rfl) ?_
                                                    refine x_calllS (As := [.int 24]) (rest := [.long qm_word]) (wr := [(qm, .inr (10, [.int qm_thrown, .ref qm_tape, .int qm_taped, .int qm_size, .int qm_limit, .int qm_to, .int qm_from, .int qm_kind, .int qm_number, .int qm_sign, .int qm_fault, .int qm_place, .long qm_word, .int qm_told, .ref qm_now, .ref qm_read, .ref qm_kept, .ref qm_snaps, .ref qm_aside, .ref qm_name, .ref qm_readName, .ref qm_keptName, .ref qm_isKept, .ref qm_onces, .int qm_snapMany, .ref qm_order, .ref qm_ordered, .int qm_orderMany, .int qm_orderMost, .int qm_passing, .int qm_movedWho, .int qm_scratched, .ref qm_text, .int qm_texts, .int qm_seed, .ref qm_line, .ref qm_written, .int qm_lineMany, .int qm_hasWritten, .ref qm_node, .int qm_nodes, .int qm_onesMany, .int qm_within, .int qm_top]))]) C hw e_wordOf_24 mwX11_wordOf kw1363 [] [0] rfl rfl rfl rfl (by decide) rfl hl.1 rfl (Nat.le_of_ble_eq_true rfl) ⟨(Nat.le_of_ble_eq_true rfl), (Nat.le_of_ble_eq_true rfl)⟩ ⟨(Nat.le_of_ble_eq_true rfl), (Nat.le_of_ble_eq_true rfl)⟩ dX11_isName_23 (fun r122 u9 H locs hp9 hw => ?_)
                                                    obtain ⟨rfl, rfl⟩ := hp9
                                                    have hw : Wd G s A [(qm, .inr (10, [.int qm_thrown, .ref qm_tape, .int qm_taped, .int qm_size, .int qm_limit, .int qm_to, .int qm_from, .int qm_kind, .int qm_number, .int qm_sign, .int qm_fault, .int qm_place, .long qm_word, .int qm_told, .ref qm_now, .ref qm_read, .ref qm_kept, .ref qm_snaps, .ref qm_aside, .ref qm_name, .ref qm_readName, .ref qm_keptName, .ref qm_isKept, .ref qm_onces, .int qm_snapMany, .ref qm_order, .ref qm_ordered, .int qm_orderMany, .int qm_orderMost, .int qm_passing, .int qm_movedWho, .int qm_scratched, .ref qm_text, .int qm_texts, .int qm_seed, .ref qm_line, .ref qm_written, .int qm_lineMany, .int qm_hasWritten, .ref qm_node, .int qm_nodes, .int qm_onesMany, .int qm_within, .int qm_top]))] H _ := hw
                                                    refine W.lcmp C.1 C.2.1 dX11_isName_26 (x_genP (fun z : Int32 => z.toInt = 0 ↔ qm_word.toInt = 161156) (l_cmp0 rfl rfl) (fun v123 hv123 => ?_))
                                                    refine lv_if_ne (tgt := 32) C.1 C.2.1 dX11_isName_27 (by decide) (fun c124 => ?_) (fun c124 => ?_)
                                                    · skip
                                                      have c124 : v123.toInt ≠ 0 := i_eqF (X := v123.toInt) (Y := 0) rfl rfl c124
                                                      have bc124_v123 := i_bd v123
                                                      have d125 : qm_word.toInt ≠ 161156 := fun q9 => c124 (hv123.mpr q9)
                                                      clear hv123
                                                      refine lv_iinc (v := 25) (lv' := [(1, .int 25), (0, .ref qm)]) C.1 C.2.1 dX11_isName_32 hl (k := 0) rfl (by decide) (by decide) rfl (fun ls hl => ?_)
                                                      refine lv_goto (tgt := 12) C.1 C.2.1 dX11_isName_35 (by decide) ?_
                                                      refine lv_iload_n C.1 C.2.1 dX11_isName_12 rfl (lv_at hl 0 rfl) ?_
                                                      refine lv_bipush (v := 26) C.1 C.2.1 dX11_isName_13 (by decide) ?_
                                                      refine lv_icmp_gt (tgt := 38) C.1 C.2.1 dX11_isName_15 (by decide) (fun h9 => absurd h9 (by decide)) (fun _ => ?_)
                                                      refine lv_aload_n C.1 C.2.1 dX11_isName_18 rfl (lv_at hl 1 rfl) ?_
                                                      refine x_get C hw iwX11 10 rfl 0 rfl 12 (by decide) kw1205 rfl dX11_isName_19 ?_
                                                      refine lv_iload_n C.1 C.2.1 dX11_isName_22 rfl (lv_at hl 0 rfl) ?_
                                                      refine x_calllS (As := [.int 25]) (rest := [.long qm_word]) (wr := [(qm, .inr (10, [.int qm_thrown, .ref qm_tape, .int qm_taped, .int qm_size, .int qm_limit, .int qm_to, .int qm_from, .int qm_kind, .int qm_number, .int qm_sign, .int qm_fault, .int qm_place, .long qm_word, .int qm_told, .ref qm_now, .ref qm_read, .ref qm_kept, .ref qm_snaps, .ref qm_aside, .ref qm_name, .ref qm_readName, .ref qm_keptName, .ref qm_isKept, .ref qm_onces, .int qm_snapMany, .ref qm_order, .ref qm_ordered, .int qm_orderMany, .int qm_orderMost, .int qm_passing, .int qm_movedWho, .int qm_scratched, .ref qm_text, .int qm_texts, .int qm_seed, .ref qm_line, .ref qm_written, .int qm_lineMany, .int qm_hasWritten, .ref qm_node, .int qm_nodes, .int qm_onesMany, .int qm_within, .int qm_top]))]) C hw e_wordOf_25 mwX11_wordOf kw1363 [] [0] rfl rfl rfl rfl (by decide) rfl hl.1 rfl (Nat.le_of_ble_eq_true rfl) ⟨(Nat.le_of_ble_eq_true rfl), (Nat.le_of_ble_eq_true rfl)⟩ ⟨(Nat.le_of_ble_eq_true rfl), (Nat.le_of_ble_eq_true rfl)⟩ dX11_isName_23 (fun r127 u9 H locs hp9 hw => ?_)
                                                      obtain ⟨rfl, rfl⟩ := hp9
                                                      have hw : Wd G s A [(qm, .inr (10, [.int qm_thrown, .ref qm_tape, .int qm_taped, .int qm_size, .int qm_limit, .int qm_to, .int qm_from, .int qm_kind, .int qm_number, .int qm_sign, .int qm_fault, .int qm_place, .long qm_word, .int qm_told, .ref qm_now, .ref qm_read, .ref qm_kept, .ref qm_snaps, .ref qm_aside, .ref qm_name, .ref qm_readName, .ref qm_keptName, .ref qm_isKept, .ref qm_onces, .int qm_snapMany, .ref qm_order, .ref qm_ordered, .int qm_orderMany, .int qm_orderMost, .int qm_passing, .int qm_movedWho, .int qm_scratched, .ref qm_text, .int qm_texts, .int qm_seed, .ref qm_line, .ref qm_written, .int qm_lineMany, .int qm_hasWritten, .ref qm_node, .int qm_nodes, .int qm_onesMany, .int qm_within, .int qm_top]))] H _ := hw
                                                      refine W.lcmp C.1 C.2.1 dX11_isName_26 (x_genP (fun z : Int32 => z.toInt = 0 ↔ qm_word.toInt = 10279864) (l_cmp0 rfl rfl) (fun v128 hv128 => ?_))
                                                      refine lv_if_ne (tgt := 32) C.1 C.2.1 dX11_isName_27 (by decide) (fun c129 => ?_) (fun c129 => ?_)
                                                      · skip
                                                        have c129 : v128.toInt ≠ 0 := i_eqF (X := v128.toInt) (Y := 0) rfl rfl c129
                                                        have bc129_v128 := i_bd v128
                                                        have d130 : qm_word.toInt ≠ 10279864 := fun q9 => c129 (hv128.mpr q9)
                                                        clear hv128
                                                        refine lv_iinc (v := 26) (lv' := [(1, .int 26), (0, .ref qm)]) C.1 C.2.1 dX11_isName_32 hl (k := 0) rfl (by decide) (by decide) rfl (fun ls hl => ?_)
                                                        refine lv_goto (tgt := 12) C.1 C.2.1 dX11_isName_35 (by decide) ?_
                                                        refine lv_iload_n C.1 C.2.1 dX11_isName_12 rfl (lv_at hl 0 rfl) ?_
                                                        refine lv_bipush (v := 26) C.1 C.2.1 dX11_isName_13 (by decide) ?_
                                                        refine lv_icmp_gt (tgt := 38) C.1 C.2.1 dX11_isName_15 (by decide) (fun h9 => absurd h9 (by decide)) (fun _ => ?_)
                                                        refine lv_aload_n C.1 C.2.1 dX11_isName_18 rfl (lv_at hl 1 rfl) ?_
                                                        refine x_get C hw iwX11 10 rfl 0 rfl 12 (by decide) kw1205 rfl dX11_isName_19 ?_
                                                        refine lv_iload_n C.1 C.2.1 dX11_isName_22 rfl (lv_at hl 0 rfl) ?_
                                                        refine x_calllS (As := [.int 26]) (rest := [.long qm_word]) (wr := [(qm, .inr (10, [.int qm_thrown, .ref qm_tape, .int qm_taped, .int qm_size, .int qm_limit, .int qm_to, .int qm_from, .int qm_kind, .int qm_number, .int qm_sign, .int qm_fault, .int qm_place, .long qm_word, .int qm_told, .ref qm_now, .ref qm_read, .ref qm_kept, .ref qm_snaps, .ref qm_aside, .ref qm_name, .ref qm_readName, .ref qm_keptName, .ref qm_isKept, .ref qm_onces, .int qm_snapMany, .ref qm_order, .ref qm_ordered, .int qm_orderMany, .int qm_orderMost, .int qm_passing, .int qm_movedWho, .int qm_scratched, .ref qm_text, .int qm_texts, .int qm_seed, .ref qm_line, .ref qm_written, .int qm_lineMany, .int qm_hasWritten, .ref qm_node, .int qm_nodes, .int qm_onesMany, .int qm_within, .int qm_top]))]) C hw e_wordOf_26 mwX11_wordOf kw1363 [] [0] rfl rfl rfl rfl (by decide) rfl hl.1 rfl (Nat.le_of_ble_eq_true rfl) ⟨(Nat.le_of_ble_eq_true rfl), (Nat.le_of_ble_eq_true rfl)⟩ ⟨(Nat.le_of_ble_eq_true rfl), (Nat.le_of_ble_eq_true rfl)⟩ dX11_isName_23 (fun r132 u9 H locs hp9 hw => ?_)
                                                        obtain ⟨rfl, rfl⟩ := hp9
                                                        have hw : Wd G s A [(qm, .inr (10, [.int qm_thrown, .ref qm_tape, .int qm_taped, .int qm_size, .int qm_limit, .int qm_to, .int qm_from, .int qm_kind, .int qm_number, .int qm_sign, .int qm_fault, .int qm_place, .long qm_word, .int qm_told, .ref qm_now, .ref qm_read, .ref qm_kept, .ref qm_snaps, .ref qm_aside, .ref qm_name, .ref qm_readName, .ref qm_keptName, .ref qm_isKept, .ref qm_onces, .int qm_snapMany, .ref qm_order, .ref qm_ordered, .int qm_orderMany, .int qm_orderMost, .int qm_passing, .int qm_movedWho, .int qm_scratched, .ref qm_text, .int qm_texts, .int qm_seed, .ref qm_line, .ref qm_written, .int qm_lineMany, .int qm_hasWritten, .ref qm_node, .int qm_nodes, .int qm_onesMany, .int qm_within, .int qm_top]))] H _ := hw
                                                        refine W.lcmp C.1 C.2.1 dX11_isName_26 (x_genP (fun z : Int32 => z.toInt = 0 ↔ qm_word.toInt = 212302449) (l_cmp0 rfl rfl) (fun v133 hv133 => ?_))
                                                        refine lv_if_ne (tgt := 32) C.1 C.2.1 dX11_isName_27 (by decide) (fun c134 => ?_) (fun c134 => ?_)
                                                        · skip
                                                          have c134 : v133.toInt ≠ 0 := i_eqF (X := v133.toInt) (Y := 0) rfl rfl c134
                                                          have bc134_v133 := i_bd v133
                                                          have d135 : qm_word.toInt ≠ 212302449 := fun q9 => c134 (hv133.mpr q9)
                                                          clear hv133
                                                          refine lv_iinc (v := 27) (lv' := [(1, .int 27), (0, .ref qm)]) C.1 C.2.1 dX11_isName_32 hl (k := 0) rfl (by decide) (by decide) rfl (fun ls hl => ?_)
                                                          refine lv_goto (tgt := 12) C.1 C.2.1 dX11_isName_35 (by decide) ?_
                                                          refine lv_iload_n C.1 C.2.1 dX11_isName_12 rfl (lv_at hl 0 rfl) ?_
                                                          refine lv_bipush (v := 26) C.1 C.2.1 dX11_isName_13 (by decide) ?_
                                                          refine lv_icmp_gt (tgt := 38) C.1 C.2.1 dX11_isName_15 (by decide) (fun _ => ?_) (fun h9 => absurd (by decide) h9)
                                                          refine lv_iconst (v := 1) C.1 C.2.1 dX11_isName_38 (by decide) ?_
                                                          exact x_retzQ hQ B hw rfl (Or.inr ⟨rfl, rfl, ⟨hk2, kyN_no.mpr (fun i9 hi9 => match i9, hi9 with | 0, _ => (show tkW b qm_size.toInt pp ≠ 10340249 from fun q9 => d5 (hwd.trans q9)) | 1, _ => (show tkW b qm_size.toInt pp ≠ 117481419 from fun q9 => d10 (hwd.trans q9)) | 2, _ => (show tkW b qm_size.toInt pp ≠ 6562612 from fun q9 => d25 (hwd.trans q9)) | 3, _ => (show tkW b qm_size.toInt pp ≠ 4285945 from fun q9 => d30 (hwd.trans q9)) | 4, _ => (show tkW b qm_size.toInt pp ≠ 279252 from fun q9 => d35 (hwd.trans q9)) | 5, _ => (show tkW b qm_size.toInt pp ≠ 664272 from fun q9 => d40 (hwd.trans q9)) | 6, _ => (show tkW b qm_size.toInt pp ≠ 316189 from fun q9 => d45 (hwd.trans q9)) | 7, _ => (show tkW b qm_size.toInt pp ≠ 281490259 from fun q9 => d50 (hwd.trans q9)) | 8, _ => (show tkW b qm_size.toInt pp ≠ 237292 from fun q9 => d55 (hwd.trans q9)) | 9, _ => (show tkW b qm_size.toInt pp ≠ 3554273 from fun q9 => d15 (hwd.trans q9)) | 10, _ => (show tkW b qm_size.toInt pp ≠ 31519426 from fun q9 => d20 (hwd.trans q9)) | 11, _ => (show tkW b qm_size.toInt pp ≠ 10266413 from fun q9 => d60 (hwd.trans q9)) | 12, _ => (show tkW b qm_size.toInt pp ≠ 311436 from fun q9 => d65 (hwd.trans q9)) | 13, _ => (show tkW b qm_size.toInt pp ≠ 7413636302 from fun q9 => d70 (hwd.trans q9)) | 14, _ => (show tkW b qm_size.toInt pp ≠ 381097 from fun q9 => d75 (hwd.trans q9)) | 15, _ => (show tkW b qm_size.toInt pp ≠ 168984 from fun q9 => d80 (hwd.trans q9)) | 16, _ => (show tkW b qm_size.toInt pp ≠ 423 from fun q9 => d85 (hwd.trans q9)) | 17, _ => (show tkW b qm_size.toInt pp ≠ 1111 from fun q9 => d90 (hwd.trans q9)) | 18, _ => (show tkW b qm_size.toInt pp ≠ 10631 from fun q9 => d95 (hwd.trans q9)) | 19, _ => (show tkW b qm_size.toInt pp ≠ 528 from fun q9 => d100 (hwd.trans q9)) | 20, _ => (show tkW b qm_size.toInt pp ≠ 1421140441 from fun q9 => d105 (hwd.trans q9)) | 21, _ => (show tkW b qm_size.toInt pp ≠ 114602 from fun q9 => d110 (hwd.trans q9)) | 22, _ => (show tkW b qm_size.toInt pp ≠ 243059 from fun q9 => d115 (hwd.trans q9)) | 23, _ => (show tkW b qm_size.toInt pp ≠ 6559778 from fun q9 => d120 (hwd.trans q9)) | 24, _ => (show tkW b qm_size.toInt pp ≠ 161156 from fun q9 => d125 (hwd.trans q9)) | 25, _ => (show tkW b qm_size.toInt pp ≠ 10279864 from fun q9 => d130 (hwd.trans q9)) | 26, _ => (show tkW b qm_size.toInt pp ≠ 212302449 from fun q9 => d135 (hwd.trans q9)) | i9 + 27, h9 => absurd h9 (Nat.not_lt.mpr (Nat.le_add_left _ _)))⟩⟩) (Nat.le_of_ble_eq_true rfl) (Nat.le_of_ble_eq_true rfl) dX11_isName_39
                                                        · skip
                                                          have c134 : v133.toInt = 0 := i_eqT (X := v133.toInt) (Y := 0) rfl rfl c134
                                                          have bc134_v133 := i_bd v133
                                                          have d136 : qm_word.toInt = 212302449 := hv133.mp c134
                                                          clear hv133
                                                          refine lv_iconst (v := 0) C.1 C.2.1 dX11_isName_30 (by decide) ?_
                                                          exact x_retzQ hQ B hw rfl (Or.inl ⟨rfl, rfl, (fun h9 => absurd (((kyN_is (i := 26) (by decide)).mpr (show tkW b qm_size.toInt pp = 212302449 from hwd.symm.trans d136)).symm.trans h9.2) (by decide))⟩) (Nat.le_of_ble_eq_true rfl) (Nat.le_of_ble_eq_true rfl) dX11_isName_31
                                                      · skip
                                                        have c129 : v128.toInt = 0 := i_eqT (X := v128.toInt) (Y := 0) rfl rfl c129
                                                        have bc129_v128 := i_bd v128
                                                        have d131 : qm_word.toInt = 10279864 := hv128.mp c129
                                                        clear hv128
                                                        refine lv_iconst (v := 0) C.1 C.2.1 dX11_isName_30 (by decide) ?_
                                                        exact x_retzQ hQ B hw rfl (Or.inl ⟨rfl, rfl, (fun h9 => absurd (((kyN_is (i := 25) (by decide)).mpr (show tkW b qm_size.toInt pp = 10279864 from hwd.symm.trans d131)).symm.trans h9.2) (by decide))⟩) (Nat.le_of_ble_eq_true rfl) (Nat.le_of_ble_eq_true rfl) dX11_isName_31
                                                    · skip
                                                      have c124 : v123.toInt = 0 := i_eqT (X := v123.toInt) (Y := 0) rfl rfl c124
                                                      have bc124_v123 := i_bd v123
                                                      have d126 : qm_word.toInt = 161156 := hv123.mp c124
                                                      clear hv123
                                                      refine lv_iconst (v := 0) C.1 C.2.1 dX11_isName_30 (by decide) ?_
                                                      exact x_retzQ hQ B hw rfl (Or.inl ⟨rfl, rfl, (fun h9 => absurd (((kyN_is (i := 24) (by decide)).mpr (show tkW b qm_size.toInt pp = 161156 from hwd.symm.trans d126)).symm.trans h9.2) (by decide))⟩) (Nat.le_of_ble_eq_true rfl) (Nat.le_of_ble_eq_true rfl) dX11_isName_31
                                                  · skip
                                                    have c119 : v118.toInt = 0 := i_eqT (X := v118.toInt) (Y := 0) rfl rfl c119
                                                    have bc119_v118 := i_bd v118
                                                    have d121 : qm_word.toInt = 6559778 := hv118.mp c119
                                                    clear hv118
                                                    refine lv_iconst (v := 0) C.1 C.2.1 dX11_isName_30 (by decide) ?_
                                                    exact x_retzQ hQ B hw rfl (Or.inl ⟨rfl, rfl, (fun h9 => absurd (((kyN_is (i := 23) (by decide)).mpr (show tkW b qm_size.toInt pp = 6559778 from hwd.symm.trans d121)).symm.trans h9.2) (by decide))⟩) (Nat.le_of_ble_eq_true rfl) (Nat.le_of_ble_eq_true rfl) dX11_isName_31
                                                · skip
                                                  have c114 : v113.toInt = 0 := i_eqT (X := v113.toInt) (Y := 0) rfl rfl c114
                                                  have bc114_v113 := i_bd v113
                                                  have d116 : qm_word.toInt = 243059 := hv113.mp c114
                                                  clear hv113
                                                  refine lv_iconst (v := 0) C.1 C.2.1 dX11_isName_30 (by decide) ?_
                                                  exact x_retzQ hQ B hw rfl (Or.inl ⟨rfl, rfl, (fun h9 => absurd (((kyN_is (i := 22) (by decide)).mpr (show tkW b qm_size.toInt pp = 243059 from hwd.symm.trans d116)).symm.trans h9.2) (by decide))⟩) (Nat.le_of_ble_eq_true rfl) (Nat.le_of_ble_eq_true rfl) dX11_isName_31
                                              · skip
                                                have c109 : v108.toInt = 0 := i_eqT (X := v108.toInt) (Y := 0) rfl rfl c109
                                                have bc109_v108 := i_bd v108
                                                have d111 : qm_word.toInt = 114602 := hv108.mp c109
                                                clear hv108
                                                refine lv_iconst (v := 0) C.1 C.2.1 dX11_isName_30 (by decide) ?_
                                                exact x_retzQ hQ B hw rfl (Or.inl ⟨rfl, rfl, (fun h9 => absurd (((kyN_is (i := 21) (by decide)).mpr (show tkW b qm_size.toInt pp = 114602 from hwd.symm.trans d111)).symm.trans h9.2) (by decide))⟩) (Nat.le_of_ble_eq_true rfl) (Nat.le_of_ble_eq_true rfl) dX11_isName_31
                                            · skip
                                              have c104 : v103.toInt = 0 := i_eqT (X := v103.toInt) (Y := 0) rfl rfl c104
                                              have bc104_v103 := i_bd v103
                                              have d106 : qm_word.toInt = 1421140441 := hv103.mp c104
                                              clear hv103
                                              refine lv_iconst (v := 0) C.1 C.2.1 dX11_isName_30 (by decide) ?_
                                              exact x_retzQ hQ B hw rfl (Or.inl ⟨rfl, rfl, (fun h9 => absurd (((kyN_is (i := 20) (by decide)).mpr (show tkW b qm_size.toInt pp = 1421140441 from hwd.symm.trans d106)).symm.trans h9.2) (by decide))⟩) (Nat.le_of_ble_eq_true rfl) (Nat.le_of_ble_eq_true rfl) dX11_isName_31
                                          · skip
                                            have c99 : v98.toInt = 0 := i_eqT (X := v98.toInt) (Y := 0) rfl rfl c99
                                            have bc99_v98 := i_bd v98
                                            have d101 : qm_word.toInt = 528 := hv98.mp c99
                                            clear hv98
                                            refine lv_iconst (v := 0) C.1 C.2.1 dX11_isName_30 (by decide) ?_
                                            exact x_retzQ hQ B hw rfl (Or.inl ⟨rfl, rfl, (fun h9 => absurd (((kyN_is (i := 19) (by decide)).mpr (show tkW b qm_size.toInt pp = 528 from hwd.symm.trans d101)).symm.trans h9.2) (by decide))⟩) (Nat.le_of_ble_eq_true rfl) (Nat.le_of_ble_eq_true rfl) dX11_isName_31
                                        · skip
                                          have c94 : v93.toInt = 0 := i_eqT (X := v93.toInt) (Y := 0) rfl rfl c94
                                          have bc94_v93 := i_bd v93
                                          have d96 : qm_word.toInt = 10631 := hv93.mp c94
                                          clear hv93
                                          refine lv_iconst (v := 0) C.1 C.2.1 dX11_isName_30 (by decide) ?_
                                          exact x_retzQ hQ B hw rfl (Or.inl ⟨rfl, rfl, (fun h9 => absurd (((kyN_is (i := 18) (by decide)).mpr (show tkW b qm_size.toInt pp = 10631 from hwd.symm.trans d96)).symm.trans h9.2) (by decide))⟩) (Nat.le_of_ble_eq_true rfl) (Nat.le_of_ble_eq_true rfl) dX11_isName_31
                                      · skip
                                        have c89 : v88.toInt = 0 := i_eqT (X := v88.toInt) (Y := 0) rfl rfl c89
                                        have bc89_v88 := i_bd v88
                                        have d91 : qm_word.toInt = 1111 := hv88.mp c89
                                        clear hv88
                                        refine lv_iconst (v := 0) C.1 C.2.1 dX11_isName_30 (by decide) ?_
                                        exact x_retzQ hQ B hw rfl (Or.inl ⟨rfl, rfl, (fun h9 => absurd (((kyN_is (i := 17) (by decide)).mpr (show tkW b qm_size.toInt pp = 1111 from hwd.symm.trans d91)).symm.trans h9.2) (by decide))⟩) (Nat.le_of_ble_eq_true rfl) (Nat.le_of_ble_eq_true rfl) dX11_isName_31
                                    · skip
                                      have c84 : v83.toInt = 0 := i_eqT (X := v83.toInt) (Y := 0) rfl rfl c84
                                      have bc84_v83 := i_bd v83
                                      have d86 : qm_word.toInt = 423 := hv83.mp c84
                                      clear hv83
                                      refine lv_iconst (v := 0) C.1 C.2.1 dX11_isName_30 (by decide) ?_
                                      exact x_retzQ hQ B hw rfl (Or.inl ⟨rfl, rfl, (fun h9 => absurd (((kyN_is (i := 16) (by decide)).mpr (show tkW b qm_size.toInt pp = 423 from hwd.symm.trans d86)).symm.trans h9.2) (by decide))⟩) (Nat.le_of_ble_eq_true rfl) (Nat.le_of_ble_eq_true rfl) dX11_isName_31
                                  · skip
                                    have c79 : v78.toInt = 0 := i_eqT (X := v78.toInt) (Y := 0) rfl rfl c79
                                    have bc79_v78 := i_bd v78
                                    have d81 : qm_word.toInt = 168984 := hv78.mp c79
                                    clear hv78
                                    refine lv_iconst (v := 0) C.1 C.2.1 dX11_isName_30 (by decide) ?_
                                    exact x_retzQ hQ B hw rfl (Or.inl ⟨rfl, rfl, (fun h9 => absurd (((kyN_is (i := 15) (by decide)).mpr (show tkW b qm_size.toInt pp = 168984 from hwd.symm.trans d81)).symm.trans h9.2) (by decide))⟩) (Nat.le_of_ble_eq_true rfl) (Nat.le_of_ble_eq_true rfl) dX11_isName_31
                                · skip
                                  have c74 : v73.toInt = 0 := i_eqT (X := v73.toInt) (Y := 0) rfl rfl c74
                                  have bc74_v73 := i_bd v73
                                  have d76 : qm_word.toInt = 381097 := hv73.mp c74
                                  clear hv73
                                  refine lv_iconst (v := 0) C.1 C.2.1 dX11_isName_30 (by decide) ?_
                                  exact x_retzQ hQ B hw rfl (Or.inl ⟨rfl, rfl, (fun h9 => absurd (((kyN_is (i := 14) (by decide)).mpr (show tkW b qm_size.toInt pp = 381097 from hwd.symm.trans d76)).symm.trans h9.2) (by decide))⟩) (Nat.le_of_ble_eq_true rfl) (Nat.le_of_ble_eq_true rfl) dX11_isName_31
                              · skip
                                have c69 : v68.toInt = 0 := i_eqT (X := v68.toInt) (Y := 0) rfl rfl c69
                                have bc69_v68 := i_bd v68
                                have d71 : qm_word.toInt = 7413636302 := hv68.mp c69
                                clear hv68
                                refine lv_iconst (v := 0) C.1 C.2.1 dX11_isName_30 (by decide) ?_
                                exact x_retzQ hQ B hw rfl (Or.inl ⟨rfl, rfl, (fun h9 => absurd (((kyN_is (i := 13) (by decide)).mpr (show tkW b qm_size.toInt pp = 7413636302 from hwd.symm.trans d71)).symm.trans h9.2) (by decide))⟩) (Nat.le_of_ble_eq_true rfl) (Nat.le_of_ble_eq_true rfl) dX11_isName_31
                            · skip
                              have c64 : v63.toInt = 0 := i_eqT (X := v63.toInt) (Y := 0) rfl rfl c64
                              have bc64_v63 := i_bd v63
                              have d66 : qm_word.toInt = 311436 := hv63.mp c64
                              clear hv63
                              refine lv_iconst (v := 0) C.1 C.2.1 dX11_isName_30 (by decide) ?_
                              exact x_retzQ hQ B hw rfl (Or.inl ⟨rfl, rfl, (fun h9 => absurd (((kyN_is (i := 12) (by decide)).mpr (show tkW b qm_size.toInt pp = 311436 from hwd.symm.trans d66)).symm.trans h9.2) (by decide))⟩) (Nat.le_of_ble_eq_true rfl) (Nat.le_of_ble_eq_true rfl) dX11_isName_31
                          · skip
                            have c59 : v58.toInt = 0 := i_eqT (X := v58.toInt) (Y := 0) rfl rfl c59
                            have bc59_v58 := i_bd v58
                            have d61 : qm_word.toInt = 10266413 := hv58.mp c59
                            clear hv58
                            refine lv_iconst (v := 0) C.1 C.2.1 dX11_isName_30 (by decide) ?_
                            exact x_retzQ hQ B hw rfl (Or.inl ⟨rfl, rfl, (fun h9 => absurd (((kyN_is (i := 11) (by decide)).mpr (show tkW b qm_size.toInt pp = 10266413 from hwd.symm.trans d61)).symm.trans h9.2) (by decide))⟩) (Nat.le_of_ble_eq_true rfl) (Nat.le_of_ble_eq_true rfl) dX11_isName_31
                        · skip
                          have c54 : v53.toInt = 0 := i_eqT (X := v53.toInt) (Y := 0) rfl rfl c54
                          have bc54_v53 := i_bd v53
                          have d56 : qm_word.toInt = 237292 := hv53.mp c54
                          clear hv53
                          refine lv_iconst (v := 0) C.1 C.2.1 dX11_isName_30 (by decide) ?_
                          exact x_retzQ hQ B hw rfl (Or.inl ⟨rfl, rfl, (fun h9 => absurd (((kyN_is (i := 8) (by decide)).mpr (show tkW b qm_size.toInt pp = 237292 from hwd.symm.trans d56)).symm.trans h9.2) (by decide))⟩) (Nat.le_of_ble_eq_true rfl) (Nat.le_of_ble_eq_true rfl) dX11_isName_31
                      · skip
                        have c49 : v48.toInt = 0 := i_eqT (X := v48.toInt) (Y := 0) rfl rfl c49
                        have bc49_v48 := i_bd v48
                        have d51 : qm_word.toInt = 281490259 := hv48.mp c49
                        clear hv48
                        refine lv_iconst (v := 0) C.1 C.2.1 dX11_isName_30 (by decide) ?_
                        exact x_retzQ hQ B hw rfl (Or.inl ⟨rfl, rfl, (fun h9 => absurd (((kyN_is (i := 7) (by decide)).mpr (show tkW b qm_size.toInt pp = 281490259 from hwd.symm.trans d51)).symm.trans h9.2) (by decide))⟩) (Nat.le_of_ble_eq_true rfl) (Nat.le_of_ble_eq_true rfl) dX11_isName_31
                    · skip
                      have c44 : v43.toInt = 0 := i_eqT (X := v43.toInt) (Y := 0) rfl rfl c44
                      have bc44_v43 := i_bd v43
                      have d46 : qm_word.toInt = 316189 := hv43.mp c44
                      clear hv43
                      refine lv_iconst (v := 0) C.1 C.2.1 dX11_isName_30 (by decide) ?_
                      exact x_retzQ hQ B hw rfl (Or.inl ⟨rfl, rfl, (fun h9 => absurd (((kyN_is (i := 6) (by decide)).mpr (show tkW b qm_size.toInt pp = 316189 from hwd.symm.trans d46)).symm.trans h9.2) (by decide))⟩) (Nat.le_of_ble_eq_true rfl) (Nat.le_of_ble_eq_true rfl) dX11_isName_31
                  · skip
                    have c39 : v38.toInt = 0 := i_eqT (X := v38.toInt) (Y := 0) rfl rfl c39
                    have bc39_v38 := i_bd v38
                    have d41 : qm_word.toInt = 664272 := hv38.mp c39
                    clear hv38
                    refine lv_iconst (v := 0) C.1 C.2.1 dX11_isName_30 (by decide) ?_
                    exact x_retzQ hQ B hw rfl (Or.inl ⟨rfl, rfl, (fun h9 => absurd (((kyN_is (i := 5) (by decide)).mpr (show tkW b qm_size.toInt pp = 664272 from hwd.symm.trans d41)).symm.trans h9.2) (by decide))⟩) (Nat.le_of_ble_eq_true rfl) (Nat.le_of_ble_eq_true rfl) dX11_isName_31
                · skip
                  have c34 : v33.toInt = 0 := i_eqT (X := v33.toInt) (Y := 0) rfl rfl c34
                  have bc34_v33 := i_bd v33
                  have d36 : qm_word.toInt = 279252 := hv33.mp c34
                  clear hv33
                  refine lv_iconst (v := 0) C.1 C.2.1 dX11_isName_30 (by decide) ?_
                  exact x_retzQ hQ B hw rfl (Or.inl ⟨rfl, rfl, (fun h9 => absurd (((kyN_is (i := 4) (by decide)).mpr (show tkW b qm_size.toInt pp = 279252 from hwd.symm.trans d36)).symm.trans h9.2) (by decide))⟩) (Nat.le_of_ble_eq_true rfl) (Nat.le_of_ble_eq_true rfl) dX11_isName_31
              · skip
                have c29 : v28.toInt = 0 := i_eqT (X := v28.toInt) (Y := 0) rfl rfl c29
                have bc29_v28 := i_bd v28
                have d31 : qm_word.toInt = 4285945 := hv28.mp c29
                clear hv28
                refine lv_iconst (v := 0) C.1 C.2.1 dX11_isName_30 (by decide) ?_
                exact x_retzQ hQ B hw rfl (Or.inl ⟨rfl, rfl, (fun h9 => absurd (((kyN_is (i := 3) (by decide)).mpr (show tkW b qm_size.toInt pp = 4285945 from hwd.symm.trans d31)).symm.trans h9.2) (by decide))⟩) (Nat.le_of_ble_eq_true rfl) (Nat.le_of_ble_eq_true rfl) dX11_isName_31
            · skip
              have c24 : v23.toInt = 0 := i_eqT (X := v23.toInt) (Y := 0) rfl rfl c24
              have bc24_v23 := i_bd v23
              have d26 : qm_word.toInt = 6562612 := hv23.mp c24
              clear hv23
              refine lv_iconst (v := 0) C.1 C.2.1 dX11_isName_30 (by decide) ?_
              exact x_retzQ hQ B hw rfl (Or.inl ⟨rfl, rfl, (fun h9 => absurd (((kyN_is (i := 2) (by decide)).mpr (show tkW b qm_size.toInt pp = 6562612 from hwd.symm.trans d26)).symm.trans h9.2) (by decide))⟩) (Nat.le_of_ble_eq_true rfl) (Nat.le_of_ble_eq_true rfl) dX11_isName_31
          · skip
            have c19 : v18.toInt = 0 := i_eqT (X := v18.toInt) (Y := 0) rfl rfl c19
            have bc19_v18 := i_bd v18
            have d21 : qm_word.toInt = 31519426 := hv18.mp c19
            clear hv18
            refine lv_iconst (v := 0) C.1 C.2.1 dX11_isName_30 (by decide) ?_
            exact x_retzQ hQ B hw rfl (Or.inl ⟨rfl, rfl, (fun h9 => absurd (((kyN_is (i := 10) (by decide)).mpr (show tkW b qm_size.toInt pp = 31519426 from hwd.symm.trans d21)).symm.trans h9.2) (by decide))⟩) (Nat.le_of_ble_eq_true rfl) (Nat.le_of_ble_eq_true rfl) dX11_isName_31
        · skip
          have c14 : v13.toInt = 0 := i_eqT (X := v13.toInt) (Y := 0) rfl rfl c14
          have bc14_v13 := i_bd v13
          have d16 : qm_word.toInt = 3554273 := hv13.mp c14
          clear hv13
          refine lv_iconst (v := 0) C.1 C.2.1 dX11_isName_30 (by decide) ?_
          exact x_retzQ hQ B hw rfl (Or.inl ⟨rfl, rfl, (fun h9 => absurd (((kyN_is (i := 9) (by decide)).mpr (show tkW b qm_size.toInt pp = 3554273 from hwd.symm.trans d16)).symm.trans h9.2) (by decide))⟩) (Nat.le_of_ble_eq_true rfl) (Nat.le_of_ble_eq_true rfl) dX11_isName_31
      · skip
        have c9 : v8.toInt = 0 := i_eqT (X := v8.toInt) (Y := 0) rfl rfl c9
        have bc9_v8 := i_bd v8
        have d11 : qm_word.toInt = 117481419 := hv8.mp c9
        clear hv8
        refine lv_iconst (v := 0) C.1 C.2.1 dX11_isName_30 (by decide) ?_
        exact x_retzQ hQ B hw rfl (Or.inl ⟨rfl, rfl, (fun h9 => absurd (((kyN_is (i := 1) (by decide)).mpr (show tkW b qm_size.toInt pp = 117481419 from hwd.symm.trans d11)).symm.trans h9.2) (by decide))⟩) (Nat.le_of_ble_eq_true rfl) (Nat.le_of_ble_eq_true rfl) dX11_isName_31
    · skip
      have c4 : v3.toInt = 0 := i_eqT (X := v3.toInt) (Y := 0) rfl rfl c4
      have bc4_v3 := i_bd v3
      have d6 : qm_word.toInt = 10340249 := hv3.mp c4
      clear hv3
      refine lv_iconst (v := 0) C.1 C.2.1 dX11_isName_30 (by decide) ?_
      exact x_retzQ hQ B hw rfl (Or.inl ⟨rfl, rfl, (fun h9 => absurd (((kyN_is (i := 0) (by decide)).mpr (show tkW b qm_size.toInt pp = 10340249 from hwd.symm.trans d6)).symm.trans h9.2) (by decide))⟩) (Nat.le_of_ble_eq_true rfl) (Nat.le_of_ble_eq_true rfl) dX11_isName_31
  · skip
    have c1 : qm_kind.toInt ≠ 2 := i_eqF (X := qm_kind.toInt) (Y := 2) rfl rfl c1
    have bc1_qm_kind := i_bd qm_kind
    refine lv_iconst (v := 0) C.1 C.2.1 dX11_isName_8 (by decide) ?_
    exact x_retzQ hQ B hw rfl (Or.inl ⟨rfl, rfl, (by omega)⟩) (Nat.le_of_ble_eq_true rfl) (Nat.le_of_ble_eq_true rfl) dX11_isName_9
