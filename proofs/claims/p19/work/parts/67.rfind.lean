-- needs: 08 6 7 12 14 16 17 18 20 09
theorem dX11_endOrder_0 : decode cX11_endOrder 0 = .ok (.iload_n 2, 1) := by decide +kernel
theorem dX11_endOrder_1 : decode cX11_endOrder 1 = .ok (.aload_n 0, 1) := by decide +kernel
theorem dX11_endOrder_2 : decode cX11_endOrder 2 = .ok (.getfield 307, 3) := by decide +kernel
theorem dX11_endOrder_5 : decode cX11_endOrder 5 = .ok (.if_icmp .gt 4, 3) := by decide +kernel
theorem dX11_endOrder_9 : decode cX11_endOrder 9 = .ok (.aload_n 0, 1) := by decide +kernel
theorem dX11_endOrder_10 : decode cX11_endOrder 10 = .ok (.iload_n 2, 1) := by decide +kernel
theorem dX11_endOrder_11 : decode cX11_endOrder 11 = .ok (.putfield 307, 3) := by decide +kernel
theorem dX11_endOrder_14 : decode cX11_endOrder 14 = .ok (.aload_n 0, 1) := by decide +kernel
theorem dX11_endOrder_15 : decode cX11_endOrder 15 = .ok (.iload_n 1, 1) := by decide +kernel
theorem dX11_endOrder_16 : decode cX11_endOrder 16 = .ok (.putfield 310, 3) := by decide +kernel
theorem dX11_endOrder_19 : decode cX11_endOrder 19 = .ok (.iconst 0, 1) := by decide +kernel
theorem dX11_endOrder_20 : decode cX11_endOrder 20 = .ok (.istore_n 3, 1) := by decide +kernel
theorem dX11_endOrder_21 : decode cX11_endOrder 21 = .ok (.iload_n 3, 1) := by decide +kernel
theorem dX11_endOrder_22 : decode cX11_endOrder 22 = .ok (.iload_n 1, 1) := by decide +kernel
theorem dX11_endOrder_23 : decode cX11_endOrder 23 = .ok (.if_icmp .ge 21, 3) := by decide +kernel
theorem dX11_endOrder_26 : decode cX11_endOrder 26 = .ok (.aload_n 0, 1) := by decide +kernel
theorem dX11_endOrder_27 : decode cX11_endOrder 27 = .ok (.getfield 133, 3) := by decide +kernel
theorem dX11_endOrder_30 : decode cX11_endOrder 30 = .ok (.iload_n 3, 1) := by decide +kernel
theorem dX11_endOrder_31 : decode cX11_endOrder 31 = .ok (.aload_n 0, 1) := by decide +kernel
theorem dX11_endOrder_32 : decode cX11_endOrder 32 = .ok (.getfield 130, 3) := by decide +kernel
theorem dX11_endOrder_35 : decode cX11_endOrder 35 = .ok (.iload_n 3, 1) := by decide +kernel
theorem dX11_endOrder_36 : decode cX11_endOrder 36 = .ok (.iaload, 1) := by decide +kernel
theorem dX11_endOrder_37 : decode cX11_endOrder 37 = .ok (.iastore, 1) := by decide +kernel
theorem dX11_endOrder_38 : decode cX11_endOrder 38 = .ok (.iinc 3 1, 3) := by decide +kernel
theorem dX11_endOrder_41 : decode cX11_endOrder 41 = .ok (.goto (-20), 3) := by decide +kernel
theorem dX11_endOrder_44 : decode cX11_endOrder 44 = .ok (.return_, 1) := by decide +kernel
theorem dX11_endOrder_8 : decode cX11_endOrder 8 = .ok (.return_, 1) := by decide +kernel
set_option maxHeartbeats 4000000 in
set_option maxRecDepth 100000 in
theorem s_X11_endOrder {l : Launch} {G : Gc} (qm : Nat) (a1 : Int32) (a2 : Int32) (qm_thrown : Int32) (qm_tape : Nat) (qm_taped : Int32) (qm_size : Int32) (qm_limit : Int32) (qm_to : Int32) (qm_from : Int32) (qm_kind : Int32) (qm_number : Int32) (qm_sign : Int32) (qm_fault : Int32) (qm_place : Int32) (qm_word : Int64) (qm_told : Int32) (qm_now : Nat) (qm_read : Nat) (qm_kept : Nat) (qm_snaps : Nat) (qm_aside : Nat) (qm_name : Nat) (qm_readName : Nat) (qm_keptName : Nat) (qm_isKept : Nat) (qm_onces : Nat) (qm_snapMany : Int32) (qm_order : Nat) (qm_ordered : Nat) (qm_orderMany : Int32) (qm_orderMost : Int32) (qm_passing : Int32) (qm_movedWho : Int32) (qm_scratched : Int32) (qm_text : Nat) (qm_texts : Int32) (qm_seed : Int32) (qm_line : Nat) (qm_written : Nat) (qm_lineMany : Int32) (qm_hasWritten : Int32) (qm_node : Nat) (qm_nodes : Int32) (qm_onesMany : Int32) (qm_within : Int32) (qm_top : Int32) (qm_order_c : Nat → Int32) (qm_ordered_c : Nat → Int32) (hi_a1 : 0 ≤ a1.toInt ∧ a1.toInt ≤ 6) (hi_qm_orderMany : 0 ≤ qm_orderMany.toInt ∧ qm_orderMany.toInt ≤ 6) : Cv l yX11_endOrder cX11_endOrder 4 0 0 0 G [.ref qm, .int a1, .int a2] [(qm, .inr (10, [.int qm_thrown, .ref qm_tape, .int qm_taped, .int qm_size, .int qm_limit, .int qm_to, .int qm_from, .int qm_kind, .int qm_number, .int qm_sign, .int qm_fault, .int qm_place, .long qm_word, .int qm_told, .ref qm_now, .ref qm_read, .ref qm_kept, .ref qm_snaps, .ref qm_aside, .ref qm_name, .ref qm_readName, .ref qm_keptName, .ref qm_isKept, .ref qm_onces, .int qm_snapMany, .ref qm_order, .ref qm_ordered, .int qm_orderMany, .int qm_orderMost, .int qm_passing, .int qm_movedWho, .int qm_scratched, .ref qm_text, .int qm_texts, .int qm_seed, .ref qm_line, .ref qm_written, .int qm_lineMany, .int qm_hasWritten, .ref qm_node, .int qm_nodes, .int qm_onesMany, .int qm_within, .int qm_top])), (qm_order, eI G 6 qm_order_c), (qm_ordered, eI G 6 qm_ordered_c)] (fun (u9 : va_W) => ∃ (x0_qm_orderMany : Int32) (x1_qm_orderMost : Int32) (x2_qm_ordered_c : Nat → Int32), u9 = [(qm, .inr (10, [.int qm_thrown, .ref qm_tape, .int qm_taped, .int qm_size, .int qm_limit, .int qm_to, .int qm_from, .int qm_kind, .int qm_number, .int qm_sign, .int qm_fault, .int qm_place, .long qm_word, .int qm_told, .ref qm_now, .ref qm_read, .ref qm_kept, .ref qm_snaps, .ref qm_aside, .ref qm_name, .ref qm_readName, .ref qm_keptName, .ref qm_isKept, .ref qm_onces, .int qm_snapMany, .ref qm_order, .ref qm_ordered, .int x0_qm_orderMany, .int x1_qm_orderMost, .int qm_passing, .int qm_movedWho, .int qm_scratched, .ref qm_text, .int qm_texts, .int qm_seed, .ref qm_line, .ref qm_written, .int qm_lineMany, .int qm_hasWritten, .ref qm_node, .int qm_nodes, .int qm_onesMany, .int qm_within, .int qm_top])), (qm_order, eI G 6 qm_order_c), (qm_ordered, eI G 6 x2_qm_ordered_c)] ∧ (0 ≤ x0_qm_orderMany.toInt ∧ x0_qm_orderMany.toInt ≤ 6)) := by
  refine Cv.ofQ (by decide) (Nat.le_of_ble_eq_true rfl) ?_
  intro p e s m below meth c ls A args Q hQ B hw hl
  have C : CallFix p m c cX11_endOrder 4 s args gw "LanternStateModel" := B.1
  have hl : lv_has ls 4 [(0, .ref qm), (1, .int a1), (2, .int a2)] := hl
  refine lv_iload_n C.1 C.2.1 dX11_endOrder_0 rfl (lv_at hl 2 rfl) ?_
  refine lv_aload_n C.1 C.2.1 dX11_endOrder_1 rfl (lv_at hl 0 rfl) ?_
  refine x_get C hw iwX11 10 rfl 0 rfl 28 (by decide) kw1221 rfl dX11_endOrder_2 ?_
  refine lv_icmp_gt (tgt := 9) C.1 C.2.1 dX11_endOrder_5 (by decide) (fun c1 => ?_) (fun c1 => ?_)
  · skip
    have c1 : qm_orderMost.toInt < a2.toInt := i_ltT (X := qm_orderMost.toInt) (Y := a2.toInt) rfl rfl c1
    have bc1_a2 := i_bd a2
    have bc1_qm_orderMost := i_bd qm_orderMost
    refine lv_aload_n C.1 C.2.1 dX11_endOrder_9 rfl (lv_at hl 0 rfl) ?_
    refine lv_iload_n C.1 C.2.1 dX11_endOrder_10 rfl (lv_at hl 2 rfl) ?_
    refine x_put (w' := [(qm, .inr (10, [.int qm_thrown, .ref qm_tape, .int qm_taped, .int qm_size, .int qm_limit, .int qm_to, .int qm_from, .int qm_kind, .int qm_number, .int qm_sign, .int qm_fault, .int qm_place, .long qm_word, .int qm_told, .ref qm_now, .ref qm_read, .ref qm_kept, .ref qm_snaps, .ref qm_aside, .ref qm_name, .ref qm_readName, .ref qm_keptName, .ref qm_isKept, .ref qm_onces, .int qm_snapMany, .ref qm_order, .ref qm_ordered, .int qm_orderMany, .int a2, .int qm_passing, .int qm_movedWho, .int qm_scratched, .ref qm_text, .int qm_texts, .int qm_seed, .ref qm_line, .ref qm_written, .int qm_lineMany, .int qm_hasWritten, .ref qm_node, .int qm_nodes, .int qm_onesMany, .int qm_within, .int qm_top])), (qm_order, eI G 6 qm_order_c), (qm_ordered, eI G 6 qm_ordered_c)]) C hw iwX11 tyX11_ok nmX11 10 rfl 0 rfl 28 (by decide) kw1221 rfl rfl rfl (Nat.le_of_ble_eq_true rfl) rfl dX11_endOrder_11 (fun H locs hw => ?_)
    refine lv_aload_n C.1 C.2.1 dX11_endOrder_14 rfl (lv_at hl 0 rfl) ?_
    refine lv_iload_n C.1 C.2.1 dX11_endOrder_15 rfl (lv_at hl 1 rfl) ?_
    refine x_put (w' := [(qm, .inr (10, [.int qm_thrown, .ref qm_tape, .int qm_taped, .int qm_size, .int qm_limit, .int qm_to, .int qm_from, .int qm_kind, .int qm_number, .int qm_sign, .int qm_fault, .int qm_place, .long qm_word, .int qm_told, .ref qm_now, .ref qm_read, .ref qm_kept, .ref qm_snaps, .ref qm_aside, .ref qm_name, .ref qm_readName, .ref qm_keptName, .ref qm_isKept, .ref qm_onces, .int qm_snapMany, .ref qm_order, .ref qm_ordered, .int a1, .int a2, .int qm_passing, .int qm_movedWho, .int qm_scratched, .ref qm_text, .int qm_texts, .int qm_seed, .ref qm_line, .ref qm_written, .int qm_lineMany, .int qm_hasWritten, .ref qm_node, .int qm_nodes, .int qm_onesMany, .int qm_within, .int qm_top])), (qm_order, eI G 6 qm_order_c), (qm_ordered, eI G 6 qm_ordered_c)]) C hw iwX11 tyX11_ok nmX11 10 rfl 0 rfl 27 (by decide) kw1220 rfl rfl rfl (Nat.le_of_ble_eq_true rfl) rfl dX11_endOrder_16 (fun H locs hw => ?_)
    refine lv_iconst (v := 0) C.1 C.2.1 dX11_endOrder_19 (by decide) ?_
    refine lv_istore_n (lv' := [(3, .int 0), (0, .ref qm), (1, .int a1), (2, .int a2)]) C.1 C.2.1 dX11_endOrder_20 rfl hl (by decide) rfl (fun ls hl => ?_)
    have loopJ43 : ∀ (n9 : Nat) (j41 : Int32) (j42 : Nat → Int32), (2147483647 - j41.toInt).toNat < n9 → (0 ≤ j41.toInt ∧ j41.toInt ≤ 6) → ∀ (H : Heap) (locs : List Loc) (ls : Array Slot), Wd G s A [(qm, .inr (10, [.int qm_thrown, .ref qm_tape, .int qm_taped, .int qm_size, .int qm_limit, .int qm_to, .int qm_from, .int qm_kind, .int qm_number, .int qm_sign, .int qm_fault, .int qm_place, .long qm_word, .int qm_told, .ref qm_now, .ref qm_read, .ref qm_kept, .ref qm_snaps, .ref qm_aside, .ref qm_name, .ref qm_readName, .ref qm_keptName, .ref qm_isKept, .ref qm_onces, .int qm_snapMany, .ref qm_order, .ref qm_ordered, .int a1, .int a2, .int qm_passing, .int qm_movedWho, .int qm_scratched, .ref qm_text, .int qm_texts, .int qm_seed, .ref qm_line, .ref qm_written, .int qm_lineMany, .int qm_hasWritten, .ref qm_node, .int qm_nodes, .int qm_onesMany, .int qm_within, .int qm_top])), (qm_order, eI G 6 qm_order_c), (qm_ordered, eI G 6 j42)] H locs → lv_has ls 4 [(3, .int j41), (0, .ref qm), (1, .int a1)] → W p l e (rmD 0 0 0) s m args below meth c H locs 0 0 Q (F0 m 21 ls []) := by
      intro n9
      induction n9 with
      | zero => intro j41 j42 h9; exact absurd h9 (Nat.not_lt_zero _)
      | succ n9 ihJ43 =>
        intro j41 j42 h9J43 hJ43_0 H locs ls hw hl
        have hbj41 := i_bd j41
        refine lv_iload_n C.1 C.2.1 dX11_endOrder_21 rfl (lv_at hl 0 rfl) ?_
        refine lv_iload_n C.1 C.2.1 dX11_endOrder_22 rfl (lv_at hl 2 rfl) ?_
        refine lv_icmp_ge (tgt := 44) C.1 C.2.1 dX11_endOrder_23 (by decide) (fun c51 => ?_) (fun c51 => ?_)
        · skip
          have c51 : a1.toInt ≤ j41.toInt := i_leT (X := a1.toInt) (Y := j41.toInt) rfl rfl c51
          exact x_retvQ hQ B hw ⟨a1, a2, j42, rfl, (by omega)⟩ (Nat.le_of_ble_eq_true rfl) (Nat.le_of_ble_eq_true rfl) dX11_endOrder_44
        · skip
          have c51 : j41.toInt < a1.toInt := i_leF (X := a1.toInt) (Y := j41.toInt) rfl rfl c51
          refine lv_aload_n C.1 C.2.1 dX11_endOrder_26 rfl (lv_at hl 1 rfl) ?_
          refine x_get C hw iwX11 10 rfl 0 rfl 26 (by decide) kw1219 rfl dX11_endOrder_27 ?_
          refine lv_iload_n C.1 C.2.1 dX11_endOrder_30 rfl (lv_at hl 0 rfl) ?_
          refine lv_aload_n C.1 C.2.1 dX11_endOrder_31 rfl (lv_at hl 1 rfl) ?_
          refine x_get C hw iwX11 10 rfl 0 rfl 25 (by decide) kw1218 rfl dX11_endOrder_32 ?_
          refine lv_iload_n C.1 C.2.1 dX11_endOrder_35 rfl (lv_at hl 0 rfl) ?_
          refine x_iald (v := (qm_order_c j41.toNatClampNeg)) C hw 1 rfl (i_in (by omega) (by omega)) rfl dX11_endOrder_36 (x_gen (fun v52 => ?_))
          obtain ⟨g53, eg53⟩ : ∃ z, upd j42 (j41.toNatClampNeg) v52 = z := ⟨_, rfl⟩
          refine x_iast (f' := g53) (w' := [(qm, .inr (10, [.int qm_thrown, .ref qm_tape, .int qm_taped, .int qm_size, .int qm_limit, .int qm_to, .int qm_from, .int qm_kind, .int qm_number, .int qm_sign, .int qm_fault, .int qm_place, .long qm_word, .int qm_told, .ref qm_now, .ref qm_read, .ref qm_kept, .ref qm_snaps, .ref qm_aside, .ref qm_name, .ref qm_readName, .ref qm_keptName, .ref qm_isKept, .ref qm_onces, .int qm_snapMany, .ref qm_order, .ref qm_ordered, .int a1, .int a2, .int qm_passing, .int qm_movedWho, .int qm_scratched, .ref qm_text, .int qm_texts, .int qm_seed, .ref qm_line, .ref qm_written, .int qm_lineMany, .int qm_hasWritten, .ref qm_node, .int qm_nodes, .int qm_onesMany, .int qm_within, .int qm_top])), (qm_order, eI G 6 qm_order_c), (qm_ordered, eI G 6 g53)]) C hw 2 rfl (i_in (by omega) (by omega)) eg53 rfl dX11_endOrder_37 (fun H locs hw => ?_)
          obtain ⟨v54, ev54⟩ : ∃ z : Int32, j41 + 1 = z := ⟨_, rfl⟩
          have hv54 : v54.toInt = j41.toInt + 1 := by rw [← ev54]; exact i_add rfl rfl (by omega) (by omega)
          refine lv_iinc (v := v54) (lv' := [(3, .int v54), (0, .ref qm), (1, .int a1)]) C.1 C.2.1 dX11_endOrder_38 hl (k := 0) rfl ev54 (by decide) rfl (fun ls hl => ?_)
          refine lv_goto (tgt := 21) C.1 C.2.1 dX11_endOrder_41 (by decide) ?_
          exact ihJ43 v54 g53 (by omega) (by omega) _ _ _ hw (lv_sub hl [0, 1, 2] rfl)
    exact loopJ43 _ 0 qm_ordered_c (Nat.lt_succ_self _) (by decide) _ _ _ hw (lv_sub hl [0, 1, 2] rfl)
  · skip
    have c1 : a2.toInt ≤ qm_orderMost.toInt := i_ltF (X := qm_orderMost.toInt) (Y := a2.toInt) rfl rfl c1
    have bc1_a2 := i_bd a2
    have bc1_qm_orderMost := i_bd qm_orderMost
    exact x_retvQ hQ B hw ⟨qm_orderMany, qm_orderMost, qm_ordered_c, rfl, (by omega)⟩ (Nat.le_of_ble_eq_true rfl) (Nat.le_of_ble_eq_true rfl) dX11_endOrder_8
theorem dX11_orderFrom_0 : decode cX11_orderFrom 0 = .ok (.iconst 0, 1) := by decide +kernel
theorem dX11_orderFrom_1 : decode cX11_orderFrom 1 = .ok (.istore 6, 2) := by decide +kernel
theorem dX11_orderFrom_3 : decode cX11_orderFrom 3 = .ok (.iconst 0, 1) := by decide +kernel
theorem dX11_orderFrom_4 : decode cX11_orderFrom 4 = .ok (.istore 7, 2) := by decide +kernel
theorem dX11_orderFrom_6 : decode cX11_orderFrom 6 = .ok (.iload 7, 2) := by decide +kernel
theorem dX11_orderFrom_8 : decode cX11_orderFrom 8 = .ok (.aload_n 0, 1) := by decide +kernel
theorem dX11_orderFrom_9 : decode cX11_orderFrom 9 = .ok (.getfield 98, 3) := by decide +kernel
theorem dX11_orderFrom_12 : decode cX11_orderFrom 12 = .ok (.iconst 0, 1) := by decide +kernel
theorem dX11_orderFrom_13 : decode cX11_orderFrom 13 = .ok (.iaload, 1) := by decide +kernel
theorem dX11_orderFrom_14 : decode cX11_orderFrom 14 = .ok (.if_icmp .ge 162, 3) := by decide +kernel
theorem dX11_orderFrom_17 : decode cX11_orderFrom 17 = .ok (.aload_n 0, 1) := by decide +kernel
theorem dX11_orderFrom_18 : decode cX11_orderFrom 18 = .ok (.getfield 98, 3) := by decide +kernel
theorem dX11_orderFrom_21 : decode cX11_orderFrom 21 = .ok (.bipush 18, 2) := by decide +kernel
theorem dX11_orderFrom_23 : decode cX11_orderFrom 23 = .ok (.iload 7, 2) := by decide +kernel
theorem dX11_orderFrom_25 : decode cX11_orderFrom 25 = .ok (.iadd, 1) := by decide +kernel
theorem dX11_orderFrom_26 : decode cX11_orderFrom 26 = .ok (.iaload, 1) := by decide +kernel
theorem dX11_orderFrom_27 : decode cX11_orderFrom 27 = .ok (.istore 8, 2) := by decide +kernel
theorem dX11_orderFrom_29 : decode cX11_orderFrom 29 = .ok (.iload_n 2, 1) := by decide +kernel
theorem dX11_orderFrom_30 : decode cX11_orderFrom 30 = .ok (.iload 7, 2) := by decide +kernel
theorem dX11_orderFrom_32 : decode cX11_orderFrom 32 = .ok (.invokestatic 195, 3) := by decide +kernel
theorem dX11_orderFrom_35 : decode cX11_orderFrom 35 = .ok (.ifCond .eq 135, 3) := by decide +kernel
theorem dX11_orderFrom_38 : decode cX11_orderFrom 38 = .ok (.iload 8, 2) := by decide +kernel
theorem dX11_orderFrom_40 : decode cX11_orderFrom 40 = .ok (.iconst (-1), 1) := by decide +kernel
theorem dX11_orderFrom_41 : decode cX11_orderFrom 41 = .ok (.if_icmp .eq 16, 3) := by decide +kernel
theorem dX11_orderFrom_57 : decode cX11_orderFrom 57 = .ok (.iconst 1, 1) := by decide +kernel
theorem dX11_orderFrom_58 : decode cX11_orderFrom 58 = .ok (.istore 6, 2) := by decide +kernel
theorem dX11_orderFrom_60 : decode cX11_orderFrom 60 = .ok (.aload_n 0, 1) := by decide +kernel
theorem dX11_orderFrom_61 : decode cX11_orderFrom 61 = .ok (.getfield 130, 3) := by decide +kernel
theorem dX11_orderFrom_64 : decode cX11_orderFrom 64 = .ok (.iload_n 1, 1) := by decide +kernel
theorem dX11_orderFrom_65 : decode cX11_orderFrom 65 = .ok (.iload 7, 2) := by decide +kernel
theorem dX11_orderFrom_67 : decode cX11_orderFrom 67 = .ok (.iastore, 1) := by decide +kernel
theorem dX11_orderFrom_68 : decode cX11_orderFrom 68 = .ok (.iload_n 3, 1) := by decide +kernel
theorem dX11_orderFrom_69 : decode cX11_orderFrom 69 = .ok (.aload_n 0, 1) := by decide +kernel
theorem dX11_orderFrom_70 : decode cX11_orderFrom 70 = .ok (.getfield 98, 3) := by decide +kernel
theorem dX11_orderFrom_73 : decode cX11_orderFrom 73 = .ok (.bipush 12, 2) := by decide +kernel
theorem dX11_orderFrom_75 : decode cX11_orderFrom 75 = .ok (.iload 7, 2) := by decide +kernel
theorem dX11_orderFrom_77 : decode cX11_orderFrom 77 = .ok (.iadd, 1) := by decide +kernel
theorem dX11_orderFrom_78 : decode cX11_orderFrom 78 = .ok (.iaload, 1) := by decide +kernel
theorem dX11_orderFrom_79 : decode cX11_orderFrom 79 = .ok (.iadd, 1) := by decide +kernel
theorem dX11_orderFrom_80 : decode cX11_orderFrom 80 = .ok (.aload_n 0, 1) := by decide +kernel
theorem dX11_orderFrom_81 : decode cX11_orderFrom 81 = .ok (.getfield 98, 3) := by decide +kernel
theorem dX11_orderFrom_84 : decode cX11_orderFrom 84 = .ok (.iconst 5, 1) := by decide +kernel
theorem dX11_orderFrom_85 : decode cX11_orderFrom 85 = .ok (.iaload, 1) := by decide +kernel
theorem dX11_orderFrom_86 : decode cX11_orderFrom 86 = .ok (.if_icmp .le 15, 3) := by decide +kernel
theorem dX11_orderFrom_101 : decode cX11_orderFrom 101 = .ok (.aload_n 0, 1) := by decide +kernel
theorem dX11_orderFrom_102 : decode cX11_orderFrom 102 = .ok (.getfield 317, 3) := by decide +kernel
theorem dX11_orderFrom_105 : decode cX11_orderFrom 105 = .ok (.iload 7, 2) := by decide +kernel
theorem dX11_orderFrom_107 : decode cX11_orderFrom 107 = .ok (.invokestatic 195, 3) := by decide +kernel
theorem dX11_orderFrom_110 : decode cX11_orderFrom 110 = .ok (.istore 9, 2) := by decide +kernel
theorem dX11_orderFrom_112 : decode cX11_orderFrom 112 = .ok (.aload_n 0, 1) := by decide +kernel
theorem dX11_orderFrom_113 : decode cX11_orderFrom 113 = .ok (.iload_n 1, 1) := by decide +kernel
theorem dX11_orderFrom_114 : decode cX11_orderFrom 114 = .ok (.iconst 1, 1) := by decide +kernel
theorem dX11_orderFrom_115 : decode cX11_orderFrom 115 = .ok (.iadd, 1) := by decide +kernel
theorem dX11_orderFrom_116 : decode cX11_orderFrom 116 = .ok (.iload_n 2, 1) := by decide +kernel
theorem dX11_orderFrom_117 : decode cX11_orderFrom 117 = .ok (.iconst 1, 1) := by decide +kernel
theorem dX11_orderFrom_118 : decode cX11_orderFrom 118 = .ok (.iload 7, 2) := by decide +kernel
theorem dX11_orderFrom_120 : decode cX11_orderFrom 120 = .ok (.ishl, 1) := by decide +kernel
theorem dX11_orderFrom_121 : decode cX11_orderFrom 121 = .ok (.iconst (-1), 1) := by decide +kernel
theorem dX11_orderFrom_122 : decode cX11_orderFrom 122 = .ok (.ixor, 1) := by decide +kernel
theorem dX11_orderFrom_123 : decode cX11_orderFrom 123 = .ok (.iand, 1) := by decide +kernel
theorem dX11_orderFrom_124 : decode cX11_orderFrom 124 = .ok (.iload_n 3, 1) := by decide +kernel
theorem dX11_orderFrom_125 : decode cX11_orderFrom 125 = .ok (.aload_n 0, 1) := by decide +kernel
theorem dX11_orderFrom_126 : decode cX11_orderFrom 126 = .ok (.getfield 98, 3) := by decide +kernel
theorem dX11_orderFrom_129 : decode cX11_orderFrom 129 = .ok (.bipush 12, 2) := by decide +kernel
theorem dX11_orderFrom_131 : decode cX11_orderFrom 131 = .ok (.iload 7, 2) := by decide +kernel
theorem dX11_orderFrom_133 : decode cX11_orderFrom 133 = .ok (.iadd, 1) := by decide +kernel
theorem dX11_orderFrom_134 : decode cX11_orderFrom 134 = .ok (.iaload, 1) := by decide +kernel
theorem dX11_orderFrom_135 : decode cX11_orderFrom 135 = .ok (.iadd, 1) := by decide +kernel
theorem dX11_orderFrom_136 : decode cX11_orderFrom 136 = .ok (.iload 9, 2) := by decide +kernel
theorem dX11_orderFrom_138 : decode cX11_orderFrom 138 = .ok (.ifCond .eq 13, 3) := by decide +kernel
theorem dX11_orderFrom_151 : decode cX11_orderFrom 151 = .ok (.iload 4, 2) := by decide +kernel
theorem dX11_orderFrom_153 : decode cX11_orderFrom 153 = .ok (.iload 9, 2) := by decide +kernel
theorem dX11_orderFrom_155 : decode cX11_orderFrom 155 = .ok (.ifCond .eq 10, 3) := by decide +kernel
theorem dX11_orderFrom_165 : decode cX11_orderFrom 165 = .ok (.iload 5, 2) := by decide +kernel
theorem dX11_orderFrom_167 : decode cX11_orderFrom 167 = .ok (.invokevirtual 320, 3) := by decide +kernel
theorem mwX11_orderFrom : MwV yX11_orderFrom cX11_orderFrom 10 none 5 := ⟨⟨kw1619, kw15, by decide +kernel⟩, kw1618, kS90⟩
theorem dX11_orderFrom_141 : decode cX11_orderFrom 141 = .ok (.iload 4, 2) := by decide +kernel
theorem dX11_orderFrom_143 : decode cX11_orderFrom 143 = .ok (.iconst 1, 1) := by decide +kernel
theorem dX11_orderFrom_144 : decode cX11_orderFrom 144 = .ok (.iload 7, 2) := by decide +kernel
theorem dX11_orderFrom_146 : decode cX11_orderFrom 146 = .ok (.ishl, 1) := by decide +kernel
theorem dX11_orderFrom_147 : decode cX11_orderFrom 147 = .ok (.ior, 1) := by decide +kernel
theorem dX11_orderFrom_148 : decode cX11_orderFrom 148 = .ok (.goto 5, 3) := by decide +kernel
theorem dX11_orderFrom_158 : decode cX11_orderFrom 158 = .ok (.iload 5, 2) := by decide +kernel
theorem dX11_orderFrom_160 : decode cX11_orderFrom 160 = .ok (.iconst 1, 1) := by decide +kernel
theorem dX11_orderFrom_161 : decode cX11_orderFrom 161 = .ok (.iadd, 1) := by decide +kernel
theorem dX11_orderFrom_162 : decode cX11_orderFrom 162 = .ok (.goto 5, 3) := by decide +kernel
theorem dX11_orderFrom_89 : decode cX11_orderFrom 89 = .ok (.aload_n 0, 1) := by decide +kernel
theorem dX11_orderFrom_90 : decode cX11_orderFrom 90 = .ok (.iload_n 1, 1) := by decide +kernel
theorem dX11_orderFrom_91 : decode cX11_orderFrom 91 = .ok (.iconst 1, 1) := by decide +kernel
theorem dX11_orderFrom_92 : decode cX11_orderFrom 92 = .ok (.iadd, 1) := by decide +kernel
theorem dX11_orderFrom_93 : decode cX11_orderFrom 93 = .ok (.iload 5, 2) := by decide +kernel
theorem dX11_orderFrom_95 : decode cX11_orderFrom 95 = .ok (.invokevirtual 313, 3) := by decide +kernel
theorem mwX11_endOrder : MwV yX11_endOrder cX11_endOrder 4 none 2 := ⟨⟨kw1615, kw15, by decide +kernel⟩, kw1614, kS89⟩
theorem dX11_orderFrom_98 : decode cX11_orderFrom 98 = .ok (.goto 72, 3) := by decide +kernel
theorem dX11_orderFrom_44 : decode cX11_orderFrom 44 = .ok (.iload 4, 2) := by decide +kernel
theorem dX11_orderFrom_46 : decode cX11_orderFrom 46 = .ok (.iload 8, 2) := by decide +kernel
theorem dX11_orderFrom_48 : decode cX11_orderFrom 48 = .ok (.invokestatic 195, 3) := by decide +kernel
theorem dX11_orderFrom_51 : decode cX11_orderFrom 51 = .ok (.ifCond .ne 6, 3) := by decide +kernel
theorem dX11_orderFrom_54 : decode cX11_orderFrom 54 = .ok (.goto 116, 3) := by decide +kernel
theorem dX11_orderFrom_170 : decode cX11_orderFrom 170 = .ok (.iinc 7 1, 3) := by decide +kernel
theorem dX11_orderFrom_173 : decode cX11_orderFrom 173 = .ok (.goto (-167), 3) := by decide +kernel
theorem dX11_orderFrom_176 : decode cX11_orderFrom 176 = .ok (.iload 6, 2) := by decide +kernel
theorem dX11_orderFrom_178 : decode cX11_orderFrom 178 = .ok (.ifCond .ne 10, 3) := by decide +kernel
theorem dX11_orderFrom_188 : decode cX11_orderFrom 188 = .ok (.return_, 1) := by decide +kernel
theorem dX11_orderFrom_181 : decode cX11_orderFrom 181 = .ok (.aload_n 0, 1) := by decide +kernel
theorem dX11_orderFrom_182 : decode cX11_orderFrom 182 = .ok (.iload_n 1, 1) := by decide +kernel
theorem dX11_orderFrom_183 : decode cX11_orderFrom 183 = .ok (.iload 5, 2) := by decide +kernel
theorem dX11_orderFrom_185 : decode cX11_orderFrom 185 = .ok (.invokevirtual 313, 3) := by decide +kernel
set_option maxHeartbeats 4000000 in
set_option maxRecDepth 100000 in
theorem s_X11_orderFrom_n {l : Launch} {G : Gc} (n : Nat) : ∀ (qm : Nat) (a1 : Int32) (a2 : Int32) (a3 : Int32) (a4 : Int32) (a5 : Int32) (qm_thrown : Int32) (qm_tape : Nat) (qm_taped : Int32) (qm_size : Int32) (qm_limit : Int32) (qm_to : Int32) (qm_from : Int32) (qm_kind : Int32) (qm_number : Int32) (qm_sign : Int32) (qm_fault : Int32) (qm_place : Int32) (qm_word : Int64) (qm_told : Int32) (qm_now : Nat) (qm_read : Nat) (qm_kept : Nat) (qm_snaps : Nat) (qm_aside : Nat) (qm_name : Nat) (qm_readName : Nat) (qm_keptName : Nat) (qm_isKept : Nat) (qm_onces : Nat) (qm_snapMany : Int32) (qm_order : Nat) (qm_ordered : Nat) (qm_orderMany : Int32) (qm_orderMost : Int32) (qm_passing : Int32) (qm_movedWho : Int32) (qm_scratched : Int32) (qm_text : Nat) (qm_texts : Int32) (qm_seed : Int32) (qm_line : Nat) (qm_written : Nat) (qm_lineMany : Int32) (qm_hasWritten : Int32) (qm_node : Nat) (qm_nodes : Int32) (qm_onesMany : Int32) (qm_within : Int32) (qm_top : Int32) (qm_now_c : Nat → Int32) (qm_order_c : Nat → Int32) (qm_ordered_c : Nat → Int32), (0 ≤ a1.toInt ∧ a1.toInt ≤ 6) → (0 ≤ qm_taped.toInt ∧ qm_taped.toInt ≤ 940) → (0 ≤ qm_size.toInt ∧ qm_size.toInt ≤ 940) → (0 ≤ qm_to.toInt ∧ qm_to.toInt ≤ 940) → (slI qm_now_c) → (trI qm_now_c) → (0 ≤ qm_snapMany.toInt ∧ qm_snapMany.toInt ≤ 8) → (0 ≤ qm_orderMany.toInt ∧ qm_orderMany.toInt ≤ 6) → (0 ≤ qm_hasWritten.toInt ∧ qm_hasWritten.toInt ≤ 1) → (pc6 a2 + a1.toInt ≤ 6) → (6 - a1.toInt < (n : Int)) → Cv l yX11_orderFrom cX11_orderFrom 10 (2 + 1 * n) 0 0 G [.ref qm, .int a1, .int a2, .int a3, .int a4, .int a5] [(qm, .inr (10, [.int qm_thrown, .ref qm_tape, .int qm_taped, .int qm_size, .int qm_limit, .int qm_to, .int qm_from, .int qm_kind, .int qm_number, .int qm_sign, .int qm_fault, .int qm_place, .long qm_word, .int qm_told, .ref qm_now, .ref qm_read, .ref qm_kept, .ref qm_snaps, .ref qm_aside, .ref qm_name, .ref qm_readName, .ref qm_keptName, .ref qm_isKept, .ref qm_onces, .int qm_snapMany, .ref qm_order, .ref qm_ordered, .int qm_orderMany, .int qm_orderMost, .int qm_passing, .int qm_movedWho, .int qm_scratched, .ref qm_text, .int qm_texts, .int qm_seed, .ref qm_line, .ref qm_written, .int qm_lineMany, .int qm_hasWritten, .ref qm_node, .int qm_nodes, .int qm_onesMany, .int qm_within, .int qm_top])), (qm_now, eI G 339 qm_now_c), (qm_order, eI G 6 qm_order_c), (qm_ordered, eI G 6 qm_ordered_c)] (fun (u9 : va_W) => ∃ (x0_qm_orderMany : Int32) (x1_qm_orderMost : Int32) (x2_qm_order_c : Nat → Int32) (x3_qm_ordered_c : Nat → Int32), u9 = [(qm, .inr (10, [.int qm_thrown, .ref qm_tape, .int qm_taped, .int qm_size, .int qm_limit, .int qm_to, .int qm_from, .int qm_kind, .int qm_number, .int qm_sign, .int qm_fault, .int qm_place, .long qm_word, .int qm_told, .ref qm_now, .ref qm_read, .ref qm_kept, .ref qm_snaps, .ref qm_aside, .ref qm_name, .ref qm_readName, .ref qm_keptName, .ref qm_isKept, .ref qm_onces, .int qm_snapMany, .ref qm_order, .ref qm_ordered, .int x0_qm_orderMany, .int x1_qm_orderMost, .int qm_passing, .int qm_movedWho, .int qm_scratched, .ref qm_text, .int qm_texts, .int qm_seed, .ref qm_line, .ref qm_written, .int qm_lineMany, .int qm_hasWritten, .ref qm_node, .int qm_nodes, .int qm_onesMany, .int qm_within, .int qm_top])), (qm_now, eI G 339 qm_now_c), (qm_order, eI G 6 x2_qm_order_c), (qm_ordered, eI G 6 x3_qm_ordered_c)] ∧ (0 ≤ x0_qm_orderMany.toInt ∧ x0_qm_orderMany.toInt ≤ 6)) := by
  induction n with
  | zero => intro qm a1 a2 a3 a4 a5 qm_thrown qm_tape qm_taped qm_size qm_limit qm_to qm_from qm_kind qm_number qm_sign qm_fault qm_place qm_word qm_told qm_now qm_read qm_kept qm_snaps qm_aside qm_name qm_readName qm_keptName qm_isKept qm_onces qm_snapMany qm_order qm_ordered qm_orderMany qm_orderMost qm_passing qm_movedWho qm_scratched qm_text qm_texts qm_seed qm_line qm_written qm_lineMany qm_hasWritten qm_node qm_nodes qm_onesMany qm_within qm_top qm_now_c qm_order_c qm_ordered_c hi_a1 hi_qm_taped hi_qm_size hi_qm_to hf_qm_now_c hf1_qm_now_c hi_qm_snapMany hi_qm_orderMany hi_qm_hasWritten hr_0 hme; exfalso; omega
  | succ n ih =>
    intro qm a1 a2 a3 a4 a5 qm_thrown qm_tape qm_taped qm_size qm_limit qm_to qm_from qm_kind qm_number qm_sign qm_fault qm_place qm_word qm_told qm_now qm_read qm_kept qm_snaps qm_aside qm_name qm_readName qm_keptName qm_isKept qm_onces qm_snapMany qm_order qm_ordered qm_orderMany qm_orderMost qm_passing qm_movedWho qm_scratched qm_text qm_texts qm_seed qm_line qm_written qm_lineMany qm_hasWritten qm_node qm_nodes qm_onesMany qm_within qm_top qm_now_c qm_order_c qm_ordered_c hi_a1 hi_qm_taped hi_qm_size hi_qm_to hf_qm_now_c hf1_qm_now_c hi_qm_snapMany hi_qm_orderMany hi_qm_hasWritten hr_0 hme
    refine Cv.ofQ (by decide) (Nat.le_of_ble_eq_true rfl) ?_
    intro p e s m below meth c ls A args Q hQ B hw hl
    have C : CallFix p m c cX11_orderFrom 10 s args gw "LanternStateModel" := B.1
    have hl : lv_has ls 10 [(0, .ref qm), (1, .int a1), (2, .int a2), (3, .int a3), (4, .int a4), (5, .int a5)] := hl
    refine lv_iconst (v := 0) C.1 C.2.1 dX11_orderFrom_0 (by decide) ?_
    refine lv_istore (lv' := [(6, .int 0), (0, .ref qm), (1, .int a1), (2, .int a2), (3, .int a3), (4, .int a4), (5, .int a5)]) C.1 C.2.1 dX11_orderFrom_1 hl (by decide) rfl (fun ls hl => ?_)
    refine lv_iconst (v := 0) C.1 C.2.1 dX11_orderFrom_3 (by decide) ?_
    refine lv_istore (lv' := [(7, .int 0), (6, .int 0), (0, .ref qm), (1, .int a1), (2, .int a2), (3, .int a3), (4, .int a4), (5, .int a5)]) C.1 C.2.1 dX11_orderFrom_4 hl (by decide) rfl (fun ls hl => ?_)
    have loopJ618 : ∀ (n9 : Nat) (j612 : Int32) (j613 : Int32) (j614 : Int32) (j615 : Int32) (j616 : Nat → Int32) (j617 : Nat → Int32), (2147483647 - j612.toInt).toNat < n9 → (0 ≤ j613.toInt ∧ j613.toInt ≤ 1) → (0 ≤ j614.toInt ∧ j614.toInt ≤ 6) → (0 ≤ j612.toInt ∧ j612.toInt ≤ 6) → ∀ (H : Heap) (locs : List Loc) (ls : Array Slot), Wd G s A [(qm, .inr (10, [.int qm_thrown, .ref qm_tape, .int qm_taped, .int qm_size, .int qm_limit, .int qm_to, .int qm_from, .int qm_kind, .int qm_number, .int qm_sign, .int qm_fault, .int qm_place, .long qm_word, .int qm_told, .ref qm_now, .ref qm_read, .ref qm_kept, .ref qm_snaps, .ref qm_aside, .ref qm_name, .ref qm_readName, .ref qm_keptName, .ref qm_isKept, .ref qm_onces, .int qm_snapMany, .ref qm_order, .ref qm_ordered, .int j614, .int j615, .int qm_passing, .int qm_movedWho, .int qm_scratched, .ref qm_text, .int qm_texts, .int qm_seed, .ref qm_line, .ref qm_written, .int qm_lineMany, .int qm_hasWritten, .ref qm_node, .int qm_nodes, .int qm_onesMany, .int qm_within, .int qm_top])), (qm_now, eI G 339 qm_now_c), (qm_order, eI G 6 j616), (qm_ordered, eI G 6 j617)] H locs → lv_has ls 10 [(7, .int j612), (6, .int j613), (0, .ref qm), (1, .int a1), (2, .int a2), (3, .int a3), (4, .int a4), (5, .int a5)] → W p l e (rmD (2 + 1 * (n + 1)) 0 0) s m args below meth c H locs 0 0 Q (F0 m 6 ls []) := by
      intro n9
      induction n9 with
      | zero => intro j612 j613 j614 j615 j616 j617 h9; exact absurd h9 (Nat.not_lt_zero _)
      | succ n9 ihJ618 =>
        intro j612 j613 j614 j615 j616 j617 h9J618 hJ618_0 hJ618_1 hJ618_2 H locs ls hw hl
        have hbj612 := i_bd j612
        refine lv_iload C.1 C.2.1 dX11_orderFrom_6 (lv_at hl 0 rfl) ?_
        refine lv_aload_n C.1 C.2.1 dX11_orderFrom_8 rfl (lv_at hl 2 rfl) ?_
        refine x_get C hw iwX11 10 rfl 0 rfl 14 (by decide) kw1207 rfl dX11_orderFrom_9 ?_
        refine lv_iconst (v := 0) C.1 C.2.1 dX11_orderFrom_12 (by decide) ?_
        have mm725 := hf_qm_now_c 0
        refine x_iald (v := (qm_now_c 0)) C hw 1 rfl (x_in rfl) rfl dX11_orderFrom_13 (x_genP (fun z : Int32 => z.toInt = (qm_now_c 0).toInt ∧ 0 ≤ z.toInt ∧ z.toInt ≤ 6) ⟨rfl, by omega⟩ (fun v726 hv726 => ?_))
        refine lv_icmp_ge (tgt := 176) C.1 C.2.1 dX11_orderFrom_14 (by decide) (fun c727 => ?_) (fun c727 => ?_)
        · skip
          have c727 : v726.toInt ≤ j612.toInt := i_leT (X := v726.toInt) (Y := j612.toInt) rfl rfl c727
          refine lv_iload C.1 C.2.1 dX11_orderFrom_176 (lv_at hl 1 rfl) ?_
          refine lv_if_ne (tgt := 188) C.1 C.2.1 dX11_orderFrom_178 (by decide) (fun c728 => ?_) (fun c728 => ?_)
          · skip
            have c728 : j613.toInt ≠ 0 := i_eqF (X := j613.toInt) (Y := 0) rfl rfl c728
            exact x_retvQ hQ B hw ⟨j614, j615, j616, j617, rfl, (by omega)⟩ (Nat.le_of_ble_eq_true rfl) (Nat.le_of_ble_eq_true rfl) dX11_orderFrom_188
          · skip
            have c728 : j613.toInt = 0 := i_eqT (X := j613.toInt) (Y := 0) rfl rfl c728
            refine lv_aload_n C.1 C.2.1 dX11_orderFrom_181 rfl (lv_at hl 2 rfl) ?_
            refine lv_iload_n C.1 C.2.1 dX11_orderFrom_182 rfl (lv_at hl 3 rfl) ?_
            refine lv_iload C.1 C.2.1 dX11_orderFrom_183 (lv_at hl 7 rfl) ?_
            refine x_callvV (As := [.int a1, .int a5]) (rest := []) (wr := [(qm_now, eI G 339 qm_now_c)]) C hw (s_X11_endOrder qm a1 a5 qm_thrown qm_tape qm_taped qm_size qm_limit qm_to qm_from qm_kind qm_number qm_sign qm_fault qm_place qm_word qm_told qm_now qm_read qm_kept qm_snaps qm_aside qm_name qm_readName qm_keptName qm_isKept qm_onces qm_snapMany qm_order qm_ordered j614 j615 qm_passing qm_movedWho qm_scratched qm_text qm_texts qm_seed qm_line qm_written qm_lineMany qm_hasWritten qm_node qm_nodes qm_onesMany qm_within qm_top j616 j617 (by omega) (by omega)) mwX11_endOrder kw1612 [0, 2, 3] [1] rfl rfl rfl rfl (by decide) 0 rfl rfl rfl rfl hl.1 rfl (Nat.le_of_ble_eq_true rfl) ⟨(by dsimp only [rmD]; omega), (by dsimp only [rmD]; omega)⟩ ⟨(Nat.le_of_ble_eq_true rfl), (Nat.le_of_ble_eq_true rfl)⟩ dX11_orderFrom_185 (fun  u9 H locs hp9 hw => ?_)
            obtain ⟨x729, x730, x731, rfl, hf732⟩ := hp9
            have hw : Wd G s A [(qm_now, eI G 339 qm_now_c), (qm, .inr (10, [.int qm_thrown, .ref qm_tape, .int qm_taped, .int qm_size, .int qm_limit, .int qm_to, .int qm_from, .int qm_kind, .int qm_number, .int qm_sign, .int qm_fault, .int qm_place, .long qm_word, .int qm_told, .ref qm_now, .ref qm_read, .ref qm_kept, .ref qm_snaps, .ref qm_aside, .ref qm_name, .ref qm_readName, .ref qm_keptName, .ref qm_isKept, .ref qm_onces, .int qm_snapMany, .ref qm_order, .ref qm_ordered, .int x729, .int x730, .int qm_passing, .int qm_movedWho, .int qm_scratched, .ref qm_text, .int qm_texts, .int qm_seed, .ref qm_line, .ref qm_written, .int qm_lineMany, .int qm_hasWritten, .ref qm_node, .int qm_nodes, .int qm_onesMany, .int qm_within, .int qm_top])), (qm_order, eI G 6 j616), (qm_ordered, eI G 6 x731)] H _ := hw
            have hw := hw.sub (w' := [(qm, .inr (10, [.int qm_thrown, .ref qm_tape, .int qm_taped, .int qm_size, .int qm_limit, .int qm_to, .int qm_from, .int qm_kind, .int qm_number, .int qm_sign, .int qm_fault, .int qm_place, .long qm_word, .int qm_told, .ref qm_now, .ref qm_read, .ref qm_kept, .ref qm_snaps, .ref qm_aside, .ref qm_name, .ref qm_readName, .ref qm_keptName, .ref qm_isKept, .ref qm_onces, .int qm_snapMany, .ref qm_order, .ref qm_ordered, .int x729, .int x730, .int qm_passing, .int qm_movedWho, .int qm_scratched, .ref qm_text, .int qm_texts, .int qm_seed, .ref qm_line, .ref qm_written, .int qm_lineMany, .int qm_hasWritten, .ref qm_node, .int qm_nodes, .int qm_onesMany, .int qm_within, .int qm_top])), (qm_now, eI G 339 qm_now_c), (qm_order, eI G 6 j616), (qm_ordered, eI G 6 x731)]) [1, 0, 2, 3] rfl rfl
            exact x_retvQ hQ B hw ⟨x729, x730, j616, x731, rfl, (by omega)⟩ (Nat.le_of_ble_eq_true rfl) (Nat.le_of_ble_eq_true rfl) dX11_orderFrom_188
        · skip
          have c727 : j612.toInt < v726.toInt := i_leF (X := v726.toInt) (Y := j612.toInt) rfl rfl c727
          refine lv_aload_n C.1 C.2.1 dX11_orderFrom_17 rfl (lv_at hl 2 rfl) ?_
          refine x_get C hw iwX11 10 rfl 0 rfl 14 (by decide) kw1207 rfl dX11_orderFrom_18 ?_
          refine lv_bipush (v := 18) C.1 C.2.1 dX11_orderFrom_21 (by decide) ?_
          refine lv_iload C.1 C.2.1 dX11_orderFrom_23 (lv_at hl 0 rfl) ?_
          refine lv_iadd C.1 C.2.1 dX11_orderFrom_25 (x_genP (fun z : Int32 => z.toInt = 18 + j612.toInt) (i_add (X := 18) (Y := j612.toInt) rfl rfl (by omega) (by omega)) (fun v733 hv733 => ?_))
          have mm734 := hf_qm_now_c v733.toNatClampNeg
          have mm735 := i_cn v733
          refine x_iald (v := (qm_now_c v733.toNatClampNeg)) C hw 1 rfl (i_in (by omega) (by omega)) rfl dX11_orderFrom_26 (x_genP (fun z : Int32 => z.toInt = (qm_now_c v733.toNatClampNeg).toInt ∧ -1 ≤ z.toInt ∧ z.toInt ≤ 5) ⟨rfl, by omega⟩ (fun v736 hv736 => ?_))
          refine lv_istore (lv' := [(8, .int v736), (7, .int j612), (6, .int j613), (0, .ref qm), (1, .int a1), (2, .int a2), (3, .int a3), (4, .int a4), (5, .int a5)]) C.1 C.2.1 dX11_orderFrom_27 hl (by decide) rfl (fun ls hl => ?_)
          refine lv_iload_n C.1 C.2.1 dX11_orderFrom_29 rfl (lv_at hl 5 rfl) ?_
          refine lv_iload C.1 C.2.1 dX11_orderFrom_30 (lv_at hl 1 rfl) ?_
          refine x_calliS (As := [.int a2, .int j612]) (rest := []) (wr := [(qm, .inr (10, [.int qm_thrown, .ref qm_tape, .int qm_taped, .int qm_size, .int qm_limit, .int qm_to, .int qm_from, .int qm_kind, .int qm_number, .int qm_sign, .int qm_fault, .int qm_place, .long qm_word, .int qm_told, .ref qm_now, .ref qm_read, .ref qm_kept, .ref qm_snaps, .ref qm_aside, .ref qm_name, .ref qm_readName, .ref qm_keptName, .ref qm_isKept, .ref qm_onces, .int qm_snapMany, .ref qm_order, .ref qm_ordered, .int j614, .int j615, .int qm_passing, .int qm_movedWho, .int qm_scratched, .ref qm_text, .int qm_texts, .int qm_seed, .ref qm_line, .ref qm_written, .int qm_lineMany, .int qm_hasWritten, .ref qm_node, .int qm_nodes, .int qm_onesMany, .int qm_within, .int qm_top])), (qm_now, eI G 339 qm_now_c), (qm_order, eI G 6 j616), (qm_ordered, eI G 6 j617)]) C hw (s_X11_has a2 j612) mwX11_has kw1426 [] [0, 1, 2, 3] rfl rfl rfl rfl (by decide) rfl hl.1 rfl (Nat.le_of_ble_eq_true rfl) ⟨(by dsimp only [rmD]; omega), (by dsimp only [rmD]; omega)⟩ ⟨(Nat.le_of_ble_eq_true rfl), (Nat.le_of_ble_eq_true rfl)⟩ dX11_orderFrom_32 (fun r737 u9 H locs hp9 hw => ?_)
          have J827 : ∀ (j822 : Int32) (j823 : Int32) (j824 : Int32) (j825 : Nat → Int32) (j826 : Nat → Int32), (0 ≤ j822.toInt ∧ j822.toInt ≤ 1) → (0 ≤ j823.toInt ∧ j823.toInt ≤ 6) → ∀ (H : Heap) (locs : List Loc) (ls : Array Slot), Wd G s A [(qm, .inr (10, [.int qm_thrown, .ref qm_tape, .int qm_taped, .int qm_size, .int qm_limit, .int qm_to, .int qm_from, .int qm_kind, .int qm_number, .int qm_sign, .int qm_fault, .int qm_place, .long qm_word, .int qm_told, .ref qm_now, .ref qm_read, .ref qm_kept, .ref qm_snaps, .ref qm_aside, .ref qm_name, .ref qm_readName, .ref qm_keptName, .ref qm_isKept, .ref qm_onces, .int qm_snapMany, .ref qm_order, .ref qm_ordered, .int j823, .int j824, .int qm_passing, .int qm_movedWho, .int qm_scratched, .ref qm_text, .int qm_texts, .int qm_seed, .ref qm_line, .ref qm_written, .int qm_lineMany, .int qm_hasWritten, .ref qm_node, .int qm_nodes, .int qm_onesMany, .int qm_within, .int qm_top])), (qm_now, eI G 339 qm_now_c), (qm_order, eI G 6 j825), (qm_ordered, eI G 6 j826)] H locs → lv_has ls 10 [(7, .int j612), (6, .int j822), (0, .ref qm), (1, .int a1), (2, .int a2), (3, .int a3), (4, .int a4), (5, .int a5)] → W p l e (rmD (2 + 1 * (n + 1)) 0 0) s m args below meth c H locs 0 0 Q (F0 m 170 ls []) := by
            intro j822 j823 j824 j825 j826 hJ827_0 hJ827_1 H locs ls hw hl
            obtain ⟨v829, ev829⟩ : ∃ z : Int32, j612 + 1 = z := ⟨_, rfl⟩
            have hv829 : v829.toInt = j612.toInt + 1 := by rw [← ev829]; exact i_add rfl rfl (by omega) (by omega)
            refine lv_iinc (v := v829) (lv' := [(7, .int v829), (6, .int j822), (0, .ref qm), (1, .int a1), (2, .int a2), (3, .int a3), (4, .int a4), (5, .int a5)]) C.1 C.2.1 dX11_orderFrom_170 hl (k := 0) rfl ev829 (by decide) rfl (fun ls hl => ?_)
            refine lv_goto (tgt := 6) C.1 C.2.1 dX11_orderFrom_173 (by decide) ?_
            exact ihJ618 v829 j822 j823 j824 j825 j826 (by omega) (by omega) (by omega) (by omega) _ _ _ hw (lv_sub hl [0, 1, 2, 3, 4, 5, 6, 7] rfl)
          rcases hp9 with ⟨rfl, rfl⟩ | ⟨rfl, rfl, hf738⟩
          · skip
            have hw : Wd G s A [(qm, .inr (10, [.int qm_thrown, .ref qm_tape, .int qm_taped, .int qm_size, .int qm_limit, .int qm_to, .int qm_from, .int qm_kind, .int qm_number, .int qm_sign, .int qm_fault, .int qm_place, .long qm_word, .int qm_told, .ref qm_now, .ref qm_read, .ref qm_kept, .ref qm_snaps, .ref qm_aside, .ref qm_name, .ref qm_readName, .ref qm_keptName, .ref qm_isKept, .ref qm_onces, .int qm_snapMany, .ref qm_order, .ref qm_ordered, .int j614, .int j615, .int qm_passing, .int qm_movedWho, .int qm_scratched, .ref qm_text, .int qm_texts, .int qm_seed, .ref qm_line, .ref qm_written, .int qm_lineMany, .int qm_hasWritten, .ref qm_node, .int qm_nodes, .int qm_onesMany, .int qm_within, .int qm_top])), (qm_now, eI G 339 qm_now_c), (qm_order, eI G 6 j616), (qm_ordered, eI G 6 j617)] H _ := hw
            refine lv_if_eq (tgt := 170) C.1 C.2.1 dX11_orderFrom_35 (by decide) (fun _ => ?_) (fun h9 => absurd (by decide) h9)
            exact J827 j613 j614 j615 j616 j617  (by omega) (by omega) _ _ _ hw (lv_sub hl [1, 2, 3, 4, 5, 6, 7, 8] rfl)
          · skip
            have hw : Wd G s A [(qm, .inr (10, [.int qm_thrown, .ref qm_tape, .int qm_taped, .int qm_size, .int qm_limit, .int qm_to, .int qm_from, .int qm_kind, .int qm_number, .int qm_sign, .int qm_fault, .int qm_place, .long qm_word, .int qm_told, .ref qm_now, .ref qm_read, .ref qm_kept, .ref qm_snaps, .ref qm_aside, .ref qm_name, .ref qm_readName, .ref qm_keptName, .ref qm_isKept, .ref qm_onces, .int qm_snapMany, .ref qm_order, .ref qm_ordered, .int j614, .int j615, .int qm_passing, .int qm_movedWho, .int qm_scratched, .ref qm_text, .int qm_texts, .int qm_seed, .ref qm_line, .ref qm_written, .int qm_lineMany, .int qm_hasWritten, .ref qm_node, .int qm_nodes, .int qm_onesMany, .int qm_within, .int qm_top])), (qm_now, eI G 339 qm_now_c), (qm_order, eI G 6 j616), (qm_ordered, eI G 6 j617)] H _ := hw
            refine lv_if_eq (tgt := 170) C.1 C.2.1 dX11_orderFrom_35 (by decide) (fun h9 => absurd h9 (by decide)) (fun _ => ?_)
            refine lv_iload C.1 C.2.1 dX11_orderFrom_38 (lv_at hl 0 rfl) ?_
            refine lv_iconst (v := (-1)) C.1 C.2.1 dX11_orderFrom_40 (by decide) ?_
            refine lv_icmp_eq (tgt := 57) C.1 C.2.1 dX11_orderFrom_41 (by decide) (fun c830 => ?_) (fun c830 => ?_)
            · skip
              have c830 : v736.toInt = (-1) := i_eqT (X := v736.toInt) (Y := (-1)) rfl rfl c830
              refine lv_iconst (v := 1) C.1 C.2.1 dX11_orderFrom_57 (by decide) ?_
              refine lv_istore (lv' := [(6, .int 1), (8, .int v736), (7, .int j612), (0, .ref qm), (1, .int a1), (2, .int a2), (3, .int a3), (4, .int a4), (5, .int a5)]) C.1 C.2.1 dX11_orderFrom_58 hl (by decide) rfl (fun ls hl => ?_)
              refine lv_aload_n C.1 C.2.1 dX11_orderFrom_60 rfl (lv_at hl 3 rfl) ?_
              refine x_get C hw iwX11 10 rfl 0 rfl 25 (by decide) kw1218 rfl dX11_orderFrom_61 ?_
              refine lv_iload_n C.1 C.2.1 dX11_orderFrom_64 rfl (lv_at hl 4 rfl) ?_
              refine lv_iload C.1 C.2.1 dX11_orderFrom_65 (lv_at hl 2 rfl) ?_
              have p6 := pc6_pos (x := a2) (s := j612) (by assumption) (by omega) (by omega)
              obtain ⟨g831, eg831⟩ : ∃ z, upd j616 (a1.toNatClampNeg) j612 = z := ⟨_, rfl⟩
              refine x_iast (f' := g831) (w' := [(qm, .inr (10, [.int qm_thrown, .ref qm_tape, .int qm_taped, .int qm_size, .int qm_limit, .int qm_to, .int qm_from, .int qm_kind, .int qm_number, .int qm_sign, .int qm_fault, .int qm_place, .long qm_word, .int qm_told, .ref qm_now, .ref qm_read, .ref qm_kept, .ref qm_snaps, .ref qm_aside, .ref qm_name, .ref qm_readName, .ref qm_keptName, .ref qm_isKept, .ref qm_onces, .int qm_snapMany, .ref qm_order, .ref qm_ordered, .int j614, .int j615, .int qm_passing, .int qm_movedWho, .int qm_scratched, .ref qm_text, .int qm_texts, .int qm_seed, .ref qm_line, .ref qm_written, .int qm_lineMany, .int qm_hasWritten, .ref qm_node, .int qm_nodes, .int qm_onesMany, .int qm_within, .int qm_top])), (qm_now, eI G 339 qm_now_c), (qm_order, eI G 6 g831), (qm_ordered, eI G 6 j617)]) C hw 2 rfl (i_in (by omega) (by omega)) eg831 rfl dX11_orderFrom_67 (fun H locs hw => ?_)
              refine lv_iload_n C.1 C.2.1 dX11_orderFrom_68 rfl (lv_at hl 6 rfl) ?_
              refine lv_aload_n C.1 C.2.1 dX11_orderFrom_69 rfl (lv_at hl 3 rfl) ?_
              refine x_get C hw iwX11 10 rfl 0 rfl 14 (by decide) kw1207 rfl dX11_orderFrom_70 ?_
              refine lv_bipush (v := 12) C.1 C.2.1 dX11_orderFrom_73 (by decide) ?_
              refine lv_iload C.1 C.2.1 dX11_orderFrom_75 (lv_at hl 2 rfl) ?_
              refine lv_iadd C.1 C.2.1 dX11_orderFrom_77 (x_genP (fun z : Int32 => z.toInt = 12 + j612.toInt) (i_add (X := 12) (Y := j612.toInt) rfl rfl (by omega) (by omega)) (fun v832 hv832 => ?_))
              refine x_iald (v := (qm_now_c v832.toNatClampNeg)) C hw 1 rfl (i_in (by omega) (by omega)) rfl dX11_orderFrom_78 (x_gen (fun v833 => ?_))
              refine lv_iadd C.1 C.2.1 dX11_orderFrom_79 (x_gen (fun v834 => ?_))
              refine lv_aload_n C.1 C.2.1 dX11_orderFrom_80 rfl (lv_at hl 3 rfl) ?_
              refine x_get C hw iwX11 10 rfl 0 rfl 14 (by decide) kw1207 rfl dX11_orderFrom_81 ?_
              refine lv_iconst (v := 5) C.1 C.2.1 dX11_orderFrom_84 (by decide) ?_
              refine x_iald (v := (qm_now_c 5)) C hw 1 rfl (x_in rfl) rfl dX11_orderFrom_85 (x_gen (fun v835 => ?_))
              refine lv_icmp_le (tgt := 101) C.1 C.2.1 dX11_orderFrom_86 (by decide) (fun c836 => ?_) (fun c836 => ?_)
              · skip
                have c836 : v834.toInt ≤ v835.toInt := i_leT (X := v834.toInt) (Y := v835.toInt) rfl rfl c836
                have bc836_v834 := i_bd v834
                have bc836_v835 := i_bd v835
                refine lv_aload_n C.1 C.2.1 dX11_orderFrom_101 rfl (lv_at hl 3 rfl) ?_
                refine x_get C hw iwX11 10 rfl 0 rfl 29 (by decide) kw1222 rfl dX11_orderFrom_102 ?_
                refine lv_iload C.1 C.2.1 dX11_orderFrom_105 (lv_at hl 2 rfl) ?_
                refine x_calliS (As := [.int qm_passing, .int j612]) (rest := []) (wr := [(qm, .inr (10, [.int qm_thrown, .ref qm_tape, .int qm_taped, .int qm_size, .int qm_limit, .int qm_to, .int qm_from, .int qm_kind, .int qm_number, .int qm_sign, .int qm_fault, .int qm_place, .long qm_word, .int qm_told, .ref qm_now, .ref qm_read, .ref qm_kept, .ref qm_snaps, .ref qm_aside, .ref qm_name, .ref qm_readName, .ref qm_keptName, .ref qm_isKept, .ref qm_onces, .int qm_snapMany, .ref qm_order, .ref qm_ordered, .int j614, .int j615, .int qm_passing, .int qm_movedWho, .int qm_scratched, .ref qm_text, .int qm_texts, .int qm_seed, .ref qm_line, .ref qm_written, .int qm_lineMany, .int qm_hasWritten, .ref qm_node, .int qm_nodes, .int qm_onesMany, .int qm_within, .int qm_top])), (qm_now, eI G 339 qm_now_c), (qm_order, eI G 6 g831), (qm_ordered, eI G 6 j617)]) C hw (s_X11_has qm_passing j612) mwX11_has kw1426 [] [0, 1, 2, 3] rfl rfl rfl rfl (by decide) rfl hl.1 rfl (Nat.le_of_ble_eq_true rfl) ⟨(by dsimp only [rmD]; omega), (by dsimp only [rmD]; omega)⟩ ⟨(Nat.le_of_ble_eq_true rfl), (Nat.le_of_ble_eq_true rfl)⟩ dX11_orderFrom_107 (fun r837 u9 H locs hp9 hw => ?_)
                rcases hp9 with ⟨rfl, rfl⟩ | ⟨rfl, rfl, hf838⟩
                · skip
                  have hw : Wd G s A [(qm, .inr (10, [.int qm_thrown, .ref qm_tape, .int qm_taped, .int qm_size, .int qm_limit, .int qm_to, .int qm_from, .int qm_kind, .int qm_number, .int qm_sign, .int qm_fault, .int qm_place, .long qm_word, .int qm_told, .ref qm_now, .ref qm_read, .ref qm_kept, .ref qm_snaps, .ref qm_aside, .ref qm_name, .ref qm_readName, .ref qm_keptName, .ref qm_isKept, .ref qm_onces, .int qm_snapMany, .ref qm_order, .ref qm_ordered, .int j614, .int j615, .int qm_passing, .int qm_movedWho, .int qm_scratched, .ref qm_text, .int qm_texts, .int qm_seed, .ref qm_line, .ref qm_written, .int qm_lineMany, .int qm_hasWritten, .ref qm_node, .int qm_nodes, .int qm_onesMany, .int qm_within, .int qm_top])), (qm_now, eI G 339 qm_now_c), (qm_order, eI G 6 g831), (qm_ordered, eI G 6 j617)] H _ := hw
                  refine lv_istore (lv' := [(9, .int 0), (6, .int 1), (8, .int v736), (7, .int j612), (0, .ref qm), (1, .int a1), (2, .int a2), (3, .int a3), (4, .int a4), (5, .int a5)]) C.1 C.2.1 dX11_orderFrom_110 hl (by decide) rfl (fun ls hl => ?_)
                  refine lv_aload_n C.1 C.2.1 dX11_orderFrom_112 rfl (lv_at hl 4 rfl) ?_
                  refine lv_iload_n C.1 C.2.1 dX11_orderFrom_113 rfl (lv_at hl 5 rfl) ?_
                  refine lv_iconst (v := 1) C.1 C.2.1 dX11_orderFrom_114 (by decide) ?_
                  refine lv_iadd C.1 C.2.1 dX11_orderFrom_115 (x_genP (fun z : Int32 => z.toInt = a1.toInt + 1) (i_add (X := a1.toInt) (Y := 1) rfl rfl (by omega) (by omega)) (fun v839 hv839 => ?_))
                  refine lv_iload_n C.1 C.2.1 dX11_orderFrom_116 rfl (lv_at hl 6 rfl) ?_
                  refine lv_iconst (v := 1) C.1 C.2.1 dX11_orderFrom_117 (by decide) ?_
                  refine lv_iload C.1 C.2.1 dX11_orderFrom_118 (lv_at hl 3 rfl) ?_
                  refine lv_ishl C.1 C.2.1 dX11_orderFrom_120 (x_genP (fun z : Int32 => z = (1 : Int32) <<< (j612 &&& 31)) rfl (fun v840 hv840 => ?_))
                  refine lv_iconst (v := (-1)) C.1 C.2.1 dX11_orderFrom_121 (by decide) ?_
                  refine lv_ixor C.1 C.2.1 dX11_orderFrom_122 (x_genP (fun z : Int32 => z = v840 ^^^ (-1)) rfl (fun v841 hv841 => ?_))
                  refine lv_iand C.1 C.2.1 dX11_orderFrom_123 (x_genP (fun z : Int32 => pc6 z + 1 = pc6 a2) (by rw [hv841, hv840]; exact pc6_clr (by assumption) (by omega) (by omega)) (fun v842 hv842 => ?_))
                  refine lv_iload_n C.1 C.2.1 dX11_orderFrom_124 rfl (lv_at hl 7 rfl) ?_
                  refine lv_aload_n C.1 C.2.1 dX11_orderFrom_125 rfl (lv_at hl 4 rfl) ?_
                  refine x_get C hw iwX11 10 rfl 0 rfl 14 (by decide) kw1207 rfl dX11_orderFrom_126 ?_
                  refine lv_bipush (v := 12) C.1 C.2.1 dX11_orderFrom_129 (by decide) ?_
                  refine lv_iload C.1 C.2.1 dX11_orderFrom_131 (lv_at hl 3 rfl) ?_
                  refine lv_iadd C.1 C.2.1 dX11_orderFrom_133 (x_genP (fun z : Int32 => z.toInt = 12 + j612.toInt) (i_add (X := 12) (Y := j612.toInt) rfl rfl (by omega) (by omega)) (fun v843 hv843 => ?_))
                  refine x_iald (v := (qm_now_c v843.toNatClampNeg)) C hw 1 rfl (i_in (by omega) (by omega)) rfl dX11_orderFrom_134 (x_gen (fun v844 => ?_))
                  refine lv_iadd C.1 C.2.1 dX11_orderFrom_135 (x_gen (fun v845 => ?_))
                  refine lv_iload C.1 C.2.1 dX11_orderFrom_136 (lv_at hl 0 rfl) ?_
                  refine lv_if_eq (tgt := 151) C.1 C.2.1 dX11_orderFrom_138 (by decide) (fun _ => ?_) (fun h9 => absurd (by decide) h9)
                  refine lv_iload C.1 C.2.1 dX11_orderFrom_151 (lv_at hl 8 rfl) ?_
                  refine lv_iload C.1 C.2.1 dX11_orderFrom_153 (lv_at hl 0 rfl) ?_
                  refine lv_if_eq (tgt := 165) C.1 C.2.1 dX11_orderFrom_155 (by decide) (fun _ => ?_) (fun h9 => absurd (by decide) h9)
                  refine lv_iload C.1 C.2.1 dX11_orderFrom_165 (lv_at hl 9 rfl) ?_
                  refine x_callvV (As := [.int v839, .int v842, .int v845, .int a4, .int a5]) (rest := []) (wr := []) C hw (ih qm v839 v842 v845 a4 a5 qm_thrown qm_tape qm_taped qm_size qm_limit qm_to qm_from qm_kind qm_number qm_sign qm_fault qm_place qm_word qm_told qm_now qm_read qm_kept qm_snaps qm_aside qm_name qm_readName qm_keptName qm_isKept qm_onces qm_snapMany qm_order qm_ordered j614 j615 qm_passing qm_movedWho qm_scratched qm_text qm_texts qm_seed qm_line qm_written qm_lineMany qm_hasWritten qm_node qm_nodes qm_onesMany qm_within qm_top qm_now_c g831 j617 (by omega) (by omega) (by omega) (by omega) hf_qm_now_c hf1_qm_now_c (by omega) (by omega) (by omega) (by omega) (by omega)) mwX11_orderFrom kw1616 [0, 1, 2, 3] [] rfl rfl rfl rfl (by decide) 0 rfl rfl rfl rfl hl.1 rfl (Nat.le_of_ble_eq_true rfl) ⟨(by dsimp only [rmD]; omega), (by dsimp only [rmD]; omega)⟩ ⟨(Nat.le_of_ble_eq_true rfl), (Nat.le_of_ble_eq_true rfl)⟩ dX11_orderFrom_167 (fun  u9 H locs hp9 hw => ?_)
                  obtain ⟨x846, x847, x848, x849, rfl, hf850⟩ := hp9
                  have hw : Wd G s A [(qm, .inr (10, [.int qm_thrown, .ref qm_tape, .int qm_taped, .int qm_size, .int qm_limit, .int qm_to, .int qm_from, .int qm_kind, .int qm_number, .int qm_sign, .int qm_fault, .int qm_place, .long qm_word, .int qm_told, .ref qm_now, .ref qm_read, .ref qm_kept, .ref qm_snaps, .ref qm_aside, .ref qm_name, .ref qm_readName, .ref qm_keptName, .ref qm_isKept, .ref qm_onces, .int qm_snapMany, .ref qm_order, .ref qm_ordered, .int x846, .int x847, .int qm_passing, .int qm_movedWho, .int qm_scratched, .ref qm_text, .int qm_texts, .int qm_seed, .ref qm_line, .ref qm_written, .int qm_lineMany, .int qm_hasWritten, .ref qm_node, .int qm_nodes, .int qm_onesMany, .int qm_within, .int qm_top])), (qm_now, eI G 339 qm_now_c), (qm_order, eI G 6 x848), (qm_ordered, eI G 6 x849)] H _ := hw
                  exact J827 1 x846 x847 x848 x849  (by decide) (by omega) _ _ _ hw (lv_sub hl [3, 1, 4, 5, 6, 7, 8, 9] rfl)
                · skip
                  have hw : Wd G s A [(qm, .inr (10, [.int qm_thrown, .ref qm_tape, .int qm_taped, .int qm_size, .int qm_limit, .int qm_to, .int qm_from, .int qm_kind, .int qm_number, .int qm_sign, .int qm_fault, .int qm_place, .long qm_word, .int qm_told, .ref qm_now, .ref qm_read, .ref qm_kept, .ref qm_snaps, .ref qm_aside, .ref qm_name, .ref qm_readName, .ref qm_keptName, .ref qm_isKept, .ref qm_onces, .int qm_snapMany, .ref qm_order, .ref qm_ordered, .int j614, .int j615, .int qm_passing, .int qm_movedWho, .int qm_scratched, .ref qm_text, .int qm_texts, .int qm_seed, .ref qm_line, .ref qm_written, .int qm_lineMany, .int qm_hasWritten, .ref qm_node, .int qm_nodes, .int qm_onesMany, .int qm_within, .int qm_top])), (qm_now, eI G 339 qm_now_c), (qm_order, eI G 6 g831), (qm_ordered, eI G 6 j617)] H _ := hw
                  refine lv_istore (lv' := [(9, .int 1), (6, .int 1), (8, .int v736), (7, .int j612), (0, .ref qm), (1, .int a1), (2, .int a2), (3, .int a3), (4, .int a4), (5, .int a5)]) C.1 C.2.1 dX11_orderFrom_110 hl (by decide) rfl (fun ls hl => ?_)
                  refine lv_aload_n C.1 C.2.1 dX11_orderFrom_112 rfl (lv_at hl 4 rfl) ?_
                  refine lv_iload_n C.1 C.2.1 dX11_orderFrom_113 rfl (lv_at hl 5 rfl) ?_
                  refine lv_iconst (v := 1) C.1 C.2.1 dX11_orderFrom_114 (by decide) ?_
                  refine lv_iadd C.1 C.2.1 dX11_orderFrom_115 (x_genP (fun z : Int32 => z.toInt = a1.toInt + 1) (i_add (X := a1.toInt) (Y := 1) rfl rfl (by omega) (by omega)) (fun v851 hv851 => ?_))
                  refine lv_iload_n C.1 C.2.1 dX11_orderFrom_116 rfl (lv_at hl 6 rfl) ?_
                  refine lv_iconst (v := 1) C.1 C.2.1 dX11_orderFrom_117 (by decide) ?_
                  refine lv_iload C.1 C.2.1 dX11_orderFrom_118 (lv_at hl 3 rfl) ?_
                  refine lv_ishl C.1 C.2.1 dX11_orderFrom_120 (x_genP (fun z : Int32 => z = (1 : Int32) <<< (j612 &&& 31)) rfl (fun v852 hv852 => ?_))
                  refine lv_iconst (v := (-1)) C.1 C.2.1 dX11_orderFrom_121 (by decide) ?_
                  refine lv_ixor C.1 C.2.1 dX11_orderFrom_122 (x_genP (fun z : Int32 => z = v852 ^^^ (-1)) rfl (fun v853 hv853 => ?_))
                  refine lv_iand C.1 C.2.1 dX11_orderFrom_123 (x_genP (fun z : Int32 => pc6 z + 1 = pc6 a2) (by rw [hv853, hv852]; exact pc6_clr (by assumption) (by omega) (by omega)) (fun v854 hv854 => ?_))
                  refine lv_iload_n C.1 C.2.1 dX11_orderFrom_124 rfl (lv_at hl 7 rfl) ?_
                  refine lv_aload_n C.1 C.2.1 dX11_orderFrom_125 rfl (lv_at hl 4 rfl) ?_
                  refine x_get C hw iwX11 10 rfl 0 rfl 14 (by decide) kw1207 rfl dX11_orderFrom_126 ?_
                  refine lv_bipush (v := 12) C.1 C.2.1 dX11_orderFrom_129 (by decide) ?_
                  refine lv_iload C.1 C.2.1 dX11_orderFrom_131 (lv_at hl 3 rfl) ?_
                  refine lv_iadd C.1 C.2.1 dX11_orderFrom_133 (x_genP (fun z : Int32 => z.toInt = 12 + j612.toInt) (i_add (X := 12) (Y := j612.toInt) rfl rfl (by omega) (by omega)) (fun v855 hv855 => ?_))
                  refine x_iald (v := (qm_now_c v855.toNatClampNeg)) C hw 1 rfl (i_in (by omega) (by omega)) rfl dX11_orderFrom_134 (x_gen (fun v856 => ?_))
                  refine lv_iadd C.1 C.2.1 dX11_orderFrom_135 (x_gen (fun v857 => ?_))
                  refine lv_iload C.1 C.2.1 dX11_orderFrom_136 (lv_at hl 0 rfl) ?_
                  refine lv_if_eq (tgt := 151) C.1 C.2.1 dX11_orderFrom_138 (by decide) (fun h9 => absurd h9 (by decide)) (fun _ => ?_)
                  refine lv_iload C.1 C.2.1 dX11_orderFrom_141 (lv_at hl 8 rfl) ?_
                  refine lv_iconst (v := 1) C.1 C.2.1 dX11_orderFrom_143 (by decide) ?_
                  refine lv_iload C.1 C.2.1 dX11_orderFrom_144 (lv_at hl 3 rfl) ?_
                  refine lv_ishl C.1 C.2.1 dX11_orderFrom_146 (x_genP (fun z : Int32 => 1 ≤ z.toInt ∧ z.toInt ≤ 256) (i_shl1 (by omega) (by omega)) (fun v858 hv858 => ?_))
                  refine lv_ior C.1 C.2.1 dX11_orderFrom_147 (x_gen (fun v859 => ?_))
                  refine lv_goto (tgt := 153) C.1 C.2.1 dX11_orderFrom_148 (by decide) ?_
                  refine lv_iload C.1 C.2.1 dX11_orderFrom_153 (lv_at hl 0 rfl) ?_
                  refine lv_if_eq (tgt := 165) C.1 C.2.1 dX11_orderFrom_155 (by decide) (fun h9 => absurd h9 (by decide)) (fun _ => ?_)
                  refine lv_iload C.1 C.2.1 dX11_orderFrom_158 (lv_at hl 9 rfl) ?_
                  refine lv_iconst (v := 1) C.1 C.2.1 dX11_orderFrom_160 (by decide) ?_
                  refine lv_iadd C.1 C.2.1 dX11_orderFrom_161 (x_gen (fun v860 => ?_))
                  refine lv_goto (tgt := 167) C.1 C.2.1 dX11_orderFrom_162 (by decide) ?_
                  refine x_callvV (As := [.int v851, .int v854, .int v857, .int v859, .int v860]) (rest := []) (wr := []) C hw (ih qm v851 v854 v857 v859 v860 qm_thrown qm_tape qm_taped qm_size qm_limit qm_to qm_from qm_kind qm_number qm_sign qm_fault qm_place qm_word qm_told qm_now qm_read qm_kept qm_snaps qm_aside qm_name qm_readName qm_keptName qm_isKept qm_onces qm_snapMany qm_order qm_ordered j614 j615 qm_passing qm_movedWho qm_scratched qm_text qm_texts qm_seed qm_line qm_written qm_lineMany qm_hasWritten qm_node qm_nodes qm_onesMany qm_within qm_top qm_now_c g831 j617 (by omega) (by omega) (by omega) (by omega) hf_qm_now_c hf1_qm_now_c (by omega) (by omega) (by omega) (by omega) (by omega)) mwX11_orderFrom kw1616 [0, 1, 2, 3] [] rfl rfl rfl rfl (by decide) 0 rfl rfl rfl rfl hl.1 rfl (Nat.le_of_ble_eq_true rfl) ⟨(by dsimp only [rmD]; omega), (by dsimp only [rmD]; omega)⟩ ⟨(Nat.le_of_ble_eq_true rfl), (Nat.le_of_ble_eq_true rfl)⟩ dX11_orderFrom_167 (fun  u9 H locs hp9 hw => ?_)
                  obtain ⟨x861, x862, x863, x864, rfl, hf865⟩ := hp9
                  have hw : Wd G s A [(qm, .inr (10, [.int qm_thrown, .ref qm_tape, .int qm_taped, .int qm_size, .int qm_limit, .int qm_to, .int qm_from, .int qm_kind, .int qm_number, .int qm_sign, .int qm_fault, .int qm_place, .long qm_word, .int qm_told, .ref qm_now, .ref qm_read, .ref qm_kept, .ref qm_snaps, .ref qm_aside, .ref qm_name, .ref qm_readName, .ref qm_keptName, .ref qm_isKept, .ref qm_onces, .int qm_snapMany, .ref qm_order, .ref qm_ordered, .int x861, .int x862, .int qm_passing, .int qm_movedWho, .int qm_scratched, .ref qm_text, .int qm_texts, .int qm_seed, .ref qm_line, .ref qm_written, .int qm_lineMany, .int qm_hasWritten, .ref qm_node, .int qm_nodes, .int qm_onesMany, .int qm_within, .int qm_top])), (qm_now, eI G 339 qm_now_c), (qm_order, eI G 6 x863), (qm_ordered, eI G 6 x864)] H _ := hw
                  exact J827 1 x861 x862 x863 x864  (by decide) (by omega) _ _ _ hw (lv_sub hl [3, 1, 4, 5, 6, 7, 8, 9] rfl)
              · skip
                have c836 : v835.toInt < v834.toInt := i_leF (X := v834.toInt) (Y := v835.toInt) rfl rfl c836
                have bc836_v834 := i_bd v834
                have bc836_v835 := i_bd v835
                refine lv_aload_n C.1 C.2.1 dX11_orderFrom_89 rfl (lv_at hl 3 rfl) ?_
                refine lv_iload_n C.1 C.2.1 dX11_orderFrom_90 rfl (lv_at hl 4 rfl) ?_
                refine lv_iconst (v := 1) C.1 C.2.1 dX11_orderFrom_91 (by decide) ?_
                refine lv_iadd C.1 C.2.1 dX11_orderFrom_92 (x_genP (fun z : Int32 => z.toInt = a1.toInt + 1) (i_add (X := a1.toInt) (Y := 1) rfl rfl (by omega) (by omega)) (fun v866 hv866 => ?_))
                refine lv_iload C.1 C.2.1 dX11_orderFrom_93 (lv_at hl 8 rfl) ?_
                refine x_callvV (As := [.int v866, .int a5]) (rest := []) (wr := [(qm_now, eI G 339 qm_now_c)]) C hw (s_X11_endOrder qm v866 a5 qm_thrown qm_tape qm_taped qm_size qm_limit qm_to qm_from qm_kind qm_number qm_sign qm_fault qm_place qm_word qm_told qm_now qm_read qm_kept qm_snaps qm_aside qm_name qm_readName qm_keptName qm_isKept qm_onces qm_snapMany qm_order qm_ordered j614 j615 qm_passing qm_movedWho qm_scratched qm_text qm_texts qm_seed qm_line qm_written qm_lineMany qm_hasWritten qm_node qm_nodes qm_onesMany qm_within qm_top g831 j617 (by omega) (by omega)) mwX11_endOrder kw1612 [0, 2, 3] [1] rfl rfl rfl rfl (by decide) 0 rfl rfl rfl rfl hl.1 rfl (Nat.le_of_ble_eq_true rfl) ⟨(by dsimp only [rmD]; omega), (by dsimp only [rmD]; omega)⟩ ⟨(Nat.le_of_ble_eq_true rfl), (Nat.le_of_ble_eq_true rfl)⟩ dX11_orderFrom_95 (fun  u9 H locs hp9 hw => ?_)
                obtain ⟨x867, x868, x869, rfl, hf870⟩ := hp9
                have hw : Wd G s A [(qm_now, eI G 339 qm_now_c), (qm, .inr (10, [.int qm_thrown, .ref qm_tape, .int qm_taped, .int qm_size, .int qm_limit, .int qm_to, .int qm_from, .int qm_kind, .int qm_number, .int qm_sign, .int qm_fault, .int qm_place, .long qm_word, .int qm_told, .ref qm_now, .ref qm_read, .ref qm_kept, .ref qm_snaps, .ref qm_aside, .ref qm_name, .ref qm_readName, .ref qm_keptName, .ref qm_isKept, .ref qm_onces, .int qm_snapMany, .ref qm_order, .ref qm_ordered, .int x867, .int x868, .int qm_passing, .int qm_movedWho, .int qm_scratched, .ref qm_text, .int qm_texts, .int qm_seed, .ref qm_line, .ref qm_written, .int qm_lineMany, .int qm_hasWritten, .ref qm_node, .int qm_nodes, .int qm_onesMany, .int qm_within, .int qm_top])), (qm_order, eI G 6 g831), (qm_ordered, eI G 6 x869)] H _ := hw
                refine lv_goto (tgt := 170) C.1 C.2.1 dX11_orderFrom_98 (by decide) ?_
                have hw := hw.sub (w' := [(qm, .inr (10, [.int qm_thrown, .ref qm_tape, .int qm_taped, .int qm_size, .int qm_limit, .int qm_to, .int qm_from, .int qm_kind, .int qm_number, .int qm_sign, .int qm_fault, .int qm_place, .long qm_word, .int qm_told, .ref qm_now, .ref qm_read, .ref qm_kept, .ref qm_snaps, .ref qm_aside, .ref qm_name, .ref qm_readName, .ref qm_keptName, .ref qm_isKept, .ref qm_onces, .int qm_snapMany, .ref qm_order, .ref qm_ordered, .int x867, .int x868, .int qm_passing, .int qm_movedWho, .int qm_scratched, .ref qm_text, .int qm_texts, .int qm_seed, .ref qm_line, .ref qm_written, .int qm_lineMany, .int qm_hasWritten, .ref qm_node, .int qm_nodes, .int qm_onesMany, .int qm_within, .int qm_top])), (qm_now, eI G 339 qm_now_c), (qm_order, eI G 6 g831), (qm_ordered, eI G 6 x869)]) [1, 0, 2, 3] rfl rfl
                exact J827 1 x867 x868 g831 x869  (by decide) (by omega) _ _ _ hw (lv_sub hl [2, 0, 3, 4, 5, 6, 7, 8] rfl)
            · skip
              have c830 : v736.toInt ≠ (-1) := i_eqF (X := v736.toInt) (Y := (-1)) rfl rfl c830
              refine lv_iload C.1 C.2.1 dX11_orderFrom_44 (lv_at hl 7 rfl) ?_
              refine lv_iload C.1 C.2.1 dX11_orderFrom_46 (lv_at hl 0 rfl) ?_
              refine x_calliS (As := [.int a4, .int v736]) (rest := []) (wr := [(qm, .inr (10, [.int qm_thrown, .ref qm_tape, .int qm_taped, .int qm_size, .int qm_limit, .int qm_to, .int qm_from, .int qm_kind, .int qm_number, .int qm_sign, .int qm_fault, .int qm_place, .long qm_word, .int qm_told, .ref qm_now, .ref qm_read, .ref qm_kept, .ref qm_snaps, .ref qm_aside, .ref qm_name, .ref qm_readName, .ref qm_keptName, .ref qm_isKept, .ref qm_onces, .int qm_snapMany, .ref qm_order, .ref qm_ordered, .int j614, .int j615, .int qm_passing, .int qm_movedWho, .int qm_scratched, .ref qm_text, .int qm_texts, .int qm_seed, .ref qm_line, .ref qm_written, .int qm_lineMany, .int qm_hasWritten, .ref qm_node, .int qm_nodes, .int qm_onesMany, .int qm_within, .int qm_top])), (qm_now, eI G 339 qm_now_c), (qm_order, eI G 6 j616), (qm_ordered, eI G 6 j617)]) C hw (s_X11_has a4 v736) mwX11_has kw1426 [] [0, 1, 2, 3] rfl rfl rfl rfl (by decide) rfl hl.1 rfl (Nat.le_of_ble_eq_true rfl) ⟨(by dsimp only [rmD]; omega), (by dsimp only [rmD]; omega)⟩ ⟨(Nat.le_of_ble_eq_true rfl), (Nat.le_of_ble_eq_true rfl)⟩ dX11_orderFrom_48 (fun r871 u9 H locs hp9 hw => ?_)
              rcases hp9 with ⟨rfl, rfl⟩ | ⟨rfl, rfl, hf872⟩
              · skip
                have hw : Wd G s A [(qm, .inr (10, [.int qm_thrown, .ref qm_tape, .int qm_taped, .int qm_size, .int qm_limit, .int qm_to, .int qm_from, .int qm_kind, .int qm_number, .int qm_sign, .int qm_fault, .int qm_place, .long qm_word, .int qm_told, .ref qm_now, .ref qm_read, .ref qm_kept, .ref qm_snaps, .ref qm_aside, .ref qm_name, .ref qm_readName, .ref qm_keptName, .ref qm_isKept, .ref qm_onces, .int qm_snapMany, .ref qm_order, .ref qm_ordered, .int j614, .int j615, .int qm_passing, .int qm_movedWho, .int qm_scratched, .ref qm_text, .int qm_texts, .int qm_seed, .ref qm_line, .ref qm_written, .int qm_lineMany, .int qm_hasWritten, .ref qm_node, .int qm_nodes, .int qm_onesMany, .int qm_within, .int qm_top])), (qm_now, eI G 339 qm_now_c), (qm_order, eI G 6 j616), (qm_ordered, eI G 6 j617)] H _ := hw
                refine lv_if_ne (tgt := 57) C.1 C.2.1 dX11_orderFrom_51 (by decide) (fun h9 => absurd (by decide) h9) (fun _ => ?_)
                refine lv_goto (tgt := 170) C.1 C.2.1 dX11_orderFrom_54 (by decide) ?_
                exact J827 j613 j614 j615 j616 j617  (by omega) (by omega) _ _ _ hw (lv_sub hl [1, 2, 3, 4, 5, 6, 7, 8] rfl)
              · skip
                have hw : Wd G s A [(qm, .inr (10, [.int qm_thrown, .ref qm_tape, .int qm_taped, .int qm_size, .int qm_limit, .int qm_to, .int qm_from, .int qm_kind, .int qm_number, .int qm_sign, .int qm_fault, .int qm_place, .long qm_word, .int qm_told, .ref qm_now, .ref qm_read, .ref qm_kept, .ref qm_snaps, .ref qm_aside, .ref qm_name, .ref qm_readName, .ref qm_keptName, .ref qm_isKept, .ref qm_onces, .int qm_snapMany, .ref qm_order, .ref qm_ordered, .int j614, .int j615, .int qm_passing, .int qm_movedWho, .int qm_scratched, .ref qm_text, .int qm_texts, .int qm_seed, .ref qm_line, .ref qm_written, .int qm_lineMany, .int qm_hasWritten, .ref qm_node, .int qm_nodes, .int qm_onesMany, .int qm_within, .int qm_top])), (qm_now, eI G 339 qm_now_c), (qm_order, eI G 6 j616), (qm_ordered, eI G 6 j617)] H _ := hw
                refine lv_if_ne (tgt := 57) C.1 C.2.1 dX11_orderFrom_51 (by decide) (fun _ => ?_) (fun h9 => absurd h9 (by decide))
                refine lv_iconst (v := 1) C.1 C.2.1 dX11_orderFrom_57 (by decide) ?_
                refine lv_istore (lv' := [(6, .int 1), (8, .int v736), (7, .int j612), (0, .ref qm), (1, .int a1), (2, .int a2), (3, .int a3), (4, .int a4), (5, .int a5)]) C.1 C.2.1 dX11_orderFrom_58 hl (by decide) rfl (fun ls hl => ?_)
                refine lv_aload_n C.1 C.2.1 dX11_orderFrom_60 rfl (lv_at hl 3 rfl) ?_
                refine x_get C hw iwX11 10 rfl 0 rfl 25 (by decide) kw1218 rfl dX11_orderFrom_61 ?_
                refine lv_iload_n C.1 C.2.1 dX11_orderFrom_64 rfl (lv_at hl 4 rfl) ?_
                refine lv_iload C.1 C.2.1 dX11_orderFrom_65 (lv_at hl 2 rfl) ?_
                have p6 := pc6_pos (x := a2) (s := j612) (by assumption) (by omega) (by omega)
                obtain ⟨g873, eg873⟩ : ∃ z, upd j616 (a1.toNatClampNeg) j612 = z := ⟨_, rfl⟩
                refine x_iast (f' := g873) (w' := [(qm, .inr (10, [.int qm_thrown, .ref qm_tape, .int qm_taped, .int qm_size, .int qm_limit, .int qm_to, .int qm_from, .int qm_kind, .int qm_number, .int qm_sign, .int qm_fault, .int qm_place, .long qm_word, .int qm_told, .ref qm_now, .ref qm_read, .ref qm_kept, .ref qm_snaps, .ref qm_aside, .ref qm_name, .ref qm_readName, .ref qm_keptName, .ref qm_isKept, .ref qm_onces, .int qm_snapMany, .ref qm_order, .ref qm_ordered, .int j614, .int j615, .int qm_passing, .int qm_movedWho, .int qm_scratched, .ref qm_text, .int qm_texts, .int qm_seed, .ref qm_line, .ref qm_written, .int qm_lineMany, .int qm_hasWritten, .ref qm_node, .int qm_nodes, .int qm_onesMany, .int qm_within, .int qm_top])), (qm_now, eI G 339 qm_now_c), (qm_order, eI G 6 g873), (qm_ordered, eI G 6 j617)]) C hw 2 rfl (i_in (by omega) (by omega)) eg873 rfl dX11_orderFrom_67 (fun H locs hw => ?_)
                refine lv_iload_n C.1 C.2.1 dX11_orderFrom_68 rfl (lv_at hl 6 rfl) ?_
                refine lv_aload_n C.1 C.2.1 dX11_orderFrom_69 rfl (lv_at hl 3 rfl) ?_
                refine x_get C hw iwX11 10 rfl 0 rfl 14 (by decide) kw1207 rfl dX11_orderFrom_70 ?_
                refine lv_bipush (v := 12) C.1 C.2.1 dX11_orderFrom_73 (by decide) ?_
                refine lv_iload C.1 C.2.1 dX11_orderFrom_75 (lv_at hl 2 rfl) ?_
                refine lv_iadd C.1 C.2.1 dX11_orderFrom_77 (x_genP (fun z : Int32 => z.toInt = 12 + j612.toInt) (i_add (X := 12) (Y := j612.toInt) rfl rfl (by omega) (by omega)) (fun v874 hv874 => ?_))
                refine x_iald (v := (qm_now_c v874.toNatClampNeg)) C hw 1 rfl (i_in (by omega) (by omega)) rfl dX11_orderFrom_78 (x_gen (fun v875 => ?_))
                refine lv_iadd C.1 C.2.1 dX11_orderFrom_79 (x_gen (fun v876 => ?_))
                refine lv_aload_n C.1 C.2.1 dX11_orderFrom_80 rfl (lv_at hl 3 rfl) ?_
                refine x_get C hw iwX11 10 rfl 0 rfl 14 (by decide) kw1207 rfl dX11_orderFrom_81 ?_
                refine lv_iconst (v := 5) C.1 C.2.1 dX11_orderFrom_84 (by decide) ?_
                refine x_iald (v := (qm_now_c 5)) C hw 1 rfl (x_in rfl) rfl dX11_orderFrom_85 (x_gen (fun v877 => ?_))
                refine lv_icmp_le (tgt := 101) C.1 C.2.1 dX11_orderFrom_86 (by decide) (fun c878 => ?_) (fun c878 => ?_)
                · skip
                  have c878 : v876.toInt ≤ v877.toInt := i_leT (X := v876.toInt) (Y := v877.toInt) rfl rfl c878
                  have bc878_v876 := i_bd v876
                  have bc878_v877 := i_bd v877
                  refine lv_aload_n C.1 C.2.1 dX11_orderFrom_101 rfl (lv_at hl 3 rfl) ?_
                  refine x_get C hw iwX11 10 rfl 0 rfl 29 (by decide) kw1222 rfl dX11_orderFrom_102 ?_
                  refine lv_iload C.1 C.2.1 dX11_orderFrom_105 (lv_at hl 2 rfl) ?_
                  refine x_calliS (As := [.int qm_passing, .int j612]) (rest := []) (wr := [(qm, .inr (10, [.int qm_thrown, .ref qm_tape, .int qm_taped, .int qm_size, .int qm_limit, .int qm_to, .int qm_from, .int qm_kind, .int qm_number, .int qm_sign, .int qm_fault, .int qm_place, .long qm_word, .int qm_told, .ref qm_now, .ref qm_read, .ref qm_kept, .ref qm_snaps, .ref qm_aside, .ref qm_name, .ref qm_readName, .ref qm_keptName, .ref qm_isKept, .ref qm_onces, .int qm_snapMany, .ref qm_order, .ref qm_ordered, .int j614, .int j615, .int qm_passing, .int qm_movedWho, .int qm_scratched, .ref qm_text, .int qm_texts, .int qm_seed, .ref qm_line, .ref qm_written, .int qm_lineMany, .int qm_hasWritten, .ref qm_node, .int qm_nodes, .int qm_onesMany, .int qm_within, .int qm_top])), (qm_now, eI G 339 qm_now_c), (qm_order, eI G 6 g873), (qm_ordered, eI G 6 j617)]) C hw (s_X11_has qm_passing j612) mwX11_has kw1426 [] [0, 1, 2, 3] rfl rfl rfl rfl (by decide) rfl hl.1 rfl (Nat.le_of_ble_eq_true rfl) ⟨(by dsimp only [rmD]; omega), (by dsimp only [rmD]; omega)⟩ ⟨(Nat.le_of_ble_eq_true rfl), (Nat.le_of_ble_eq_true rfl)⟩ dX11_orderFrom_107 (fun r879 u9 H locs hp9 hw => ?_)
                  rcases hp9 with ⟨rfl, rfl⟩ | ⟨rfl, rfl, hf880⟩
                  · skip
                    have hw : Wd G s A [(qm, .inr (10, [.int qm_thrown, .ref qm_tape, .int qm_taped, .int qm_size, .int qm_limit, .int qm_to, .int qm_from, .int qm_kind, .int qm_number, .int qm_sign, .int qm_fault, .int qm_place, .long qm_word, .int qm_told, .ref qm_now, .ref qm_read, .ref qm_kept, .ref qm_snaps, .ref qm_aside, .ref qm_name, .ref qm_readName, .ref qm_keptName, .ref qm_isKept, .ref qm_onces, .int qm_snapMany, .ref qm_order, .ref qm_ordered, .int j614, .int j615, .int qm_passing, .int qm_movedWho, .int qm_scratched, .ref qm_text, .int qm_texts, .int qm_seed, .ref qm_line, .ref qm_written, .int qm_lineMany, .int qm_hasWritten, .ref qm_node, .int qm_nodes, .int qm_onesMany, .int qm_within, .int qm_top])), (qm_now, eI G 339 qm_now_c), (qm_order, eI G 6 g873), (qm_ordered, eI G 6 j617)] H _ := hw
                    refine lv_istore (lv' := [(9, .int 0), (6, .int 1), (8, .int v736), (7, .int j612), (0, .ref qm), (1, .int a1), (2, .int a2), (3, .int a3), (4, .int a4), (5, .int a5)]) C.1 C.2.1 dX11_orderFrom_110 hl (by decide) rfl (fun ls hl => ?_)
                    refine lv_aload_n C.1 C.2.1 dX11_orderFrom_112 rfl (lv_at hl 4 rfl) ?_
                    refine lv_iload_n C.1 C.2.1 dX11_orderFrom_113 rfl (lv_at hl 5 rfl) ?_
                    refine lv_iconst (v := 1) C.1 C.2.1 dX11_orderFrom_114 (by decide) ?_
                    refine lv_iadd C.1 C.2.1 dX11_orderFrom_115 (x_genP (fun z : Int32 => z.toInt = a1.toInt + 1) (i_add (X := a1.toInt) (Y := 1) rfl rfl (by omega) (by omega)) (fun v881 hv881 => ?_))
                    refine lv_iload_n C.1 C.2.1 dX11_orderFrom_116 rfl (lv_at hl 6 rfl) ?_
                    refine lv_iconst (v := 1) C.1 C.2.1 dX11_orderFrom_117 (by decide) ?_
                    refine lv_iload C.1 C.2.1 dX11_orderFrom_118 (lv_at hl 3 rfl) ?_
                    refine lv_ishl C.1 C.2.1 dX11_orderFrom_120 (x_genP (fun z : Int32 => z = (1 : Int32) <<< (j612 &&& 31)) rfl (fun v882 hv882 => ?_))
                    refine lv_iconst (v := (-1)) C.1 C.2.1 dX11_orderFrom_121 (by decide) ?_
                    refine lv_ixor C.1 C.2.1 dX11_orderFrom_122 (x_genP (fun z : Int32 => z = v882 ^^^ (-1)) rfl (fun v883 hv883 => ?_))
                    refine lv_iand C.1 C.2.1 dX11_orderFrom_123 (x_genP (fun z : Int32 => pc6 z + 1 = pc6 a2) (by rw [hv883, hv882]; exact pc6_clr (by assumption) (by omega) (by omega)) (fun v884 hv884 => ?_))
                    refine lv_iload_n C.1 C.2.1 dX11_orderFrom_124 rfl (lv_at hl 7 rfl) ?_
                    refine lv_aload_n C.1 C.2.1 dX11_orderFrom_125 rfl (lv_at hl 4 rfl) ?_
                    refine x_get C hw iwX11 10 rfl 0 rfl 14 (by decide) kw1207 rfl dX11_orderFrom_126 ?_
                    refine lv_bipush (v := 12) C.1 C.2.1 dX11_orderFrom_129 (by decide) ?_
                    refine lv_iload C.1 C.2.1 dX11_orderFrom_131 (lv_at hl 3 rfl) ?_
                    refine lv_iadd C.1 C.2.1 dX11_orderFrom_133 (x_genP (fun z : Int32 => z.toInt = 12 + j612.toInt) (i_add (X := 12) (Y := j612.toInt) rfl rfl (by omega) (by omega)) (fun v885 hv885 => ?_))
                    refine x_iald (v := (qm_now_c v885.toNatClampNeg)) C hw 1 rfl (i_in (by omega) (by omega)) rfl dX11_orderFrom_134 (x_gen (fun v886 => ?_))
                    refine lv_iadd C.1 C.2.1 dX11_orderFrom_135 (x_gen (fun v887 => ?_))
                    refine lv_iload C.1 C.2.1 dX11_orderFrom_136 (lv_at hl 0 rfl) ?_
                    refine lv_if_eq (tgt := 151) C.1 C.2.1 dX11_orderFrom_138 (by decide) (fun _ => ?_) (fun h9 => absurd (by decide) h9)
                    refine lv_iload C.1 C.2.1 dX11_orderFrom_151 (lv_at hl 8 rfl) ?_
                    refine lv_iload C.1 C.2.1 dX11_orderFrom_153 (lv_at hl 0 rfl) ?_
                    refine lv_if_eq (tgt := 165) C.1 C.2.1 dX11_orderFrom_155 (by decide) (fun _ => ?_) (fun h9 => absurd (by decide) h9)
                    refine lv_iload C.1 C.2.1 dX11_orderFrom_165 (lv_at hl 9 rfl) ?_
                    refine x_callvV (As := [.int v881, .int v884, .int v887, .int a4, .int a5]) (rest := []) (wr := []) C hw (ih qm v881 v884 v887 a4 a5 qm_thrown qm_tape qm_taped qm_size qm_limit qm_to qm_from qm_kind qm_number qm_sign qm_fault qm_place qm_word qm_told qm_now qm_read qm_kept qm_snaps qm_aside qm_name qm_readName qm_keptName qm_isKept qm_onces qm_snapMany qm_order qm_ordered j614 j615 qm_passing qm_movedWho qm_scratched qm_text qm_texts qm_seed qm_line qm_written qm_lineMany qm_hasWritten qm_node qm_nodes qm_onesMany qm_within qm_top qm_now_c g873 j617 (by omega) (by omega) (by omega) (by omega) hf_qm_now_c hf1_qm_now_c (by omega) (by omega) (by omega) (by omega) (by omega)) mwX11_orderFrom kw1616 [0, 1, 2, 3] [] rfl rfl rfl rfl (by decide) 0 rfl rfl rfl rfl hl.1 rfl (Nat.le_of_ble_eq_true rfl) ⟨(by dsimp only [rmD]; omega), (by dsimp only [rmD]; omega)⟩ ⟨(Nat.le_of_ble_eq_true rfl), (Nat.le_of_ble_eq_true rfl)⟩ dX11_orderFrom_167 (fun  u9 H locs hp9 hw => ?_)
                    obtain ⟨x888, x889, x890, x891, rfl, hf892⟩ := hp9
                    have hw : Wd G s A [(qm, .inr (10, [.int qm_thrown, .ref qm_tape, .int qm_taped, .int qm_size, .int qm_limit, .int qm_to, .int qm_from, .int qm_kind, .int qm_number, .int qm_sign, .int qm_fault, .int qm_place, .long qm_word, .int qm_told, .ref qm_now, .ref qm_read, .ref qm_kept, .ref qm_snaps, .ref qm_aside, .ref qm_name, .ref qm_readName, .ref qm_keptName, .ref qm_isKept, .ref qm_onces, .int qm_snapMany, .ref qm_order, .ref qm_ordered, .int x888, .int x889, .int qm_passing, .int qm_movedWho, .int qm_scratched, .ref qm_text, .int qm_texts, .int qm_seed, .ref qm_line, .ref qm_written, .int qm_lineMany, .int qm_hasWritten, .ref qm_node, .int qm_nodes, .int qm_onesMany, .int qm_within, .int qm_top])), (qm_now, eI G 339 qm_now_c), (qm_order, eI G 6 x890), (qm_ordered, eI G 6 x891)] H _ := hw
                    exact J827 1 x888 x889 x890 x891  (by decide) (by omega) _ _ _ hw (lv_sub hl [3, 1, 4, 5, 6, 7, 8, 9] rfl)
                  · skip
                    have hw : Wd G s A [(qm, .inr (10, [.int qm_thrown, .ref qm_tape, .int qm_taped, .int qm_size, .int qm_limit, .int qm_to, .int qm_from, .int qm_kind, .int qm_number, .int qm_sign, .int qm_fault, .int qm_place, .long qm_word, .int qm_told, .ref qm_now, .ref qm_read, .ref qm_kept, .ref qm_snaps, .ref qm_aside, .ref qm_name, .ref qm_readName, .ref qm_keptName, .ref qm_isKept, .ref qm_onces, .int qm_snapMany, .ref qm_order, .ref qm_ordered, .int j614, .int j615, .int qm_passing, .int qm_movedWho, .int qm_scratched, .ref qm_text, .int qm_texts, .int qm_seed, .ref qm_line, .ref qm_written, .int qm_lineMany, .int qm_hasWritten, .ref qm_node, .int qm_nodes, .int qm_onesMany, .int qm_within, .int qm_top])), (qm_now, eI G 339 qm_now_c), (qm_order, eI G 6 g873), (qm_ordered, eI G 6 j617)] H _ := hw
                    refine lv_istore (lv' := [(9, .int 1), (6, .int 1), (8, .int v736), (7, .int j612), (0, .ref qm), (1, .int a1), (2, .int a2), (3, .int a3), (4, .int a4), (5, .int a5)]) C.1 C.2.1 dX11_orderFrom_110 hl (by decide) rfl (fun ls hl => ?_)
                    refine lv_aload_n C.1 C.2.1 dX11_orderFrom_112 rfl (lv_at hl 4 rfl) ?_
                    refine lv_iload_n C.1 C.2.1 dX11_orderFrom_113 rfl (lv_at hl 5 rfl) ?_
                    refine lv_iconst (v := 1) C.1 C.2.1 dX11_orderFrom_114 (by decide) ?_
                    refine lv_iadd C.1 C.2.1 dX11_orderFrom_115 (x_genP (fun z : Int32 => z.toInt = a1.toInt + 1) (i_add (X := a1.toInt) (Y := 1) rfl rfl (by omega) (by omega)) (fun v893 hv893 => ?_))
                    refine lv_iload_n C.1 C.2.1 dX11_orderFrom_116 rfl (lv_at hl 6 rfl) ?_
                    refine lv_iconst (v := 1) C.1 C.2.1 dX11_orderFrom_117 (by decide) ?_
                    refine lv_iload C.1 C.2.1 dX11_orderFrom_118 (lv_at hl 3 rfl) ?_
                    refine lv_ishl C.1 C.2.1 dX11_orderFrom_120 (x_genP (fun z : Int32 => z = (1 : Int32) <<< (j612 &&& 31)) rfl (fun v894 hv894 => ?_))
                    refine lv_iconst (v := (-1)) C.1 C.2.1 dX11_orderFrom_121 (by decide) ?_
                    refine lv_ixor C.1 C.2.1 dX11_orderFrom_122 (x_genP (fun z : Int32 => z = v894 ^^^ (-1)) rfl (fun v895 hv895 => ?_))
                    refine lv_iand C.1 C.2.1 dX11_orderFrom_123 (x_genP (fun z : Int32 => pc6 z + 1 = pc6 a2) (by rw [hv895, hv894]; exact pc6_clr (by assumption) (by omega) (by omega)) (fun v896 hv896 => ?_))
                    refine lv_iload_n C.1 C.2.1 dX11_orderFrom_124 rfl (lv_at hl 7 rfl) ?_
                    refine lv_aload_n C.1 C.2.1 dX11_orderFrom_125 rfl (lv_at hl 4 rfl) ?_
                    refine x_get C hw iwX11 10 rfl 0 rfl 14 (by decide) kw1207 rfl dX11_orderFrom_126 ?_
                    refine lv_bipush (v := 12) C.1 C.2.1 dX11_orderFrom_129 (by decide) ?_
                    refine lv_iload C.1 C.2.1 dX11_orderFrom_131 (lv_at hl 3 rfl) ?_
                    refine lv_iadd C.1 C.2.1 dX11_orderFrom_133 (x_genP (fun z : Int32 => z.toInt = 12 + j612.toInt) (i_add (X := 12) (Y := j612.toInt) rfl rfl (by omega) (by omega)) (fun v897 hv897 => ?_))
                    refine x_iald (v := (qm_now_c v897.toNatClampNeg)) C hw 1 rfl (i_in (by omega) (by omega)) rfl dX11_orderFrom_134 (x_gen (fun v898 => ?_))
                    refine lv_iadd C.1 C.2.1 dX11_orderFrom_135 (x_gen (fun v899 => ?_))
                    refine lv_iload C.1 C.2.1 dX11_orderFrom_136 (lv_at hl 0 rfl) ?_
                    refine lv_if_eq (tgt := 151) C.1 C.2.1 dX11_orderFrom_138 (by decide) (fun h9 => absurd h9 (by decide)) (fun _ => ?_)
                    refine lv_iload C.1 C.2.1 dX11_orderFrom_141 (lv_at hl 8 rfl) ?_
                    refine lv_iconst (v := 1) C.1 C.2.1 dX11_orderFrom_143 (by decide) ?_
                    refine lv_iload C.1 C.2.1 dX11_orderFrom_144 (lv_at hl 3 rfl) ?_
                    refine lv_ishl C.1 C.2.1 dX11_orderFrom_146 (x_genP (fun z : Int32 => 1 ≤ z.toInt ∧ z.toInt ≤ 256) (i_shl1 (by omega) (by omega)) (fun v900 hv900 => ?_))
                    refine lv_ior C.1 C.2.1 dX11_orderFrom_147 (x_gen (fun v901 => ?_))
                    refine lv_goto (tgt := 153) C.1 C.2.1 dX11_orderFrom_148 (by decide) ?_
                    refine lv_iload C.1 C.2.1 dX11_orderFrom_153 (lv_at hl 0 rfl) ?_
                    refine lv_if_eq (tgt := 165) C.1 C.2.1 dX11_orderFrom_155 (by decide) (fun h9 => absurd h9 (by decide)) (fun _ => ?_)
                    refine lv_iload C.1 C.2.1 dX11_orderFrom_158 (lv_at hl 9 rfl) ?_
                    refine lv_iconst (v := 1) C.1 C.2.1 dX11_orderFrom_160 (by decide) ?_
                    refine lv_iadd C.1 C.2.1 dX11_orderFrom_161 (x_gen (fun v902 => ?_))
                    refine lv_goto (tgt := 167) C.1 C.2.1 dX11_orderFrom_162 (by decide) ?_
                    refine x_callvV (As := [.int v893, .int v896, .int v899, .int v901, .int v902]) (rest := []) (wr := []) C hw (ih qm v893 v896 v899 v901 v902 qm_thrown qm_tape qm_taped qm_size qm_limit qm_to qm_from qm_kind qm_number qm_sign qm_fault qm_place qm_word qm_told qm_now qm_read qm_kept qm_snaps qm_aside qm_name qm_readName qm_keptName qm_isKept qm_onces qm_snapMany qm_order qm_ordered j614 j615 qm_passing qm_movedWho qm_scratched qm_text qm_texts qm_seed qm_line qm_written qm_lineMany qm_hasWritten qm_node qm_nodes qm_onesMany qm_within qm_top qm_now_c g873 j617 (by omega) (by omega) (by omega) (by omega) hf_qm_now_c hf1_qm_now_c (by omega) (by omega) (by omega) (by omega) (by omega)) mwX11_orderFrom kw1616 [0, 1, 2, 3] [] rfl rfl rfl rfl (by decide) 0 rfl rfl rfl rfl hl.1 rfl (Nat.le_of_ble_eq_true rfl) ⟨(by dsimp only [rmD]; omega), (by dsimp only [rmD]; omega)⟩ ⟨(Nat.le_of_ble_eq_true rfl), (Nat.le_of_ble_eq_true rfl)⟩ dX11_orderFrom_167 (fun  u9 H locs hp9 hw => ?_)
                    obtain ⟨x903, x904, x905, x906, rfl, hf907⟩ := hp9
                    have hw : Wd G s A [(qm, .inr (10, [.int qm_thrown, .ref qm_tape, .int qm_taped, .int qm_size, .int qm_limit, .int qm_to, .int qm_from, .int qm_kind, .int qm_number, .int qm_sign, .int qm_fault, .int qm_place, .long qm_word, .int qm_told, .ref qm_now, .ref qm_read, .ref qm_kept, .ref qm_snaps, .ref qm_aside, .ref qm_name, .ref qm_readName, .ref qm_keptName, .ref qm_isKept, .ref qm_onces, .int qm_snapMany, .ref qm_order, .ref qm_ordered, .int x903, .int x904, .int qm_passing, .int qm_movedWho, .int qm_scratched, .ref qm_text, .int qm_texts, .int qm_seed, .ref qm_line, .ref qm_written, .int qm_lineMany, .int qm_hasWritten, .ref qm_node, .int qm_nodes, .int qm_onesMany, .int qm_within, .int qm_top])), (qm_now, eI G 339 qm_now_c), (qm_order, eI G 6 x905), (qm_ordered, eI G 6 x906)] H _ := hw
                    exact J827 1 x903 x904 x905 x906  (by decide) (by omega) _ _ _ hw (lv_sub hl [3, 1, 4, 5, 6, 7, 8, 9] rfl)
                · skip
                  have c878 : v877.toInt < v876.toInt := i_leF (X := v876.toInt) (Y := v877.toInt) rfl rfl c878
                  have bc878_v876 := i_bd v876
                  have bc878_v877 := i_bd v877
                  refine lv_aload_n C.1 C.2.1 dX11_orderFrom_89 rfl (lv_at hl 3 rfl) ?_
                  refine lv_iload_n C.1 C.2.1 dX11_orderFrom_90 rfl (lv_at hl 4 rfl) ?_
                  refine lv_iconst (v := 1) C.1 C.2.1 dX11_orderFrom_91 (by decide) ?_
                  refine lv_iadd C.1 C.2.1 dX11_orderFrom_92 (x_genP (fun z : Int32 => z.toInt = a1.toInt + 1) (i_add (X := a1.toInt) (Y := 1) rfl rfl (by omega) (by omega)) (fun v908 hv908 => ?_))
                  refine lv_iload C.1 C.2.1 dX11_orderFrom_93 (lv_at hl 8 rfl) ?_
                  refine x_callvV (As := [.int v908, .int a5]) (rest := []) (wr := [(qm_now, eI G 339 qm_now_c)]) C hw (s_X11_endOrder qm v908 a5 qm_thrown qm_tape qm_taped qm_size qm_limit qm_to qm_from qm_kind qm_number qm_sign qm_fault qm_place qm_word qm_told qm_now qm_read qm_kept qm_snaps qm_aside qm_name qm_readName qm_keptName qm_isKept qm_onces qm_snapMany qm_order qm_ordered j614 j615 qm_passing qm_movedWho qm_scratched qm_text qm_texts qm_seed qm_line qm_written qm_lineMany qm_hasWritten qm_node qm_nodes qm_onesMany qm_within qm_top g873 j617 (by omega) (by omega)) mwX11_endOrder kw1612 [0, 2, 3] [1] rfl rfl rfl rfl (by decide) 0 rfl rfl rfl rfl hl.1 rfl (Nat.le_of_ble_eq_true rfl) ⟨(by dsimp only [rmD]; omega), (by dsimp only [rmD]; omega)⟩ ⟨(Nat.le_of_ble_eq_true rfl), (Nat.le_of_ble_eq_true rfl)⟩ dX11_orderFrom_95 (fun  u9 H locs hp9 hw => ?_)
                  obtain ⟨x909, x910, x911, rfl, hf912⟩ := hp9
                  have hw : Wd G s A [(qm_now, eI G 339 qm_now_c), (qm, .inr (10, [.int qm_thrown, .ref qm_tape, .int qm_taped, .int qm_size, .int qm_limit, .int qm_to, .int qm_from, .int qm_kind, .int qm_number, .int qm_sign, .int qm_fault, .int qm_place, .long qm_word, .int qm_told, .ref qm_now, .ref qm_read, .ref qm_kept, .ref qm_snaps, .ref qm_aside, .ref qm_name, .ref qm_readName, .ref qm_keptName, .ref qm_isKept, .ref qm_onces, .int qm_snapMany, .ref qm_order, .ref qm_ordered, .int x909, .int x910, .int qm_passing, .int qm_movedWho, .int qm_scratched, .ref qm_text, .int qm_texts, .int qm_seed, .ref qm_line, .ref qm_written, .int qm_lineMany, .int qm_hasWritten, .ref qm_node, .int qm_nodes, .int qm_onesMany, .int qm_within, .int qm_top])), (qm_order, eI G 6 g873), (qm_ordered, eI G 6 x911)] H _ := hw
                  refine lv_goto (tgt := 170) C.1 C.2.1 dX11_orderFrom_98 (by decide) ?_
                  have hw := hw.sub (w' := [(qm, .inr (10, [.int qm_thrown, .ref qm_tape, .int qm_taped, .int qm_size, .int qm_limit, .int qm_to, .int qm_from, .int qm_kind, .int qm_number, .int qm_sign, .int qm_fault, .int qm_place, .long qm_word, .int qm_told, .ref qm_now, .ref qm_read, .ref qm_kept, .ref qm_snaps, .ref qm_aside, .ref qm_name, .ref qm_readName, .ref qm_keptName, .ref qm_isKept, .ref qm_onces, .int qm_snapMany, .ref qm_order, .ref qm_ordered, .int x909, .int x910, .int qm_passing, .int qm_movedWho, .int qm_scratched, .ref qm_text, .int qm_texts, .int qm_seed, .ref qm_line, .ref qm_written, .int qm_lineMany, .int qm_hasWritten, .ref qm_node, .int qm_nodes, .int qm_onesMany, .int qm_within, .int qm_top])), (qm_now, eI G 339 qm_now_c), (qm_order, eI G 6 g873), (qm_ordered, eI G 6 x911)]) [1, 0, 2, 3] rfl rfl
                  exact J827 1 x909 x910 g873 x911  (by decide) (by omega) _ _ _ hw (lv_sub hl [2, 0, 3, 4, 5, 6, 7, 8] rfl)
    exact loopJ618 _ 0 0 qm_orderMany qm_orderMost qm_order_c qm_ordered_c (Nat.lt_succ_self _) (by decide) (by omega) (by decide) _ _ _ hw (lv_sub hl [0, 1, 2, 3, 4, 5, 6, 7] rfl)
theorem s_X11_orderFrom {l : Launch} {G : Gc} (qm : Nat) (a1 : Int32) (a2 : Int32) (a3 : Int32) (a4 : Int32) (a5 : Int32) (qm_thrown : Int32) (qm_tape : Nat) (qm_taped : Int32) (qm_size : Int32) (qm_limit : Int32) (qm_to : Int32) (qm_from : Int32) (qm_kind : Int32) (qm_number : Int32) (qm_sign : Int32) (qm_fault : Int32) (qm_place : Int32) (qm_word : Int64) (qm_told : Int32) (qm_now : Nat) (qm_read : Nat) (qm_kept : Nat) (qm_snaps : Nat) (qm_aside : Nat) (qm_name : Nat) (qm_readName : Nat) (qm_keptName : Nat) (qm_isKept : Nat) (qm_onces : Nat) (qm_snapMany : Int32) (qm_order : Nat) (qm_ordered : Nat) (qm_orderMany : Int32) (qm_orderMost : Int32) (qm_passing : Int32) (qm_movedWho : Int32) (qm_scratched : Int32) (qm_text : Nat) (qm_texts : Int32) (qm_seed : Int32) (qm_line : Nat) (qm_written : Nat) (qm_lineMany : Int32) (qm_hasWritten : Int32) (qm_node : Nat) (qm_nodes : Int32) (qm_onesMany : Int32) (qm_within : Int32) (qm_top : Int32) (qm_now_c : Nat → Int32) (qm_order_c : Nat → Int32) (qm_ordered_c : Nat → Int32) (hi_a1 : 0 ≤ a1.toInt ∧ a1.toInt ≤ 6) (hi_qm_taped : 0 ≤ qm_taped.toInt ∧ qm_taped.toInt ≤ 940) (hi_qm_size : 0 ≤ qm_size.toInt ∧ qm_size.toInt ≤ 940) (hi_qm_to : 0 ≤ qm_to.toInt ∧ qm_to.toInt ≤ 940) (hf_qm_now_c : slI qm_now_c) (hf1_qm_now_c : trI qm_now_c) (hi_qm_snapMany : 0 ≤ qm_snapMany.toInt ∧ qm_snapMany.toInt ≤ 8) (hi_qm_orderMany : 0 ≤ qm_orderMany.toInt ∧ qm_orderMany.toInt ≤ 6) (hi_qm_hasWritten : 0 ≤ qm_hasWritten.toInt ∧ qm_hasWritten.toInt ≤ 1) (hr_0 : pc6 a2 + a1.toInt ≤ 6) : Cv l yX11_orderFrom cX11_orderFrom 10 9 0 0 G [.ref qm, .int a1, .int a2, .int a3, .int a4, .int a5] [(qm, .inr (10, [.int qm_thrown, .ref qm_tape, .int qm_taped, .int qm_size, .int qm_limit, .int qm_to, .int qm_from, .int qm_kind, .int qm_number, .int qm_sign, .int qm_fault, .int qm_place, .long qm_word, .int qm_told, .ref qm_now, .ref qm_read, .ref qm_kept, .ref qm_snaps, .ref qm_aside, .ref qm_name, .ref qm_readName, .ref qm_keptName, .ref qm_isKept, .ref qm_onces, .int qm_snapMany, .ref qm_order, .ref qm_ordered, .int qm_orderMany, .int qm_orderMost, .int qm_passing, .int qm_movedWho, .int qm_scratched, .ref qm_text, .int qm_texts, .int qm_seed, .ref qm_line, .ref qm_written, .int qm_lineMany, .int qm_hasWritten, .ref qm_node, .int qm_nodes, .int qm_onesMany, .int qm_within, .int qm_top])), (qm_now, eI G 339 qm_now_c), (qm_order, eI G 6 qm_order_c), (qm_ordered, eI G 6 qm_ordered_c)] (fun (u9 : va_W) => ∃ (x0_qm_orderMany : Int32) (x1_qm_orderMost : Int32) (x2_qm_order_c : Nat → Int32) (x3_qm_ordered_c : Nat → Int32), u9 = [(qm, .inr (10, [.int qm_thrown, .ref qm_tape, .int qm_taped, .int qm_size, .int qm_limit, .int qm_to, .int qm_from, .int qm_kind, .int qm_number, .int qm_sign, .int qm_fault, .int qm_place, .long qm_word, .int qm_told, .ref qm_now, .ref qm_read, .ref qm_kept, .ref qm_snaps, .ref qm_aside, .ref qm_name, .ref qm_readName, .ref qm_keptName, .ref qm_isKept, .ref qm_onces, .int qm_snapMany, .ref qm_order, .ref qm_ordered, .int x0_qm_orderMany, .int x1_qm_orderMost, .int qm_passing, .int qm_movedWho, .int qm_scratched, .ref qm_text, .int qm_texts, .int qm_seed, .ref qm_line, .ref qm_written, .int qm_lineMany, .int qm_hasWritten, .ref qm_node, .int qm_nodes, .int qm_onesMany, .int qm_within, .int qm_top])), (qm_now, eI G 339 qm_now_c), (qm_order, eI G 6 x2_qm_order_c), (qm_ordered, eI G 6 x3_qm_ordered_c)] ∧ (0 ≤ x0_qm_orderMany.toInt ∧ x0_qm_orderMany.toInt ≤ 6)) := s_X11_orderFrom_n 7 qm a1 a2 a3 a4 a5 qm_thrown qm_tape qm_taped qm_size qm_limit qm_to qm_from qm_kind qm_number qm_sign qm_fault qm_place qm_word qm_told qm_now qm_read qm_kept qm_snaps qm_aside qm_name qm_readName qm_keptName qm_isKept qm_onces qm_snapMany qm_order qm_ordered qm_orderMany qm_orderMost qm_passing qm_movedWho qm_scratched qm_text qm_texts qm_seed qm_line qm_written qm_lineMany qm_hasWritten qm_node qm_nodes qm_onesMany qm_within qm_top qm_now_c qm_order_c qm_ordered_c hi_a1 hi_qm_taped hi_qm_size hi_qm_to hf_qm_now_c hf1_qm_now_c hi_qm_snapMany hi_qm_orderMany hi_qm_hasWritten hr_0 (by omega)
theorem dX11_order_0 : decode cX11_order 0 = .ok (.aload_n 0, 1) := by decide +kernel
theorem dX11_order_1 : decode cX11_order 1 = .ok (.iconst 0, 1) := by decide +kernel
theorem dX11_order_2 : decode cX11_order 2 = .ok (.putfield 1, 3) := by decide +kernel
theorem dX11_order_5 : decode cX11_order 5 = .ok (.aload_n 0, 1) := by decide +kernel
theorem dX11_order_6 : decode cX11_order 6 = .ok (.iconst 0, 1) := by decide +kernel
theorem dX11_order_7 : decode cX11_order 7 = .ok (.putfield 317, 3) := by decide +kernel
theorem dX11_order_10 : decode cX11_order 10 = .ok (.iconst 0, 1) := by decide +kernel
theorem dX11_order_11 : decode cX11_order 11 = .ok (.istore_n 1, 1) := by decide +kernel
theorem dX11_order_12 : decode cX11_order 12 = .ok (.iload_n 1, 1) := by decide +kernel
theorem dX11_order_13 : decode cX11_order 13 = .ok (.aload_n 0, 1) := by decide +kernel
theorem dX11_order_14 : decode cX11_order 14 = .ok (.getfield 98, 3) := by decide +kernel
theorem dX11_order_17 : decode cX11_order 17 = .ok (.iconst 0, 1) := by decide +kernel
theorem dX11_order_18 : decode cX11_order 18 = .ok (.iaload, 1) := by decide +kernel
theorem dX11_order_19 : decode cX11_order 19 = .ok (.if_icmp .ge 39, 3) := by decide +kernel
theorem dX11_order_22 : decode cX11_order 22 = .ok (.aload_n 0, 1) := by decide +kernel
theorem dX11_order_23 : decode cX11_order 23 = .ok (.iload_n 1, 1) := by decide +kernel
theorem dX11_order_24 : decode cX11_order 24 = .ok (.iconst 0, 1) := by decide +kernel
theorem dX11_order_25 : decode cX11_order 25 = .ok (.invokevirtual 276, 3) := by decide +kernel
theorem dX11_order_28 : decode cX11_order 28 = .ok (.invokestatic 252, 3) := by decide +kernel
theorem dX11_order_31 : decode cX11_order 31 = .ok (.aload_n 0, 1) := by decide +kernel
theorem dX11_order_32 : decode cX11_order 32 = .ok (.getfield 98, 3) := by decide +kernel
theorem dX11_order_35 : decode cX11_order 35 = .ok (.iconst 3, 1) := by decide +kernel
theorem dX11_order_36 : decode cX11_order 36 = .ok (.iaload, 1) := by decide +kernel
theorem dX11_order_37 : decode cX11_order 37 = .ok (.if_icmp .lt 15, 3) := by decide +kernel
theorem dX11_order_40 : decode cX11_order 40 = .ok (.aload_n 0, 1) := by decide +kernel
theorem dX11_order_41 : decode cX11_order 41 = .ok (.dup, 1) := by decide +kernel
theorem dX11_order_42 : decode cX11_order 42 = .ok (.getfield 317, 3) := by decide +kernel
theorem dX11_order_45 : decode cX11_order 45 = .ok (.iconst 1, 1) := by decide +kernel
theorem dX11_order_46 : decode cX11_order 46 = .ok (.iload_n 1, 1) := by decide +kernel
theorem dX11_order_47 : decode cX11_order 47 = .ok (.ishl, 1) := by decide +kernel
theorem dX11_order_48 : decode cX11_order 48 = .ok (.ior, 1) := by decide +kernel
theorem dX11_order_49 : decode cX11_order 49 = .ok (.putfield 317, 3) := by decide +kernel
theorem dX11_order_52 : decode cX11_order 52 = .ok (.iinc 1 1, 3) := by decide +kernel
theorem dX11_order_55 : decode cX11_order 55 = .ok (.goto (-43), 3) := by decide +kernel
theorem dX11_order_58 : decode cX11_order 58 = .ok (.aload_n 0, 1) := by decide +kernel
theorem dX11_order_59 : decode cX11_order 59 = .ok (.iconst (-1), 1) := by decide +kernel
theorem dX11_order_60 : decode cX11_order 60 = .ok (.putfield 307, 3) := by decide +kernel
theorem dX11_order_63 : decode cX11_order 63 = .ok (.aload_n 0, 1) := by decide +kernel
theorem dX11_order_64 : decode cX11_order 64 = .ok (.iconst 0, 1) := by decide +kernel
theorem dX11_order_65 : decode cX11_order 65 = .ok (.putfield 310, 3) := by decide +kernel
theorem dX11_order_68 : decode cX11_order 68 = .ok (.iconst 1, 1) := by decide +kernel
theorem dX11_order_69 : decode cX11_order 69 = .ok (.aload_n 0, 1) := by decide +kernel
theorem dX11_order_70 : decode cX11_order 70 = .ok (.getfield 98, 3) := by decide +kernel
theorem dX11_order_73 : decode cX11_order 73 = .ok (.iconst 0, 1) := by decide +kernel
theorem dX11_order_74 : decode cX11_order 74 = .ok (.iaload, 1) := by decide +kernel
theorem dX11_order_75 : decode cX11_order 75 = .ok (.ishl, 1) := by decide +kernel
theorem dX11_order_76 : decode cX11_order 76 = .ok (.iconst 1, 1) := by decide +kernel
theorem dX11_order_77 : decode cX11_order 77 = .ok (.isub, 1) := by decide +kernel
theorem dX11_order_78 : decode cX11_order 78 = .ok (.aload_n 0, 1) := by decide +kernel
theorem dX11_order_79 : decode cX11_order 79 = .ok (.getfield 98, 3) := by decide +kernel
theorem dX11_order_82 : decode cX11_order 82 = .ok (.bipush 67, 2) := by decide +kernel
theorem dX11_order_84 : decode cX11_order 84 = .ok (.iaload, 1) := by decide +kernel
theorem dX11_order_85 : decode cX11_order 85 = .ok (.aload_n 0, 1) := by decide +kernel
theorem dX11_order_86 : decode cX11_order 86 = .ok (.getfield 98, 3) := by decide +kernel
theorem dX11_order_89 : decode cX11_order 89 = .ok (.bipush 68, 2) := by decide +kernel
theorem dX11_order_91 : decode cX11_order 91 = .ok (.iaload, 1) := by decide +kernel
theorem dX11_order_92 : decode cX11_order 92 = .ok (.ior, 1) := by decide +kernel
theorem dX11_order_93 : decode cX11_order 93 = .ok (.iconst (-1), 1) := by decide +kernel
theorem dX11_order_94 : decode cX11_order 94 = .ok (.ixor, 1) := by decide +kernel
theorem dX11_order_95 : decode cX11_order 95 = .ok (.iand, 1) := by decide +kernel
theorem dX11_order_96 : decode cX11_order 96 = .ok (.istore_n 1, 1) := by decide +kernel
theorem dX11_order_97 : decode cX11_order 97 = .ok (.aload_n 0, 1) := by decide +kernel
theorem dX11_order_98 : decode cX11_order 98 = .ok (.getfield 98, 3) := by decide +kernel
theorem dX11_order_101 : decode cX11_order 101 = .ok (.bipush 66, 2) := by decide +kernel
theorem dX11_order_103 : decode cX11_order 103 = .ok (.iaload, 1) := by decide +kernel
theorem dX11_order_104 : decode cX11_order 104 = .ok (.iconst 1, 1) := by decide +kernel
theorem dX11_order_105 : decode cX11_order 105 = .ok (.if_icmp .ne 12, 3) := by decide +kernel
theorem dX11_order_117 : decode cX11_order 117 = .ok (.aload_n 0, 1) := by decide +kernel
theorem dX11_order_118 : decode cX11_order 118 = .ok (.iconst 0, 1) := by decide +kernel
theorem dX11_order_119 : decode cX11_order 119 = .ok (.iload_n 1, 1) := by decide +kernel
theorem dX11_order_120 : decode cX11_order 120 = .ok (.aload_n 0, 1) := by decide +kernel
theorem dX11_order_121 : decode cX11_order 121 = .ok (.getfield 98, 3) := by decide +kernel
theorem dX11_order_124 : decode cX11_order 124 = .ok (.bipush 65, 2) := by decide +kernel
theorem dX11_order_126 : decode cX11_order 126 = .ok (.iaload, 1) := by decide +kernel
theorem dX11_order_127 : decode cX11_order 127 = .ok (.aload_n 0, 1) := by decide +kernel
theorem dX11_order_128 : decode cX11_order 128 = .ok (.getfield 98, 3) := by decide +kernel
theorem dX11_order_131 : decode cX11_order 131 = .ok (.bipush 67, 2) := by decide +kernel
theorem dX11_order_133 : decode cX11_order 133 = .ok (.iaload, 1) := by decide +kernel
theorem dX11_order_134 : decode cX11_order 134 = .ok (.iconst 0, 1) := by decide +kernel
theorem dX11_order_135 : decode cX11_order 135 = .ok (.invokevirtual 320, 3) := by decide +kernel
theorem dX11_order_138 : decode cX11_order 138 = .ok (.aload_n 0, 1) := by decide +kernel
theorem dX11_order_139 : decode cX11_order 139 = .ok (.getfield 307, 3) := by decide +kernel
theorem dX11_order_142 : decode cX11_order 142 = .ok (.ireturn, 1) := by decide +kernel
theorem dX11_order_108 : decode cX11_order 108 = .ok (.aload_n 0, 1) := by decide +kernel
theorem dX11_order_109 : decode cX11_order 109 = .ok (.iconst 0, 1) := by decide +kernel
theorem dX11_order_110 : decode cX11_order 110 = .ok (.iconst 0, 1) := by decide +kernel
theorem dX11_order_111 : decode cX11_order 111 = .ok (.invokevirtual 313, 3) := by decide +kernel
theorem dX11_order_114 : decode cX11_order 114 = .ok (.goto 24, 3) := by decide +kernel
set_option maxHeartbeats 4000000 in
set_option maxRecDepth 100000 in
theorem s_X11_order {l : Launch} {G : Gc} (qm : Nat) (qm_thrown : Int32) (qm_tape : Nat) (qm_taped : Int32) (qm_size : Int32) (qm_limit : Int32) (qm_to : Int32) (qm_from : Int32) (qm_kind : Int32) (qm_number : Int32) (qm_sign : Int32) (qm_fault : Int32) (qm_place : Int32) (qm_word : Int64) (qm_told : Int32) (qm_now : Nat) (qm_read : Nat) (qm_kept : Nat) (qm_snaps : Nat) (qm_aside : Nat) (qm_name : Nat) (qm_readName : Nat) (qm_keptName : Nat) (qm_isKept : Nat) (qm_onces : Nat) (qm_snapMany : Int32) (qm_order : Nat) (qm_ordered : Nat) (qm_orderMany : Int32) (qm_orderMost : Int32) (qm_passing : Int32) (qm_movedWho : Int32) (qm_scratched : Int32) (qm_text : Nat) (qm_texts : Int32) (qm_seed : Int32) (qm_line : Nat) (qm_written : Nat) (qm_lineMany : Int32) (qm_hasWritten : Int32) (qm_node : Nat) (qm_nodes : Int32) (qm_onesMany : Int32) (qm_within : Int32) (qm_top : Int32) (qm_now_c : Nat → Int32) (qm_order_c : Nat → Int32) (qm_ordered_c : Nat → Int32) (hi_qm_taped : 0 ≤ qm_taped.toInt ∧ qm_taped.toInt ≤ 940) (hi_qm_size : 0 ≤ qm_size.toInt ∧ qm_size.toInt ≤ 940) (hi_qm_to : 0 ≤ qm_to.toInt ∧ qm_to.toInt ≤ 940) (hf_qm_now_c : slI qm_now_c) (hf1_qm_now_c : trI qm_now_c) (hi_qm_snapMany : 0 ≤ qm_snapMany.toInt ∧ qm_snapMany.toInt ≤ 8) (hi_qm_orderMany : 0 ≤ qm_orderMany.toInt ∧ qm_orderMany.toInt ≤ 6) (hi_qm_hasWritten : 0 ≤ qm_hasWritten.toInt ∧ qm_hasWritten.toInt ≤ 1) : Ci l yX11_order cX11_order 2 (some .int) 10 0 0 G [.ref qm] [(qm, .inr (10, [.int qm_thrown, .ref qm_tape, .int qm_taped, .int qm_size, .int qm_limit, .int qm_to, .int qm_from, .int qm_kind, .int qm_number, .int qm_sign, .int qm_fault, .int qm_place, .long qm_word, .int qm_told, .ref qm_now, .ref qm_read, .ref qm_kept, .ref qm_snaps, .ref qm_aside, .ref qm_name, .ref qm_readName, .ref qm_keptName, .ref qm_isKept, .ref qm_onces, .int qm_snapMany, .ref qm_order, .ref qm_ordered, .int qm_orderMany, .int qm_orderMost, .int qm_passing, .int qm_movedWho, .int qm_scratched, .ref qm_text, .int qm_texts, .int qm_seed, .ref qm_line, .ref qm_written, .int qm_lineMany, .int qm_hasWritten, .ref qm_node, .int qm_nodes, .int qm_onesMany, .int qm_within, .int qm_top])), (qm_now, eI G 339 qm_now_c), (qm_order, eI G 6 qm_order_c), (qm_ordered, eI G 6 qm_ordered_c)] (fun (r9 : Int32) (u9 : va_W) => ∃ (x0_qm_orderMany : Int32) (x1_qm_orderMost : Int32) (x2_qm_passing : Int32) (x3_qm_order_c : Nat → Int32) (x4_qm_ordered_c : Nat → Int32) (r_x : Int32), r9 = r_x ∧ u9 = [(qm, .inr (10, [.int 0, .ref qm_tape, .int qm_taped, .int qm_size, .int qm_limit, .int qm_to, .int qm_from, .int qm_kind, .int qm_number, .int qm_sign, .int qm_fault, .int qm_place, .long qm_word, .int qm_told, .ref qm_now, .ref qm_read, .ref qm_kept, .ref qm_snaps, .ref qm_aside, .ref qm_name, .ref qm_readName, .ref qm_keptName, .ref qm_isKept, .ref qm_onces, .int qm_snapMany, .ref qm_order, .ref qm_ordered, .int x0_qm_orderMany, .int x1_qm_orderMost, .int x2_qm_passing, .int qm_movedWho, .int qm_scratched, .ref qm_text, .int qm_texts, .int qm_seed, .ref qm_line, .ref qm_written, .int qm_lineMany, .int qm_hasWritten, .ref qm_node, .int qm_nodes, .int qm_onesMany, .int qm_within, .int qm_top])), (qm_now, eI G 339 qm_now_c), (qm_order, eI G 6 x3_qm_order_c), (qm_ordered, eI G 6 x4_qm_ordered_c)] ∧ (0 ≤ x0_qm_orderMany.toInt ∧ x0_qm_orderMany.toInt ≤ 6)) := by
  refine Ci.ofQ (by decide) (Nat.le_of_ble_eq_true rfl) ?_
  intro p e s m below meth c ls A args Q hQ B hw hl
  have C : CallFix p m c cX11_order 2 s args gw "LanternStateModel" := B.1
  have hl : lv_has ls 2 [(0, .ref qm)] := hl
  refine lv_aload_n C.1 C.2.1 dX11_order_0 rfl (lv_at hl 0 rfl) ?_
  refine lv_iconst (v := 0) C.1 C.2.1 dX11_order_1 (by decide) ?_
  refine x_put (w' := [(qm, .inr (10, [.int 0, .ref qm_tape, .int qm_taped, .int qm_size, .int qm_limit, .int qm_to, .int qm_from, .int qm_kind, .int qm_number, .int qm_sign, .int qm_fault, .int qm_place, .long qm_word, .int qm_told, .ref qm_now, .ref qm_read, .ref qm_kept, .ref qm_snaps, .ref qm_aside, .ref qm_name, .ref qm_readName, .ref qm_keptName, .ref qm_isKept, .ref qm_onces, .int qm_snapMany, .ref qm_order, .ref qm_ordered, .int qm_orderMany, .int qm_orderMost, .int qm_passing, .int qm_movedWho, .int qm_scratched, .ref qm_text, .int qm_texts, .int qm_seed, .ref qm_line, .ref qm_written, .int qm_lineMany, .int qm_hasWritten, .ref qm_node, .int qm_nodes, .int qm_onesMany, .int qm_within, .int qm_top])), (qm_now, eI G 339 qm_now_c), (qm_order, eI G 6 qm_order_c), (qm_ordered, eI G 6 qm_ordered_c)]) C hw iwX11 tyX11_ok nmX11 10 rfl 0 rfl 0 (by decide) kw1193 rfl rfl rfl (Nat.le_of_ble_eq_true rfl) rfl dX11_order_2 (fun H locs hw => ?_)
  refine lv_aload_n C.1 C.2.1 dX11_order_5 rfl (lv_at hl 0 rfl) ?_
  refine lv_iconst (v := 0) C.1 C.2.1 dX11_order_6 (by decide) ?_
  refine x_put (w' := [(qm, .inr (10, [.int 0, .ref qm_tape, .int qm_taped, .int qm_size, .int qm_limit, .int qm_to, .int qm_from, .int qm_kind, .int qm_number, .int qm_sign, .int qm_fault, .int qm_place, .long qm_word, .int qm_told, .ref qm_now, .ref qm_read, .ref qm_kept, .ref qm_snaps, .ref qm_aside, .ref qm_name, .ref qm_readName, .ref qm_keptName, .ref qm_isKept, .ref qm_onces, .int qm_snapMany, .ref qm_order, .ref qm_ordered, .int qm_orderMany, .int qm_orderMost, .int 0, .int qm_movedWho, .int qm_scratched, .ref qm_text, .int qm_texts, .int qm_seed, .ref qm_line, .ref qm_written, .int qm_lineMany, .int qm_hasWritten, .ref qm_node, .int qm_nodes, .int qm_onesMany, .int qm_within, .int qm_top])), (qm_now, eI G 339 qm_now_c), (qm_order, eI G 6 qm_order_c), (qm_ordered, eI G 6 qm_ordered_c)]) C hw iwX11 tyX11_ok nmX11 10 rfl 0 rfl 29 (by decide) kw1222 rfl rfl rfl (Nat.le_of_ble_eq_true rfl) rfl dX11_order_7 (fun H locs hw => ?_)
  refine lv_iconst (v := 0) C.1 C.2.1 dX11_order_10 (by decide) ?_
  refine lv_istore_n (lv' := [(1, .int 0), (0, .ref qm)]) C.1 C.2.1 dX11_order_11 rfl hl (by decide) rfl (fun ls hl => ?_)
  have loopJ100 : ∀ (n9 : Nat) (j98 : Int32) (j99 : Int32), (2147483647 - j98.toInt).toNat < n9 → (0 ≤ j98.toInt ∧ j98.toInt ≤ 6) → ∀ (H : Heap) (locs : List Loc) (ls : Array Slot), Wd G s A [(qm, .inr (10, [.int 0, .ref qm_tape, .int qm_taped, .int qm_size, .int qm_limit, .int qm_to, .int qm_from, .int qm_kind, .int qm_number, .int qm_sign, .int qm_fault, .int qm_place, .long qm_word, .int qm_told, .ref qm_now, .ref qm_read, .ref qm_kept, .ref qm_snaps, .ref qm_aside, .ref qm_name, .ref qm_readName, .ref qm_keptName, .ref qm_isKept, .ref qm_onces, .int qm_snapMany, .ref qm_order, .ref qm_ordered, .int qm_orderMany, .int qm_orderMost, .int j99, .int qm_movedWho, .int qm_scratched, .ref qm_text, .int qm_texts, .int qm_seed, .ref qm_line, .ref qm_written, .int qm_lineMany, .int qm_hasWritten, .ref qm_node, .int qm_nodes, .int qm_onesMany, .int qm_within, .int qm_top])), (qm_now, eI G 339 qm_now_c), (qm_order, eI G 6 qm_order_c), (qm_ordered, eI G 6 qm_ordered_c)] H locs → lv_has ls 2 [(1, .int j98), (0, .ref qm)] → W p l e (rmD 10 0 0) s m args below meth c H locs 0 0 Q (F0 m 12 ls []) := by
    intro n9
    induction n9 with
    | zero => intro j98 j99 h9; exact absurd h9 (Nat.not_lt_zero _)
    | succ n9 ihJ100 =>
      intro j98 j99 h9J100 hJ100_0 H locs ls hw hl
      have hbj98 := i_bd j98
      refine lv_iload_n C.1 C.2.1 dX11_order_12 rfl (lv_at hl 0 rfl) ?_
      refine lv_aload_n C.1 C.2.1 dX11_order_13 rfl (lv_at hl 1 rfl) ?_
      refine x_get C hw iwX11 10 rfl 0 rfl 14 (by decide) kw1207 rfl dX11_order_14 ?_
      refine lv_iconst (v := 0) C.1 C.2.1 dX11_order_17 (by decide) ?_
      have mm118 := hf_qm_now_c 0
      refine x_iald (v := (qm_now_c 0)) C hw 1 rfl (x_in rfl) rfl dX11_order_18 (x_genP (fun z : Int32 => z.toInt = (qm_now_c 0).toInt ∧ 0 ≤ z.toInt ∧ z.toInt ≤ 6) ⟨rfl, by omega⟩ (fun v119 hv119 => ?_))
      refine lv_icmp_ge (tgt := 58) C.1 C.2.1 dX11_order_19 (by decide) (fun c120 => ?_) (fun c120 => ?_)
      · skip
        have c120 : v119.toInt ≤ j98.toInt := i_leT (X := v119.toInt) (Y := j98.toInt) rfl rfl c120
        refine lv_aload_n C.1 C.2.1 dX11_order_58 rfl (lv_at hl 1 rfl) ?_
        refine lv_iconst (v := (-1)) C.1 C.2.1 dX11_order_59 (by decide) ?_
        refine x_put (w' := [(qm, .inr (10, [.int 0, .ref qm_tape, .int qm_taped, .int qm_size, .int qm_limit, .int qm_to, .int qm_from, .int qm_kind, .int qm_number, .int qm_sign, .int qm_fault, .int qm_place, .long qm_word, .int qm_told, .ref qm_now, .ref qm_read, .ref qm_kept, .ref qm_snaps, .ref qm_aside, .ref qm_name, .ref qm_readName, .ref qm_keptName, .ref qm_isKept, .ref qm_onces, .int qm_snapMany, .ref qm_order, .ref qm_ordered, .int qm_orderMany, .int (-1), .int j99, .int qm_movedWho, .int qm_scratched, .ref qm_text, .int qm_texts, .int qm_seed, .ref qm_line, .ref qm_written, .int qm_lineMany, .int qm_hasWritten, .ref qm_node, .int qm_nodes, .int qm_onesMany, .int qm_within, .int qm_top])), (qm_now, eI G 339 qm_now_c), (qm_order, eI G 6 qm_order_c), (qm_ordered, eI G 6 qm_ordered_c)]) C hw iwX11 tyX11_ok nmX11 10 rfl 0 rfl 28 (by decide) kw1221 rfl rfl rfl (Nat.le_of_ble_eq_true rfl) rfl dX11_order_60 (fun H locs hw => ?_)
        refine lv_aload_n C.1 C.2.1 dX11_order_63 rfl (lv_at hl 1 rfl) ?_
        refine lv_iconst (v := 0) C.1 C.2.1 dX11_order_64 (by decide) ?_
        refine x_put (w' := [(qm, .inr (10, [.int 0, .ref qm_tape, .int qm_taped, .int qm_size, .int qm_limit, .int qm_to, .int qm_from, .int qm_kind, .int qm_number, .int qm_sign, .int qm_fault, .int qm_place, .long qm_word, .int qm_told, .ref qm_now, .ref qm_read, .ref qm_kept, .ref qm_snaps, .ref qm_aside, .ref qm_name, .ref qm_readName, .ref qm_keptName, .ref qm_isKept, .ref qm_onces, .int qm_snapMany, .ref qm_order, .ref qm_ordered, .int 0, .int (-1), .int j99, .int qm_movedWho, .int qm_scratched, .ref qm_text, .int qm_texts, .int qm_seed, .ref qm_line, .ref qm_written, .int qm_lineMany, .int qm_hasWritten, .ref qm_node, .int qm_nodes, .int qm_onesMany, .int qm_within, .int qm_top])), (qm_now, eI G 339 qm_now_c), (qm_order, eI G 6 qm_order_c), (qm_ordered, eI G 6 qm_ordered_c)]) C hw iwX11 tyX11_ok nmX11 10 rfl 0 rfl 27 (by decide) kw1220 rfl rfl rfl (Nat.le_of_ble_eq_true rfl) rfl dX11_order_65 (fun H locs hw => ?_)
        refine lv_iconst (v := 1) C.1 C.2.1 dX11_order_68 (by decide) ?_
        refine lv_aload_n C.1 C.2.1 dX11_order_69 rfl (lv_at hl 1 rfl) ?_
        refine x_get C hw iwX11 10 rfl 0 rfl 14 (by decide) kw1207 rfl dX11_order_70 ?_
        refine lv_iconst (v := 0) C.1 C.2.1 dX11_order_73 (by decide) ?_
        have mm121 := hf_qm_now_c 0
        refine x_iald (v := (qm_now_c 0)) C hw 1 rfl (x_in rfl) rfl dX11_order_74 (x_genP (fun z : Int32 => z.toInt = (qm_now_c 0).toInt ∧ 0 ≤ z.toInt ∧ z.toInt ≤ 6) ⟨rfl, by omega⟩ (fun v122 hv122 => ?_))
        refine lv_ishl C.1 C.2.1 dX11_order_75 (x_genP (fun z : Int32 => 1 ≤ z.toInt ∧ z.toInt ≤ 256) (i_shl1 (by omega) (by omega)) (fun v123 hv123 => ?_))
        refine lv_iconst (v := 1) C.1 C.2.1 dX11_order_76 (by decide) ?_
        refine lv_isub C.1 C.2.1 dX11_order_77 (x_genP (fun z : Int32 => z.toInt = v123.toInt - 1) (i_sub (X := v123.toInt) (Y := 1) rfl rfl (by omega) (by omega)) (fun v124 hv124 => ?_))
        refine lv_aload_n C.1 C.2.1 dX11_order_78 rfl (lv_at hl 1 rfl) ?_
        refine x_get C hw iwX11 10 rfl 0 rfl 14 (by decide) kw1207 rfl dX11_order_79 ?_
        refine lv_bipush (v := 67) C.1 C.2.1 dX11_order_82 (by decide) ?_
        refine x_iald (v := (qm_now_c 67)) C hw 1 rfl (x_in rfl) rfl dX11_order_84 (x_gen (fun v125 => ?_))
        refine lv_aload_n C.1 C.2.1 dX11_order_85 rfl (lv_at hl 1 rfl) ?_
        refine x_get C hw iwX11 10 rfl 0 rfl 14 (by decide) kw1207 rfl dX11_order_86 ?_
        refine lv_bipush (v := 68) C.1 C.2.1 dX11_order_89 (by decide) ?_
        refine x_iald (v := (qm_now_c 68)) C hw 1 rfl (x_in rfl) rfl dX11_order_91 (x_gen (fun v126 => ?_))
        refine lv_ior C.1 C.2.1 dX11_order_92 (x_gen (fun v127 => ?_))
        refine lv_iconst (v := (-1)) C.1 C.2.1 dX11_order_93 (by decide) ?_
        refine lv_ixor C.1 C.2.1 dX11_order_94 (x_gen (fun v128 => ?_))
        refine lv_iand C.1 C.2.1 dX11_order_95 (x_gen (fun v129 => ?_))
        have q6 := pc6_6 v129
        refine lv_istore_n (lv' := [(1, .int v129), (0, .ref qm)]) C.1 C.2.1 dX11_order_96 rfl hl (by decide) rfl (fun ls hl => ?_)
        refine lv_aload_n C.1 C.2.1 dX11_order_97 rfl (lv_at hl 1 rfl) ?_
        refine x_get C hw iwX11 10 rfl 0 rfl 14 (by decide) kw1207 rfl dX11_order_98 ?_
        refine lv_bipush (v := 66) C.1 C.2.1 dX11_order_101 (by decide) ?_
        refine x_iald (v := (qm_now_c 66)) C hw 1 rfl (x_in rfl) rfl dX11_order_103 (x_gen (fun v130 => ?_))
        refine lv_iconst (v := 1) C.1 C.2.1 dX11_order_104 (by decide) ?_
        refine lv_icmp_ne (tgt := 117) C.1 C.2.1 dX11_order_105 (by decide) (fun c131 => ?_) (fun c131 => ?_)
        · skip
          have c131 : v130.toInt ≠ 1 := i_eqF (X := v130.toInt) (Y := 1) rfl rfl c131
          have bc131_v130 := i_bd v130
          refine lv_aload_n C.1 C.2.1 dX11_order_117 rfl (lv_at hl 1 rfl) ?_
          refine lv_iconst (v := 0) C.1 C.2.1 dX11_order_118 (by decide) ?_
          refine lv_iload_n C.1 C.2.1 dX11_order_119 rfl (lv_at hl 0 rfl) ?_
          refine lv_aload_n C.1 C.2.1 dX11_order_120 rfl (lv_at hl 1 rfl) ?_
          refine x_get C hw iwX11 10 rfl 0 rfl 14 (by decide) kw1207 rfl dX11_order_121 ?_
          refine lv_bipush (v := 65) C.1 C.2.1 dX11_order_124 (by decide) ?_
          refine x_iald (v := (qm_now_c 65)) C hw 1 rfl (x_in rfl) rfl dX11_order_126 (x_gen (fun v132 => ?_))
          refine lv_aload_n C.1 C.2.1 dX11_order_127 rfl (lv_at hl 1 rfl) ?_
          refine x_get C hw iwX11 10 rfl 0 rfl 14 (by decide) kw1207 rfl dX11_order_128 ?_
          refine lv_bipush (v := 67) C.1 C.2.1 dX11_order_131 (by decide) ?_
          refine x_iald (v := (qm_now_c 67)) C hw 1 rfl (x_in rfl) rfl dX11_order_133 (x_gen (fun v133 => ?_))
          refine lv_iconst (v := 0) C.1 C.2.1 dX11_order_134 (by decide) ?_
          refine x_callvV (As := [.int 0, .int v129, .int v132, .int v133, .int 0]) (rest := []) (wr := []) C hw (s_X11_orderFrom qm 0 v129 v132 v133 0 0 qm_tape qm_taped qm_size qm_limit qm_to qm_from qm_kind qm_number qm_sign qm_fault qm_place qm_word qm_told qm_now qm_read qm_kept qm_snaps qm_aside qm_name qm_readName qm_keptName qm_isKept qm_onces qm_snapMany qm_order qm_ordered 0 (-1) j99 qm_movedWho qm_scratched qm_text qm_texts qm_seed qm_line qm_written qm_lineMany qm_hasWritten qm_node qm_nodes qm_onesMany qm_within qm_top qm_now_c qm_order_c qm_ordered_c (by decide) (by omega) (by omega) (by omega) hf_qm_now_c hf1_qm_now_c (by omega) (by decide) (by omega) (by have e0 : (0 : Int32).toInt = 0 := rfl; omega)) mwX11_orderFrom kw1616 [0, 1, 2, 3] [] rfl rfl rfl rfl (by decide) 0 rfl rfl rfl rfl hl.1 rfl (Nat.le_of_ble_eq_true rfl) ⟨(Nat.le_of_ble_eq_true rfl), (Nat.le_of_ble_eq_true rfl)⟩ ⟨(Nat.le_of_ble_eq_true rfl), (Nat.le_of_ble_eq_true rfl)⟩ dX11_order_135 (fun  u9 H locs hp9 hw => ?_)
          obtain ⟨x134, x135, x136, x137, rfl, hf138⟩ := hp9
          have hw : Wd G s A [(qm, .inr (10, [.int 0, .ref qm_tape, .int qm_taped, .int qm_size, .int qm_limit, .int qm_to, .int qm_from, .int qm_kind, .int qm_number, .int qm_sign, .int qm_fault, .int qm_place, .long qm_word, .int qm_told, .ref qm_now, .ref qm_read, .ref qm_kept, .ref qm_snaps, .ref qm_aside, .ref qm_name, .ref qm_readName, .ref qm_keptName, .ref qm_isKept, .ref qm_onces, .int qm_snapMany, .ref qm_order, .ref qm_ordered, .int x134, .int x135, .int j99, .int qm_movedWho, .int qm_scratched, .ref qm_text, .int qm_texts, .int qm_seed, .ref qm_line, .ref qm_written, .int qm_lineMany, .int qm_hasWritten, .ref qm_node, .int qm_nodes, .int qm_onesMany, .int qm_within, .int qm_top])), (qm_now, eI G 339 qm_now_c), (qm_order, eI G 6 x136), (qm_ordered, eI G 6 x137)] H _ := hw
          refine lv_aload_n C.1 C.2.1 dX11_order_138 rfl (lv_at hl 1 rfl) ?_
          refine x_get C hw iwX11 10 rfl 0 rfl 28 (by decide) kw1221 rfl dX11_order_139 ?_
          exact x_retiQ hQ B hw ⟨x134, x135, j99, x136, x137, x135, rfl, rfl, (by omega)⟩ (Nat.le_of_ble_eq_true rfl) (Nat.le_of_ble_eq_true rfl) dX11_order_142
        · skip
          have c131 : v130.toInt = 1 := i_eqT (X := v130.toInt) (Y := 1) rfl rfl c131
          have bc131_v130 := i_bd v130
          refine lv_aload_n C.1 C.2.1 dX11_order_108 rfl (lv_at hl 1 rfl) ?_
          refine lv_iconst (v := 0) C.1 C.2.1 dX11_order_109 (by decide) ?_
          refine lv_iconst (v := 0) C.1 C.2.1 dX11_order_110 (by decide) ?_
          refine x_callvV (As := [.int 0, .int 0]) (rest := []) (wr := [(qm_now, eI G 339 qm_now_c)]) C hw (s_X11_endOrder qm 0 0 0 qm_tape qm_taped qm_size qm_limit qm_to qm_from qm_kind qm_number qm_sign qm_fault qm_place qm_word qm_told qm_now qm_read qm_kept qm_snaps qm_aside qm_name qm_readName qm_keptName qm_isKept qm_onces qm_snapMany qm_order qm_ordered 0 (-1) j99 qm_movedWho qm_scratched qm_text qm_texts qm_seed qm_line qm_written qm_lineMany qm_hasWritten qm_node qm_nodes qm_onesMany qm_within qm_top qm_order_c qm_ordered_c (by decide) (by decide)) mwX11_endOrder kw1612 [0, 2, 3] [1] rfl rfl rfl rfl (by decide) 0 rfl rfl rfl rfl hl.1 rfl (Nat.le_of_ble_eq_true rfl) ⟨(Nat.le_of_ble_eq_true rfl), (Nat.le_of_ble_eq_true rfl)⟩ ⟨(Nat.le_of_ble_eq_true rfl), (Nat.le_of_ble_eq_true rfl)⟩ dX11_order_111 (fun  u9 H locs hp9 hw => ?_)
          obtain ⟨x139, x140, x141, rfl, hf142⟩ := hp9
          have hw : Wd G s A [(qm_now, eI G 339 qm_now_c), (qm, .inr (10, [.int 0, .ref qm_tape, .int qm_taped, .int qm_size, .int qm_limit, .int qm_to, .int qm_from, .int qm_kind, .int qm_number, .int qm_sign, .int qm_fault, .int qm_place, .long qm_word, .int qm_told, .ref qm_now, .ref qm_read, .ref qm_kept, .ref qm_snaps, .ref qm_aside, .ref qm_name, .ref qm_readName, .ref qm_keptName, .ref qm_isKept, .ref qm_onces, .int qm_snapMany, .ref qm_order, .ref qm_ordered, .int x139, .int x140, .int j99, .int qm_movedWho, .int qm_scratched, .ref qm_text, .int qm_texts, .int qm_seed, .ref qm_line, .ref qm_written, .int qm_lineMany, .int qm_hasWritten, .ref qm_node, .int qm_nodes, .int qm_onesMany, .int qm_within, .int qm_top])), (qm_order, eI G 6 qm_order_c), (qm_ordered, eI G 6 x141)] H _ := hw
          refine lv_goto (tgt := 138) C.1 C.2.1 dX11_order_114 (by decide) ?_
          refine lv_aload_n C.1 C.2.1 dX11_order_138 rfl (lv_at hl 1 rfl) ?_
          refine x_get C hw iwX11 10 rfl 1 rfl 28 (by decide) kw1221 rfl dX11_order_139 ?_
          have hw := hw.sub (w' := [(qm, .inr (10, [.int 0, .ref qm_tape, .int qm_taped, .int qm_size, .int qm_limit, .int qm_to, .int qm_from, .int qm_kind, .int qm_number, .int qm_sign, .int qm_fault, .int qm_place, .long qm_word, .int qm_told, .ref qm_now, .ref qm_read, .ref qm_kept, .ref qm_snaps, .ref qm_aside, .ref qm_name, .ref qm_readName, .ref qm_keptName, .ref qm_isKept, .ref qm_onces, .int qm_snapMany, .ref qm_order, .ref qm_ordered, .int x139, .int x140, .int j99, .int qm_movedWho, .int qm_scratched, .ref qm_text, .int qm_texts, .int qm_seed, .ref qm_line, .ref qm_written, .int qm_lineMany, .int qm_hasWritten, .ref qm_node, .int qm_nodes, .int qm_onesMany, .int qm_within, .int qm_top])), (qm_now, eI G 339 qm_now_c), (qm_order, eI G 6 qm_order_c), (qm_ordered, eI G 6 x141)]) [1, 0, 2, 3] rfl rfl
          exact x_retiQ hQ B hw ⟨x139, x140, j99, qm_order_c, x141, x140, rfl, rfl, (by omega)⟩ (Nat.le_of_ble_eq_true rfl) (Nat.le_of_ble_eq_true rfl) dX11_order_142
      · skip
        have c120 : j98.toInt < v119.toInt := i_leF (X := v119.toInt) (Y := j98.toInt) rfl rfl c120
        refine lv_aload_n C.1 C.2.1 dX11_order_22 rfl (lv_at hl 1 rfl) ?_
        refine lv_iload_n C.1 C.2.1 dX11_order_23 rfl (lv_at hl 0 rfl) ?_
        refine lv_iconst (v := 0) C.1 C.2.1 dX11_order_24 (by decide) ?_
        refine x_calliV (As := [.int j98, .int 0]) (rest := []) (wr := [(qm_order, eI G 6 qm_order_c), (qm_ordered, eI G 6 qm_ordered_c)]) C hw (s_X11_sighsFor qm j98 0 0 qm_tape qm_taped qm_size qm_limit qm_to qm_from qm_kind qm_number qm_sign qm_fault qm_place qm_word qm_told qm_now qm_read qm_kept qm_snaps qm_aside qm_name qm_readName qm_keptName qm_isKept qm_onces qm_snapMany qm_order qm_ordered qm_orderMany qm_orderMost j99 qm_movedWho qm_scratched qm_text qm_texts qm_seed qm_line qm_written qm_lineMany qm_hasWritten qm_node qm_nodes qm_onesMany qm_within qm_top qm_now_c (by omega) hf_qm_now_c hf1_qm_now_c) mwX11_sighsFor kw1525 [0, 1] [2, 3] rfl rfl rfl rfl (by decide) 0 rfl rfl rfl rfl hl.1 rfl (Nat.le_of_ble_eq_true rfl) ⟨(Nat.le_of_ble_eq_true rfl), (Nat.le_of_ble_eq_true rfl)⟩ ⟨(Nat.le_of_ble_eq_true rfl), (Nat.le_of_ble_eq_true rfl)⟩ dX11_order_25 (fun r143 u9 H locs hp9 hw => ?_)
        obtain ⟨x144, rfl, rfl⟩ := hp9
        have hw : Wd G s A [(qm_order, eI G 6 qm_order_c), (qm_ordered, eI G 6 qm_ordered_c), (qm, .inr (10, [.int 0, .ref qm_tape, .int qm_taped, .int qm_size, .int qm_limit, .int qm_to, .int qm_from, .int qm_kind, .int qm_number, .int qm_sign, .int qm_fault, .int qm_place, .long qm_word, .int qm_told, .ref qm_now, .ref qm_read, .ref qm_kept, .ref qm_snaps, .ref qm_aside, .ref qm_name, .ref qm_readName, .ref qm_keptName, .ref qm_isKept, .ref qm_onces, .int qm_snapMany, .ref qm_order, .ref qm_ordered, .int qm_orderMany, .int qm_orderMost, .int j99, .int qm_movedWho, .int qm_scratched, .ref qm_text, .int qm_texts, .int qm_seed, .ref qm_line, .ref qm_written, .int qm_lineMany, .int qm_hasWritten, .ref qm_node, .int qm_nodes, .int qm_onesMany, .int qm_within, .int qm_top])), (qm_now, eI G 339 qm_now_c)] H _ := hw
        refine x_calliS (As := [.int r143]) (rest := []) (wr := [(qm_order, eI G 6 qm_order_c), (qm_ordered, eI G 6 qm_ordered_c), (qm, .inr (10, [.int 0, .ref qm_tape, .int qm_taped, .int qm_size, .int qm_limit, .int qm_to, .int qm_from, .int qm_kind, .int qm_number, .int qm_sign, .int qm_fault, .int qm_place, .long qm_word, .int qm_told, .ref qm_now, .ref qm_read, .ref qm_kept, .ref qm_snaps, .ref qm_aside, .ref qm_name, .ref qm_readName, .ref qm_keptName, .ref qm_isKept, .ref qm_onces, .int qm_snapMany, .ref qm_order, .ref qm_ordered, .int qm_orderMany, .int qm_orderMost, .int j99, .int qm_movedWho, .int qm_scratched, .ref qm_text, .int qm_texts, .int qm_seed, .ref qm_line, .ref qm_written, .int qm_lineMany, .int qm_hasWritten, .ref qm_node, .int qm_nodes, .int qm_onesMany, .int qm_within, .int qm_top])), (qm_now, eI G 339 qm_now_c)]) C hw (s_X11_bits r143) mwX11_bits kw1484 [] [0, 1, 2, 3] rfl rfl rfl rfl (by decide) rfl hl.1 rfl (Nat.le_of_ble_eq_true rfl) ⟨(Nat.le_of_ble_eq_true rfl), (Nat.le_of_ble_eq_true rfl)⟩ ⟨(Nat.le_of_ble_eq_true rfl), (Nat.le_of_ble_eq_true rfl)⟩ dX11_order_28 (fun r145 u9 H locs hp9 hw => ?_)
        obtain ⟨x146, rfl, rfl⟩ := hp9
        have hw : Wd G s A [(qm_order, eI G 6 qm_order_c), (qm_ordered, eI G 6 qm_ordered_c), (qm, .inr (10, [.int 0, .ref qm_tape, .int qm_taped, .int qm_size, .int qm_limit, .int qm_to, .int qm_from, .int qm_kind, .int qm_number, .int qm_sign, .int qm_fault, .int qm_place, .long qm_word, .int qm_told, .ref qm_now, .ref qm_read, .ref qm_kept, .ref qm_snaps, .ref qm_aside, .ref qm_name, .ref qm_readName, .ref qm_keptName, .ref qm_isKept, .ref qm_onces, .int qm_snapMany, .ref qm_order, .ref qm_ordered, .int qm_orderMany, .int qm_orderMost, .int j99, .int qm_movedWho, .int qm_scratched, .ref qm_text, .int qm_texts, .int qm_seed, .ref qm_line, .ref qm_written, .int qm_lineMany, .int qm_hasWritten, .ref qm_node, .int qm_nodes, .int qm_onesMany, .int qm_within, .int qm_top])), (qm_now, eI G 339 qm_now_c)] H _ := hw
        refine lv_aload_n C.1 C.2.1 dX11_order_31 rfl (lv_at hl 1 rfl) ?_
        refine x_get C hw iwX11 10 rfl 2 rfl 14 (by decide) kw1207 rfl dX11_order_32 ?_
        refine lv_iconst (v := 3) C.1 C.2.1 dX11_order_35 (by decide) ?_
        refine x_iald (v := (qm_now_c 3)) C hw 3 rfl (x_in rfl) rfl dX11_order_36 (x_gen (fun v147 => ?_))
        have J152 : ∀ (j151 : Int32), ∀ (H : Heap) (locs : List Loc) (ls : Array Slot), Wd G s A [(qm_order, eI G 6 qm_order_c), (qm_ordered, eI G 6 qm_ordered_c), (qm, .inr (10, [.int 0, .ref qm_tape, .int qm_taped, .int qm_size, .int qm_limit, .int qm_to, .int qm_from, .int qm_kind, .int qm_number, .int qm_sign, .int qm_fault, .int qm_place, .long qm_word, .int qm_told, .ref qm_now, .ref qm_read, .ref qm_kept, .ref qm_snaps, .ref qm_aside, .ref qm_name, .ref qm_readName, .ref qm_keptName, .ref qm_isKept, .ref qm_onces, .int qm_snapMany, .ref qm_order, .ref qm_ordered, .int qm_orderMany, .int qm_orderMost, .int j151, .int qm_movedWho, .int qm_scratched, .ref qm_text, .int qm_texts, .int qm_seed, .ref qm_line, .ref qm_written, .int qm_lineMany, .int qm_hasWritten, .ref qm_node, .int qm_nodes, .int qm_onesMany, .int qm_within, .int qm_top])), (qm_now, eI G 339 qm_now_c)] H locs → lv_has ls 2 [(1, .int j98), (0, .ref qm)] → W p l e (rmD 10 0 0) s m args below meth c H locs 0 0 Q (F0 m 52 ls []) := by
          intro j151  H locs ls hw hl
          obtain ⟨v154, ev154⟩ : ∃ z : Int32, j98 + 1 = z := ⟨_, rfl⟩
          have hv154 : v154.toInt = j98.toInt + 1 := by rw [← ev154]; exact i_add rfl rfl (by omega) (by omega)
          refine lv_iinc (v := v154) (lv' := [(1, .int v154), (0, .ref qm)]) C.1 C.2.1 dX11_order_52 hl (k := 0) rfl ev154 (by decide) rfl (fun ls hl => ?_)
          refine lv_goto (tgt := 12) C.1 C.2.1 dX11_order_55 (by decide) ?_
          have hw := hw.sub (w' := [(qm, .inr (10, [.int 0, .ref qm_tape, .int qm_taped, .int qm_size, .int qm_limit, .int qm_to, .int qm_from, .int qm_kind, .int qm_number, .int qm_sign, .int qm_fault, .int qm_place, .long qm_word, .int qm_told, .ref qm_now, .ref qm_read, .ref qm_kept, .ref qm_snaps, .ref qm_aside, .ref qm_name, .ref qm_readName, .ref qm_keptName, .ref qm_isKept, .ref qm_onces, .int qm_snapMany, .ref qm_order, .ref qm_ordered, .int qm_orderMany, .int qm_orderMost, .int j151, .int qm_movedWho, .int qm_scratched, .ref qm_text, .int qm_texts, .int qm_seed, .ref qm_line, .ref qm_written, .int qm_lineMany, .int qm_hasWritten, .ref qm_node, .int qm_nodes, .int qm_onesMany, .int qm_within, .int qm_top])), (qm_now, eI G 339 qm_now_c), (qm_order, eI G 6 qm_order_c), (qm_ordered, eI G 6 qm_ordered_c)]) [2, 3, 0, 1] rfl rfl
          exact ihJ100 v154 j151 (by omega) (by omega) _ _ _ hw (lv_sub hl [0, 1] rfl)
        refine lv_icmp_lt (tgt := 52) C.1 C.2.1 dX11_order_37 (by decide) (fun c148 => ?_) (fun c148 => ?_)
        · skip
          have c148 : r145.toInt < v147.toInt := i_ltT (X := r145.toInt) (Y := v147.toInt) rfl rfl c148
          have bc148_r145 := i_bd r145
          have bc148_v147 := i_bd v147
          exact J152 j99   _ _ _ hw (lv_sub hl [0, 1] rfl)
        · skip
          have c148 : v147.toInt ≤ r145.toInt := i_ltF (X := r145.toInt) (Y := v147.toInt) rfl rfl c148
          have bc148_r145 := i_bd r145
          have bc148_v147 := i_bd v147
          refine lv_aload_n C.1 C.2.1 dX11_order_40 rfl (lv_at hl 1 rfl) ?_
          refine lv_dup C.1 C.2.1 dX11_order_41 rfl ?_
          refine x_get C hw iwX11 10 rfl 2 rfl 29 (by decide) kw1222 rfl dX11_order_42 ?_
          refine lv_iconst (v := 1) C.1 C.2.1 dX11_order_45 (by decide) ?_
          refine lv_iload_n C.1 C.2.1 dX11_order_46 rfl (lv_at hl 0 rfl) ?_
          refine lv_ishl C.1 C.2.1 dX11_order_47 (x_genP (fun z : Int32 => 1 ≤ z.toInt ∧ z.toInt ≤ 256) (i_shl1 (by omega) (by omega)) (fun v155 hv155 => ?_))
          refine lv_ior C.1 C.2.1 dX11_order_48 (x_gen (fun v156 => ?_))
          refine x_put (w' := [(qm_order, eI G 6 qm_order_c), (qm_ordered, eI G 6 qm_ordered_c), (qm, .inr (10, [.int 0, .ref qm_tape, .int qm_taped, .int qm_size, .int qm_limit, .int qm_to, .int qm_from, .int qm_kind, .int qm_number, .int qm_sign, .int qm_fault, .int qm_place, .long qm_word, .int qm_told, .ref qm_now, .ref qm_read, .ref qm_kept, .ref qm_snaps, .ref qm_aside, .ref qm_name, .ref qm_readName, .ref qm_keptName, .ref qm_isKept, .ref qm_onces, .int qm_snapMany, .ref qm_order, .ref qm_ordered, .int qm_orderMany, .int qm_orderMost, .int v156, .int qm_movedWho, .int qm_scratched, .ref qm_text, .int qm_texts, .int qm_seed, .ref qm_line, .ref qm_written, .int qm_lineMany, .int qm_hasWritten, .ref qm_node, .int qm_nodes, .int qm_onesMany, .int qm_within, .int qm_top])), (qm_now, eI G 339 qm_now_c)]) C hw iwX11 tyX11_ok nmX11 10 rfl 2 rfl 29 (by decide) kw1222 rfl rfl rfl (Nat.le_of_ble_eq_true rfl) rfl dX11_order_49 (fun H locs hw => ?_)
          exact J152 v156   _ _ _ hw (lv_sub hl [0, 1] rfl)
  exact loopJ100 _ 0 0 (Nat.lt_succ_self _) (by decide) _ _ _ hw (lv_sub hl [0, 1] rfl)
theorem dX11_orderAt_0 : decode cX11_orderAt 0 = .ok (.aload_n 0, 1) := by decide +kernel
theorem dX11_orderAt_1 : decode cX11_orderAt 1 = .ok (.iconst 0, 1) := by decide +kernel
theorem dX11_orderAt_2 : decode cX11_orderAt 2 = .ok (.putfield 1, 3) := by decide +kernel
theorem dX11_orderAt_5 : decode cX11_orderAt 5 = .ok (.iload_n 1, 1) := by decide +kernel
theorem dX11_orderAt_6 : decode cX11_orderAt 6 = .ok (.iconst 0, 1) := by decide +kernel
theorem dX11_orderAt_7 : decode cX11_orderAt 7 = .ok (.aload_n 0, 1) := by decide +kernel
theorem dX11_orderAt_8 : decode cX11_orderAt 8 = .ok (.getfield 310, 3) := by decide +kernel
theorem dX11_orderAt_11 : decode cX11_orderAt 11 = .ok (.iconst 1, 1) := by decide +kernel
theorem dX11_orderAt_12 : decode cX11_orderAt 12 = .ok (.isub, 1) := by decide +kernel
theorem dX11_orderAt_13 : decode cX11_orderAt 13 = .ok (.invokestatic 75, 3) := by decide +kernel
theorem dX11_orderAt_16 : decode cX11_orderAt 16 = .ok (.ifCond .eq 12, 3) := by decide +kernel
theorem dX11_orderAt_28 : decode cX11_orderAt 28 = .ok (.iconst (-1), 1) := by decide +kernel
theorem dX11_orderAt_29 : decode cX11_orderAt 29 = .ok (.ireturn, 1) := by decide +kernel
theorem dX11_orderAt_19 : decode cX11_orderAt 19 = .ok (.aload_n 0, 1) := by decide +kernel
theorem dX11_orderAt_20 : decode cX11_orderAt 20 = .ok (.getfield 133, 3) := by decide +kernel
theorem dX11_orderAt_23 : decode cX11_orderAt 23 = .ok (.iload_n 1, 1) := by decide +kernel
theorem dX11_orderAt_24 : decode cX11_orderAt 24 = .ok (.iaload, 1) := by decide +kernel
theorem dX11_orderAt_25 : decode cX11_orderAt 25 = .ok (.goto 4, 3) := by decide +kernel
set_option maxHeartbeats 4000000 in
set_option maxRecDepth 100000 in
theorem s_X11_orderAt {l : Launch} {G : Gc} (qm : Nat) (a1 : Int32) (qm_thrown : Int32) (qm_tape : Nat) (qm_taped : Int32) (qm_size : Int32) (qm_limit : Int32) (qm_to : Int32) (qm_from : Int32) (qm_kind : Int32) (qm_number : Int32) (qm_sign : Int32) (qm_fault : Int32) (qm_place : Int32) (qm_word : Int64) (qm_told : Int32) (qm_now : Nat) (qm_read : Nat) (qm_kept : Nat) (qm_snaps : Nat) (qm_aside : Nat) (qm_name : Nat) (qm_readName : Nat) (qm_keptName : Nat) (qm_isKept : Nat) (qm_onces : Nat) (qm_snapMany : Int32) (qm_order : Nat) (qm_ordered : Nat) (qm_orderMany : Int32) (qm_orderMost : Int32) (qm_passing : Int32) (qm_movedWho : Int32) (qm_scratched : Int32) (qm_text : Nat) (qm_texts : Int32) (qm_seed : Int32) (qm_line : Nat) (qm_written : Nat) (qm_lineMany : Int32) (qm_hasWritten : Int32) (qm_node : Nat) (qm_nodes : Int32) (qm_onesMany : Int32) (qm_within : Int32) (qm_top : Int32) (qm_ordered_c : Nat → Int32) (hi_qm_orderMany : 0 ≤ qm_orderMany.toInt ∧ qm_orderMany.toInt ≤ 6) : Ci l yX11_orderAt cX11_orderAt 2 (some .int) 1 0 0 G [.ref qm, .int a1] [(qm, .inr (10, [.int qm_thrown, .ref qm_tape, .int qm_taped, .int qm_size, .int qm_limit, .int qm_to, .int qm_from, .int qm_kind, .int qm_number, .int qm_sign, .int qm_fault, .int qm_place, .long qm_word, .int qm_told, .ref qm_now, .ref qm_read, .ref qm_kept, .ref qm_snaps, .ref qm_aside, .ref qm_name, .ref qm_readName, .ref qm_keptName, .ref qm_isKept, .ref qm_onces, .int qm_snapMany, .ref qm_order, .ref qm_ordered, .int qm_orderMany, .int qm_orderMost, .int qm_passing, .int qm_movedWho, .int qm_scratched, .ref qm_text, .int qm_texts, .int qm_seed, .ref qm_line, .ref qm_written, .int qm_lineMany, .int qm_hasWritten, .ref qm_node, .int qm_nodes, .int qm_onesMany, .int qm_within, .int qm_top])), (qm_ordered, eI G 6 qm_ordered_c)] (fun (r9 : Int32) (u9 : va_W) => ∃ (r_x : Int32), r9 = r_x ∧ u9 = [(qm, .inr (10, [.int 0, .ref qm_tape, .int qm_taped, .int qm_size, .int qm_limit, .int qm_to, .int qm_from, .int qm_kind, .int qm_number, .int qm_sign, .int qm_fault, .int qm_place, .long qm_word, .int qm_told, .ref qm_now, .ref qm_read, .ref qm_kept, .ref qm_snaps, .ref qm_aside, .ref qm_name, .ref qm_readName, .ref qm_keptName, .ref qm_isKept, .ref qm_onces, .int qm_snapMany, .ref qm_order, .ref qm_ordered, .int qm_orderMany, .int qm_orderMost, .int qm_passing, .int qm_movedWho, .int qm_scratched, .ref qm_text, .int qm_texts, .int qm_seed, .ref qm_line, .ref qm_written, .int qm_lineMany, .int qm_hasWritten, .ref qm_node, .int qm_nodes, .int qm_onesMany, .int qm_within, .int qm_top])), (qm_ordered, eI G 6 qm_ordered_c)]) := by
  refine Ci.ofQ (by decide) (Nat.le_of_ble_eq_true rfl) ?_
  intro p e s m below meth c ls A args Q hQ B hw hl
  have C : CallFix p m c cX11_orderAt 2 s args gw "LanternStateModel" := B.1
  have hl : lv_has ls 2 [(0, .ref qm), (1, .int a1)] := hl
  refine lv_aload_n C.1 C.2.1 dX11_orderAt_0 rfl (lv_at hl 0 rfl) ?_
  refine lv_iconst (v := 0) C.1 C.2.1 dX11_orderAt_1 (by decide) ?_
  refine x_put (w' := [(qm, .inr (10, [.int 0, .ref qm_tape, .int qm_taped, .int qm_size, .int qm_limit, .int qm_to, .int qm_from, .int qm_kind, .int qm_number, .int qm_sign, .int qm_fault, .int qm_place, .long qm_word, .int qm_told, .ref qm_now, .ref qm_read, .ref qm_kept, .ref qm_snaps, .ref qm_aside, .ref qm_name, .ref qm_readName, .ref qm_keptName, .ref qm_isKept, .ref qm_onces, .int qm_snapMany, .ref qm_order, .ref qm_ordered, .int qm_orderMany, .int qm_orderMost, .int qm_passing, .int qm_movedWho, .int qm_scratched, .ref qm_text, .int qm_texts, .int qm_seed, .ref qm_line, .ref qm_written, .int qm_lineMany, .int qm_hasWritten, .ref qm_node, .int qm_nodes, .int qm_onesMany, .int qm_within, .int qm_top])), (qm_ordered, eI G 6 qm_ordered_c)]) C hw iwX11 tyX11_ok nmX11 10 rfl 0 rfl 0 (by decide) kw1193 rfl rfl rfl (Nat.le_of_ble_eq_true rfl) rfl dX11_orderAt_2 (fun H locs hw => ?_)
  refine lv_iload_n C.1 C.2.1 dX11_orderAt_5 rfl (lv_at hl 1 rfl) ?_
  refine lv_iconst (v := 0) C.1 C.2.1 dX11_orderAt_6 (by decide) ?_
  refine lv_aload_n C.1 C.2.1 dX11_orderAt_7 rfl (lv_at hl 0 rfl) ?_
  refine x_get C hw iwX11 10 rfl 0 rfl 27 (by decide) kw1220 rfl dX11_orderAt_8 ?_
  refine lv_iconst (v := 1) C.1 C.2.1 dX11_orderAt_11 (by decide) ?_
  refine lv_isub C.1 C.2.1 dX11_orderAt_12 (x_genP (fun z : Int32 => z.toInt = qm_orderMany.toInt - 1) (i_sub (X := qm_orderMany.toInt) (Y := 1) rfl rfl (by omega) (by omega)) (fun v1 hv1 => ?_))
  refine x_calliS (As := [.int a1, .int 0, .int v1]) (rest := []) (wr := [(qm, .inr (10, [.int 0, .ref qm_tape, .int qm_taped, .int qm_size, .int qm_limit, .int qm_to, .int qm_from, .int qm_kind, .int qm_number, .int qm_sign, .int qm_fault, .int qm_place, .long qm_word, .int qm_told, .ref qm_now, .ref qm_read, .ref qm_kept, .ref qm_snaps, .ref qm_aside, .ref qm_name, .ref qm_readName, .ref qm_keptName, .ref qm_isKept, .ref qm_onces, .int qm_snapMany, .ref qm_order, .ref qm_ordered, .int qm_orderMany, .int qm_orderMost, .int qm_passing, .int qm_movedWho, .int qm_scratched, .ref qm_text, .int qm_texts, .int qm_seed, .ref qm_line, .ref qm_written, .int qm_lineMany, .int qm_hasWritten, .ref qm_node, .int qm_nodes, .int qm_onesMany, .int qm_within, .int qm_top])), (qm_ordered, eI G 6 qm_ordered_c)]) C hw (s_X11_isIn a1 0 v1) mwX11_isIn kw1396 [] [0, 1] rfl rfl rfl rfl (by decide) rfl hl.1 rfl (Nat.le_of_ble_eq_true rfl) ⟨(Nat.le_of_ble_eq_true rfl), (Nat.le_of_ble_eq_true rfl)⟩ ⟨(Nat.le_of_ble_eq_true rfl), (Nat.le_of_ble_eq_true rfl)⟩ dX11_orderAt_13 (fun r2 u9 H locs hp9 hw => ?_)
  rcases hp9 with ⟨rfl, rfl, hf3⟩ | ⟨rfl, rfl, hf4, hf5⟩
  · skip
    have hw : Wd G s A [(qm, .inr (10, [.int 0, .ref qm_tape, .int qm_taped, .int qm_size, .int qm_limit, .int qm_to, .int qm_from, .int qm_kind, .int qm_number, .int qm_sign, .int qm_fault, .int qm_place, .long qm_word, .int qm_told, .ref qm_now, .ref qm_read, .ref qm_kept, .ref qm_snaps, .ref qm_aside, .ref qm_name, .ref qm_readName, .ref qm_keptName, .ref qm_isKept, .ref qm_onces, .int qm_snapMany, .ref qm_order, .ref qm_ordered, .int qm_orderMany, .int qm_orderMost, .int qm_passing, .int qm_movedWho, .int qm_scratched, .ref qm_text, .int qm_texts, .int qm_seed, .ref qm_line, .ref qm_written, .int qm_lineMany, .int qm_hasWritten, .ref qm_node, .int qm_nodes, .int qm_onesMany, .int qm_within, .int qm_top])), (qm_ordered, eI G 6 qm_ordered_c)] H _ := hw
    have hf3 : a1.toInt < 0 ∨ v1.toInt < a1.toInt := by first | exact hf3 | (have e0 : (0 : Int32).toInt = 0 := rfl; omega)
    refine lv_if_eq (tgt := 28) C.1 C.2.1 dX11_orderAt_16 (by decide) (fun _ => ?_) (fun h9 => absurd (by decide) h9)
    refine lv_iconst (v := (-1)) C.1 C.2.1 dX11_orderAt_28 (by decide) ?_
    exact x_retiQ hQ B hw ⟨(-1), rfl, rfl⟩ (Nat.le_of_ble_eq_true rfl) (Nat.le_of_ble_eq_true rfl) dX11_orderAt_29
  · skip
    have hw : Wd G s A [(qm, .inr (10, [.int 0, .ref qm_tape, .int qm_taped, .int qm_size, .int qm_limit, .int qm_to, .int qm_from, .int qm_kind, .int qm_number, .int qm_sign, .int qm_fault, .int qm_place, .long qm_word, .int qm_told, .ref qm_now, .ref qm_read, .ref qm_kept, .ref qm_snaps, .ref qm_aside, .ref qm_name, .ref qm_readName, .ref qm_keptName, .ref qm_isKept, .ref qm_onces, .int qm_snapMany, .ref qm_order, .ref qm_ordered, .int qm_orderMany, .int qm_orderMost, .int qm_passing, .int qm_movedWho, .int qm_scratched, .ref qm_text, .int qm_texts, .int qm_seed, .ref qm_line, .ref qm_written, .int qm_lineMany, .int qm_hasWritten, .ref qm_node, .int qm_nodes, .int qm_onesMany, .int qm_within, .int qm_top])), (qm_ordered, eI G 6 qm_ordered_c)] H _ := hw
    have hf4 : 0 ≤ a1.toInt := by first | exact hf4 | (have e0 : (0 : Int32).toInt = 0 := rfl; omega)
    refine lv_if_eq (tgt := 28) C.1 C.2.1 dX11_orderAt_16 (by decide) (fun h9 => absurd h9 (by decide)) (fun _ => ?_)
    refine lv_aload_n C.1 C.2.1 dX11_orderAt_19 rfl (lv_at hl 0 rfl) ?_
    refine x_get C hw iwX11 10 rfl 0 rfl 26 (by decide) kw1219 rfl dX11_orderAt_20 ?_
    refine lv_iload_n C.1 C.2.1 dX11_orderAt_23 rfl (lv_at hl 1 rfl) ?_
    refine x_iald (v := (qm_ordered_c a1.toNatClampNeg)) C hw 1 rfl (i_in (by omega) (by omega)) rfl dX11_orderAt_24 (x_gen (fun v6 => ?_))
    refine lv_goto (tgt := 29) C.1 C.2.1 dX11_orderAt_25 (by decide) ?_
    exact x_retiQ hQ B hw ⟨v6, rfl, rfl⟩ (Nat.le_of_ble_eq_true rfl) (Nat.le_of_ble_eq_true rfl) dX11_orderAt_29
theorem dX11_moved_0 : decode cX11_moved 0 = .ok (.aload_n 0, 1) := by decide +kernel
theorem dX11_moved_1 : decode cX11_moved 1 = .ok (.iconst 0, 1) := by decide +kernel
theorem dX11_moved_2 : decode cX11_moved 2 = .ok (.putfield 1, 3) := by decide +kernel
theorem dX11_moved_5 : decode cX11_moved 5 = .ok (.aload_n 0, 1) := by decide +kernel
theorem dX11_moved_6 : decode cX11_moved 6 = .ok (.iload_n 1, 1) := by decide +kernel
theorem dX11_moved_7 : decode cX11_moved 7 = .ok (.invokevirtual 237, 3) := by decide +kernel
theorem dX11_moved_10 : decode cX11_moved 10 = .ok (.ifCond .eq 12, 3) := by decide +kernel
theorem dX11_moved_22 : decode cX11_moved 22 = .ok (.iconst (-1), 1) := by decide +kernel
theorem dX11_moved_23 : decode cX11_moved 23 = .ok (.ireturn, 1) := by decide +kernel
theorem dX11_moved_13 : decode cX11_moved 13 = .ok (.iload_n 2, 1) := by decide +kernel
theorem dX11_moved_14 : decode cX11_moved 14 = .ok (.iconst 0, 1) := by decide +kernel
theorem dX11_moved_15 : decode cX11_moved 15 = .ok (.iconst 3, 1) := by decide +kernel
theorem dX11_moved_16 : decode cX11_moved 16 = .ok (.invokestatic 75, 3) := by decide +kernel
theorem dX11_moved_19 : decode cX11_moved 19 = .ok (.ifCond .ne 5, 3) := by decide +kernel
theorem dX11_moved_24 : decode cX11_moved 24 = .ok (.aload_n 0, 1) := by decide +kernel
theorem dX11_moved_25 : decode cX11_moved 25 = .ok (.getfield 98, 3) := by decide +kernel
theorem dX11_moved_28 : decode cX11_moved 28 = .ok (.bipush 69, 2) := by decide +kernel
theorem dX11_moved_30 : decode cX11_moved 30 = .ok (.iload_n 1, 1) := by decide +kernel
theorem dX11_moved_31 : decode cX11_moved 31 = .ok (.iadd, 1) := by decide +kernel
theorem dX11_moved_32 : decode cX11_moved 32 = .ok (.iaload, 1) := by decide +kernel
theorem dX11_moved_33 : decode cX11_moved 33 = .ok (.iload_n 2, 1) := by decide +kernel
theorem dX11_moved_34 : decode cX11_moved 34 = .ok (.invokestatic 234, 3) := by decide +kernel
theorem dX11_moved_37 : decode cX11_moved 37 = .ok (.istore_n 3, 1) := by decide +kernel
theorem dX11_moved_38 : decode cX11_moved 38 = .ok (.iconst (-1), 1) := by decide +kernel
theorem dX11_moved_39 : decode cX11_moved 39 = .ok (.istore 4, 2) := by decide +kernel
theorem dX11_moved_41 : decode cX11_moved 41 = .ok (.iconst 0, 1) := by decide +kernel
theorem dX11_moved_42 : decode cX11_moved 42 = .ok (.istore 5, 2) := by decide +kernel
theorem dX11_moved_44 : decode cX11_moved 44 = .ok (.iload 5, 2) := by decide +kernel
theorem dX11_moved_46 : decode cX11_moved 46 = .ok (.iconst 1, 1) := by decide +kernel
theorem dX11_moved_47 : decode cX11_moved 47 = .ok (.aload_n 0, 1) := by decide +kernel
theorem dX11_moved_48 : decode cX11_moved 48 = .ok (.getfield 98, 3) := by decide +kernel
theorem dX11_moved_51 : decode cX11_moved 51 = .ok (.iconst 1, 1) := by decide +kernel
theorem dX11_moved_52 : decode cX11_moved 52 = .ok (.iaload, 1) := by decide +kernel
theorem dX11_moved_53 : decode cX11_moved 53 = .ok (.ishl, 1) := by decide +kernel
theorem dX11_moved_54 : decode cX11_moved 54 = .ok (.if_icmp .ge 59, 3) := by decide +kernel
theorem dX11_moved_57 : decode cX11_moved 57 = .ok (.iload 4, 2) := by decide +kernel
theorem dX11_moved_59 : decode cX11_moved 59 = .ok (.iconst (-1), 1) := by decide +kernel
theorem dX11_moved_60 : decode cX11_moved 60 = .ok (.if_icmp .eq 19, 3) := by decide +kernel
theorem dX11_moved_79 : decode cX11_moved 79 = .ok (.aload_n 0, 1) := by decide +kernel
theorem dX11_moved_80 : decode cX11_moved 80 = .ok (.iload_n 3, 1) := by decide +kernel
theorem dX11_moved_81 : decode cX11_moved 81 = .ok (.aload_n 0, 1) := by decide +kernel
theorem dX11_moved_82 : decode cX11_moved 82 = .ok (.invokevirtual 261, 3) := by decide +kernel
theorem dX11_moved_85 : decode cX11_moved 85 = .ok (.iload 5, 2) := by decide +kernel
theorem dX11_moved_87 : decode cX11_moved 87 = .ok (.ixor, 1) := by decide +kernel
theorem dX11_moved_88 : decode cX11_moved 88 = .ok (.invokevirtual 273, 3) := by decide +kernel
theorem dX11_moved_91 : decode cX11_moved 91 = .ok (.invokestatic 252, 3) := by decide +kernel
theorem dX11_moved_94 : decode cX11_moved 94 = .ok (.aload_n 0, 1) := by decide +kernel
theorem dX11_moved_95 : decode cX11_moved 95 = .ok (.getfield 98, 3) := by decide +kernel
theorem dX11_moved_98 : decode cX11_moved 98 = .ok (.iconst 3, 1) := by decide +kernel
theorem dX11_moved_99 : decode cX11_moved 99 = .ok (.iaload, 1) := by decide +kernel
theorem dX11_moved_100 : decode cX11_moved 100 = .ok (.if_icmp .lt 7, 3) := by decide +kernel
theorem dX11_moved_107 : decode cX11_moved 107 = .ok (.iinc 5 1, 3) := by decide +kernel
theorem dX11_moved_110 : decode cX11_moved 110 = .ok (.goto (-66), 3) := by decide +kernel
theorem dX11_moved_103 : decode cX11_moved 103 = .ok (.iload 5, 2) := by decide +kernel
theorem dX11_moved_105 : decode cX11_moved 105 = .ok (.istore 4, 2) := by decide +kernel
theorem dX11_moved_63 : decode cX11_moved 63 = .ok (.iload 5, 2) := by decide +kernel
theorem dX11_moved_65 : decode cX11_moved 65 = .ok (.invokestatic 252, 3) := by decide +kernel
theorem dX11_moved_68 : decode cX11_moved 68 = .ok (.iload 4, 2) := by decide +kernel
theorem dX11_moved_70 : decode cX11_moved 70 = .ok (.invokestatic 252, 3) := by decide +kernel
theorem dX11_moved_73 : decode cX11_moved 73 = .ok (.if_icmp .lt 6, 3) := by decide +kernel
theorem dX11_moved_76 : decode cX11_moved 76 = .ok (.goto 31, 3) := by decide +kernel
theorem dX11_moved_113 : decode cX11_moved 113 = .ok (.iload 4, 2) := by decide +kernel
theorem dX11_moved_115 : decode cX11_moved 115 = .ok (.iconst (-1), 1) := by decide +kernel
theorem dX11_moved_116 : decode cX11_moved 116 = .ok (.if_icmp .ne 5, 3) := by decide +kernel
theorem dX11_moved_121 : decode cX11_moved 121 = .ok (.aload_n 0, 1) := by decide +kernel
theorem dX11_moved_122 : decode cX11_moved 122 = .ok (.iload 4, 2) := by decide +kernel
theorem dX11_moved_124 : decode cX11_moved 124 = .ok (.putfield 136, 3) := by decide +kernel
theorem dX11_moved_127 : decode cX11_moved 127 = .ok (.iload 4, 2) := by decide +kernel
theorem dX11_moved_129 : decode cX11_moved 129 = .ok (.invokestatic 252, 3) := by decide +kernel
theorem dX11_moved_132 : decode cX11_moved 132 = .ok (.ireturn, 1) := by decide +kernel
theorem dX11_moved_119 : decode cX11_moved 119 = .ok (.iconst (-1), 1) := by decide +kernel
theorem dX11_moved_120 : decode cX11_moved 120 = .ok (.ireturn, 1) := by decide +kernel
set_option maxHeartbeats 4000000 in
set_option maxRecDepth 100000 in
theorem s_X11_moved {l : Launch} {G : Gc} (qm : Nat) (a1 : Int32) (a2 : Int32) (qm_thrown : Int32) (qm_tape : Nat) (qm_taped : Int32) (qm_size : Int32) (qm_limit : Int32) (qm_to : Int32) (qm_from : Int32) (qm_kind : Int32) (qm_number : Int32) (qm_sign : Int32) (qm_fault : Int32) (qm_place : Int32) (qm_word : Int64) (qm_told : Int32) (qm_now : Nat) (qm_read : Nat) (qm_kept : Nat) (qm_snaps : Nat) (qm_aside : Nat) (qm_name : Nat) (qm_readName : Nat) (qm_keptName : Nat) (qm_isKept : Nat) (qm_onces : Nat) (qm_snapMany : Int32) (qm_order : Nat) (qm_ordered : Nat) (qm_orderMany : Int32) (qm_orderMost : Int32) (qm_passing : Int32) (qm_movedWho : Int32) (qm_scratched : Int32) (qm_text : Nat) (qm_texts : Int32) (qm_seed : Int32) (qm_line : Nat) (qm_written : Nat) (qm_lineMany : Int32) (qm_hasWritten : Int32) (qm_node : Nat) (qm_nodes : Int32) (qm_onesMany : Int32) (qm_within : Int32) (qm_top : Int32) (qm_now_c : Nat → Int32) (hf_qm_now_c : slI qm_now_c) (hf1_qm_now_c : trI qm_now_c) : Ci l yX11_moved cX11_moved 6 (some .int) 3 0 0 G [.ref qm, .int a1, .int a2] [(qm, .inr (10, [.int qm_thrown, .ref qm_tape, .int qm_taped, .int qm_size, .int qm_limit, .int qm_to, .int qm_from, .int qm_kind, .int qm_number, .int qm_sign, .int qm_fault, .int qm_place, .long qm_word, .int qm_told, .ref qm_now, .ref qm_read, .ref qm_kept, .ref qm_snaps, .ref qm_aside, .ref qm_name, .ref qm_readName, .ref qm_keptName, .ref qm_isKept, .ref qm_onces, .int qm_snapMany, .ref qm_order, .ref qm_ordered, .int qm_orderMany, .int qm_orderMost, .int qm_passing, .int qm_movedWho, .int qm_scratched, .ref qm_text, .int qm_texts, .int qm_seed, .ref qm_line, .ref qm_written, .int qm_lineMany, .int qm_hasWritten, .ref qm_node, .int qm_nodes, .int qm_onesMany, .int qm_within, .int qm_top])), (qm_now, eI G 339 qm_now_c)] (fun (r9 : Int32) (u9 : va_W) => ∃ (x0_qm_movedWho : Int32) (r_x : Int32), r9 = r_x ∧ u9 = [(qm, .inr (10, [.int 0, .ref qm_tape, .int qm_taped, .int qm_size, .int qm_limit, .int qm_to, .int qm_from, .int qm_kind, .int qm_number, .int qm_sign, .int qm_fault, .int qm_place, .long qm_word, .int qm_told, .ref qm_now, .ref qm_read, .ref qm_kept, .ref qm_snaps, .ref qm_aside, .ref qm_name, .ref qm_readName, .ref qm_keptName, .ref qm_isKept, .ref qm_onces, .int qm_snapMany, .ref qm_order, .ref qm_ordered, .int qm_orderMany, .int qm_orderMost, .int qm_passing, .int x0_qm_movedWho, .int qm_scratched, .ref qm_text, .int qm_texts, .int qm_seed, .ref qm_line, .ref qm_written, .int qm_lineMany, .int qm_hasWritten, .ref qm_node, .int qm_nodes, .int qm_onesMany, .int qm_within, .int qm_top])), (qm_now, eI G 339 qm_now_c)]) := by
  refine Ci.ofQ (by decide) (Nat.le_of_ble_eq_true rfl) ?_
  intro p e s m below meth c ls A args Q hQ B hw hl
  have C : CallFix p m c cX11_moved 6 s args gw "LanternStateModel" := B.1
  have hl : lv_has ls 6 [(0, .ref qm), (1, .int a1), (2, .int a2)] := hl
  refine lv_aload_n C.1 C.2.1 dX11_moved_0 rfl (lv_at hl 0 rfl) ?_
  refine lv_iconst (v := 0) C.1 C.2.1 dX11_moved_1 (by decide) ?_
  refine x_put (w' := [(qm, .inr (10, [.int 0, .ref qm_tape, .int qm_taped, .int qm_size, .int qm_limit, .int qm_to, .int qm_from, .int qm_kind, .int qm_number, .int qm_sign, .int qm_fault, .int qm_place, .long qm_word, .int qm_told, .ref qm_now, .ref qm_read, .ref qm_kept, .ref qm_snaps, .ref qm_aside, .ref qm_name, .ref qm_readName, .ref qm_keptName, .ref qm_isKept, .ref qm_onces, .int qm_snapMany, .ref qm_order, .ref qm_ordered, .int qm_orderMany, .int qm_orderMost, .int qm_passing, .int qm_movedWho, .int qm_scratched, .ref qm_text, .int qm_texts, .int qm_seed, .ref qm_line, .ref qm_written, .int qm_lineMany, .int qm_hasWritten, .ref qm_node, .int qm_nodes, .int qm_onesMany, .int qm_within, .int qm_top])), (qm_now, eI G 339 qm_now_c)]) C hw iwX11 tyX11_ok nmX11 10 rfl 0 rfl 0 (by decide) kw1193 rfl rfl rfl (Nat.le_of_ble_eq_true rfl) rfl dX11_moved_2 (fun H locs hw => ?_)
  refine lv_aload_n C.1 C.2.1 dX11_moved_5 rfl (lv_at hl 0 rfl) ?_
  refine lv_iload_n C.1 C.2.1 dX11_moved_6 rfl (lv_at hl 1 rfl) ?_
  refine x_calliV (As := [.int a1]) (rest := []) (wr := []) C hw (s_X11_isSlide qm a1 0 qm_tape qm_taped qm_size qm_limit qm_to qm_from qm_kind qm_number qm_sign qm_fault qm_place qm_word qm_told qm_now qm_read qm_kept qm_snaps qm_aside qm_name qm_readName qm_keptName qm_isKept qm_onces qm_snapMany qm_order qm_ordered qm_orderMany qm_orderMost qm_passing qm_movedWho qm_scratched qm_text qm_texts qm_seed qm_line qm_written qm_lineMany qm_hasWritten qm_node qm_nodes qm_onesMany qm_within qm_top qm_now_c hf_qm_now_c hf1_qm_now_c) mwX11_isSlide kw1465 [0, 1] [] rfl rfl rfl rfl (by decide) 0 rfl rfl rfl rfl hl.1 rfl (Nat.le_of_ble_eq_true rfl) ⟨(Nat.le_of_ble_eq_true rfl), (Nat.le_of_ble_eq_true rfl)⟩ ⟨(Nat.le_of_ble_eq_true rfl), (Nat.le_of_ble_eq_true rfl)⟩ dX11_moved_7 (fun r1 u9 H locs hp9 hw => ?_)
  rcases hp9 with ⟨rfl, rfl⟩ | ⟨rfl, rfl, hf2, hf3⟩
  · skip
    have hw : Wd G s A [(qm, .inr (10, [.int 0, .ref qm_tape, .int qm_taped, .int qm_size, .int qm_limit, .int qm_to, .int qm_from, .int qm_kind, .int qm_number, .int qm_sign, .int qm_fault, .int qm_place, .long qm_word, .int qm_told, .ref qm_now, .ref qm_read, .ref qm_kept, .ref qm_snaps, .ref qm_aside, .ref qm_name, .ref qm_readName, .ref qm_keptName, .ref qm_isKept, .ref qm_onces, .int qm_snapMany, .ref qm_order, .ref qm_ordered, .int qm_orderMany, .int qm_orderMost, .int qm_passing, .int qm_movedWho, .int qm_scratched, .ref qm_text, .int qm_texts, .int qm_seed, .ref qm_line, .ref qm_written, .int qm_lineMany, .int qm_hasWritten, .ref qm_node, .int qm_nodes, .int qm_onesMany, .int qm_within, .int qm_top])), (qm_now, eI G 339 qm_now_c)] H _ := hw
    refine lv_if_eq (tgt := 22) C.1 C.2.1 dX11_moved_10 (by decide) (fun _ => ?_) (fun h9 => absurd (by decide) h9)
    refine lv_iconst (v := (-1)) C.1 C.2.1 dX11_moved_22 (by decide) ?_
    exact x_retiQ hQ B hw ⟨qm_movedWho, (-1), rfl, rfl⟩ (Nat.le_of_ble_eq_true rfl) (Nat.le_of_ble_eq_true rfl) dX11_moved_23
  · skip
    have hw : Wd G s A [(qm, .inr (10, [.int 0, .ref qm_tape, .int qm_taped, .int qm_size, .int qm_limit, .int qm_to, .int qm_from, .int qm_kind, .int qm_number, .int qm_sign, .int qm_fault, .int qm_place, .long qm_word, .int qm_told, .ref qm_now, .ref qm_read, .ref qm_kept, .ref qm_snaps, .ref qm_aside, .ref qm_name, .ref qm_readName, .ref qm_keptName, .ref qm_isKept, .ref qm_onces, .int qm_snapMany, .ref qm_order, .ref qm_ordered, .int qm_orderMany, .int qm_orderMost, .int qm_passing, .int qm_movedWho, .int qm_scratched, .ref qm_text, .int qm_texts, .int qm_seed, .ref qm_line, .ref qm_written, .int qm_lineMany, .int qm_hasWritten, .ref qm_node, .int qm_nodes, .int qm_onesMany, .int qm_within, .int qm_top])), (qm_now, eI G 339 qm_now_c)] H _ := hw
    refine lv_if_eq (tgt := 22) C.1 C.2.1 dX11_moved_10 (by decide) (fun h9 => absurd h9 (by decide)) (fun _ => ?_)
    refine lv_iload_n C.1 C.2.1 dX11_moved_13 rfl (lv_at hl 2 rfl) ?_
    refine lv_iconst (v := 0) C.1 C.2.1 dX11_moved_14 (by decide) ?_
    refine lv_iconst (v := 3) C.1 C.2.1 dX11_moved_15 (by decide) ?_
    refine x_calliS (As := [.int a2, .int 0, .int 3]) (rest := []) (wr := [(qm, .inr (10, [.int 0, .ref qm_tape, .int qm_taped, .int qm_size, .int qm_limit, .int qm_to, .int qm_from, .int qm_kind, .int qm_number, .int qm_sign, .int qm_fault, .int qm_place, .long qm_word, .int qm_told, .ref qm_now, .ref qm_read, .ref qm_kept, .ref qm_snaps, .ref qm_aside, .ref qm_name, .ref qm_readName, .ref qm_keptName, .ref qm_isKept, .ref qm_onces, .int qm_snapMany, .ref qm_order, .ref qm_ordered, .int qm_orderMany, .int qm_orderMost, .int qm_passing, .int qm_movedWho, .int qm_scratched, .ref qm_text, .int qm_texts, .int qm_seed, .ref qm_line, .ref qm_written, .int qm_lineMany, .int qm_hasWritten, .ref qm_node, .int qm_nodes, .int qm_onesMany, .int qm_within, .int qm_top])), (qm_now, eI G 339 qm_now_c)]) C hw (s_X11_isIn a2 0 3) mwX11_isIn kw1396 [] [0, 1] rfl rfl rfl rfl (by decide) rfl hl.1 rfl (Nat.le_of_ble_eq_true rfl) ⟨(Nat.le_of_ble_eq_true rfl), (Nat.le_of_ble_eq_true rfl)⟩ ⟨(Nat.le_of_ble_eq_true rfl), (Nat.le_of_ble_eq_true rfl)⟩ dX11_moved_16 (fun r4 u9 H locs hp9 hw => ?_)
    rcases hp9 with ⟨rfl, rfl, hf5⟩ | ⟨rfl, rfl, hf6, hf7⟩
    · skip
      have hw : Wd G s A [(qm, .inr (10, [.int 0, .ref qm_tape, .int qm_taped, .int qm_size, .int qm_limit, .int qm_to, .int qm_from, .int qm_kind, .int qm_number, .int qm_sign, .int qm_fault, .int qm_place, .long qm_word, .int qm_told, .ref qm_now, .ref qm_read, .ref qm_kept, .ref qm_snaps, .ref qm_aside, .ref qm_name, .ref qm_readName, .ref qm_keptName, .ref qm_isKept, .ref qm_onces, .int qm_snapMany, .ref qm_order, .ref qm_ordered, .int qm_orderMany, .int qm_orderMost, .int qm_passing, .int qm_movedWho, .int qm_scratched, .ref qm_text, .int qm_texts, .int qm_seed, .ref qm_line, .ref qm_written, .int qm_lineMany, .int qm_hasWritten, .ref qm_node, .int qm_nodes, .int qm_onesMany, .int qm_within, .int qm_top])), (qm_now, eI G 339 qm_now_c)] H _ := hw
      have hf5 : a2.toInt < 0 ∨ 3 < a2.toInt := by first | exact hf5 | (have e0 : (0 : Int32).toInt = 0 := rfl; have e1 : (3 : Int32).toInt = 3 := rfl; omega)
      refine lv_if_ne (tgt := 24) C.1 C.2.1 dX11_moved_19 (by decide) (fun h9 => absurd (by decide) h9) (fun _ => ?_)
      refine lv_iconst (v := (-1)) C.1 C.2.1 dX11_moved_22 (by decide) ?_
      exact x_retiQ hQ B hw ⟨qm_movedWho, (-1), rfl, rfl⟩ (Nat.le_of_ble_eq_true rfl) (Nat.le_of_ble_eq_true rfl) dX11_moved_23
    · skip
      have hw : Wd G s A [(qm, .inr (10, [.int 0, .ref qm_tape, .int qm_taped, .int qm_size, .int qm_limit, .int qm_to, .int qm_from, .int qm_kind, .int qm_number, .int qm_sign, .int qm_fault, .int qm_place, .long qm_word, .int qm_told, .ref qm_now, .ref qm_read, .ref qm_kept, .ref qm_snaps, .ref qm_aside, .ref qm_name, .ref qm_readName, .ref qm_keptName, .ref qm_isKept, .ref qm_onces, .int qm_snapMany, .ref qm_order, .ref qm_ordered, .int qm_orderMany, .int qm_orderMost, .int qm_passing, .int qm_movedWho, .int qm_scratched, .ref qm_text, .int qm_texts, .int qm_seed, .ref qm_line, .ref qm_written, .int qm_lineMany, .int qm_hasWritten, .ref qm_node, .int qm_nodes, .int qm_onesMany, .int qm_within, .int qm_top])), (qm_now, eI G 339 qm_now_c)] H _ := hw
      have hf6 : 0 ≤ a2.toInt := by first | exact hf6 | (have e0 : (0 : Int32).toInt = 0 := rfl; omega)
      have hf7 : a2.toInt ≤ 3 := by first | exact hf7 | (have e0 : (3 : Int32).toInt = 3 := rfl; omega)
      refine lv_if_ne (tgt := 24) C.1 C.2.1 dX11_moved_19 (by decide) (fun _ => ?_) (fun h9 => absurd h9 (by decide))
      refine lv_aload_n C.1 C.2.1 dX11_moved_24 rfl (lv_at hl 0 rfl) ?_
      refine x_get C hw iwX11 10 rfl 0 rfl 14 (by decide) kw1207 rfl dX11_moved_25 ?_
      refine lv_bipush (v := 69) C.1 C.2.1 dX11_moved_28 (by decide) ?_
      refine lv_iload_n C.1 C.2.1 dX11_moved_30 rfl (lv_at hl 1 rfl) ?_
      refine lv_iadd C.1 C.2.1 dX11_moved_31 (x_genP (fun z : Int32 => z.toInt = 69 + a1.toInt) (i_add (X := 69) (Y := a1.toInt) rfl rfl (by omega) (by omega)) (fun v8 hv8 => ?_))
      refine x_iald (v := (qm_now_c v8.toNatClampNeg)) C hw 1 rfl (i_in (by omega) (by omega)) rfl dX11_moved_32 (x_gen (fun v9 => ?_))
      refine lv_iload_n C.1 C.2.1 dX11_moved_33 rfl (lv_at hl 2 rfl) ?_
      refine x_calliS (As := [.int v9, .int a2]) (rest := []) (wr := [(qm, .inr (10, [.int 0, .ref qm_tape, .int qm_taped, .int qm_size, .int qm_limit, .int qm_to, .int qm_from, .int qm_kind, .int qm_number, .int qm_sign, .int qm_fault, .int qm_place, .long qm_word, .int qm_told, .ref qm_now, .ref qm_read, .ref qm_kept, .ref qm_snaps, .ref qm_aside, .ref qm_name, .ref qm_readName, .ref qm_keptName, .ref qm_isKept, .ref qm_onces, .int qm_snapMany, .ref qm_order, .ref qm_ordered, .int qm_orderMany, .int qm_orderMost, .int qm_passing, .int qm_movedWho, .int qm_scratched, .ref qm_text, .int qm_texts, .int qm_seed, .ref qm_line, .ref qm_written, .int qm_lineMany, .int qm_hasWritten, .ref qm_node, .int qm_nodes, .int qm_onesMany, .int qm_within, .int qm_top])), (qm_now, eI G 339 qm_now_c)]) C hw (s_X11_turned v9 a2) mwX11_turned kw1491 [] [0, 1] rfl rfl rfl rfl (by decide) rfl hl.1 rfl (Nat.le_of_ble_eq_true rfl) ⟨(Nat.le_of_ble_eq_true rfl), (Nat.le_of_ble_eq_true rfl)⟩ ⟨(Nat.le_of_ble_eq_true rfl), (Nat.le_of_ble_eq_true rfl)⟩ dX11_moved_34 (fun r10 u9 H locs hp9 hw => ?_)
      obtain ⟨x11, rfl, rfl⟩ := hp9
      have hw : Wd G s A [(qm, .inr (10, [.int 0, .ref qm_tape, .int qm_taped, .int qm_size, .int qm_limit, .int qm_to, .int qm_from, .int qm_kind, .int qm_number, .int qm_sign, .int qm_fault, .int qm_place, .long qm_word, .int qm_told, .ref qm_now, .ref qm_read, .ref qm_kept, .ref qm_snaps, .ref qm_aside, .ref qm_name, .ref qm_readName, .ref qm_keptName, .ref qm_isKept, .ref qm_onces, .int qm_snapMany, .ref qm_order, .ref qm_ordered, .int qm_orderMany, .int qm_orderMost, .int qm_passing, .int qm_movedWho, .int qm_scratched, .ref qm_text, .int qm_texts, .int qm_seed, .ref qm_line, .ref qm_written, .int qm_lineMany, .int qm_hasWritten, .ref qm_node, .int qm_nodes, .int qm_onesMany, .int qm_within, .int qm_top])), (qm_now, eI G 339 qm_now_c)] H _ := hw
      refine lv_istore_n (lv' := [(3, .int r10), (0, .ref qm), (1, .int a1), (2, .int a2)]) C.1 C.2.1 dX11_moved_37 rfl hl (by decide) rfl (fun ls hl => ?_)
      refine lv_iconst (v := (-1)) C.1 C.2.1 dX11_moved_38 (by decide) ?_
      refine lv_istore (lv' := [(4, .int (-1)), (3, .int r10), (0, .ref qm), (1, .int a1), (2, .int a2)]) C.1 C.2.1 dX11_moved_39 hl (by decide) rfl (fun ls hl => ?_)
      refine lv_iconst (v := 0) C.1 C.2.1 dX11_moved_41 (by decide) ?_
      refine lv_istore (lv' := [(5, .int 0), (4, .int (-1)), (3, .int r10), (0, .ref qm), (1, .int a1), (2, .int a2)]) C.1 C.2.1 dX11_moved_42 hl (by decide) rfl (fun ls hl => ?_)
      have loopJ603 : ∀ (n9 : Nat) (j601 : Int32) (j602 : Int32), (2147483647 - j601.toInt).toNat < n9 → (0 ≤ j601.toInt ∧ j601.toInt ≤ 256) → ((-1) ≤ j602.toInt ∧ j602.toInt ≤ 255) → ∀ (H : Heap) (locs : List Loc) (ls : Array Slot), Wd G s A [(qm, .inr (10, [.int 0, .ref qm_tape, .int qm_taped, .int qm_size, .int qm_limit, .int qm_to, .int qm_from, .int qm_kind, .int qm_number, .int qm_sign, .int qm_fault, .int qm_place, .long qm_word, .int qm_told, .ref qm_now, .ref qm_read, .ref qm_kept, .ref qm_snaps, .ref qm_aside, .ref qm_name, .ref qm_readName, .ref qm_keptName, .ref qm_isKept, .ref qm_onces, .int qm_snapMany, .ref qm_order, .ref qm_ordered, .int qm_orderMany, .int qm_orderMost, .int qm_passing, .int qm_movedWho, .int qm_scratched, .ref qm_text, .int qm_texts, .int qm_seed, .ref qm_line, .ref qm_written, .int qm_lineMany, .int qm_hasWritten, .ref qm_node, .int qm_nodes, .int qm_onesMany, .int qm_within, .int qm_top])), (qm_now, eI G 339 qm_now_c)] H locs → lv_has ls 6 [(5, .int j601), (4, .int j602), (3, .int r10), (0, .ref qm)] → W p l e (rmD 3 0 0) s m args below meth c H locs 0 0 Q (F0 m 44 ls []) := by
        intro n9
        induction n9 with
        | zero => intro j601 j602 h9; exact absurd h9 (Nat.not_lt_zero _)
        | succ n9 ihJ603 =>
          intro j601 j602 h9J603 hJ603_0 hJ603_1 H locs ls hw hl
          have hbj601 := i_bd j601
          refine lv_iload C.1 C.2.1 dX11_moved_44 (lv_at hl 0 rfl) ?_
          refine lv_iconst (v := 1) C.1 C.2.1 dX11_moved_46 (by decide) ?_
          refine lv_aload_n C.1 C.2.1 dX11_moved_47 rfl (lv_at hl 3 rfl) ?_
          refine x_get C hw iwX11 10 rfl 0 rfl 14 (by decide) kw1207 rfl dX11_moved_48 ?_
          refine lv_iconst (v := 1) C.1 C.2.1 dX11_moved_51 (by decide) ?_
          have mm627 := hf_qm_now_c 1
          refine x_iald (v := (qm_now_c 1)) C hw 1 rfl (x_in rfl) rfl dX11_moved_52 (x_genP (fun z : Int32 => z.toInt = (qm_now_c 1).toInt ∧ 0 ≤ z.toInt ∧ z.toInt ≤ 8) ⟨rfl, by omega⟩ (fun v628 hv628 => ?_))
          refine lv_ishl C.1 C.2.1 dX11_moved_53 (x_genP (fun z : Int32 => 1 ≤ z.toInt ∧ z.toInt ≤ 256) (i_shl1 (by omega) (by omega)) (fun v629 hv629 => ?_))
          refine lv_icmp_ge (tgt := 113) C.1 C.2.1 dX11_moved_54 (by decide) (fun c630 => ?_) (fun c630 => ?_)
          · skip
            have c630 : v629.toInt ≤ j601.toInt := i_leT (X := v629.toInt) (Y := j601.toInt) rfl rfl c630
            refine lv_iload C.1 C.2.1 dX11_moved_113 (lv_at hl 1 rfl) ?_
            refine lv_iconst (v := (-1)) C.1 C.2.1 dX11_moved_115 (by decide) ?_
            refine lv_icmp_ne (tgt := 121) C.1 C.2.1 dX11_moved_116 (by decide) (fun c631 => ?_) (fun c631 => ?_)
            · skip
              have c631 : j602.toInt ≠ (-1) := i_eqF (X := j602.toInt) (Y := (-1)) rfl rfl c631
              refine lv_aload_n C.1 C.2.1 dX11_moved_121 rfl (lv_at hl 3 rfl) ?_
              refine lv_iload C.1 C.2.1 dX11_moved_122 (lv_at hl 1 rfl) ?_
              refine x_put (w' := [(qm, .inr (10, [.int 0, .ref qm_tape, .int qm_taped, .int qm_size, .int qm_limit, .int qm_to, .int qm_from, .int qm_kind, .int qm_number, .int qm_sign, .int qm_fault, .int qm_place, .long qm_word, .int qm_told, .ref qm_now, .ref qm_read, .ref qm_kept, .ref qm_snaps, .ref qm_aside, .ref qm_name, .ref qm_readName, .ref qm_keptName, .ref qm_isKept, .ref qm_onces, .int qm_snapMany, .ref qm_order, .ref qm_ordered, .int qm_orderMany, .int qm_orderMost, .int qm_passing, .int j602, .int qm_scratched, .ref qm_text, .int qm_texts, .int qm_seed, .ref qm_line, .ref qm_written, .int qm_lineMany, .int qm_hasWritten, .ref qm_node, .int qm_nodes, .int qm_onesMany, .int qm_within, .int qm_top])), (qm_now, eI G 339 qm_now_c)]) C hw iwX11 tyX11_ok nmX11 10 rfl 0 rfl 30 (by decide) kw1223 rfl rfl rfl (Nat.le_of_ble_eq_true rfl) rfl dX11_moved_124 (fun H locs hw => ?_)
              refine lv_iload C.1 C.2.1 dX11_moved_127 (lv_at hl 1 rfl) ?_
              refine x_calliS (As := [.int j602]) (rest := []) (wr := [(qm, .inr (10, [.int 0, .ref qm_tape, .int qm_taped, .int qm_size, .int qm_limit, .int qm_to, .int qm_from, .int qm_kind, .int qm_number, .int qm_sign, .int qm_fault, .int qm_place, .long qm_word, .int qm_told, .ref qm_now, .ref qm_read, .ref qm_kept, .ref qm_snaps, .ref qm_aside, .ref qm_name, .ref qm_readName, .ref qm_keptName, .ref qm_isKept, .ref qm_onces, .int qm_snapMany, .ref qm_order, .ref qm_ordered, .int qm_orderMany, .int qm_orderMost, .int qm_passing, .int j602, .int qm_scratched, .ref qm_text, .int qm_texts, .int qm_seed, .ref qm_line, .ref qm_written, .int qm_lineMany, .int qm_hasWritten, .ref qm_node, .int qm_nodes, .int qm_onesMany, .int qm_within, .int qm_top])), (qm_now, eI G 339 qm_now_c)]) C hw (s_X11_bits j602) mwX11_bits kw1484 [] [0, 1] rfl rfl rfl rfl (by decide) rfl hl.1 rfl (Nat.le_of_ble_eq_true rfl) ⟨(Nat.le_of_ble_eq_true rfl), (Nat.le_of_ble_eq_true rfl)⟩ ⟨(Nat.le_of_ble_eq_true rfl), (Nat.le_of_ble_eq_true rfl)⟩ dX11_moved_129 (fun r632 u9 H locs hp9 hw => ?_)
              obtain ⟨x633, rfl, rfl⟩ := hp9
              have hw : Wd G s A [(qm, .inr (10, [.int 0, .ref qm_tape, .int qm_taped, .int qm_size, .int qm_limit, .int qm_to, .int qm_from, .int qm_kind, .int qm_number, .int qm_sign, .int qm_fault, .int qm_place, .long qm_word, .int qm_told, .ref qm_now, .ref qm_read, .ref qm_kept, .ref qm_snaps, .ref qm_aside, .ref qm_name, .ref qm_readName, .ref qm_keptName, .ref qm_isKept, .ref qm_onces, .int qm_snapMany, .ref qm_order, .ref qm_ordered, .int qm_orderMany, .int qm_orderMost, .int qm_passing, .int j602, .int qm_scratched, .ref qm_text, .int qm_texts, .int qm_seed, .ref qm_line, .ref qm_written, .int qm_lineMany, .int qm_hasWritten, .ref qm_node, .int qm_nodes, .int qm_onesMany, .int qm_within, .int qm_top])), (qm_now, eI G 339 qm_now_c)] H _ := hw
              exact x_retiQ hQ B hw ⟨j602, r632, rfl, rfl⟩ (Nat.le_of_ble_eq_true rfl) (Nat.le_of_ble_eq_true rfl) dX11_moved_132
            · skip
              have c631 : j602.toInt = (-1) := i_eqT (X := j602.toInt) (Y := (-1)) rfl rfl c631
              refine lv_iconst (v := (-1)) C.1 C.2.1 dX11_moved_119 (by decide) ?_
              exact x_retiQ hQ B hw ⟨qm_movedWho, (-1), rfl, rfl⟩ (Nat.le_of_ble_eq_true rfl) (Nat.le_of_ble_eq_true rfl) dX11_moved_120
          · skip
            have c630 : j601.toInt < v629.toInt := i_leF (X := v629.toInt) (Y := j601.toInt) rfl rfl c630
            refine lv_iload C.1 C.2.1 dX11_moved_57 (lv_at hl 1 rfl) ?_
            refine lv_iconst (v := (-1)) C.1 C.2.1 dX11_moved_59 (by decide) ?_
            have J651 : ∀ (j650 : Int32), ((-1) ≤ j650.toInt ∧ j650.toInt ≤ 255) → ∀ (H : Heap) (locs : List Loc) (ls : Array Slot), Wd G s A [(qm, .inr (10, [.int 0, .ref qm_tape, .int qm_taped, .int qm_size, .int qm_limit, .int qm_to, .int qm_from, .int qm_kind, .int qm_number, .int qm_sign, .int qm_fault, .int qm_place, .long qm_word, .int qm_told, .ref qm_now, .ref qm_read, .ref qm_kept, .ref qm_snaps, .ref qm_aside, .ref qm_name, .ref qm_readName, .ref qm_keptName, .ref qm_isKept, .ref qm_onces, .int qm_snapMany, .ref qm_order, .ref qm_ordered, .int qm_orderMany, .int qm_orderMost, .int qm_passing, .int qm_movedWho, .int qm_scratched, .ref qm_text, .int qm_texts, .int qm_seed, .ref qm_line, .ref qm_written, .int qm_lineMany, .int qm_hasWritten, .ref qm_node, .int qm_nodes, .int qm_onesMany, .int qm_within, .int qm_top])), (qm_now, eI G 339 qm_now_c)] H locs → lv_has ls 6 [(5, .int j601), (4, .int j650), (3, .int r10), (0, .ref qm)] → W p l e (rmD 3 0 0) s m args below meth c H locs 0 0 Q (F0 m 107 ls []) := by
              intro j650 hJ651_0 H locs ls hw hl
              obtain ⟨v653, ev653⟩ : ∃ z : Int32, j601 + 1 = z := ⟨_, rfl⟩
              have hv653 : v653.toInt = j601.toInt + 1 := by rw [← ev653]; exact i_add rfl rfl (by omega) (by omega)
              refine lv_iinc (v := v653) (lv' := [(5, .int v653), (4, .int j650), (3, .int r10), (0, .ref qm)]) C.1 C.2.1 dX11_moved_107 hl (k := 0) rfl ev653 (by decide) rfl (fun ls hl => ?_)
              refine lv_goto (tgt := 44) C.1 C.2.1 dX11_moved_110 (by decide) ?_
              exact ihJ603 v653 j650 (by omega) (by omega) (by omega) _ _ _ hw (lv_sub hl [0, 1, 2, 3] rfl)
            have J640 : ∀ (H : Heap) (locs : List Loc) (ls : Array Slot), Wd G s A [(qm, .inr (10, [.int 0, .ref qm_tape, .int qm_taped, .int qm_size, .int qm_limit, .int qm_to, .int qm_from, .int qm_kind, .int qm_number, .int qm_sign, .int qm_fault, .int qm_place, .long qm_word, .int qm_told, .ref qm_now, .ref qm_read, .ref qm_kept, .ref qm_snaps, .ref qm_aside, .ref qm_name, .ref qm_readName, .ref qm_keptName, .ref qm_isKept, .ref qm_onces, .int qm_snapMany, .ref qm_order, .ref qm_ordered, .int qm_orderMany, .int qm_orderMost, .int qm_passing, .int qm_movedWho, .int qm_scratched, .ref qm_text, .int qm_texts, .int qm_seed, .ref qm_line, .ref qm_written, .int qm_lineMany, .int qm_hasWritten, .ref qm_node, .int qm_nodes, .int qm_onesMany, .int qm_within, .int qm_top])), (qm_now, eI G 339 qm_now_c)] H locs → lv_has ls 6 [(5, .int j601), (4, .int j602), (3, .int r10), (0, .ref qm)] → W p l e (rmD 3 0 0) s m args below meth c H locs 0 0 Q (F0 m 79 ls []) := by
              intro   H locs ls hw hl
              refine lv_aload_n C.1 C.2.1 dX11_moved_79 rfl (lv_at hl 3 rfl) ?_
              refine lv_iload_n C.1 C.2.1 dX11_moved_80 rfl (lv_at hl 2 rfl) ?_
              refine lv_aload_n C.1 C.2.1 dX11_moved_81 rfl (lv_at hl 3 rfl) ?_
              refine x_calliV (As := []) (rest := [.int r10, .ref qm]) (wr := []) C hw (s_X11_seats qm 0 qm_tape qm_taped qm_size qm_limit qm_to qm_from qm_kind qm_number qm_sign qm_fault qm_place qm_word qm_told qm_now qm_read qm_kept qm_snaps qm_aside qm_name qm_readName qm_keptName qm_isKept qm_onces qm_snapMany qm_order qm_ordered qm_orderMany qm_orderMost qm_passing qm_movedWho qm_scratched qm_text qm_texts qm_seed qm_line qm_written qm_lineMany qm_hasWritten qm_node qm_nodes qm_onesMany qm_within qm_top qm_now_c hf_qm_now_c hf1_qm_now_c) mwX11_seats kw1513 [0, 1] [] rfl rfl rfl rfl (by decide) 0 rfl rfl rfl rfl hl.1 rfl (Nat.le_of_ble_eq_true rfl) ⟨(Nat.le_of_ble_eq_true rfl), (Nat.le_of_ble_eq_true rfl)⟩ ⟨(Nat.le_of_ble_eq_true rfl), (Nat.le_of_ble_eq_true rfl)⟩ dX11_moved_82 (fun r654 u9 H locs hp9 hw => ?_)
              obtain ⟨x655, rfl, rfl⟩ := hp9
              have hw : Wd G s A [(qm, .inr (10, [.int 0, .ref qm_tape, .int qm_taped, .int qm_size, .int qm_limit, .int qm_to, .int qm_from, .int qm_kind, .int qm_number, .int qm_sign, .int qm_fault, .int qm_place, .long qm_word, .int qm_told, .ref qm_now, .ref qm_read, .ref qm_kept, .ref qm_snaps, .ref qm_aside, .ref qm_name, .ref qm_readName, .ref qm_keptName, .ref qm_isKept, .ref qm_onces, .int qm_snapMany, .ref qm_order, .ref qm_ordered, .int qm_orderMany, .int qm_orderMost, .int qm_passing, .int qm_movedWho, .int qm_scratched, .ref qm_text, .int qm_texts, .int qm_seed, .ref qm_line, .ref qm_written, .int qm_lineMany, .int qm_hasWritten, .ref qm_node, .int qm_nodes, .int qm_onesMany, .int qm_within, .int qm_top])), (qm_now, eI G 339 qm_now_c)] H _ := hw
              refine lv_iload C.1 C.2.1 dX11_moved_85 (lv_at hl 0 rfl) ?_
              refine lv_ixor C.1 C.2.1 dX11_moved_87 (x_gen (fun v656 => ?_))
              refine x_calliV (As := [.int r10, .int v656]) (rest := []) (wr := []) C hw (s_X11_sighsBy qm r10 v656 0 qm_tape qm_taped qm_size qm_limit qm_to qm_from qm_kind qm_number qm_sign qm_fault qm_place qm_word qm_told qm_now qm_read qm_kept qm_snaps qm_aside qm_name qm_readName qm_keptName qm_isKept qm_onces qm_snapMany qm_order qm_ordered qm_orderMany qm_orderMost qm_passing qm_movedWho qm_scratched qm_text qm_texts qm_seed qm_line qm_written qm_lineMany qm_hasWritten qm_node qm_nodes qm_onesMany qm_within qm_top qm_now_c hf_qm_now_c hf1_qm_now_c) mwX11_sighsBy kw1529 [0, 1] [] rfl rfl rfl rfl (by decide) 0 rfl rfl rfl rfl hl.1 rfl (Nat.le_of_ble_eq_true rfl) ⟨(Nat.le_of_ble_eq_true rfl), (Nat.le_of_ble_eq_true rfl)⟩ ⟨(Nat.le_of_ble_eq_true rfl), (Nat.le_of_ble_eq_true rfl)⟩ dX11_moved_88 (fun r657 u9 H locs hp9 hw => ?_)
              obtain ⟨x658, rfl, rfl⟩ := hp9
              have hw : Wd G s A [(qm, .inr (10, [.int 0, .ref qm_tape, .int qm_taped, .int qm_size, .int qm_limit, .int qm_to, .int qm_from, .int qm_kind, .int qm_number, .int qm_sign, .int qm_fault, .int qm_place, .long qm_word, .int qm_told, .ref qm_now, .ref qm_read, .ref qm_kept, .ref qm_snaps, .ref qm_aside, .ref qm_name, .ref qm_readName, .ref qm_keptName, .ref qm_isKept, .ref qm_onces, .int qm_snapMany, .ref qm_order, .ref qm_ordered, .int qm_orderMany, .int qm_orderMost, .int qm_passing, .int qm_movedWho, .int qm_scratched, .ref qm_text, .int qm_texts, .int qm_seed, .ref qm_line, .ref qm_written, .int qm_lineMany, .int qm_hasWritten, .ref qm_node, .int qm_nodes, .int qm_onesMany, .int qm_within, .int qm_top])), (qm_now, eI G 339 qm_now_c)] H _ := hw
              refine x_calliS (As := [.int r657]) (rest := []) (wr := [(qm, .inr (10, [.int 0, .ref qm_tape, .int qm_taped, .int qm_size, .int qm_limit, .int qm_to, .int qm_from, .int qm_kind, .int qm_number, .int qm_sign, .int qm_fault, .int qm_place, .long qm_word, .int qm_told, .ref qm_now, .ref qm_read, .ref qm_kept, .ref qm_snaps, .ref qm_aside, .ref qm_name, .ref qm_readName, .ref qm_keptName, .ref qm_isKept, .ref qm_onces, .int qm_snapMany, .ref qm_order, .ref qm_ordered, .int qm_orderMany, .int qm_orderMost, .int qm_passing, .int qm_movedWho, .int qm_scratched, .ref qm_text, .int qm_texts, .int qm_seed, .ref qm_line, .ref qm_written, .int qm_lineMany, .int qm_hasWritten, .ref qm_node, .int qm_nodes, .int qm_onesMany, .int qm_within, .int qm_top])), (qm_now, eI G 339 qm_now_c)]) C hw (s_X11_bits r657) mwX11_bits kw1484 [] [0, 1] rfl rfl rfl rfl (by decide) rfl hl.1 rfl (Nat.le_of_ble_eq_true rfl) ⟨(Nat.le_of_ble_eq_true rfl), (Nat.le_of_ble_eq_true rfl)⟩ ⟨(Nat.le_of_ble_eq_true rfl), (Nat.le_of_ble_eq_true rfl)⟩ dX11_moved_91 (fun r659 u9 H locs hp9 hw => ?_)
              obtain ⟨x660, rfl, rfl⟩ := hp9
              have hw : Wd G s A [(qm, .inr (10, [.int 0, .ref qm_tape, .int qm_taped, .int qm_size, .int qm_limit, .int qm_to, .int qm_from, .int qm_kind, .int qm_number, .int qm_sign, .int qm_fault, .int qm_place, .long qm_word, .int qm_told, .ref qm_now, .ref qm_read, .ref qm_kept, .ref qm_snaps, .ref qm_aside, .ref qm_name, .ref qm_readName, .ref qm_keptName, .ref qm_isKept, .ref qm_onces, .int qm_snapMany, .ref qm_order, .ref qm_ordered, .int qm_orderMany, .int qm_orderMost, .int qm_passing, .int qm_movedWho, .int qm_scratched, .ref qm_text, .int qm_texts, .int qm_seed, .ref qm_line, .ref qm_written, .int qm_lineMany, .int qm_hasWritten, .ref qm_node, .int qm_nodes, .int qm_onesMany, .int qm_within, .int qm_top])), (qm_now, eI G 339 qm_now_c)] H _ := hw
              refine lv_aload_n C.1 C.2.1 dX11_moved_94 rfl (lv_at hl 3 rfl) ?_
              refine x_get C hw iwX11 10 rfl 0 rfl 14 (by decide) kw1207 rfl dX11_moved_95 ?_
              refine lv_iconst (v := 3) C.1 C.2.1 dX11_moved_98 (by decide) ?_
              refine x_iald (v := (qm_now_c 3)) C hw 1 rfl (x_in rfl) rfl dX11_moved_99 (x_gen (fun v661 => ?_))
              refine lv_icmp_lt (tgt := 107) C.1 C.2.1 dX11_moved_100 (by decide) (fun c662 => ?_) (fun c662 => ?_)
              · skip
                have c662 : r659.toInt < v661.toInt := i_ltT (X := r659.toInt) (Y := v661.toInt) rfl rfl c662
                have bc662_r659 := i_bd r659
                have bc662_v661 := i_bd v661
                exact J651 j602  (by omega) _ _ _ hw (lv_sub hl [0, 1, 2, 3] rfl)
              · skip
                have c662 : v661.toInt ≤ r659.toInt := i_ltF (X := r659.toInt) (Y := v661.toInt) rfl rfl c662
                have bc662_r659 := i_bd r659
                have bc662_v661 := i_bd v661
                refine lv_iload C.1 C.2.1 dX11_moved_103 (lv_at hl 0 rfl) ?_
                refine lv_istore (lv' := [(4, .int j601), (5, .int j601), (3, .int r10), (0, .ref qm)]) C.1 C.2.1 dX11_moved_105 hl (by decide) rfl (fun ls hl => ?_)
                exact J651 j601  (by omega) _ _ _ hw (lv_sub hl [1, 0, 2, 3] rfl)
            refine lv_icmp_eq (tgt := 79) C.1 C.2.1 dX11_moved_60 (by decide) (fun c634 => ?_) (fun c634 => ?_)
            · skip
              have c634 : j602.toInt = (-1) := i_eqT (X := j602.toInt) (Y := (-1)) rfl rfl c634
              exact J640    _ _ _ hw (lv_sub hl [0, 1, 2, 3] rfl)
            · skip
              have c634 : j602.toInt ≠ (-1) := i_eqF (X := j602.toInt) (Y := (-1)) rfl rfl c634
              refine lv_iload C.1 C.2.1 dX11_moved_63 (lv_at hl 0 rfl) ?_
              refine x_calliS (As := [.int j601]) (rest := []) (wr := [(qm, .inr (10, [.int 0, .ref qm_tape, .int qm_taped, .int qm_size, .int qm_limit, .int qm_to, .int qm_from, .int qm_kind, .int qm_number, .int qm_sign, .int qm_fault, .int qm_place, .long qm_word, .int qm_told, .ref qm_now, .ref qm_read, .ref qm_kept, .ref qm_snaps, .ref qm_aside, .ref qm_name, .ref qm_readName, .ref qm_keptName, .ref qm_isKept, .ref qm_onces, .int qm_snapMany, .ref qm_order, .ref qm_ordered, .int qm_orderMany, .int qm_orderMost, .int qm_passing, .int qm_movedWho, .int qm_scratched, .ref qm_text, .int qm_texts, .int qm_seed, .ref qm_line, .ref qm_written, .int qm_lineMany, .int qm_hasWritten, .ref qm_node, .int qm_nodes, .int qm_onesMany, .int qm_within, .int qm_top])), (qm_now, eI G 339 qm_now_c)]) C hw (s_X11_bits j601) mwX11_bits kw1484 [] [0, 1] rfl rfl rfl rfl (by decide) rfl hl.1 rfl (Nat.le_of_ble_eq_true rfl) ⟨(Nat.le_of_ble_eq_true rfl), (Nat.le_of_ble_eq_true rfl)⟩ ⟨(Nat.le_of_ble_eq_true rfl), (Nat.le_of_ble_eq_true rfl)⟩ dX11_moved_65 (fun r663 u9 H locs hp9 hw => ?_)
              obtain ⟨x664, rfl, rfl⟩ := hp9
              have hw : Wd G s A [(qm, .inr (10, [.int 0, .ref qm_tape, .int qm_taped, .int qm_size, .int qm_limit, .int qm_to, .int qm_from, .int qm_kind, .int qm_number, .int qm_sign, .int qm_fault, .int qm_place, .long qm_word, .int qm_told, .ref qm_now, .ref qm_read, .ref qm_kept, .ref qm_snaps, .ref qm_aside, .ref qm_name, .ref qm_readName, .ref qm_keptName, .ref qm_isKept, .ref qm_onces, .int qm_snapMany, .ref qm_order, .ref qm_ordered, .int qm_orderMany, .int qm_orderMost, .int qm_passing, .int qm_movedWho, .int qm_scratched, .ref qm_text, .int qm_texts, .int qm_seed, .ref qm_line, .ref qm_written, .int qm_lineMany, .int qm_hasWritten, .ref qm_node, .int qm_nodes, .int qm_onesMany, .int qm_within, .int qm_top])), (qm_now, eI G 339 qm_now_c)] H _ := hw
              refine lv_iload C.1 C.2.1 dX11_moved_68 (lv_at hl 1 rfl) ?_
              refine x_calliS (As := [.int j602]) (rest := [.int r663]) (wr := [(qm, .inr (10, [.int 0, .ref qm_tape, .int qm_taped, .int qm_size, .int qm_limit, .int qm_to, .int qm_from, .int qm_kind, .int qm_number, .int qm_sign, .int qm_fault, .int qm_place, .long qm_word, .int qm_told, .ref qm_now, .ref qm_read, .ref qm_kept, .ref qm_snaps, .ref qm_aside, .ref qm_name, .ref qm_readName, .ref qm_keptName, .ref qm_isKept, .ref qm_onces, .int qm_snapMany, .ref qm_order, .ref qm_ordered, .int qm_orderMany, .int qm_orderMost, .int qm_passing, .int qm_movedWho, .int qm_scratched, .ref qm_text, .int qm_texts, .int qm_seed, .ref qm_line, .ref qm_written, .int qm_lineMany, .int qm_hasWritten, .ref qm_node, .int qm_nodes, .int qm_onesMany, .int qm_within, .int qm_top])), (qm_now, eI G 339 qm_now_c)]) C hw (s_X11_bits j602) mwX11_bits kw1484 [] [0, 1] rfl rfl rfl rfl (by decide) rfl hl.1 rfl (Nat.le_of_ble_eq_true rfl) ⟨(Nat.le_of_ble_eq_true rfl), (Nat.le_of_ble_eq_true rfl)⟩ ⟨(Nat.le_of_ble_eq_true rfl), (Nat.le_of_ble_eq_true rfl)⟩ dX11_moved_70 (fun r665 u9 H locs hp9 hw => ?_)
              obtain ⟨x666, rfl, rfl⟩ := hp9
              have hw : Wd G s A [(qm, .inr (10, [.int 0, .ref qm_tape, .int qm_taped, .int qm_size, .int qm_limit, .int qm_to, .int qm_from, .int qm_kind, .int qm_number, .int qm_sign, .int qm_fault, .int qm_place, .long qm_word, .int qm_told, .ref qm_now, .ref qm_read, .ref qm_kept, .ref qm_snaps, .ref qm_aside, .ref qm_name, .ref qm_readName, .ref qm_keptName, .ref qm_isKept, .ref qm_onces, .int qm_snapMany, .ref qm_order, .ref qm_ordered, .int qm_orderMany, .int qm_orderMost, .int qm_passing, .int qm_movedWho, .int qm_scratched, .ref qm_text, .int qm_texts, .int qm_seed, .ref qm_line, .ref qm_written, .int qm_lineMany, .int qm_hasWritten, .ref qm_node, .int qm_nodes, .int qm_onesMany, .int qm_within, .int qm_top])), (qm_now, eI G 339 qm_now_c)] H _ := hw
              refine lv_icmp_lt (tgt := 79) C.1 C.2.1 dX11_moved_73 (by decide) (fun c667 => ?_) (fun c667 => ?_)
              · skip
                have c667 : r663.toInt < r665.toInt := i_ltT (X := r663.toInt) (Y := r665.toInt) rfl rfl c667
                have bc667_r663 := i_bd r663
                have bc667_r665 := i_bd r665
                exact J640    _ _ _ hw (lv_sub hl [0, 1, 2, 3] rfl)
              · skip
                have c667 : r665.toInt ≤ r663.toInt := i_ltF (X := r663.toInt) (Y := r665.toInt) rfl rfl c667
                have bc667_r663 := i_bd r663
                have bc667_r665 := i_bd r665
                refine lv_goto (tgt := 107) C.1 C.2.1 dX11_moved_76 (by decide) ?_
                exact J651 j602  (by omega) _ _ _ hw (lv_sub hl [0, 1, 2, 3] rfl)
      exact loopJ603 _ 0 (-1) (Nat.lt_succ_self _) (by decide) (by decide) _ _ _ hw (lv_sub hl [0, 1, 2, 3] rfl)
theorem dX11_movedWho_0 : decode cX11_movedWho 0 = .ok (.aload_n 0, 1) := by decide +kernel
theorem dX11_movedWho_1 : decode cX11_movedWho 1 = .ok (.iconst 0, 1) := by decide +kernel
theorem dX11_movedWho_2 : decode cX11_movedWho 2 = .ok (.putfield 1, 3) := by decide +kernel
theorem dX11_movedWho_5 : decode cX11_movedWho 5 = .ok (.aload_n 0, 1) := by decide +kernel
theorem dX11_movedWho_6 : decode cX11_movedWho 6 = .ok (.getfield 136, 3) := by decide +kernel
theorem dX11_movedWho_9 : decode cX11_movedWho 9 = .ok (.ireturn, 1) := by decide +kernel
set_option maxHeartbeats 4000000 in
set_option maxRecDepth 100000 in
theorem s_X11_movedWho {l : Launch} {G : Gc} (qm : Nat) (qm_thrown : Int32) (qm_tape : Nat) (qm_taped : Int32) (qm_size : Int32) (qm_limit : Int32) (qm_to : Int32) (qm_from : Int32) (qm_kind : Int32) (qm_number : Int32) (qm_sign : Int32) (qm_fault : Int32) (qm_place : Int32) (qm_word : Int64) (qm_told : Int32) (qm_now : Nat) (qm_read : Nat) (qm_kept : Nat) (qm_snaps : Nat) (qm_aside : Nat) (qm_name : Nat) (qm_readName : Nat) (qm_keptName : Nat) (qm_isKept : Nat) (qm_onces : Nat) (qm_snapMany : Int32) (qm_order : Nat) (qm_ordered : Nat) (qm_orderMany : Int32) (qm_orderMost : Int32) (qm_passing : Int32) (qm_movedWho : Int32) (qm_scratched : Int32) (qm_text : Nat) (qm_texts : Int32) (qm_seed : Int32) (qm_line : Nat) (qm_written : Nat) (qm_lineMany : Int32) (qm_hasWritten : Int32) (qm_node : Nat) (qm_nodes : Int32) (qm_onesMany : Int32) (qm_within : Int32) (qm_top : Int32)  : Ci l yX11_movedWho cX11_movedWho 1 (some .int) 0 0 0 G [.ref qm] [(qm, .inr (10, [.int qm_thrown, .ref qm_tape, .int qm_taped, .int qm_size, .int qm_limit, .int qm_to, .int qm_from, .int qm_kind, .int qm_number, .int qm_sign, .int qm_fault, .int qm_place, .long qm_word, .int qm_told, .ref qm_now, .ref qm_read, .ref qm_kept, .ref qm_snaps, .ref qm_aside, .ref qm_name, .ref qm_readName, .ref qm_keptName, .ref qm_isKept, .ref qm_onces, .int qm_snapMany, .ref qm_order, .ref qm_ordered, .int qm_orderMany, .int qm_orderMost, .int qm_passing, .int qm_movedWho, .int qm_scratched, .ref qm_text, .int qm_texts, .int qm_seed, .ref qm_line, .ref qm_written, .int qm_lineMany, .int qm_hasWritten, .ref qm_node, .int qm_nodes, .int qm_onesMany, .int qm_within, .int qm_top]))] (fun (r9 : Int32) (u9 : va_W) => r9 = qm_movedWho ∧ u9 = [(qm, .inr (10, [.int 0, .ref qm_tape, .int qm_taped, .int qm_size, .int qm_limit, .int qm_to, .int qm_from, .int qm_kind, .int qm_number, .int qm_sign, .int qm_fault, .int qm_place, .long qm_word, .int qm_told, .ref qm_now, .ref qm_read, .ref qm_kept, .ref qm_snaps, .ref qm_aside, .ref qm_name, .ref qm_readName, .ref qm_keptName, .ref qm_isKept, .ref qm_onces, .int qm_snapMany, .ref qm_order, .ref qm_ordered, .int qm_orderMany, .int qm_orderMost, .int qm_passing, .int qm_movedWho, .int qm_scratched, .ref qm_text, .int qm_texts, .int qm_seed, .ref qm_line, .ref qm_written, .int qm_lineMany, .int qm_hasWritten, .ref qm_node, .int qm_nodes, .int qm_onesMany, .int qm_within, .int qm_top]))]) := by
  refine Ci.ofQ (by decide) (Nat.le_of_ble_eq_true rfl) ?_
  intro p e s m below meth c ls A args Q hQ B hw hl
  have C : CallFix p m c cX11_movedWho 1 s args gw "LanternStateModel" := B.1
  have hl : lv_has ls 1 [(0, .ref qm)] := hl
  refine lv_aload_n C.1 C.2.1 dX11_movedWho_0 rfl (lv_at hl 0 rfl) ?_
  refine lv_iconst (v := 0) C.1 C.2.1 dX11_movedWho_1 (by decide) ?_
  refine x_put (w' := [(qm, .inr (10, [.int 0, .ref qm_tape, .int qm_taped, .int qm_size, .int qm_limit, .int qm_to, .int qm_from, .int qm_kind, .int qm_number, .int qm_sign, .int qm_fault, .int qm_place, .long qm_word, .int qm_told, .ref qm_now, .ref qm_read, .ref qm_kept, .ref qm_snaps, .ref qm_aside, .ref qm_name, .ref qm_readName, .ref qm_keptName, .ref qm_isKept, .ref qm_onces, .int qm_snapMany, .ref qm_order, .ref qm_ordered, .int qm_orderMany, .int qm_orderMost, .int qm_passing, .int qm_movedWho, .int qm_scratched, .ref qm_text, .int qm_texts, .int qm_seed, .ref qm_line, .ref qm_written, .int qm_lineMany, .int qm_hasWritten, .ref qm_node, .int qm_nodes, .int qm_onesMany, .int qm_within, .int qm_top]))]) C hw iwX11 tyX11_ok nmX11 10 rfl 0 rfl 0 (by decide) kw1193 rfl rfl rfl (Nat.le_of_ble_eq_true rfl) rfl dX11_movedWho_2 (fun H locs hw => ?_)
  refine lv_aload_n C.1 C.2.1 dX11_movedWho_5 rfl (lv_at hl 0 rfl) ?_
  refine x_get C hw iwX11 10 rfl 0 rfl 30 (by decide) kw1223 rfl dX11_movedWho_6 ?_
  exact x_retiQ hQ B hw ⟨rfl, rfl⟩ (Nat.le_of_ble_eq_true rfl) (Nat.le_of_ble_eq_true rfl) dX11_movedWho_9
theorem dX11_scratches_0 : decode cX11_scratches 0 = .ok (.aload_n 0, 1) := by decide +kernel
theorem dX11_scratches_1 : decode cX11_scratches 1 = .ok (.iconst 0, 1) := by decide +kernel
theorem dX11_scratches_2 : decode cX11_scratches 2 = .ok (.putfield 1, 3) := by decide +kernel
theorem dX11_scratches_5 : decode cX11_scratches 5 = .ok (.aload_n 0, 1) := by decide +kernel
theorem dX11_scratches_6 : decode cX11_scratches 6 = .ok (.iload_n 1, 1) := by decide +kernel
theorem dX11_scratches_7 : decode cX11_scratches 7 = .ok (.invokevirtual 237, 3) := by decide +kernel
theorem dX11_scratches_10 : decode cX11_scratches 10 = .ok (.ifCond .ne 5, 3) := by decide +kernel
theorem dX11_scratches_13 : decode cX11_scratches 13 = .ok (.iconst (-1), 1) := by decide +kernel
theorem dX11_scratches_14 : decode cX11_scratches 14 = .ok (.ireturn, 1) := by decide +kernel
theorem dX11_scratches_15 : decode cX11_scratches 15 = .ok (.aload_n 0, 1) := by decide +kernel
theorem dX11_scratches_16 : decode cX11_scratches 16 = .ok (.invokevirtual 261, 3) := by decide +kernel
theorem dX11_scratches_19 : decode cX11_scratches 19 = .ok (.istore_n 2, 1) := by decide +kernel
theorem dX11_scratches_20 : decode cX11_scratches 20 = .ok (.iconst 0, 1) := by decide +kernel
theorem dX11_scratches_21 : decode cX11_scratches 21 = .ok (.istore_n 3, 1) := by decide +kernel
theorem dX11_scratches_22 : decode cX11_scratches 22 = .ok (.iload_n 3, 1) := by decide +kernel
theorem dX11_scratches_23 : decode cX11_scratches 23 = .ok (.iconst 4, 1) := by decide +kernel
theorem dX11_scratches_24 : decode cX11_scratches 24 = .ok (.if_icmp .gt 75, 3) := by decide +kernel
theorem dX11_scratches_27 : decode cX11_scratches 27 = .ok (.iconst 0, 1) := by decide +kernel
theorem dX11_scratches_28 : decode cX11_scratches 28 = .ok (.istore 4, 2) := by decide +kernel
theorem dX11_scratches_30 : decode cX11_scratches 30 = .ok (.iload 4, 2) := by decide +kernel
theorem dX11_scratches_32 : decode cX11_scratches 32 = .ok (.ldc_w 324, 3) := by decide +kernel
theorem dX11_scratches_35 : decode cX11_scratches 35 = .ok (.if_icmp .ge 58, 3) := by decide +kernel
theorem dX11_scratches_38 : decode cX11_scratches 38 = .ok (.iload 4, 2) := by decide +kernel
theorem dX11_scratches_40 : decode cX11_scratches 40 = .ok (.invokestatic 252, 3) := by decide +kernel
theorem dX11_scratches_43 : decode cX11_scratches 43 = .ok (.iload_n 3, 1) := by decide +kernel
theorem dX11_scratches_44 : decode cX11_scratches 44 = .ok (.if_icmp .ne 43, 3) := by decide +kernel
theorem dX11_scratches_47 : decode cX11_scratches 47 = .ok (.aload_n 0, 1) := by decide +kernel
theorem dX11_scratches_48 : decode cX11_scratches 48 = .ok (.aload_n 0, 1) := by decide +kernel
theorem dX11_scratches_49 : decode cX11_scratches 49 = .ok (.getfield 98, 3) := by decide +kernel
theorem dX11_scratches_52 : decode cX11_scratches 52 = .ok (.bipush 69, 2) := by decide +kernel
theorem dX11_scratches_54 : decode cX11_scratches 54 = .ok (.iload_n 1, 1) := by decide +kernel
theorem dX11_scratches_55 : decode cX11_scratches 55 = .ok (.iadd, 1) := by decide +kernel
theorem dX11_scratches_56 : decode cX11_scratches 56 = .ok (.iaload, 1) := by decide +kernel
theorem dX11_scratches_57 : decode cX11_scratches 57 = .ok (.iload 4, 2) := by decide +kernel
theorem dX11_scratches_59 : decode cX11_scratches 59 = .ok (.ixor, 1) := by decide +kernel
theorem dX11_scratches_60 : decode cX11_scratches 60 = .ok (.iload_n 2, 1) := by decide +kernel
theorem dX11_scratches_61 : decode cX11_scratches 61 = .ok (.invokevirtual 273, 3) := by decide +kernel
theorem dX11_scratches_64 : decode cX11_scratches 64 = .ok (.invokestatic 252, 3) := by decide +kernel
theorem dX11_scratches_67 : decode cX11_scratches 67 = .ok (.aload_n 0, 1) := by decide +kernel
theorem dX11_scratches_68 : decode cX11_scratches 68 = .ok (.getfield 98, 3) := by decide +kernel
theorem dX11_scratches_71 : decode cX11_scratches 71 = .ok (.iconst 3, 1) := by decide +kernel
theorem dX11_scratches_72 : decode cX11_scratches 72 = .ok (.iaload, 1) := by decide +kernel
theorem dX11_scratches_73 : decode cX11_scratches 73 = .ok (.if_icmp .ge 6, 3) := by decide +kernel
theorem dX11_scratches_79 : decode cX11_scratches 79 = .ok (.aload_n 0, 1) := by decide +kernel
theorem dX11_scratches_80 : decode cX11_scratches 80 = .ok (.iload 4, 2) := by decide +kernel
theorem dX11_scratches_82 : decode cX11_scratches 82 = .ok (.putfield 139, 3) := by decide +kernel
theorem dX11_scratches_85 : decode cX11_scratches 85 = .ok (.iload_n 3, 1) := by decide +kernel
theorem dX11_scratches_86 : decode cX11_scratches 86 = .ok (.ireturn, 1) := by decide +kernel
theorem dX11_scratches_76 : decode cX11_scratches 76 = .ok (.goto 11, 3) := by decide +kernel
theorem dX11_scratches_87 : decode cX11_scratches 87 = .ok (.iinc 4 1, 3) := by decide +kernel
theorem dX11_scratches_90 : decode cX11_scratches 90 = .ok (.goto (-60), 3) := by decide +kernel
theorem dX11_scratches_93 : decode cX11_scratches 93 = .ok (.iinc 3 1, 3) := by decide +kernel
theorem dX11_scratches_96 : decode cX11_scratches 96 = .ok (.goto (-74), 3) := by decide +kernel
theorem dX11_scratches_99 : decode cX11_scratches 99 = .ok (.iconst (-1), 1) := by decide +kernel
theorem dX11_scratches_100 : decode cX11_scratches 100 = .ok (.ireturn, 1) := by decide +kernel
set_option maxHeartbeats 4000000 in
set_option maxRecDepth 100000 in
theorem s_X11_scratches {l : Launch} {G : Gc} (qm : Nat) (a1 : Int32) (qm_thrown : Int32) (qm_tape : Nat) (qm_taped : Int32) (qm_size : Int32) (qm_limit : Int32) (qm_to : Int32) (qm_from : Int32) (qm_kind : Int32) (qm_number : Int32) (qm_sign : Int32) (qm_fault : Int32) (qm_place : Int32) (qm_word : Int64) (qm_told : Int32) (qm_now : Nat) (qm_read : Nat) (qm_kept : Nat) (qm_snaps : Nat) (qm_aside : Nat) (qm_name : Nat) (qm_readName : Nat) (qm_keptName : Nat) (qm_isKept : Nat) (qm_onces : Nat) (qm_snapMany : Int32) (qm_order : Nat) (qm_ordered : Nat) (qm_orderMany : Int32) (qm_orderMost : Int32) (qm_passing : Int32) (qm_movedWho : Int32) (qm_scratched : Int32) (qm_text : Nat) (qm_texts : Int32) (qm_seed : Int32) (qm_line : Nat) (qm_written : Nat) (qm_lineMany : Int32) (qm_hasWritten : Int32) (qm_node : Nat) (qm_nodes : Int32) (qm_onesMany : Int32) (qm_within : Int32) (qm_top : Int32) (qm_now_c : Nat → Int32) (hf_qm_now_c : slI qm_now_c) (hf1_qm_now_c : trI qm_now_c) : Ci l yX11_scratches cX11_scratches 5 (some .int) 3 0 0 G [.ref qm, .int a1] [(qm, .inr (10, [.int qm_thrown, .ref qm_tape, .int qm_taped, .int qm_size, .int qm_limit, .int qm_to, .int qm_from, .int qm_kind, .int qm_number, .int qm_sign, .int qm_fault, .int qm_place, .long qm_word, .int qm_told, .ref qm_now, .ref qm_read, .ref qm_kept, .ref qm_snaps, .ref qm_aside, .ref qm_name, .ref qm_readName, .ref qm_keptName, .ref qm_isKept, .ref qm_onces, .int qm_snapMany, .ref qm_order, .ref qm_ordered, .int qm_orderMany, .int qm_orderMost, .int qm_passing, .int qm_movedWho, .int qm_scratched, .ref qm_text, .int qm_texts, .int qm_seed, .ref qm_line, .ref qm_written, .int qm_lineMany, .int qm_hasWritten, .ref qm_node, .int qm_nodes, .int qm_onesMany, .int qm_within, .int qm_top])), (qm_now, eI G 339 qm_now_c)] (fun (r9 : Int32) (u9 : va_W) => ∃ (x0_qm_scratched : Int32) (r_x : Int32), r9 = r_x ∧ u9 = [(qm, .inr (10, [.int 0, .ref qm_tape, .int qm_taped, .int qm_size, .int qm_limit, .int qm_to, .int qm_from, .int qm_kind, .int qm_number, .int qm_sign, .int qm_fault, .int qm_place, .long qm_word, .int qm_told, .ref qm_now, .ref qm_read, .ref qm_kept, .ref qm_snaps, .ref qm_aside, .ref qm_name, .ref qm_readName, .ref qm_keptName, .ref qm_isKept, .ref qm_onces, .int qm_snapMany, .ref qm_order, .ref qm_ordered, .int qm_orderMany, .int qm_orderMost, .int qm_passing, .int qm_movedWho, .int x0_qm_scratched, .ref qm_text, .int qm_texts, .int qm_seed, .ref qm_line, .ref qm_written, .int qm_lineMany, .int qm_hasWritten, .ref qm_node, .int qm_nodes, .int qm_onesMany, .int qm_within, .int qm_top])), (qm_now, eI G 339 qm_now_c)] ∧ ((-1) ≤ r_x.toInt ∧ r_x.toInt ≤ 4)) := by
  refine Ci.ofQ (by decide) (Nat.le_of_ble_eq_true rfl) ?_
  intro p e s m below meth c ls A args Q hQ B hw hl
  have C : CallFix p m c cX11_scratches 5 s args gw "LanternStateModel" := B.1
  have hl : lv_has ls 5 [(0, .ref qm), (1, .int a1)] := hl
  refine lv_aload_n C.1 C.2.1 dX11_scratches_0 rfl (lv_at hl 0 rfl) ?_
  refine lv_iconst (v := 0) C.1 C.2.1 dX11_scratches_1 (by decide) ?_
  refine x_put (w' := [(qm, .inr (10, [.int 0, .ref qm_tape, .int qm_taped, .int qm_size, .int qm_limit, .int qm_to, .int qm_from, .int qm_kind, .int qm_number, .int qm_sign, .int qm_fault, .int qm_place, .long qm_word, .int qm_told, .ref qm_now, .ref qm_read, .ref qm_kept, .ref qm_snaps, .ref qm_aside, .ref qm_name, .ref qm_readName, .ref qm_keptName, .ref qm_isKept, .ref qm_onces, .int qm_snapMany, .ref qm_order, .ref qm_ordered, .int qm_orderMany, .int qm_orderMost, .int qm_passing, .int qm_movedWho, .int qm_scratched, .ref qm_text, .int qm_texts, .int qm_seed, .ref qm_line, .ref qm_written, .int qm_lineMany, .int qm_hasWritten, .ref qm_node, .int qm_nodes, .int qm_onesMany, .int qm_within, .int qm_top])), (qm_now, eI G 339 qm_now_c)]) C hw iwX11 tyX11_ok nmX11 10 rfl 0 rfl 0 (by decide) kw1193 rfl rfl rfl (Nat.le_of_ble_eq_true rfl) rfl dX11_scratches_2 (fun H locs hw => ?_)
  refine lv_aload_n C.1 C.2.1 dX11_scratches_5 rfl (lv_at hl 0 rfl) ?_
  refine lv_iload_n C.1 C.2.1 dX11_scratches_6 rfl (lv_at hl 1 rfl) ?_
  refine x_calliV (As := [.int a1]) (rest := []) (wr := []) C hw (s_X11_isSlide qm a1 0 qm_tape qm_taped qm_size qm_limit qm_to qm_from qm_kind qm_number qm_sign qm_fault qm_place qm_word qm_told qm_now qm_read qm_kept qm_snaps qm_aside qm_name qm_readName qm_keptName qm_isKept qm_onces qm_snapMany qm_order qm_ordered qm_orderMany qm_orderMost qm_passing qm_movedWho qm_scratched qm_text qm_texts qm_seed qm_line qm_written qm_lineMany qm_hasWritten qm_node qm_nodes qm_onesMany qm_within qm_top qm_now_c hf_qm_now_c hf1_qm_now_c) mwX11_isSlide kw1465 [0, 1] [] rfl rfl rfl rfl (by decide) 0 rfl rfl rfl rfl hl.1 rfl (Nat.le_of_ble_eq_true rfl) ⟨(Nat.le_of_ble_eq_true rfl), (Nat.le_of_ble_eq_true rfl)⟩ ⟨(Nat.le_of_ble_eq_true rfl), (Nat.le_of_ble_eq_true rfl)⟩ dX11_scratches_7 (fun r1 u9 H locs hp9 hw => ?_)
  rcases hp9 with ⟨rfl, rfl⟩ | ⟨rfl, rfl, hf2, hf3⟩
  · skip
    have hw : Wd G s A [(qm, .inr (10, [.int 0, .ref qm_tape, .int qm_taped, .int qm_size, .int qm_limit, .int qm_to, .int qm_from, .int qm_kind, .int qm_number, .int qm_sign, .int qm_fault, .int qm_place, .long qm_word, .int qm_told, .ref qm_now, .ref qm_read, .ref qm_kept, .ref qm_snaps, .ref qm_aside, .ref qm_name, .ref qm_readName, .ref qm_keptName, .ref qm_isKept, .ref qm_onces, .int qm_snapMany, .ref qm_order, .ref qm_ordered, .int qm_orderMany, .int qm_orderMost, .int qm_passing, .int qm_movedWho, .int qm_scratched, .ref qm_text, .int qm_texts, .int qm_seed, .ref qm_line, .ref qm_written, .int qm_lineMany, .int qm_hasWritten, .ref qm_node, .int qm_nodes, .int qm_onesMany, .int qm_within, .int qm_top])), (qm_now, eI G 339 qm_now_c)] H _ := hw
    refine lv_if_ne (tgt := 15) C.1 C.2.1 dX11_scratches_10 (by decide) (fun h9 => absurd (by decide) h9) (fun _ => ?_)
    refine lv_iconst (v := (-1)) C.1 C.2.1 dX11_scratches_13 (by decide) ?_
    exact x_retiQ hQ B hw ⟨qm_scratched, (-1), rfl, rfl, (by decide)⟩ (Nat.le_of_ble_eq_true rfl) (Nat.le_of_ble_eq_true rfl) dX11_scratches_14
  · skip
    have hw : Wd G s A [(qm, .inr (10, [.int 0, .ref qm_tape, .int qm_taped, .int qm_size, .int qm_limit, .int qm_to, .int qm_from, .int qm_kind, .int qm_number, .int qm_sign, .int qm_fault, .int qm_place, .long qm_word, .int qm_told, .ref qm_now, .ref qm_read, .ref qm_kept, .ref qm_snaps, .ref qm_aside, .ref qm_name, .ref qm_readName, .ref qm_keptName, .ref qm_isKept, .ref qm_onces, .int qm_snapMany, .ref qm_order, .ref qm_ordered, .int qm_orderMany, .int qm_orderMost, .int qm_passing, .int qm_movedWho, .int qm_scratched, .ref qm_text, .int qm_texts, .int qm_seed, .ref qm_line, .ref qm_written, .int qm_lineMany, .int qm_hasWritten, .ref qm_node, .int qm_nodes, .int qm_onesMany, .int qm_within, .int qm_top])), (qm_now, eI G 339 qm_now_c)] H _ := hw
    refine lv_if_ne (tgt := 15) C.1 C.2.1 dX11_scratches_10 (by decide) (fun _ => ?_) (fun h9 => absurd h9 (by decide))
    refine lv_aload_n C.1 C.2.1 dX11_scratches_15 rfl (lv_at hl 0 rfl) ?_
    refine x_calliV (As := []) (rest := []) (wr := []) C hw (s_X11_seats qm 0 qm_tape qm_taped qm_size qm_limit qm_to qm_from qm_kind qm_number qm_sign qm_fault qm_place qm_word qm_told qm_now qm_read qm_kept qm_snaps qm_aside qm_name qm_readName qm_keptName qm_isKept qm_onces qm_snapMany qm_order qm_ordered qm_orderMany qm_orderMost qm_passing qm_movedWho qm_scratched qm_text qm_texts qm_seed qm_line qm_written qm_lineMany qm_hasWritten qm_node qm_nodes qm_onesMany qm_within qm_top qm_now_c hf_qm_now_c hf1_qm_now_c) mwX11_seats kw1513 [0, 1] [] rfl rfl rfl rfl (by decide) 0 rfl rfl rfl rfl hl.1 rfl (Nat.le_of_ble_eq_true rfl) ⟨(Nat.le_of_ble_eq_true rfl), (Nat.le_of_ble_eq_true rfl)⟩ ⟨(Nat.le_of_ble_eq_true rfl), (Nat.le_of_ble_eq_true rfl)⟩ dX11_scratches_16 (fun r4 u9 H locs hp9 hw => ?_)
    obtain ⟨x5, rfl, rfl⟩ := hp9
    have hw : Wd G s A [(qm, .inr (10, [.int 0, .ref qm_tape, .int qm_taped, .int qm_size, .int qm_limit, .int qm_to, .int qm_from, .int qm_kind, .int qm_number, .int qm_sign, .int qm_fault, .int qm_place, .long qm_word, .int qm_told, .ref qm_now, .ref qm_read, .ref qm_kept, .ref qm_snaps, .ref qm_aside, .ref qm_name, .ref qm_readName, .ref qm_keptName, .ref qm_isKept, .ref qm_onces, .int qm_snapMany, .ref qm_order, .ref qm_ordered, .int qm_orderMany, .int qm_orderMost, .int qm_passing, .int qm_movedWho, .int qm_scratched, .ref qm_text, .int qm_texts, .int qm_seed, .ref qm_line, .ref qm_written, .int qm_lineMany, .int qm_hasWritten, .ref qm_node, .int qm_nodes, .int qm_onesMany, .int qm_within, .int qm_top])), (qm_now, eI G 339 qm_now_c)] H _ := hw
    refine lv_istore_n (lv' := [(2, .int r4), (0, .ref qm), (1, .int a1)]) C.1 C.2.1 dX11_scratches_19 rfl hl (by decide) rfl (fun ls hl => ?_)
    refine lv_iconst (v := 0) C.1 C.2.1 dX11_scratches_20 (by decide) ?_
    refine lv_istore_n (lv' := [(3, .int 0), (2, .int r4), (0, .ref qm), (1, .int a1)]) C.1 C.2.1 dX11_scratches_21 rfl hl (by decide) rfl (fun ls hl => ?_)
    have loopJ2397 : ∀ (n9 : Nat) (j2396 : Int32), (2147483647 - j2396.toInt).toNat < n9 → (0 ≤ j2396.toInt ∧ j2396.toInt ≤ 5) → ∀ (H : Heap) (locs : List Loc) (ls : Array Slot), Wd G s A [(qm, .inr (10, [.int 0, .ref qm_tape, .int qm_taped, .int qm_size, .int qm_limit, .int qm_to, .int qm_from, .int qm_kind, .int qm_number, .int qm_sign, .int qm_fault, .int qm_place, .long qm_word, .int qm_told, .ref qm_now, .ref qm_read, .ref qm_kept, .ref qm_snaps, .ref qm_aside, .ref qm_name, .ref qm_readName, .ref qm_keptName, .ref qm_isKept, .ref qm_onces, .int qm_snapMany, .ref qm_order, .ref qm_ordered, .int qm_orderMany, .int qm_orderMost, .int qm_passing, .int qm_movedWho, .int qm_scratched, .ref qm_text, .int qm_texts, .int qm_seed, .ref qm_line, .ref qm_written, .int qm_lineMany, .int qm_hasWritten, .ref qm_node, .int qm_nodes, .int qm_onesMany, .int qm_within, .int qm_top])), (qm_now, eI G 339 qm_now_c)] H locs → lv_has ls 5 [(3, .int j2396), (2, .int r4), (0, .ref qm), (1, .int a1)] → W p l e (rmD 3 0 0) s m args below meth c H locs 0 0 Q (F0 m 22 ls []) := by
      intro n9
      induction n9 with
      | zero => intro j2396 h9; exact absurd h9 (Nat.not_lt_zero _)
      | succ n9 ihJ2397 =>
        intro j2396 h9J2397 hJ2397_0 H locs ls hw hl
        have hbj2396 := i_bd j2396
        refine lv_iload_n C.1 C.2.1 dX11_scratches_22 rfl (lv_at hl 0 rfl) ?_
        refine lv_iconst (v := 4) C.1 C.2.1 dX11_scratches_23 (by decide) ?_
        refine lv_icmp_gt (tgt := 99) C.1 C.2.1 dX11_scratches_24 (by decide) (fun c2877 => ?_) (fun c2877 => ?_)
        · skip
          have c2877 : 4 < j2396.toInt := i_ltT (X := 4) (Y := j2396.toInt) rfl rfl c2877
          refine lv_iconst (v := (-1)) C.1 C.2.1 dX11_scratches_99 (by decide) ?_
          exact x_retiQ hQ B hw ⟨qm_scratched, (-1), rfl, rfl, (by decide)⟩ (Nat.le_of_ble_eq_true rfl) (Nat.le_of_ble_eq_true rfl) dX11_scratches_100
        · skip
          have c2877 : j2396.toInt ≤ 4 := i_ltF (X := 4) (Y := j2396.toInt) rfl rfl c2877
          refine lv_iconst (v := 0) C.1 C.2.1 dX11_scratches_27 (by decide) ?_
          refine lv_istore (lv' := [(4, .int 0), (3, .int j2396), (2, .int r4), (0, .ref qm), (1, .int a1)]) C.1 C.2.1 dX11_scratches_28 hl (by decide) rfl (fun ls hl => ?_)
          have loopJ3321 : ∀ (n9 : Nat) (j3320 : Int32), (2147483647 - j3320.toInt).toNat < n9 → (0 ≤ j3320.toInt ∧ j3320.toInt ≤ 65536) → ∀ (H : Heap) (locs : List Loc) (ls : Array Slot), Wd G s A [(qm, .inr (10, [.int 0, .ref qm_tape, .int qm_taped, .int qm_size, .int qm_limit, .int qm_to, .int qm_from, .int qm_kind, .int qm_number, .int qm_sign, .int qm_fault, .int qm_place, .long qm_word, .int qm_told, .ref qm_now, .ref qm_read, .ref qm_kept, .ref qm_snaps, .ref qm_aside, .ref qm_name, .ref qm_readName, .ref qm_keptName, .ref qm_isKept, .ref qm_onces, .int qm_snapMany, .ref qm_order, .ref qm_ordered, .int qm_orderMany, .int qm_orderMost, .int qm_passing, .int qm_movedWho, .int qm_scratched, .ref qm_text, .int qm_texts, .int qm_seed, .ref qm_line, .ref qm_written, .int qm_lineMany, .int qm_hasWritten, .ref qm_node, .int qm_nodes, .int qm_onesMany, .int qm_within, .int qm_top])), (qm_now, eI G 339 qm_now_c)] H locs → lv_has ls 5 [(4, .int j3320), (3, .int j2396), (2, .int r4), (0, .ref qm), (1, .int a1)] → W p l e (rmD 3 0 0) s m args below meth c H locs 0 0 Q (F0 m 30 ls []) := by
            intro n9
            induction n9 with
            | zero => intro j3320 h9; exact absurd h9 (Nat.not_lt_zero _)
            | succ n9 ihJ3321 =>
              intro j3320 h9J3321 hJ3321_0 H locs ls hw hl
              have hbj3320 := i_bd j3320
              refine lv_iload C.1 C.2.1 dX11_scratches_30 (lv_at hl 0 rfl) ?_
              refine lv_ldcw (v := 65536) C.1 C.2.1 C.2.2.2.1 (C.2.2.2.2 _ kw1636) dX11_scratches_32 ?_
              refine lv_icmp_ge (tgt := 93) C.1 C.2.1 dX11_scratches_35 (by decide) (fun c3338 => ?_) (fun c3338 => ?_)
              · skip
                have c3338 : 65536 ≤ j3320.toInt := i_leT (X := 65536) (Y := j3320.toInt) rfl rfl c3338
                obtain ⟨v3339, ev3339⟩ : ∃ z : Int32, j2396 + 1 = z := ⟨_, rfl⟩
                have hv3339 : v3339.toInt = j2396.toInt + 1 := by rw [← ev3339]; exact i_add rfl rfl (by omega) (by omega)
                refine lv_iinc (v := v3339) (lv' := [(3, .int v3339), (4, .int j3320), (2, .int r4), (0, .ref qm), (1, .int a1)]) C.1 C.2.1 dX11_scratches_93 hl (k := 1) rfl ev3339 (by decide) rfl (fun ls hl => ?_)
                refine lv_goto (tgt := 22) C.1 C.2.1 dX11_scratches_96 (by decide) ?_
                exact ihJ2397 v3339 (by omega) (by omega) _ _ _ hw (lv_sub hl [0, 2, 3, 4] rfl)
              · skip
                have c3338 : j3320.toInt < 65536 := i_leF (X := 65536) (Y := j3320.toInt) rfl rfl c3338
                refine lv_iload C.1 C.2.1 dX11_scratches_38 (lv_at hl 0 rfl) ?_
                refine x_calliS (As := [.int j3320]) (rest := []) (wr := [(qm, .inr (10, [.int 0, .ref qm_tape, .int qm_taped, .int qm_size, .int qm_limit, .int qm_to, .int qm_from, .int qm_kind, .int qm_number, .int qm_sign, .int qm_fault, .int qm_place, .long qm_word, .int qm_told, .ref qm_now, .ref qm_read, .ref qm_kept, .ref qm_snaps, .ref qm_aside, .ref qm_name, .ref qm_readName, .ref qm_keptName, .ref qm_isKept, .ref qm_onces, .int qm_snapMany, .ref qm_order, .ref qm_ordered, .int qm_orderMany, .int qm_orderMost, .int qm_passing, .int qm_movedWho, .int qm_scratched, .ref qm_text, .int qm_texts, .int qm_seed, .ref qm_line, .ref qm_written, .int qm_lineMany, .int qm_hasWritten, .ref qm_node, .int qm_nodes, .int qm_onesMany, .int qm_within, .int qm_top])), (qm_now, eI G 339 qm_now_c)]) C hw (s_X11_bits j3320) mwX11_bits kw1484 [] [0, 1] rfl rfl rfl rfl (by decide) rfl hl.1 rfl (Nat.le_of_ble_eq_true rfl) ⟨(Nat.le_of_ble_eq_true rfl), (Nat.le_of_ble_eq_true rfl)⟩ ⟨(Nat.le_of_ble_eq_true rfl), (Nat.le_of_ble_eq_true rfl)⟩ dX11_scratches_40 (fun r3340 u9 H locs hp9 hw => ?_)
                obtain ⟨x3341, rfl, rfl⟩ := hp9
                have hw : Wd G s A [(qm, .inr (10, [.int 0, .ref qm_tape, .int qm_taped, .int qm_size, .int qm_limit, .int qm_to, .int qm_from, .int qm_kind, .int qm_number, .int qm_sign, .int qm_fault, .int qm_place, .long qm_word, .int qm_told, .ref qm_now, .ref qm_read, .ref qm_kept, .ref qm_snaps, .ref qm_aside, .ref qm_name, .ref qm_readName, .ref qm_keptName, .ref qm_isKept, .ref qm_onces, .int qm_snapMany, .ref qm_order, .ref qm_ordered, .int qm_orderMany, .int qm_orderMost, .int qm_passing, .int qm_movedWho, .int qm_scratched, .ref qm_text, .int qm_texts, .int qm_seed, .ref qm_line, .ref qm_written, .int qm_lineMany, .int qm_hasWritten, .ref qm_node, .int qm_nodes, .int qm_onesMany, .int qm_within, .int qm_top])), (qm_now, eI G 339 qm_now_c)] H _ := hw
                refine lv_iload_n C.1 C.2.1 dX11_scratches_43 rfl (lv_at hl 1 rfl) ?_
                have J3352 : ∀ (H : Heap) (locs : List Loc) (ls : Array Slot), Wd G s A [(qm, .inr (10, [.int 0, .ref qm_tape, .int qm_taped, .int qm_size, .int qm_limit, .int qm_to, .int qm_from, .int qm_kind, .int qm_number, .int qm_sign, .int qm_fault, .int qm_place, .long qm_word, .int qm_told, .ref qm_now, .ref qm_read, .ref qm_kept, .ref qm_snaps, .ref qm_aside, .ref qm_name, .ref qm_readName, .ref qm_keptName, .ref qm_isKept, .ref qm_onces, .int qm_snapMany, .ref qm_order, .ref qm_ordered, .int qm_orderMany, .int qm_orderMost, .int qm_passing, .int qm_movedWho, .int qm_scratched, .ref qm_text, .int qm_texts, .int qm_seed, .ref qm_line, .ref qm_written, .int qm_lineMany, .int qm_hasWritten, .ref qm_node, .int qm_nodes, .int qm_onesMany, .int qm_within, .int qm_top])), (qm_now, eI G 339 qm_now_c)] H locs → lv_has ls 5 [(4, .int j3320), (3, .int j2396), (2, .int r4), (0, .ref qm), (1, .int a1)] → W p l e (rmD 3 0 0) s m args below meth c H locs 0 0 Q (F0 m 87 ls []) := by
                  intro   H locs ls hw hl
                  obtain ⟨v3354, ev3354⟩ : ∃ z : Int32, j3320 + 1 = z := ⟨_, rfl⟩
                  have hv3354 : v3354.toInt = j3320.toInt + 1 := by rw [← ev3354]; exact i_add rfl rfl (by omega) (by omega)
                  refine lv_iinc (v := v3354) (lv' := [(4, .int v3354), (3, .int j2396), (2, .int r4), (0, .ref qm), (1, .int a1)]) C.1 C.2.1 dX11_scratches_87 hl (k := 0) rfl ev3354 (by decide) rfl (fun ls hl => ?_)
                  refine lv_goto (tgt := 30) C.1 C.2.1 dX11_scratches_90 (by decide) ?_
                  exact ihJ3321 v3354 (by omega) (by omega) _ _ _ hw (lv_sub hl [0, 1, 2, 3, 4] rfl)
                refine lv_icmp_ne (tgt := 87) C.1 C.2.1 dX11_scratches_44 (by decide) (fun c3342 => ?_) (fun c3342 => ?_)
                · skip
                  have c3342 : r3340.toInt ≠ j2396.toInt := i_eqF (X := r3340.toInt) (Y := j2396.toInt) rfl rfl c3342
                  have bc3342_r3340 := i_bd r3340
                  exact J3352    _ _ _ hw (lv_sub hl [0, 1, 2, 3, 4] rfl)
                · skip
                  have c3342 : r3340.toInt = j2396.toInt := i_eqT (X := r3340.toInt) (Y := j2396.toInt) rfl rfl c3342
                  have bc3342_r3340 := i_bd r3340
                  refine lv_aload_n C.1 C.2.1 dX11_scratches_47 rfl (lv_at hl 3 rfl) ?_
                  refine lv_aload_n C.1 C.2.1 dX11_scratches_48 rfl (lv_at hl 3 rfl) ?_
                  refine x_get C hw iwX11 10 rfl 0 rfl 14 (by decide) kw1207 rfl dX11_scratches_49 ?_
                  refine lv_bipush (v := 69) C.1 C.2.1 dX11_scratches_52 (by decide) ?_
                  refine lv_iload_n C.1 C.2.1 dX11_scratches_54 rfl (lv_at hl 4 rfl) ?_
                  refine lv_iadd C.1 C.2.1 dX11_scratches_55 (x_genP (fun z : Int32 => z.toInt = 69 + a1.toInt) (i_add (X := 69) (Y := a1.toInt) rfl rfl (by omega) (by omega)) (fun v3355 hv3355 => ?_))
                  refine x_iald (v := (qm_now_c v3355.toNatClampNeg)) C hw 1 rfl (i_in (by omega) (by omega)) rfl dX11_scratches_56 (x_gen (fun v3356 => ?_))
                  refine lv_iload C.1 C.2.1 dX11_scratches_57 (lv_at hl 0 rfl) ?_
                  refine lv_ixor C.1 C.2.1 dX11_scratches_59 (x_gen (fun v3357 => ?_))
                  refine lv_iload_n C.1 C.2.1 dX11_scratches_60 rfl (lv_at hl 2 rfl) ?_
                  refine x_calliV (As := [.int v3357, .int r4]) (rest := []) (wr := []) C hw (s_X11_sighsBy qm v3357 r4 0 qm_tape qm_taped qm_size qm_limit qm_to qm_from qm_kind qm_number qm_sign qm_fault qm_place qm_word qm_told qm_now qm_read qm_kept qm_snaps qm_aside qm_name qm_readName qm_keptName qm_isKept qm_onces qm_snapMany qm_order qm_ordered qm_orderMany qm_orderMost qm_passing qm_movedWho qm_scratched qm_text qm_texts qm_seed qm_line qm_written qm_lineMany qm_hasWritten qm_node qm_nodes qm_onesMany qm_within qm_top qm_now_c hf_qm_now_c hf1_qm_now_c) mwX11_sighsBy kw1529 [0, 1] [] rfl rfl rfl rfl (by decide) 0 rfl rfl rfl rfl hl.1 rfl (Nat.le_of_ble_eq_true rfl) ⟨(Nat.le_of_ble_eq_true rfl), (Nat.le_of_ble_eq_true rfl)⟩ ⟨(Nat.le_of_ble_eq_true rfl), (Nat.le_of_ble_eq_true rfl)⟩ dX11_scratches_61 (fun r3358 u9 H locs hp9 hw => ?_)
                  obtain ⟨x3359, rfl, rfl⟩ := hp9
                  have hw : Wd G s A [(qm, .inr (10, [.int 0, .ref qm_tape, .int qm_taped, .int qm_size, .int qm_limit, .int qm_to, .int qm_from, .int qm_kind, .int qm_number, .int qm_sign, .int qm_fault, .int qm_place, .long qm_word, .int qm_told, .ref qm_now, .ref qm_read, .ref qm_kept, .ref qm_snaps, .ref qm_aside, .ref qm_name, .ref qm_readName, .ref qm_keptName, .ref qm_isKept, .ref qm_onces, .int qm_snapMany, .ref qm_order, .ref qm_ordered, .int qm_orderMany, .int qm_orderMost, .int qm_passing, .int qm_movedWho, .int qm_scratched, .ref qm_text, .int qm_texts, .int qm_seed, .ref qm_line, .ref qm_written, .int qm_lineMany, .int qm_hasWritten, .ref qm_node, .int qm_nodes, .int qm_onesMany, .int qm_within, .int qm_top])), (qm_now, eI G 339 qm_now_c)] H _ := hw
                  refine x_calliS (As := [.int r3358]) (rest := []) (wr := [(qm, .inr (10, [.int 0, .ref qm_tape, .int qm_taped, .int qm_size, .int qm_limit, .int qm_to, .int qm_from, .int qm_kind, .int qm_number, .int qm_sign, .int qm_fault, .int qm_place, .long qm_word, .int qm_told, .ref qm_now, .ref qm_read, .ref qm_kept, .ref qm_snaps, .ref qm_aside, .ref qm_name, .ref qm_readName, .ref qm_keptName, .ref qm_isKept, .ref qm_onces, .int qm_snapMany, .ref qm_order, .ref qm_ordered, .int qm_orderMany, .int qm_orderMost, .int qm_passing, .int qm_movedWho, .int qm_scratched, .ref qm_text, .int qm_texts, .int qm_seed, .ref qm_line, .ref qm_written, .int qm_lineMany, .int qm_hasWritten, .ref qm_node, .int qm_nodes, .int qm_onesMany, .int qm_within, .int qm_top])), (qm_now, eI G 339 qm_now_c)]) C hw (s_X11_bits r3358) mwX11_bits kw1484 [] [0, 1] rfl rfl rfl rfl (by decide) rfl hl.1 rfl (Nat.le_of_ble_eq_true rfl) ⟨(Nat.le_of_ble_eq_true rfl), (Nat.le_of_ble_eq_true rfl)⟩ ⟨(Nat.le_of_ble_eq_true rfl), (Nat.le_of_ble_eq_true rfl)⟩ dX11_scratches_64 (fun r3360 u9 H locs hp9 hw => ?_)
                  obtain ⟨x3361, rfl, rfl⟩ := hp9
                  have hw : Wd G s A [(qm, .inr (10, [.int 0, .ref qm_tape, .int qm_taped, .int qm_size, .int qm_limit, .int qm_to, .int qm_from, .int qm_kind, .int qm_number, .int qm_sign, .int qm_fault, .int qm_place, .long qm_word, .int qm_told, .ref qm_now, .ref qm_read, .ref qm_kept, .ref qm_snaps, .ref qm_aside, .ref qm_name, .ref qm_readName, .ref qm_keptName, .ref qm_isKept, .ref qm_onces, .int qm_snapMany, .ref qm_order, .ref qm_ordered, .int qm_orderMany, .int qm_orderMost, .int qm_passing, .int qm_movedWho, .int qm_scratched, .ref qm_text, .int qm_texts, .int qm_seed, .ref qm_line, .ref qm_written, .int qm_lineMany, .int qm_hasWritten, .ref qm_node, .int qm_nodes, .int qm_onesMany, .int qm_within, .int qm_top])), (qm_now, eI G 339 qm_now_c)] H _ := hw
                  refine lv_aload_n C.1 C.2.1 dX11_scratches_67 rfl (lv_at hl 3 rfl) ?_
                  refine x_get C hw iwX11 10 rfl 0 rfl 14 (by decide) kw1207 rfl dX11_scratches_68 ?_
                  refine lv_iconst (v := 3) C.1 C.2.1 dX11_scratches_71 (by decide) ?_
                  refine x_iald (v := (qm_now_c 3)) C hw 1 rfl (x_in rfl) rfl dX11_scratches_72 (x_gen (fun v3362 => ?_))
                  refine lv_icmp_ge (tgt := 79) C.1 C.2.1 dX11_scratches_73 (by decide) (fun c3363 => ?_) (fun c3363 => ?_)
                  · skip
                    have c3363 : v3362.toInt ≤ r3360.toInt := i_leT (X := v3362.toInt) (Y := r3360.toInt) rfl rfl c3363
                    have bc3363_r3360 := i_bd r3360
                    have bc3363_v3362 := i_bd v3362
                    refine lv_aload_n C.1 C.2.1 dX11_scratches_79 rfl (lv_at hl 3 rfl) ?_
                    refine lv_iload C.1 C.2.1 dX11_scratches_80 (lv_at hl 0 rfl) ?_
                    refine x_put (w' := [(qm, .inr (10, [.int 0, .ref qm_tape, .int qm_taped, .int qm_size, .int qm_limit, .int qm_to, .int qm_from, .int qm_kind, .int qm_number, .int qm_sign, .int qm_fault, .int qm_place, .long qm_word, .int qm_told, .ref qm_now, .ref qm_read, .ref qm_kept, .ref qm_snaps, .ref qm_aside, .ref qm_name, .ref qm_readName, .ref qm_keptName, .ref qm_isKept, .ref qm_onces, .int qm_snapMany, .ref qm_order, .ref qm_ordered, .int qm_orderMany, .int qm_orderMost, .int qm_passing, .int qm_movedWho, .int j3320, .ref qm_text, .int qm_texts, .int qm_seed, .ref qm_line, .ref qm_written, .int qm_lineMany, .int qm_hasWritten, .ref qm_node, .int qm_nodes, .int qm_onesMany, .int qm_within, .int qm_top])), (qm_now, eI G 339 qm_now_c)]) C hw iwX11 tyX11_ok nmX11 10 rfl 0 rfl 31 (by decide) kw1224 rfl rfl rfl (Nat.le_of_ble_eq_true rfl) rfl dX11_scratches_82 (fun H locs hw => ?_)
                    refine lv_iload_n C.1 C.2.1 dX11_scratches_85 rfl (lv_at hl 1 rfl) ?_
                    exact x_retiQ hQ B hw ⟨j3320, j2396, rfl, rfl, (by omega)⟩ (Nat.le_of_ble_eq_true rfl) (Nat.le_of_ble_eq_true rfl) dX11_scratches_86
                  · skip
                    have c3363 : r3360.toInt < v3362.toInt := i_leF (X := v3362.toInt) (Y := r3360.toInt) rfl rfl c3363
                    have bc3363_r3360 := i_bd r3360
                    have bc3363_v3362 := i_bd v3362
                    refine lv_goto (tgt := 87) C.1 C.2.1 dX11_scratches_76 (by decide) ?_
                    exact J3352    _ _ _ hw (lv_sub hl [0, 1, 2, 3, 4] rfl)
          exact loopJ3321 _ 0 (Nat.lt_succ_self _) (by decide) _ _ _ hw (lv_sub hl [0, 1, 2, 3, 4] rfl)
    exact loopJ2397 _ 0 (Nat.lt_succ_self _) (by decide) _ _ _ hw (lv_sub hl [0, 1, 2, 3] rfl)
theorem dX11_scratched_0 : decode cX11_scratched 0 = .ok (.aload_n 0, 1) := by decide +kernel
theorem dX11_scratched_1 : decode cX11_scratched 1 = .ok (.iconst 0, 1) := by decide +kernel
theorem dX11_scratched_2 : decode cX11_scratched 2 = .ok (.putfield 1, 3) := by decide +kernel
theorem dX11_scratched_5 : decode cX11_scratched 5 = .ok (.aload_n 0, 1) := by decide +kernel
theorem dX11_scratched_6 : decode cX11_scratched 6 = .ok (.getfield 139, 3) := by decide +kernel
theorem dX11_scratched_9 : decode cX11_scratched 9 = .ok (.ireturn, 1) := by decide +kernel
set_option maxHeartbeats 4000000 in
set_option maxRecDepth 100000 in
theorem s_X11_scratched {l : Launch} {G : Gc} (qm : Nat) (qm_thrown : Int32) (qm_tape : Nat) (qm_taped : Int32) (qm_size : Int32) (qm_limit : Int32) (qm_to : Int32) (qm_from : Int32) (qm_kind : Int32) (qm_number : Int32) (qm_sign : Int32) (qm_fault : Int32) (qm_place : Int32) (qm_word : Int64) (qm_told : Int32) (qm_now : Nat) (qm_read : Nat) (qm_kept : Nat) (qm_snaps : Nat) (qm_aside : Nat) (qm_name : Nat) (qm_readName : Nat) (qm_keptName : Nat) (qm_isKept : Nat) (qm_onces : Nat) (qm_snapMany : Int32) (qm_order : Nat) (qm_ordered : Nat) (qm_orderMany : Int32) (qm_orderMost : Int32) (qm_passing : Int32) (qm_movedWho : Int32) (qm_scratched : Int32) (qm_text : Nat) (qm_texts : Int32) (qm_seed : Int32) (qm_line : Nat) (qm_written : Nat) (qm_lineMany : Int32) (qm_hasWritten : Int32) (qm_node : Nat) (qm_nodes : Int32) (qm_onesMany : Int32) (qm_within : Int32) (qm_top : Int32)  : Ci l yX11_scratched cX11_scratched 1 (some .int) 0 0 0 G [.ref qm] [(qm, .inr (10, [.int qm_thrown, .ref qm_tape, .int qm_taped, .int qm_size, .int qm_limit, .int qm_to, .int qm_from, .int qm_kind, .int qm_number, .int qm_sign, .int qm_fault, .int qm_place, .long qm_word, .int qm_told, .ref qm_now, .ref qm_read, .ref qm_kept, .ref qm_snaps, .ref qm_aside, .ref qm_name, .ref qm_readName, .ref qm_keptName, .ref qm_isKept, .ref qm_onces, .int qm_snapMany, .ref qm_order, .ref qm_ordered, .int qm_orderMany, .int qm_orderMost, .int qm_passing, .int qm_movedWho, .int qm_scratched, .ref qm_text, .int qm_texts, .int qm_seed, .ref qm_line, .ref qm_written, .int qm_lineMany, .int qm_hasWritten, .ref qm_node, .int qm_nodes, .int qm_onesMany, .int qm_within, .int qm_top]))] (fun (r9 : Int32) (u9 : va_W) => r9 = qm_scratched ∧ u9 = [(qm, .inr (10, [.int 0, .ref qm_tape, .int qm_taped, .int qm_size, .int qm_limit, .int qm_to, .int qm_from, .int qm_kind, .int qm_number, .int qm_sign, .int qm_fault, .int qm_place, .long qm_word, .int qm_told, .ref qm_now, .ref qm_read, .ref qm_kept, .ref qm_snaps, .ref qm_aside, .ref qm_name, .ref qm_readName, .ref qm_keptName, .ref qm_isKept, .ref qm_onces, .int qm_snapMany, .ref qm_order, .ref qm_ordered, .int qm_orderMany, .int qm_orderMost, .int qm_passing, .int qm_movedWho, .int qm_scratched, .ref qm_text, .int qm_texts, .int qm_seed, .ref qm_line, .ref qm_written, .int qm_lineMany, .int qm_hasWritten, .ref qm_node, .int qm_nodes, .int qm_onesMany, .int qm_within, .int qm_top]))]) := by
  refine Ci.ofQ (by decide) (Nat.le_of_ble_eq_true rfl) ?_
  intro p e s m below meth c ls A args Q hQ B hw hl
  have C : CallFix p m c cX11_scratched 1 s args gw "LanternStateModel" := B.1
  have hl : lv_has ls 1 [(0, .ref qm)] := hl
  refine lv_aload_n C.1 C.2.1 dX11_scratched_0 rfl (lv_at hl 0 rfl) ?_
  refine lv_iconst (v := 0) C.1 C.2.1 dX11_scratched_1 (by decide) ?_
  refine x_put (w' := [(qm, .inr (10, [.int 0, .ref qm_tape, .int qm_taped, .int qm_size, .int qm_limit, .int qm_to, .int qm_from, .int qm_kind, .int qm_number, .int qm_sign, .int qm_fault, .int qm_place, .long qm_word, .int qm_told, .ref qm_now, .ref qm_read, .ref qm_kept, .ref qm_snaps, .ref qm_aside, .ref qm_name, .ref qm_readName, .ref qm_keptName, .ref qm_isKept, .ref qm_onces, .int qm_snapMany, .ref qm_order, .ref qm_ordered, .int qm_orderMany, .int qm_orderMost, .int qm_passing, .int qm_movedWho, .int qm_scratched, .ref qm_text, .int qm_texts, .int qm_seed, .ref qm_line, .ref qm_written, .int qm_lineMany, .int qm_hasWritten, .ref qm_node, .int qm_nodes, .int qm_onesMany, .int qm_within, .int qm_top]))]) C hw iwX11 tyX11_ok nmX11 10 rfl 0 rfl 0 (by decide) kw1193 rfl rfl rfl (Nat.le_of_ble_eq_true rfl) rfl dX11_scratched_2 (fun H locs hw => ?_)
  refine lv_aload_n C.1 C.2.1 dX11_scratched_5 rfl (lv_at hl 0 rfl) ?_
  refine x_get C hw iwX11 10 rfl 0 rfl 31 (by decide) kw1224 rfl dX11_scratched_6 ?_
  exact x_retiQ hQ B hw ⟨rfl, rfl⟩ (Nat.le_of_ble_eq_true rfl) (Nat.le_of_ble_eq_true rfl) dX11_scratched_9
theorem dX11_seen_0 : decode cX11_seen 0 = .ok (.aload_n 0, 1) := by decide +kernel
theorem dX11_seen_1 : decode cX11_seen 1 = .ok (.iconst 0, 1) := by decide +kernel
theorem dX11_seen_2 : decode cX11_seen 2 = .ok (.putfield 1, 3) := by decide +kernel
theorem dX11_seen_5 : decode cX11_seen 5 = .ok (.aload_n 0, 1) := by decide +kernel
theorem dX11_seen_6 : decode cX11_seen 6 = .ok (.invokevirtual 89, 3) := by decide +kernel
theorem dX11_seen_9 : decode cX11_seen 9 = .ok (.bipush 8, 2) := by decide +kernel
theorem dX11_seen_11 : decode cX11_seen 11 = .ok (.if_icmp .eq 5, 3) := by decide +kernel
theorem dX11_seen_16 : decode cX11_seen 16 = .ok (.iconst 0, 1) := by decide +kernel
theorem dX11_seen_17 : decode cX11_seen 17 = .ok (.istore_n 1, 1) := by decide +kernel
theorem dX11_seen_18 : decode cX11_seen 18 = .ok (.iconst 0, 1) := by decide +kernel
theorem dX11_seen_19 : decode cX11_seen 19 = .ok (.istore_n 2, 1) := by decide +kernel
theorem dX11_seen_20 : decode cX11_seen 20 = .ok (.iconst 0, 1) := by decide +kernel
theorem dX11_seen_21 : decode cX11_seen 21 = .ok (.istore_n 3, 1) := by decide +kernel
theorem dX11_seen_22 : decode cX11_seen 22 = .ok (.iload_n 3, 1) := by decide +kernel
theorem dX11_seen_23 : decode cX11_seen 23 = .ok (.iconst 4, 1) := by decide +kernel
theorem dX11_seen_24 : decode cX11_seen 24 = .ok (.if_icmp .ge 63, 3) := by decide +kernel
theorem dX11_seen_27 : decode cX11_seen 27 = .ok (.aload_n 0, 1) := by decide +kernel
theorem dX11_seen_28 : decode cX11_seen 28 = .ok (.getfield 7, 3) := by decide +kernel
theorem dX11_seen_31 : decode cX11_seen 31 = .ok (.iload_n 3, 1) := by decide +kernel
theorem dX11_seen_32 : decode cX11_seen 32 = .ok (.iaload, 1) := by decide +kernel
theorem dX11_seen_33 : decode cX11_seen 33 = .ok (.bipush 15, 2) := by decide +kernel
theorem dX11_seen_35 : decode cX11_seen 35 = .ok (.if_icmp .gt 16, 3) := by decide +kernel
theorem dX11_seen_51 : decode cX11_seen 51 = .ok (.iconst (-1), 1) := by decide +kernel
theorem dX11_seen_52 : decode cX11_seen 52 = .ok (.ireturn, 1) := by decide +kernel
theorem dX11_seen_38 : decode cX11_seen 38 = .ok (.aload_n 0, 1) := by decide +kernel
theorem dX11_seen_39 : decode cX11_seen 39 = .ok (.getfield 7, 3) := by decide +kernel
theorem dX11_seen_42 : decode cX11_seen 42 = .ok (.iconst 4, 1) := by decide +kernel
theorem dX11_seen_43 : decode cX11_seen 43 = .ok (.iload_n 3, 1) := by decide +kernel
theorem dX11_seen_44 : decode cX11_seen 44 = .ok (.iadd, 1) := by decide +kernel
theorem dX11_seen_45 : decode cX11_seen 45 = .ok (.iaload, 1) := by decide +kernel
theorem dX11_seen_46 : decode cX11_seen 46 = .ok (.bipush 15, 2) := by decide +kernel
theorem dX11_seen_48 : decode cX11_seen 48 = .ok (.if_icmp .le 5, 3) := by decide +kernel
theorem dX11_seen_53 : decode cX11_seen 53 = .ok (.iload_n 1, 1) := by decide +kernel
theorem dX11_seen_54 : decode cX11_seen 54 = .ok (.aload_n 0, 1) := by decide +kernel
theorem dX11_seen_55 : decode cX11_seen 55 = .ok (.getfield 7, 3) := by decide +kernel
theorem dX11_seen_58 : decode cX11_seen 58 = .ok (.iload_n 3, 1) := by decide +kernel
theorem dX11_seen_59 : decode cX11_seen 59 = .ok (.iaload, 1) := by decide +kernel
theorem dX11_seen_60 : decode cX11_seen 60 = .ok (.iload_n 3, 1) := by decide +kernel
theorem dX11_seen_61 : decode cX11_seen 61 = .ok (.invokestatic 181, 3) := by decide +kernel
theorem dX11_seen_64 : decode cX11_seen 64 = .ok (.ior, 1) := by decide +kernel
theorem dX11_seen_65 : decode cX11_seen 65 = .ok (.istore_n 1, 1) := by decide +kernel
theorem dX11_seen_66 : decode cX11_seen 66 = .ok (.iload_n 2, 1) := by decide +kernel
theorem dX11_seen_67 : decode cX11_seen 67 = .ok (.aload_n 0, 1) := by decide +kernel
theorem dX11_seen_68 : decode cX11_seen 68 = .ok (.getfield 7, 3) := by decide +kernel
theorem dX11_seen_71 : decode cX11_seen 71 = .ok (.iconst 4, 1) := by decide +kernel
theorem dX11_seen_72 : decode cX11_seen 72 = .ok (.iload_n 3, 1) := by decide +kernel
theorem dX11_seen_73 : decode cX11_seen 73 = .ok (.iadd, 1) := by decide +kernel
theorem dX11_seen_74 : decode cX11_seen 74 = .ok (.iaload, 1) := by decide +kernel
theorem dX11_seen_75 : decode cX11_seen 75 = .ok (.iload_n 3, 1) := by decide +kernel
theorem dX11_seen_76 : decode cX11_seen 76 = .ok (.invokestatic 181, 3) := by decide +kernel
theorem dX11_seen_79 : decode cX11_seen 79 = .ok (.ior, 1) := by decide +kernel
theorem dX11_seen_80 : decode cX11_seen 80 = .ok (.istore_n 2, 1) := by decide +kernel
theorem dX11_seen_81 : decode cX11_seen 81 = .ok (.iinc 3 1, 3) := by decide +kernel
theorem dX11_seen_84 : decode cX11_seen 84 = .ok (.goto (-62), 3) := by decide +kernel
theorem dX11_seen_87 : decode cX11_seen 87 = .ok (.iload_n 2, 1) := by decide +kernel
theorem dX11_seen_88 : decode cX11_seen 88 = .ok (.iload_n 1, 1) := by decide +kernel
theorem dX11_seen_89 : decode cX11_seen 89 = .ok (.iconst (-1), 1) := by decide +kernel
theorem dX11_seen_90 : decode cX11_seen 90 = .ok (.ixor, 1) := by decide +kernel
theorem dX11_seen_91 : decode cX11_seen 91 = .ok (.iand, 1) := by decide +kernel
theorem dX11_seen_92 : decode cX11_seen 92 = .ok (.ifCond .eq 5, 3) := by decide +kernel
theorem dX11_seen_97 : decode cX11_seen 97 = .ok (.iconst 0, 1) := by decide +kernel
theorem dX11_seen_98 : decode cX11_seen 98 = .ok (.istore_n 3, 1) := by decide +kernel
theorem dX11_seen_99 : decode cX11_seen 99 = .ok (.iconst 0, 1) := by decide +kernel
theorem dX11_seen_100 : decode cX11_seen 100 = .ok (.istore 4, 2) := by decide +kernel
theorem dX11_seen_102 : decode cX11_seen 102 = .ok (.iload 4, 2) := by decide +kernel
theorem dX11_seen_104 : decode cX11_seen 104 = .ok (.aload_n 0, 1) := by decide +kernel
theorem dX11_seen_105 : decode cX11_seen 105 = .ok (.getfield 98, 3) := by decide +kernel
theorem dX11_seen_108 : decode cX11_seen 108 = .ok (.iconst 0, 1) := by decide +kernel
theorem dX11_seen_109 : decode cX11_seen 109 = .ok (.iaload, 1) := by decide +kernel
theorem dX11_seen_110 : decode cX11_seen 110 = .ok (.if_icmp .ge 72, 3) := by decide +kernel
theorem dX11_seen_113 : decode cX11_seen 113 = .ok (.iconst 0, 1) := by decide +kernel
theorem dX11_seen_114 : decode cX11_seen 114 = .ok (.istore 5, 2) := by decide +kernel
theorem dX11_seen_116 : decode cX11_seen 116 = .ok (.iconst 0, 1) := by decide +kernel
theorem dX11_seen_117 : decode cX11_seen 117 = .ok (.istore 6, 2) := by decide +kernel
theorem dX11_seen_119 : decode cX11_seen 119 = .ok (.iload 6, 2) := by decide +kernel
theorem dX11_seen_121 : decode cX11_seen 121 = .ok (.iconst 4, 1) := by decide +kernel
theorem dX11_seen_122 : decode cX11_seen 122 = .ok (.if_icmp .ge 42, 3) := by decide +kernel
theorem dX11_seen_125 : decode cX11_seen 125 = .ok (.iload 5, 2) := by decide +kernel
theorem dX11_seen_127 : decode cX11_seen 127 = .ok (.ifCond .ne 24, 3) := by decide +kernel
theorem dX11_seen_130 : decode cX11_seen 130 = .ok (.aload_n 0, 1) := by decide +kernel
theorem dX11_seen_131 : decode cX11_seen 131 = .ok (.getfield 98, 3) := by decide +kernel
theorem dX11_seen_134 : decode cX11_seen 134 = .ok (.bipush 69, 2) := by decide +kernel
theorem dX11_seen_136 : decode cX11_seen 136 = .ok (.iload 4, 2) := by decide +kernel
theorem dX11_seen_138 : decode cX11_seen 138 = .ok (.iadd, 1) := by decide +kernel
theorem dX11_seen_139 : decode cX11_seen 139 = .ok (.iaload, 1) := by decide +kernel
theorem dX11_seen_140 : decode cX11_seen 140 = .ok (.iload 6, 2) := by decide +kernel
theorem dX11_seen_142 : decode cX11_seen 142 = .ok (.invokestatic 234, 3) := by decide +kernel
theorem dX11_seen_145 : decode cX11_seen 145 = .ok (.iload_n 1, 1) := by decide +kernel
theorem dX11_seen_146 : decode cX11_seen 146 = .ok (.iand, 1) := by decide +kernel
theorem dX11_seen_147 : decode cX11_seen 147 = .ok (.iload_n 2, 1) := by decide +kernel
theorem dX11_seen_148 : decode cX11_seen 148 = .ok (.if_icmp .ne 7, 3) := by decide +kernel
theorem dX11_seen_155 : decode cX11_seen 155 = .ok (.iconst 0, 1) := by decide +kernel
theorem dX11_seen_156 : decode cX11_seen 156 = .ok (.istore 5, 2) := by decide +kernel
theorem dX11_seen_158 : decode cX11_seen 158 = .ok (.iinc 6 1, 3) := by decide +kernel
theorem dX11_seen_161 : decode cX11_seen 161 = .ok (.goto (-42), 3) := by decide +kernel
theorem dX11_seen_151 : decode cX11_seen 151 = .ok (.iconst 1, 1) := by decide +kernel
theorem dX11_seen_152 : decode cX11_seen 152 = .ok (.goto 4, 3) := by decide +kernel
theorem dX11_seen_164 : decode cX11_seen 164 = .ok (.iload 5, 2) := by decide +kernel
theorem dX11_seen_166 : decode cX11_seen 166 = .ok (.ifCond .eq 10, 3) := by decide +kernel
theorem dX11_seen_169 : decode cX11_seen 169 = .ok (.iload_n 3, 1) := by decide +kernel
theorem dX11_seen_170 : decode cX11_seen 170 = .ok (.iconst 1, 1) := by decide +kernel
theorem dX11_seen_171 : decode cX11_seen 171 = .ok (.iload 4, 2) := by decide +kernel
theorem dX11_seen_173 : decode cX11_seen 173 = .ok (.ishl, 1) := by decide +kernel
theorem dX11_seen_174 : decode cX11_seen 174 = .ok (.ior, 1) := by decide +kernel
theorem dX11_seen_175 : decode cX11_seen 175 = .ok (.istore_n 3, 1) := by decide +kernel
theorem dX11_seen_176 : decode cX11_seen 176 = .ok (.iinc 4 1, 3) := by decide +kernel
theorem dX11_seen_179 : decode cX11_seen 179 = .ok (.goto (-77), 3) := by decide +kernel
theorem dX11_seen_182 : decode cX11_seen 182 = .ok (.iload_n 3, 1) := by decide +kernel
theorem dX11_seen_183 : decode cX11_seen 183 = .ok (.ireturn, 1) := by decide +kernel
theorem dX11_seen_95 : decode cX11_seen 95 = .ok (.iconst (-1), 1) := by decide +kernel
theorem dX11_seen_96 : decode cX11_seen 96 = .ok (.ireturn, 1) := by decide +kernel
theorem dX11_seen_14 : decode cX11_seen 14 = .ok (.iconst (-1), 1) := by decide +kernel
theorem dX11_seen_15 : decode cX11_seen 15 = .ok (.ireturn, 1) := by decide +kernel
set_option maxHeartbeats 4000000 in
set_option maxRecDepth 100000 in
theorem s_X11_seen {l : Launch} {G : Gc} (qm : Nat) (qm_thrown : Int32) (qm_tape : Nat) (qm_taped : Int32) (qm_size : Int32) (qm_limit : Int32) (qm_to : Int32) (qm_from : Int32) (qm_kind : Int32) (qm_number : Int32) (qm_sign : Int32) (qm_fault : Int32) (qm_place : Int32) (qm_word : Int64) (qm_told : Int32) (qm_now : Nat) (qm_read : Nat) (qm_kept : Nat) (qm_snaps : Nat) (qm_aside : Nat) (qm_name : Nat) (qm_readName : Nat) (qm_keptName : Nat) (qm_isKept : Nat) (qm_onces : Nat) (qm_snapMany : Int32) (qm_order : Nat) (qm_ordered : Nat) (qm_orderMany : Int32) (qm_orderMost : Int32) (qm_passing : Int32) (qm_movedWho : Int32) (qm_scratched : Int32) (qm_text : Nat) (qm_texts : Int32) (qm_seed : Int32) (qm_line : Nat) (qm_written : Nat) (qm_lineMany : Int32) (qm_hasWritten : Int32) (qm_node : Nat) (qm_nodes : Int32) (qm_onesMany : Int32) (qm_within : Int32) (qm_top : Int32) (qm_tape_c : Nat → Int32) (qm_now_c : Nat → Int32) (hi_qm_taped : 0 ≤ qm_taped.toInt ∧ qm_taped.toInt ≤ 940) (hf_qm_now_c : slI qm_now_c) (hf1_qm_now_c : trI qm_now_c) : Ci l yX11_seen cX11_seen 7 (some .int) 2 0 0 G [.ref qm] [(qm, .inr (10, [.int qm_thrown, .ref qm_tape, .int qm_taped, .int qm_size, .int qm_limit, .int qm_to, .int qm_from, .int qm_kind, .int qm_number, .int qm_sign, .int qm_fault, .int qm_place, .long qm_word, .int qm_told, .ref qm_now, .ref qm_read, .ref qm_kept, .ref qm_snaps, .ref qm_aside, .ref qm_name, .ref qm_readName, .ref qm_keptName, .ref qm_isKept, .ref qm_onces, .int qm_snapMany, .ref qm_order, .ref qm_ordered, .int qm_orderMany, .int qm_orderMost, .int qm_passing, .int qm_movedWho, .int qm_scratched, .ref qm_text, .int qm_texts, .int qm_seed, .ref qm_line, .ref qm_written, .int qm_lineMany, .int qm_hasWritten, .ref qm_node, .int qm_nodes, .int qm_onesMany, .int qm_within, .int qm_top])), (qm_tape, eI G 940 qm_tape_c), (qm_now, eI G 339 qm_now_c)] (fun (r9 : Int32) (u9 : va_W) => ∃ (r_x : Int32), r9 = r_x ∧ u9 = [(qm, .inr (10, [.int 0, .ref qm_tape, .int 0, .int qm_size, .int qm_limit, .int qm_to, .int qm_from, .int qm_kind, .int qm_number, .int qm_sign, .int qm_fault, .int qm_place, .long qm_word, .int qm_told, .ref qm_now, .ref qm_read, .ref qm_kept, .ref qm_snaps, .ref qm_aside, .ref qm_name, .ref qm_readName, .ref qm_keptName, .ref qm_isKept, .ref qm_onces, .int qm_snapMany, .ref qm_order, .ref qm_ordered, .int qm_orderMany, .int qm_orderMost, .int qm_passing, .int qm_movedWho, .int qm_scratched, .ref qm_text, .int qm_texts, .int qm_seed, .ref qm_line, .ref qm_written, .int qm_lineMany, .int qm_hasWritten, .ref qm_node, .int qm_nodes, .int qm_onesMany, .int qm_within, .int qm_top])), (qm_tape, eI G 940 qm_tape_c), (qm_now, eI G 339 qm_now_c)]) := by
  refine Ci.ofQ (by decide) (Nat.le_of_ble_eq_true rfl) ?_
  intro p e s m below meth c ls A args Q hQ B hw hl
  have C : CallFix p m c cX11_seen 7 s args gw "LanternStateModel" := B.1
  have hl : lv_has ls 7 [(0, .ref qm)] := hl
  refine lv_aload_n C.1 C.2.1 dX11_seen_0 rfl (lv_at hl 0 rfl) ?_
  refine lv_iconst (v := 0) C.1 C.2.1 dX11_seen_1 (by decide) ?_
  refine x_put (w' := [(qm, .inr (10, [.int 0, .ref qm_tape, .int qm_taped, .int qm_size, .int qm_limit, .int qm_to, .int qm_from, .int qm_kind, .int qm_number, .int qm_sign, .int qm_fault, .int qm_place, .long qm_word, .int qm_told, .ref qm_now, .ref qm_read, .ref qm_kept, .ref qm_snaps, .ref qm_aside, .ref qm_name, .ref qm_readName, .ref qm_keptName, .ref qm_isKept, .ref qm_onces, .int qm_snapMany, .ref qm_order, .ref qm_ordered, .int qm_orderMany, .int qm_orderMost, .int qm_passing, .int qm_movedWho, .int qm_scratched, .ref qm_text, .int qm_texts, .int qm_seed, .ref qm_line, .ref qm_written, .int qm_lineMany, .int qm_hasWritten, .ref qm_node, .int qm_nodes, .int qm_onesMany, .int qm_within, .int qm_top])), (qm_tape, eI G 940 qm_tape_c), (qm_now, eI G 339 qm_now_c)]) C hw iwX11 tyX11_ok nmX11 10 rfl 0 rfl 0 (by decide) kw1193 rfl rfl rfl (Nat.le_of_ble_eq_true rfl) rfl dX11_seen_2 (fun H locs hw => ?_)
  refine lv_aload_n C.1 C.2.1 dX11_seen_5 rfl (lv_at hl 0 rfl) ?_
  refine x_calliV (As := []) (rest := []) (wr := [(qm_tape, eI G 940 qm_tape_c), (qm_now, eI G 339 qm_now_c)]) C hw (s_X11_take qm 0 qm_tape qm_taped qm_size qm_limit qm_to qm_from qm_kind qm_number qm_sign qm_fault qm_place qm_word qm_told qm_now qm_read qm_kept qm_snaps qm_aside qm_name qm_readName qm_keptName qm_isKept qm_onces qm_snapMany qm_order qm_ordered qm_orderMany qm_orderMost qm_passing qm_movedWho qm_scratched qm_text qm_texts qm_seed qm_line qm_written qm_lineMany qm_hasWritten qm_node qm_nodes qm_onesMany qm_within qm_top (by omega)) mwX11_take kw1335 [0] [1, 2] rfl rfl rfl rfl (by decide) 0 rfl rfl rfl rfl hl.1 rfl (Nat.le_of_ble_eq_true rfl) ⟨(Nat.le_of_ble_eq_true rfl), (Nat.le_of_ble_eq_true rfl)⟩ ⟨(Nat.le_of_ble_eq_true rfl), (Nat.le_of_ble_eq_true rfl)⟩ dX11_seen_6 (fun r1 u9 H locs hp9 hw => ?_)
  obtain ⟨hr2, rfl⟩ := hp9
  refine x_topi (z := qm_taped) hr2 ?_
  have hw : Wd G s A [(qm_tape, eI G 940 qm_tape_c), (qm_now, eI G 339 qm_now_c), (qm, .inr (10, [.int 0, .ref qm_tape, .int 0, .int qm_size, .int qm_limit, .int qm_to, .int qm_from, .int qm_kind, .int qm_number, .int qm_sign, .int qm_fault, .int qm_place, .long qm_word, .int qm_told, .ref qm_now, .ref qm_read, .ref qm_kept, .ref qm_snaps, .ref qm_aside, .ref qm_name, .ref qm_readName, .ref qm_keptName, .ref qm_isKept, .ref qm_onces, .int qm_snapMany, .ref qm_order, .ref qm_ordered, .int qm_orderMany, .int qm_orderMost, .int qm_passing, .int qm_movedWho, .int qm_scratched, .ref qm_text, .int qm_texts, .int qm_seed, .ref qm_line, .ref qm_written, .int qm_lineMany, .int qm_hasWritten, .ref qm_node, .int qm_nodes, .int qm_onesMany, .int qm_within, .int qm_top]))] H _ := hw
  refine lv_bipush (v := 8) C.1 C.2.1 dX11_seen_9 (by decide) ?_
  refine lv_icmp_eq (tgt := 16) C.1 C.2.1 dX11_seen_11 (by decide) (fun c3 => ?_) (fun c3 => ?_)
  · skip
    have c3 : qm_taped.toInt = 8 := i_eqT (X := qm_taped.toInt) (Y := 8) rfl rfl c3
    refine lv_iconst (v := 0) C.1 C.2.1 dX11_seen_16 (by decide) ?_
    refine lv_istore_n (lv' := [(1, .int 0), (0, .ref qm)]) C.1 C.2.1 dX11_seen_17 rfl hl (by decide) rfl (fun ls hl => ?_)
    refine lv_iconst (v := 0) C.1 C.2.1 dX11_seen_18 (by decide) ?_
    refine lv_istore_n (lv' := [(2, .int 0), (1, .int 0), (0, .ref qm)]) C.1 C.2.1 dX11_seen_19 rfl hl (by decide) rfl (fun ls hl => ?_)
    refine lv_iconst (v := 0) C.1 C.2.1 dX11_seen_20 (by decide) ?_
    refine lv_istore_n (lv' := [(3, .int 0), (2, .int 0), (1, .int 0), (0, .ref qm)]) C.1 C.2.1 dX11_seen_21 rfl hl (by decide) rfl (fun ls hl => ?_)
    have loopJ80 : ∀ (n9 : Nat) (j77 : Int32) (j78 : Int32) (j79 : Int32), (2147483647 - j77.toInt).toNat < n9 → (0 ≤ j77.toInt ∧ j77.toInt ≤ 4) → ∀ (H : Heap) (locs : List Loc) (ls : Array Slot), Wd G s A [(qm_tape, eI G 940 qm_tape_c), (qm_now, eI G 339 qm_now_c), (qm, .inr (10, [.int 0, .ref qm_tape, .int 0, .int qm_size, .int qm_limit, .int qm_to, .int qm_from, .int qm_kind, .int qm_number, .int qm_sign, .int qm_fault, .int qm_place, .long qm_word, .int qm_told, .ref qm_now, .ref qm_read, .ref qm_kept, .ref qm_snaps, .ref qm_aside, .ref qm_name, .ref qm_readName, .ref qm_keptName, .ref qm_isKept, .ref qm_onces, .int qm_snapMany, .ref qm_order, .ref qm_ordered, .int qm_orderMany, .int qm_orderMost, .int qm_passing, .int qm_movedWho, .int qm_scratched, .ref qm_text, .int qm_texts, .int qm_seed, .ref qm_line, .ref qm_written, .int qm_lineMany, .int qm_hasWritten, .ref qm_node, .int qm_nodes, .int qm_onesMany, .int qm_within, .int qm_top]))] H locs → lv_has ls 7 [(3, .int j77), (2, .int j78), (1, .int j79), (0, .ref qm)] → W p l e (rmD 2 0 0) s m args below meth c H locs 0 0 Q (F0 m 22 ls []) := by
      intro n9
      induction n9 with
      | zero => intro j77 j78 j79 h9; exact absurd h9 (Nat.not_lt_zero _)
      | succ n9 ihJ80 =>
        intro j77 j78 j79 h9J80 hJ80_0 H locs ls hw hl
        have hbj77 := i_bd j77
        refine lv_iload_n C.1 C.2.1 dX11_seen_22 rfl (lv_at hl 0 rfl) ?_
        refine lv_iconst (v := 4) C.1 C.2.1 dX11_seen_23 (by decide) ?_
        refine lv_icmp_ge (tgt := 87) C.1 C.2.1 dX11_seen_24 (by decide) (fun c845 => ?_) (fun c845 => ?_)
        · skip
          have c845 : 4 ≤ j77.toInt := i_leT (X := 4) (Y := j77.toInt) rfl rfl c845
          refine lv_iload_n C.1 C.2.1 dX11_seen_87 rfl (lv_at hl 1 rfl) ?_
          refine lv_iload_n C.1 C.2.1 dX11_seen_88 rfl (lv_at hl 2 rfl) ?_
          refine lv_iconst (v := (-1)) C.1 C.2.1 dX11_seen_89 (by decide) ?_
          refine lv_ixor C.1 C.2.1 dX11_seen_90 (x_gen (fun v846 => ?_))
          refine lv_iand C.1 C.2.1 dX11_seen_91 (x_gen (fun v847 => ?_))
          refine lv_if_eq (tgt := 97) C.1 C.2.1 dX11_seen_92 (by decide) (fun c848 => ?_) (fun c848 => ?_)
          · skip
            have c848 : v847.toInt = 0 := i_eqT (X := v847.toInt) (Y := 0) rfl rfl c848
            have bc848_v847 := i_bd v847
            refine lv_iconst (v := 0) C.1 C.2.1 dX11_seen_97 (by decide) ?_
            refine lv_istore_n (lv' := [(3, .int 0), (2, .int j78), (1, .int j79), (0, .ref qm)]) C.1 C.2.1 dX11_seen_98 rfl hl (by decide) rfl (fun ls hl => ?_)
            refine lv_iconst (v := 0) C.1 C.2.1 dX11_seen_99 (by decide) ?_
            refine lv_istore (lv' := [(4, .int 0), (3, .int 0), (2, .int j78), (1, .int j79), (0, .ref qm)]) C.1 C.2.1 dX11_seen_100 hl (by decide) rfl (fun ls hl => ?_)
            have loopJ1404 : ∀ (n9 : Nat) (j1402 : Int32) (j1403 : Int32), (2147483647 - j1402.toInt).toNat < n9 → (0 ≤ j1402.toInt ∧ j1402.toInt ≤ 6) → ∀ (H : Heap) (locs : List Loc) (ls : Array Slot), Wd G s A [(qm_tape, eI G 940 qm_tape_c), (qm_now, eI G 339 qm_now_c), (qm, .inr (10, [.int 0, .ref qm_tape, .int 0, .int qm_size, .int qm_limit, .int qm_to, .int qm_from, .int qm_kind, .int qm_number, .int qm_sign, .int qm_fault, .int qm_place, .long qm_word, .int qm_told, .ref qm_now, .ref qm_read, .ref qm_kept, .ref qm_snaps, .ref qm_aside, .ref qm_name, .ref qm_readName, .ref qm_keptName, .ref qm_isKept, .ref qm_onces, .int qm_snapMany, .ref qm_order, .ref qm_ordered, .int qm_orderMany, .int qm_orderMost, .int qm_passing, .int qm_movedWho, .int qm_scratched, .ref qm_text, .int qm_texts, .int qm_seed, .ref qm_line, .ref qm_written, .int qm_lineMany, .int qm_hasWritten, .ref qm_node, .int qm_nodes, .int qm_onesMany, .int qm_within, .int qm_top]))] H locs → lv_has ls 7 [(4, .int j1402), (3, .int j1403), (2, .int j78), (1, .int j79), (0, .ref qm)] → W p l e (rmD 2 0 0) s m args below meth c H locs 0 0 Q (F0 m 102 ls []) := by
              intro n9
              induction n9 with
              | zero => intro j1402 j1403 h9; exact absurd h9 (Nat.not_lt_zero _)
              | succ n9 ihJ1404 =>
                intro j1402 j1403 h9J1404 hJ1404_0 H locs ls hw hl
                have hbj1402 := i_bd j1402
                refine lv_iload C.1 C.2.1 dX11_seen_102 (lv_at hl 0 rfl) ?_
                refine lv_aload_n C.1 C.2.1 dX11_seen_104 rfl (lv_at hl 4 rfl) ?_
                refine x_get C hw iwX11 10 rfl 2 rfl 14 (by decide) kw1207 rfl dX11_seen_105 ?_
                refine lv_iconst (v := 0) C.1 C.2.1 dX11_seen_108 (by decide) ?_
                have mm1499 := hf_qm_now_c 0
                refine x_iald (v := (qm_now_c 0)) C hw 1 rfl (x_in rfl) rfl dX11_seen_109 (x_genP (fun z : Int32 => z.toInt = (qm_now_c 0).toInt ∧ 0 ≤ z.toInt ∧ z.toInt ≤ 6) ⟨rfl, by omega⟩ (fun v1500 hv1500 => ?_))
                refine lv_icmp_ge (tgt := 182) C.1 C.2.1 dX11_seen_110 (by decide) (fun c1501 => ?_) (fun c1501 => ?_)
                · skip
                  have c1501 : v1500.toInt ≤ j1402.toInt := i_leT (X := v1500.toInt) (Y := j1402.toInt) rfl rfl c1501
                  refine lv_iload_n C.1 C.2.1 dX11_seen_182 rfl (lv_at hl 1 rfl) ?_
                  have hw := hw.sub (w' := [(qm, .inr (10, [.int 0, .ref qm_tape, .int 0, .int qm_size, .int qm_limit, .int qm_to, .int qm_from, .int qm_kind, .int qm_number, .int qm_sign, .int qm_fault, .int qm_place, .long qm_word, .int qm_told, .ref qm_now, .ref qm_read, .ref qm_kept, .ref qm_snaps, .ref qm_aside, .ref qm_name, .ref qm_readName, .ref qm_keptName, .ref qm_isKept, .ref qm_onces, .int qm_snapMany, .ref qm_order, .ref qm_ordered, .int qm_orderMany, .int qm_orderMost, .int qm_passing, .int qm_movedWho, .int qm_scratched, .ref qm_text, .int qm_texts, .int qm_seed, .ref qm_line, .ref qm_written, .int qm_lineMany, .int qm_hasWritten, .ref qm_node, .int qm_nodes, .int qm_onesMany, .int qm_within, .int qm_top])), (qm_tape, eI G 940 qm_tape_c), (qm_now, eI G 339 qm_now_c)]) [2, 0, 1] rfl rfl
                  exact x_retiQ hQ B hw ⟨j1403, rfl, rfl⟩ (Nat.le_of_ble_eq_true rfl) (Nat.le_of_ble_eq_true rfl) dX11_seen_183
                · skip
                  have c1501 : j1402.toInt < v1500.toInt := i_leF (X := v1500.toInt) (Y := j1402.toInt) rfl rfl c1501
                  refine lv_iconst (v := 0) C.1 C.2.1 dX11_seen_113 (by decide) ?_
                  refine lv_istore (lv' := [(5, .int 0), (4, .int j1402), (3, .int j1403), (2, .int j78), (1, .int j79), (0, .ref qm)]) C.1 C.2.1 dX11_seen_114 hl (by decide) rfl (fun ls hl => ?_)
                  refine lv_iconst (v := 0) C.1 C.2.1 dX11_seen_116 (by decide) ?_
                  refine lv_istore (lv' := [(6, .int 0), (5, .int 0), (4, .int j1402), (3, .int j1403), (2, .int j78), (1, .int j79), (0, .ref qm)]) C.1 C.2.1 dX11_seen_117 hl (by decide) rfl (fun ls hl => ?_)
                  have loopJ1556 : ∀ (n9 : Nat) (j1554 : Int32) (j1555 : Int32), (2147483647 - j1554.toInt).toNat < n9 → (0 ≤ j1555.toInt ∧ j1555.toInt ≤ 1) → (0 ≤ j1554.toInt ∧ j1554.toInt ≤ 4) → ∀ (H : Heap) (locs : List Loc) (ls : Array Slot), Wd G s A [(qm_tape, eI G 940 qm_tape_c), (qm_now, eI G 339 qm_now_c), (qm, .inr (10, [.int 0, .ref qm_tape, .int 0, .int qm_size, .int qm_limit, .int qm_to, .int qm_from, .int qm_kind, .int qm_number, .int qm_sign, .int qm_fault, .int qm_place, .long qm_word, .int qm_told, .ref qm_now, .ref qm_read, .ref qm_kept, .ref qm_snaps, .ref qm_aside, .ref qm_name, .ref qm_readName, .ref qm_keptName, .ref qm_isKept, .ref qm_onces, .int qm_snapMany, .ref qm_order, .ref qm_ordered, .int qm_orderMany, .int qm_orderMost, .int qm_passing, .int qm_movedWho, .int qm_scratched, .ref qm_text, .int qm_texts, .int qm_seed, .ref qm_line, .ref qm_written, .int qm_lineMany, .int qm_hasWritten, .ref qm_node, .int qm_nodes, .int qm_onesMany, .int qm_within, .int qm_top]))] H locs → lv_has ls 7 [(6, .int j1554), (5, .int j1555), (4, .int j1402), (3, .int j1403), (2, .int j78), (1, .int j79), (0, .ref qm)] → W p l e (rmD 2 0 0) s m args below meth c H locs 0 0 Q (F0 m 119 ls []) := by
                    intro n9
                    induction n9 with
                    | zero => intro j1554 j1555 h9; exact absurd h9 (Nat.not_lt_zero _)
                    | succ n9 ihJ1556 =>
                      intro j1554 j1555 h9J1556 hJ1556_0 hJ1556_1 H locs ls hw hl
                      have hbj1554 := i_bd j1554
                      refine lv_iload C.1 C.2.1 dX11_seen_119 (lv_at hl 0 rfl) ?_
                      refine lv_iconst (v := 4) C.1 C.2.1 dX11_seen_121 (by decide) ?_
                      refine lv_icmp_ge (tgt := 164) C.1 C.2.1 dX11_seen_122 (by decide) (fun c1572 => ?_) (fun c1572 => ?_)
                      · skip
                        have c1572 : 4 ≤ j1554.toInt := i_leT (X := 4) (Y := j1554.toInt) rfl rfl c1572
                        refine lv_iload C.1 C.2.1 dX11_seen_164 (lv_at hl 1 rfl) ?_
                        have J1577 : ∀ (j1576 : Int32), ∀ (H : Heap) (locs : List Loc) (ls : Array Slot), Wd G s A [(qm_tape, eI G 940 qm_tape_c), (qm_now, eI G 339 qm_now_c), (qm, .inr (10, [.int 0, .ref qm_tape, .int 0, .int qm_size, .int qm_limit, .int qm_to, .int qm_from, .int qm_kind, .int qm_number, .int qm_sign, .int qm_fault, .int qm_place, .long qm_word, .int qm_told, .ref qm_now, .ref qm_read, .ref qm_kept, .ref qm_snaps, .ref qm_aside, .ref qm_name, .ref qm_readName, .ref qm_keptName, .ref qm_isKept, .ref qm_onces, .int qm_snapMany, .ref qm_order, .ref qm_ordered, .int qm_orderMany, .int qm_orderMost, .int qm_passing, .int qm_movedWho, .int qm_scratched, .ref qm_text, .int qm_texts, .int qm_seed, .ref qm_line, .ref qm_written, .int qm_lineMany, .int qm_hasWritten, .ref qm_node, .int qm_nodes, .int qm_onesMany, .int qm_within, .int qm_top]))] H locs → lv_has ls 7 [(4, .int j1402), (3, .int j1576), (2, .int j78), (1, .int j79), (0, .ref qm)] → W p l e (rmD 2 0 0) s m args below meth c H locs 0 0 Q (F0 m 176 ls []) := by
                          intro j1576  H locs ls hw hl
                          obtain ⟨v1579, ev1579⟩ : ∃ z : Int32, j1402 + 1 = z := ⟨_, rfl⟩
                          have hv1579 : v1579.toInt = j1402.toInt + 1 := by rw [← ev1579]; exact i_add rfl rfl (by omega) (by omega)
                          refine lv_iinc (v := v1579) (lv' := [(4, .int v1579), (3, .int j1576), (2, .int j78), (1, .int j79), (0, .ref qm)]) C.1 C.2.1 dX11_seen_176 hl (k := 0) rfl ev1579 (by decide) rfl (fun ls hl => ?_)
                          refine lv_goto (tgt := 102) C.1 C.2.1 dX11_seen_179 (by decide) ?_
                          exact ihJ1404 v1579 j1576 (by omega) (by omega) _ _ _ hw (lv_sub hl [0, 1, 2, 3, 4] rfl)
                        refine lv_if_eq (tgt := 176) C.1 C.2.1 dX11_seen_166 (by decide) (fun c1573 => ?_) (fun c1573 => ?_)
                        · skip
                          have c1573 : j1555.toInt = 0 := i_eqT (X := j1555.toInt) (Y := 0) rfl rfl c1573
                          exact J1577 j1403   _ _ _ hw (lv_sub hl [2, 3, 4, 5, 6] rfl)
                        · skip
                          have c1573 : j1555.toInt ≠ 0 := i_eqF (X := j1555.toInt) (Y := 0) rfl rfl c1573
                          refine lv_iload_n C.1 C.2.1 dX11_seen_169 rfl (lv_at hl 3 rfl) ?_
                          refine lv_iconst (v := 1) C.1 C.2.1 dX11_seen_170 (by decide) ?_
                          refine lv_iload C.1 C.2.1 dX11_seen_171 (lv_at hl 2 rfl) ?_
                          refine lv_ishl C.1 C.2.1 dX11_seen_173 (x_genP (fun z : Int32 => 1 ≤ z.toInt ∧ z.toInt ≤ 256) (i_shl1 (by omega) (by omega)) (fun v1580 hv1580 => ?_))
                          refine lv_ior C.1 C.2.1 dX11_seen_174 (x_gen (fun v1581 => ?_))
                          refine lv_istore_n (lv' := [(3, .int v1581), (6, .int j1554), (5, .int j1555), (4, .int j1402), (2, .int j78), (1, .int j79), (0, .ref qm)]) C.1 C.2.1 dX11_seen_175 rfl hl (by decide) rfl (fun ls hl => ?_)
                          exact J1577 v1581   _ _ _ hw (lv_sub hl [3, 0, 4, 5, 6] rfl)
                      · skip
                        have c1572 : j1554.toInt < 4 := i_leF (X := 4) (Y := j1554.toInt) rfl rfl c1572
                        refine lv_iload C.1 C.2.1 dX11_seen_125 (lv_at hl 1 rfl) ?_
                        have J1591 : ∀ (j1590 : Int32), (0 ≤ j1590.toInt ∧ j1590.toInt ≤ 1) → ∀ (H : Heap) (locs : List Loc) (ls : Array Slot), Wd G s A [(qm_tape, eI G 940 qm_tape_c), (qm_now, eI G 339 qm_now_c), (qm, .inr (10, [.int 0, .ref qm_tape, .int 0, .int qm_size, .int qm_limit, .int qm_to, .int qm_from, .int qm_kind, .int qm_number, .int qm_sign, .int qm_fault, .int qm_place, .long qm_word, .int qm_told, .ref qm_now, .ref qm_read, .ref qm_kept, .ref qm_snaps, .ref qm_aside, .ref qm_name, .ref qm_readName, .ref qm_keptName, .ref qm_isKept, .ref qm_onces, .int qm_snapMany, .ref qm_order, .ref qm_ordered, .int qm_orderMany, .int qm_orderMost, .int qm_passing, .int qm_movedWho, .int qm_scratched, .ref qm_text, .int qm_texts, .int qm_seed, .ref qm_line, .ref qm_written, .int qm_lineMany, .int qm_hasWritten, .ref qm_node, .int qm_nodes, .int qm_onesMany, .int qm_within, .int qm_top]))] H locs → lv_has ls 7 [(6, .int j1554), (4, .int j1402), (3, .int j1403), (2, .int j78), (1, .int j79), (0, .ref qm)] → W p l e (rmD 2 0 0) s m args below meth c H locs 0 0 Q (F0 m 156 ls [.int j1590]) := by
                          intro j1590 hJ1591_0 H locs ls hw hl
                          refine lv_istore (lv' := [(5, .int j1590), (6, .int j1554), (4, .int j1402), (3, .int j1403), (2, .int j78), (1, .int j79), (0, .ref qm)]) C.1 C.2.1 dX11_seen_156 hl (by decide) rfl (fun ls hl => ?_)
                          obtain ⟨v1593, ev1593⟩ : ∃ z : Int32, j1554 + 1 = z := ⟨_, rfl⟩
                          have hv1593 : v1593.toInt = j1554.toInt + 1 := by rw [← ev1593]; exact i_add rfl rfl (by omega) (by omega)
                          refine lv_iinc (v := v1593) (lv' := [(6, .int v1593), (5, .int j1590), (4, .int j1402), (3, .int j1403), (2, .int j78), (1, .int j79), (0, .ref qm)]) C.1 C.2.1 dX11_seen_158 hl (k := 1) rfl ev1593 (by decide) rfl (fun ls hl => ?_)
                          refine lv_goto (tgt := 119) C.1 C.2.1 dX11_seen_161 (by decide) ?_
                          exact ihJ1556 v1593 j1590 (by omega) (by omega) (by omega) _ _ _ hw (lv_sub hl [0, 1, 2, 3, 4, 5, 6] rfl)
                        have J1589 : ∀ (H : Heap) (locs : List Loc) (ls : Array Slot), Wd G s A [(qm_tape, eI G 940 qm_tape_c), (qm_now, eI G 339 qm_now_c), (qm, .inr (10, [.int 0, .ref qm_tape, .int 0, .int qm_size, .int qm_limit, .int qm_to, .int qm_from, .int qm_kind, .int qm_number, .int qm_sign, .int qm_fault, .int qm_place, .long qm_word, .int qm_told, .ref qm_now, .ref qm_read, .ref qm_kept, .ref qm_snaps, .ref qm_aside, .ref qm_name, .ref qm_readName, .ref qm_keptName, .ref qm_isKept, .ref qm_onces, .int qm_snapMany, .ref qm_order, .ref qm_ordered, .int qm_orderMany, .int qm_orderMost, .int qm_passing, .int qm_movedWho, .int qm_scratched, .ref qm_text, .int qm_texts, .int qm_seed, .ref qm_line, .ref qm_written, .int qm_lineMany, .int qm_hasWritten, .ref qm_node, .int qm_nodes, .int qm_onesMany, .int qm_within, .int qm_top]))] H locs → lv_has ls 7 [(6, .int j1554), (4, .int j1402), (3, .int j1403), (2, .int j78), (1, .int j79), (0, .ref qm)] → W p l e (rmD 2 0 0) s m args below meth c H locs 0 0 Q (F0 m 151 ls []) := by
                          intro   H locs ls hw hl
                          refine lv_iconst (v := 1) C.1 C.2.1 dX11_seen_151 (by decide) ?_
                          refine lv_goto (tgt := 156) C.1 C.2.1 dX11_seen_152 (by decide) ?_
                          exact J1591 1  (by decide) _ _ _ hw (lv_sub hl [0, 1, 2, 3, 4, 5] rfl)
                        refine lv_if_ne (tgt := 151) C.1 C.2.1 dX11_seen_127 (by decide) (fun c1582 => ?_) (fun c1582 => ?_)
                        · skip
                          have c1582 : j1555.toInt ≠ 0 := i_eqF (X := j1555.toInt) (Y := 0) rfl rfl c1582
                          exact J1589    _ _ _ hw (lv_sub hl [0, 2, 3, 4, 5, 6] rfl)
                        · skip
                          have c1582 : j1555.toInt = 0 := i_eqT (X := j1555.toInt) (Y := 0) rfl rfl c1582
                          refine lv_aload_n C.1 C.2.1 dX11_seen_130 rfl (lv_at hl 6 rfl) ?_
                          refine x_get C hw iwX11 10 rfl 2 rfl 14 (by decide) kw1207 rfl dX11_seen_131 ?_
                          refine lv_bipush (v := 69) C.1 C.2.1 dX11_seen_134 (by decide) ?_
                          refine lv_iload C.1 C.2.1 dX11_seen_136 (lv_at hl 2 rfl) ?_
                          refine lv_iadd C.1 C.2.1 dX11_seen_138 (x_genP (fun z : Int32 => z.toInt = 69 + j1402.toInt) (i_add (X := 69) (Y := j1402.toInt) rfl rfl (by omega) (by omega)) (fun v1594 hv1594 => ?_))
                          refine x_iald (v := (qm_now_c v1594.toNatClampNeg)) C hw 1 rfl (i_in (by omega) (by omega)) rfl dX11_seen_139 (x_gen (fun v1595 => ?_))
                          refine lv_iload C.1 C.2.1 dX11_seen_140 (lv_at hl 0 rfl) ?_
                          refine x_calliS (As := [.int v1595, .int j1554]) (rest := []) (wr := [(qm_tape, eI G 940 qm_tape_c), (qm_now, eI G 339 qm_now_c), (qm, .inr (10, [.int 0, .ref qm_tape, .int 0, .int qm_size, .int qm_limit, .int qm_to, .int qm_from, .int qm_kind, .int qm_number, .int qm_sign, .int qm_fault, .int qm_place, .long qm_word, .int qm_told, .ref qm_now, .ref qm_read, .ref qm_kept, .ref qm_snaps, .ref qm_aside, .ref qm_name, .ref qm_readName, .ref qm_keptName, .ref qm_isKept, .ref qm_onces, .int qm_snapMany, .ref qm_order, .ref qm_ordered, .int qm_orderMany, .int qm_orderMost, .int qm_passing, .int qm_movedWho, .int qm_scratched, .ref qm_text, .int qm_texts, .int qm_seed, .ref qm_line, .ref qm_written, .int qm_lineMany, .int qm_hasWritten, .ref qm_node, .int qm_nodes, .int qm_onesMany, .int qm_within, .int qm_top]))]) C hw (s_X11_turned v1595 j1554) mwX11_turned kw1491 [] [0, 1, 2] rfl rfl rfl rfl (by decide) rfl hl.1 rfl (Nat.le_of_ble_eq_true rfl) ⟨(Nat.le_of_ble_eq_true rfl), (Nat.le_of_ble_eq_true rfl)⟩ ⟨(Nat.le_of_ble_eq_true rfl), (Nat.le_of_ble_eq_true rfl)⟩ dX11_seen_142 (fun r1596 u9 H locs hp9 hw => ?_)
                          obtain ⟨x1597, rfl, rfl⟩ := hp9
                          have hw : Wd G s A [(qm_tape, eI G 940 qm_tape_c), (qm_now, eI G 339 qm_now_c), (qm, .inr (10, [.int 0, .ref qm_tape, .int 0, .int qm_size, .int qm_limit, .int qm_to, .int qm_from, .int qm_kind, .int qm_number, .int qm_sign, .int qm_fault, .int qm_place, .long qm_word, .int qm_told, .ref qm_now, .ref qm_read, .ref qm_kept, .ref qm_snaps, .ref qm_aside, .ref qm_name, .ref qm_readName, .ref qm_keptName, .ref qm_isKept, .ref qm_onces, .int qm_snapMany, .ref qm_order, .ref qm_ordered, .int qm_orderMany, .int qm_orderMost, .int qm_passing, .int qm_movedWho, .int qm_scratched, .ref qm_text, .int qm_texts, .int qm_seed, .ref qm_line, .ref qm_written, .int qm_lineMany, .int qm_hasWritten, .ref qm_node, .int qm_nodes, .int qm_onesMany, .int qm_within, .int qm_top]))] H _ := hw
                          refine lv_iload_n C.1 C.2.1 dX11_seen_145 rfl (lv_at hl 5 rfl) ?_
                          refine lv_iand C.1 C.2.1 dX11_seen_146 (x_gen (fun v1598 => ?_))
                          refine lv_iload_n C.1 C.2.1 dX11_seen_147 rfl (lv_at hl 4 rfl) ?_
                          refine lv_icmp_ne (tgt := 155) C.1 C.2.1 dX11_seen_148 (by decide) (fun c1599 => ?_) (fun c1599 => ?_)
                          · skip
                            have c1599 : v1598.toInt ≠ j78.toInt := i_eqF (X := v1598.toInt) (Y := j78.toInt) rfl rfl c1599
                            have bc1599_v1598 := i_bd v1598
                            have bc1599_j78 := i_bd j78
                            refine lv_iconst (v := 0) C.1 C.2.1 dX11_seen_155 (by decide) ?_
                            exact J1591 0  (by decide) _ _ _ hw (lv_sub hl [0, 2, 3, 4, 5, 6] rfl)
                          · skip
                            have c1599 : v1598.toInt = j78.toInt := i_eqT (X := v1598.toInt) (Y := j78.toInt) rfl rfl c1599
                            have bc1599_v1598 := i_bd v1598
                            have bc1599_j78 := i_bd j78
                            exact J1589    _ _ _ hw (lv_sub hl [0, 2, 3, 4, 5, 6] rfl)
                  exact loopJ1556 _ 0 0 (Nat.lt_succ_self _) (by decide) (by decide) _ _ _ hw (lv_sub hl [0, 1, 2, 3, 4, 5, 6] rfl)
            exact loopJ1404 _ 0 0 (Nat.lt_succ_self _) (by decide) _ _ _ hw (lv_sub hl [0, 1, 2, 3, 4] rfl)
          · skip
            have c848 : v847.toInt ≠ 0 := i_eqF (X := v847.toInt) (Y := 0) rfl rfl c848
            have bc848_v847 := i_bd v847
            refine lv_iconst (v := (-1)) C.1 C.2.1 dX11_seen_95 (by decide) ?_
            have hw := hw.sub (w' := [(qm, .inr (10, [.int 0, .ref qm_tape, .int 0, .int qm_size, .int qm_limit, .int qm_to, .int qm_from, .int qm_kind, .int qm_number, .int qm_sign, .int qm_fault, .int qm_place, .long qm_word, .int qm_told, .ref qm_now, .ref qm_read, .ref qm_kept, .ref qm_snaps, .ref qm_aside, .ref qm_name, .ref qm_readName, .ref qm_keptName, .ref qm_isKept, .ref qm_onces, .int qm_snapMany, .ref qm_order, .ref qm_ordered, .int qm_orderMany, .int qm_orderMost, .int qm_passing, .int qm_movedWho, .int qm_scratched, .ref qm_text, .int qm_texts, .int qm_seed, .ref qm_line, .ref qm_written, .int qm_lineMany, .int qm_hasWritten, .ref qm_node, .int qm_nodes, .int qm_onesMany, .int qm_within, .int qm_top])), (qm_tape, eI G 940 qm_tape_c), (qm_now, eI G 339 qm_now_c)]) [2, 0, 1] rfl rfl
            exact x_retiQ hQ B hw ⟨(-1), rfl, rfl⟩ (Nat.le_of_ble_eq_true rfl) (Nat.le_of_ble_eq_true rfl) dX11_seen_96
        · skip
          have c845 : j77.toInt < 4 := i_leF (X := 4) (Y := j77.toInt) rfl rfl c845
          refine lv_aload_n C.1 C.2.1 dX11_seen_27 rfl (lv_at hl 3 rfl) ?_
          refine x_get C hw iwX11 10 rfl 2 rfl 1 (by decide) kw1194 rfl dX11_seen_28 ?_
          refine lv_iload_n C.1 C.2.1 dX11_seen_31 rfl (lv_at hl 0 rfl) ?_
          refine x_iald (v := (qm_tape_c j77.toNatClampNeg)) C hw 0 rfl (i_in (by omega) (by omega)) rfl dX11_seen_32 (x_gen (fun v1600 => ?_))
          refine lv_bipush (v := 15) C.1 C.2.1 dX11_seen_33 (by decide) ?_
          refine lv_icmp_gt (tgt := 51) C.1 C.2.1 dX11_seen_35 (by decide) (fun c1601 => ?_) (fun c1601 => ?_)
          · skip
            have c1601 : 15 < v1600.toInt := i_ltT (X := 15) (Y := v1600.toInt) rfl rfl c1601
            have bc1601_v1600 := i_bd v1600
            refine lv_iconst (v := (-1)) C.1 C.2.1 dX11_seen_51 (by decide) ?_
            have hw := hw.sub (w' := [(qm, .inr (10, [.int 0, .ref qm_tape, .int 0, .int qm_size, .int qm_limit, .int qm_to, .int qm_from, .int qm_kind, .int qm_number, .int qm_sign, .int qm_fault, .int qm_place, .long qm_word, .int qm_told, .ref qm_now, .ref qm_read, .ref qm_kept, .ref qm_snaps, .ref qm_aside, .ref qm_name, .ref qm_readName, .ref qm_keptName, .ref qm_isKept, .ref qm_onces, .int qm_snapMany, .ref qm_order, .ref qm_ordered, .int qm_orderMany, .int qm_orderMost, .int qm_passing, .int qm_movedWho, .int qm_scratched, .ref qm_text, .int qm_texts, .int qm_seed, .ref qm_line, .ref qm_written, .int qm_lineMany, .int qm_hasWritten, .ref qm_node, .int qm_nodes, .int qm_onesMany, .int qm_within, .int qm_top])), (qm_tape, eI G 940 qm_tape_c), (qm_now, eI G 339 qm_now_c)]) [2, 0, 1] rfl rfl
            exact x_retiQ hQ B hw ⟨(-1), rfl, rfl⟩ (Nat.le_of_ble_eq_true rfl) (Nat.le_of_ble_eq_true rfl) dX11_seen_52
          · skip
            have c1601 : v1600.toInt ≤ 15 := i_ltF (X := 15) (Y := v1600.toInt) rfl rfl c1601
            have bc1601_v1600 := i_bd v1600
            refine lv_aload_n C.1 C.2.1 dX11_seen_38 rfl (lv_at hl 3 rfl) ?_
            refine x_get C hw iwX11 10 rfl 2 rfl 1 (by decide) kw1194 rfl dX11_seen_39 ?_
            refine lv_iconst (v := 4) C.1 C.2.1 dX11_seen_42 (by decide) ?_
            refine lv_iload_n C.1 C.2.1 dX11_seen_43 rfl (lv_at hl 0 rfl) ?_
            refine lv_iadd C.1 C.2.1 dX11_seen_44 (x_genP (fun z : Int32 => z.toInt = 4 + j77.toInt) (i_add (X := 4) (Y := j77.toInt) rfl rfl (by omega) (by omega)) (fun v1602 hv1602 => ?_))
            refine x_iald (v := (qm_tape_c v1602.toNatClampNeg)) C hw 0 rfl (i_in (by omega) (by omega)) rfl dX11_seen_45 (x_gen (fun v1603 => ?_))
            refine lv_bipush (v := 15) C.1 C.2.1 dX11_seen_46 (by decide) ?_
            refine lv_icmp_le (tgt := 53) C.1 C.2.1 dX11_seen_48 (by decide) (fun c1604 => ?_) (fun c1604 => ?_)
            · skip
              have c1604 : v1603.toInt ≤ 15 := i_leT (X := v1603.toInt) (Y := 15) rfl rfl c1604
              have bc1604_v1603 := i_bd v1603
              refine lv_iload_n C.1 C.2.1 dX11_seen_53 rfl (lv_at hl 2 rfl) ?_
              refine lv_aload_n C.1 C.2.1 dX11_seen_54 rfl (lv_at hl 3 rfl) ?_
              refine x_get C hw iwX11 10 rfl 2 rfl 1 (by decide) kw1194 rfl dX11_seen_55 ?_
              refine lv_iload_n C.1 C.2.1 dX11_seen_58 rfl (lv_at hl 0 rfl) ?_
              refine x_iald (v := (qm_tape_c j77.toNatClampNeg)) C hw 0 rfl (i_in (by omega) (by omega)) rfl dX11_seen_59 (x_gen (fun v1605 => ?_))
              refine lv_iload_n C.1 C.2.1 dX11_seen_60 rfl (lv_at hl 0 rfl) ?_
              refine x_calliS (As := [.int v1605, .int j77]) (rest := [.int j79]) (wr := [(qm_tape, eI G 940 qm_tape_c), (qm_now, eI G 339 qm_now_c), (qm, .inr (10, [.int 0, .ref qm_tape, .int 0, .int qm_size, .int qm_limit, .int qm_to, .int qm_from, .int qm_kind, .int qm_number, .int qm_sign, .int qm_fault, .int qm_place, .long qm_word, .int qm_told, .ref qm_now, .ref qm_read, .ref qm_kept, .ref qm_snaps, .ref qm_aside, .ref qm_name, .ref qm_readName, .ref qm_keptName, .ref qm_isKept, .ref qm_onces, .int qm_snapMany, .ref qm_order, .ref qm_ordered, .int qm_orderMany, .int qm_orderMost, .int qm_passing, .int qm_movedWho, .int qm_scratched, .ref qm_text, .int qm_texts, .int qm_seed, .ref qm_line, .ref qm_written, .int qm_lineMany, .int qm_hasWritten, .ref qm_node, .int qm_nodes, .int qm_onesMany, .int qm_within, .int qm_top]))]) C hw (s_X11_rowIn v1605 j77) mwX11_rowIn kw1399 [] [0, 1, 2] rfl rfl rfl rfl (by decide) rfl hl.1 rfl (Nat.le_of_ble_eq_true rfl) ⟨(Nat.le_of_ble_eq_true rfl), (Nat.le_of_ble_eq_true rfl)⟩ ⟨(Nat.le_of_ble_eq_true rfl), (Nat.le_of_ble_eq_true rfl)⟩ dX11_seen_61 (fun r1606 u9 H locs hp9 hw => ?_)
              obtain ⟨x1607, rfl, rfl⟩ := hp9
              have hw : Wd G s A [(qm_tape, eI G 940 qm_tape_c), (qm_now, eI G 339 qm_now_c), (qm, .inr (10, [.int 0, .ref qm_tape, .int 0, .int qm_size, .int qm_limit, .int qm_to, .int qm_from, .int qm_kind, .int qm_number, .int qm_sign, .int qm_fault, .int qm_place, .long qm_word, .int qm_told, .ref qm_now, .ref qm_read, .ref qm_kept, .ref qm_snaps, .ref qm_aside, .ref qm_name, .ref qm_readName, .ref qm_keptName, .ref qm_isKept, .ref qm_onces, .int qm_snapMany, .ref qm_order, .ref qm_ordered, .int qm_orderMany, .int qm_orderMost, .int qm_passing, .int qm_movedWho, .int qm_scratched, .ref qm_text, .int qm_texts, .int qm_seed, .ref qm_line, .ref qm_written, .int qm_lineMany, .int qm_hasWritten, .ref qm_node, .int qm_nodes, .int qm_onesMany, .int qm_within, .int qm_top]))] H _ := hw
              refine lv_ior C.1 C.2.1 dX11_seen_64 (x_gen (fun v1608 => ?_))
              refine lv_istore_n (lv' := [(1, .int v1608), (3, .int j77), (2, .int j78), (0, .ref qm)]) C.1 C.2.1 dX11_seen_65 rfl hl (by decide) rfl (fun ls hl => ?_)
              refine lv_iload_n C.1 C.2.1 dX11_seen_66 rfl (lv_at hl 2 rfl) ?_
              refine lv_aload_n C.1 C.2.1 dX11_seen_67 rfl (lv_at hl 3 rfl) ?_
              refine x_get C hw iwX11 10 rfl 2 rfl 1 (by decide) kw1194 rfl dX11_seen_68 ?_
              refine lv_iconst (v := 4) C.1 C.2.1 dX11_seen_71 (by decide) ?_
              refine lv_iload_n C.1 C.2.1 dX11_seen_72 rfl (lv_at hl 1 rfl) ?_
              refine lv_iadd C.1 C.2.1 dX11_seen_73 (x_genP (fun z : Int32 => z.toInt = 4 + j77.toInt) (i_add (X := 4) (Y := j77.toInt) rfl rfl (by omega) (by omega)) (fun v1609 hv1609 => ?_))
              refine x_iald (v := (qm_tape_c v1609.toNatClampNeg)) C hw 0 rfl (i_in (by omega) (by omega)) rfl dX11_seen_74 (x_gen (fun v1610 => ?_))
              refine lv_iload_n C.1 C.2.1 dX11_seen_75 rfl (lv_at hl 1 rfl) ?_
              refine x_calliS (As := [.int v1610, .int j77]) (rest := [.int j78]) (wr := [(qm_tape, eI G 940 qm_tape_c), (qm_now, eI G 339 qm_now_c), (qm, .inr (10, [.int 0, .ref qm_tape, .int 0, .int qm_size, .int qm_limit, .int qm_to, .int qm_from, .int qm_kind, .int qm_number, .int qm_sign, .int qm_fault, .int qm_place, .long qm_word, .int qm_told, .ref qm_now, .ref qm_read, .ref qm_kept, .ref qm_snaps, .ref qm_aside, .ref qm_name, .ref qm_readName, .ref qm_keptName, .ref qm_isKept, .ref qm_onces, .int qm_snapMany, .ref qm_order, .ref qm_ordered, .int qm_orderMany, .int qm_orderMost, .int qm_passing, .int qm_movedWho, .int qm_scratched, .ref qm_text, .int qm_texts, .int qm_seed, .ref qm_line, .ref qm_written, .int qm_lineMany, .int qm_hasWritten, .ref qm_node, .int qm_nodes, .int qm_onesMany, .int qm_within, .int qm_top]))]) C hw (s_X11_rowIn v1610 j77) mwX11_rowIn kw1399 [] [0, 1, 2] rfl rfl rfl rfl (by decide) rfl hl.1 rfl (Nat.le_of_ble_eq_true rfl) ⟨(Nat.le_of_ble_eq_true rfl), (Nat.le_of_ble_eq_true rfl)⟩ ⟨(Nat.le_of_ble_eq_true rfl), (Nat.le_of_ble_eq_true rfl)⟩ dX11_seen_76 (fun r1611 u9 H locs hp9 hw => ?_)
              obtain ⟨x1612, rfl, rfl⟩ := hp9
              have hw : Wd G s A [(qm_tape, eI G 940 qm_tape_c), (qm_now, eI G 339 qm_now_c), (qm, .inr (10, [.int 0, .ref qm_tape, .int 0, .int qm_size, .int qm_limit, .int qm_to, .int qm_from, .int qm_kind, .int qm_number, .int qm_sign, .int qm_fault, .int qm_place, .long qm_word, .int qm_told, .ref qm_now, .ref qm_read, .ref qm_kept, .ref qm_snaps, .ref qm_aside, .ref qm_name, .ref qm_readName, .ref qm_keptName, .ref qm_isKept, .ref qm_onces, .int qm_snapMany, .ref qm_order, .ref qm_ordered, .int qm_orderMany, .int qm_orderMost, .int qm_passing, .int qm_movedWho, .int qm_scratched, .ref qm_text, .int qm_texts, .int qm_seed, .ref qm_line, .ref qm_written, .int qm_lineMany, .int qm_hasWritten, .ref qm_node, .int qm_nodes, .int qm_onesMany, .int qm_within, .int qm_top]))] H _ := hw
              refine lv_ior C.1 C.2.1 dX11_seen_79 (x_gen (fun v1613 => ?_))
              refine lv_istore_n (lv' := [(2, .int v1613), (1, .int v1608), (3, .int j77), (0, .ref qm)]) C.1 C.2.1 dX11_seen_80 rfl hl (by decide) rfl (fun ls hl => ?_)
              obtain ⟨v1614, ev1614⟩ : ∃ z : Int32, j77 + 1 = z := ⟨_, rfl⟩
              have hv1614 : v1614.toInt = j77.toInt + 1 := by rw [← ev1614]; exact i_add rfl rfl (by omega) (by omega)
              refine lv_iinc (v := v1614) (lv' := [(3, .int v1614), (2, .int v1613), (1, .int v1608), (0, .ref qm)]) C.1 C.2.1 dX11_seen_81 hl (k := 2) rfl ev1614 (by decide) rfl (fun ls hl => ?_)
              refine lv_goto (tgt := 22) C.1 C.2.1 dX11_seen_84 (by decide) ?_
              exact ihJ80 v1614 v1613 v1608 (by omega) (by omega) _ _ _ hw (lv_sub hl [0, 1, 2, 3] rfl)
            · skip
              have c1604 : 15 < v1603.toInt := i_leF (X := v1603.toInt) (Y := 15) rfl rfl c1604
              have bc1604_v1603 := i_bd v1603
              refine lv_iconst (v := (-1)) C.1 C.2.1 dX11_seen_51 (by decide) ?_
              have hw := hw.sub (w' := [(qm, .inr (10, [.int 0, .ref qm_tape, .int 0, .int qm_size, .int qm_limit, .int qm_to, .int qm_from, .int qm_kind, .int qm_number, .int qm_sign, .int qm_fault, .int qm_place, .long qm_word, .int qm_told, .ref qm_now, .ref qm_read, .ref qm_kept, .ref qm_snaps, .ref qm_aside, .ref qm_name, .ref qm_readName, .ref qm_keptName, .ref qm_isKept, .ref qm_onces, .int qm_snapMany, .ref qm_order, .ref qm_ordered, .int qm_orderMany, .int qm_orderMost, .int qm_passing, .int qm_movedWho, .int qm_scratched, .ref qm_text, .int qm_texts, .int qm_seed, .ref qm_line, .ref qm_written, .int qm_lineMany, .int qm_hasWritten, .ref qm_node, .int qm_nodes, .int qm_onesMany, .int qm_within, .int qm_top])), (qm_tape, eI G 940 qm_tape_c), (qm_now, eI G 339 qm_now_c)]) [2, 0, 1] rfl rfl
              exact x_retiQ hQ B hw ⟨(-1), rfl, rfl⟩ (Nat.le_of_ble_eq_true rfl) (Nat.le_of_ble_eq_true rfl) dX11_seen_52
    exact loopJ80 _ 0 0 0 (Nat.lt_succ_self _) (by decide) _ _ _ hw (lv_sub hl [0, 1, 2, 3] rfl)
  · skip
    have c3 : qm_taped.toInt ≠ 8 := i_eqF (X := qm_taped.toInt) (Y := 8) rfl rfl c3
    refine lv_iconst (v := (-1)) C.1 C.2.1 dX11_seen_14 (by decide) ?_
    have hw := hw.sub (w' := [(qm, .inr (10, [.int 0, .ref qm_tape, .int 0, .int qm_size, .int qm_limit, .int qm_to, .int qm_from, .int qm_kind, .int qm_number, .int qm_sign, .int qm_fault, .int qm_place, .long qm_word, .int qm_told, .ref qm_now, .ref qm_read, .ref qm_kept, .ref qm_snaps, .ref qm_aside, .ref qm_name, .ref qm_readName, .ref qm_keptName, .ref qm_isKept, .ref qm_onces, .int qm_snapMany, .ref qm_order, .ref qm_ordered, .int qm_orderMany, .int qm_orderMost, .int qm_passing, .int qm_movedWho, .int qm_scratched, .ref qm_text, .int qm_texts, .int qm_seed, .ref qm_line, .ref qm_written, .int qm_lineMany, .int qm_hasWritten, .ref qm_node, .int qm_nodes, .int qm_onesMany, .int qm_within, .int qm_top])), (qm_tape, eI G 940 qm_tape_c), (qm_now, eI G 339 qm_now_c)]) [2, 0, 1] rfl rfl
    exact x_retiQ hQ B hw ⟨(-1), rfl, rfl⟩ (Nat.le_of_ble_eq_true rfl) (Nat.le_of_ble_eq_true rfl) dX11_seen_15
theorem dX11_alike_0 : decode cX11_alike 0 = .ok (.aload_n 0, 1) := by decide +kernel
theorem dX11_alike_1 : decode cX11_alike 1 = .ok (.iconst 0, 1) := by decide +kernel
theorem dX11_alike_2 : decode cX11_alike 2 = .ok (.putfield 1, 3) := by decide +kernel
theorem dX11_alike_5 : decode cX11_alike 5 = .ok (.aload_n 0, 1) := by decide +kernel
theorem dX11_alike_6 : decode cX11_alike 6 = .ok (.iload_n 1, 1) := by decide +kernel
theorem dX11_alike_7 : decode cX11_alike 7 = .ok (.invokevirtual 237, 3) := by decide +kernel
theorem dX11_alike_10 : decode cX11_alike 10 = .ok (.ifCond .ne 5, 3) := by decide +kernel
theorem dX11_alike_13 : decode cX11_alike 13 = .ok (.iconst (-1), 1) := by decide +kernel
theorem dX11_alike_14 : decode cX11_alike 14 = .ok (.ireturn, 1) := by decide +kernel
theorem dX11_alike_15 : decode cX11_alike 15 = .ok (.iconst 0, 1) := by decide +kernel
theorem dX11_alike_16 : decode cX11_alike 16 = .ok (.istore_n 2, 1) := by decide +kernel
theorem dX11_alike_17 : decode cX11_alike 17 = .ok (.iconst 0, 1) := by decide +kernel
theorem dX11_alike_18 : decode cX11_alike 18 = .ok (.istore_n 3, 1) := by decide +kernel
theorem dX11_alike_19 : decode cX11_alike 19 = .ok (.iload_n 3, 1) := by decide +kernel
theorem dX11_alike_20 : decode cX11_alike 20 = .ok (.aload_n 0, 1) := by decide +kernel
theorem dX11_alike_21 : decode cX11_alike 21 = .ok (.getfield 98, 3) := by decide +kernel
theorem dX11_alike_24 : decode cX11_alike 24 = .ok (.iconst 0, 1) := by decide +kernel
theorem dX11_alike_25 : decode cX11_alike 25 = .ok (.iaload, 1) := by decide +kernel
theorem dX11_alike_26 : decode cX11_alike 26 = .ok (.if_icmp .ge 44, 3) := by decide +kernel
theorem dX11_alike_29 : decode cX11_alike 29 = .ok (.iload_n 3, 1) := by decide +kernel
theorem dX11_alike_30 : decode cX11_alike 30 = .ok (.iload_n 1, 1) := by decide +kernel
theorem dX11_alike_31 : decode cX11_alike 31 = .ok (.if_icmp .eq 33, 3) := by decide +kernel
theorem dX11_alike_34 : decode cX11_alike 34 = .ok (.aload_n 0, 1) := by decide +kernel
theorem dX11_alike_35 : decode cX11_alike 35 = .ok (.getfield 98, 3) := by decide +kernel
theorem dX11_alike_38 : decode cX11_alike 38 = .ok (.bipush 69, 2) := by decide +kernel
theorem dX11_alike_40 : decode cX11_alike 40 = .ok (.iload_n 1, 1) := by decide +kernel
theorem dX11_alike_41 : decode cX11_alike 41 = .ok (.iadd, 1) := by decide +kernel
theorem dX11_alike_42 : decode cX11_alike 42 = .ok (.iaload, 1) := by decide +kernel
theorem dX11_alike_43 : decode cX11_alike 43 = .ok (.aload_n 0, 1) := by decide +kernel
theorem dX11_alike_44 : decode cX11_alike 44 = .ok (.getfield 98, 3) := by decide +kernel
theorem dX11_alike_47 : decode cX11_alike 47 = .ok (.bipush 69, 2) := by decide +kernel
theorem dX11_alike_49 : decode cX11_alike 49 = .ok (.iload_n 3, 1) := by decide +kernel
theorem dX11_alike_50 : decode cX11_alike 50 = .ok (.iadd, 1) := by decide +kernel
theorem dX11_alike_51 : decode cX11_alike 51 = .ok (.iaload, 1) := by decide +kernel
theorem dX11_alike_52 : decode cX11_alike 52 = .ok (.invokestatic 325, 3) := by decide +kernel
theorem mwX11_looksLike : MwS yX11_looksLike cX11_looksLike 3 (some .boolean) 2 := ⟨⟨kw1651, kw15, by decide +kernel⟩, kw1650⟩
theorem dX11_alike_55 : decode cX11_alike 55 = .ok (.ifCond .eq 9, 3) := by decide +kernel
theorem dX11_alike_58 : decode cX11_alike 58 = .ok (.iload_n 2, 1) := by decide +kernel
theorem dX11_alike_59 : decode cX11_alike 59 = .ok (.iconst 1, 1) := by decide +kernel
theorem dX11_alike_60 : decode cX11_alike 60 = .ok (.iload_n 3, 1) := by decide +kernel
theorem dX11_alike_61 : decode cX11_alike 61 = .ok (.ishl, 1) := by decide +kernel
theorem dX11_alike_62 : decode cX11_alike 62 = .ok (.ior, 1) := by decide +kernel
theorem dX11_alike_63 : decode cX11_alike 63 = .ok (.istore_n 2, 1) := by decide +kernel
theorem dX11_alike_64 : decode cX11_alike 64 = .ok (.iinc 3 1, 3) := by decide +kernel
theorem dX11_alike_67 : decode cX11_alike 67 = .ok (.goto (-48), 3) := by decide +kernel
theorem dX11_alike_70 : decode cX11_alike 70 = .ok (.iload_n 2, 1) := by decide +kernel
theorem dX11_alike_71 : decode cX11_alike 71 = .ok (.ireturn, 1) := by decide +kernel
set_option maxHeartbeats 4000000 in
set_option maxRecDepth 100000 in
theorem s_X11_alike {l : Launch} {G : Gc} (qm : Nat) (a1 : Int32) (qm_thrown : Int32) (qm_tape : Nat) (qm_taped : Int32) (qm_size : Int32) (qm_limit : Int32) (qm_to : Int32) (qm_from : Int32) (qm_kind : Int32) (qm_number : Int32) (qm_sign : Int32) (qm_fault : Int32) (qm_place : Int32) (qm_word : Int64) (qm_told : Int32) (qm_now : Nat) (qm_read : Nat) (qm_kept : Nat) (qm_snaps : Nat) (qm_aside : Nat) (qm_name : Nat) (qm_readName : Nat) (qm_keptName : Nat) (qm_isKept : Nat) (qm_onces : Nat) (qm_snapMany : Int32) (qm_order : Nat) (qm_ordered : Nat) (qm_orderMany : Int32) (qm_orderMost : Int32) (qm_passing : Int32) (qm_movedWho : Int32) (qm_scratched : Int32) (qm_text : Nat) (qm_texts : Int32) (qm_seed : Int32) (qm_line : Nat) (qm_written : Nat) (qm_lineMany : Int32) (qm_hasWritten : Int32) (qm_node : Nat) (qm_nodes : Int32) (qm_onesMany : Int32) (qm_within : Int32) (qm_top : Int32) (qm_now_c : Nat → Int32) (hf_qm_now_c : slI qm_now_c) (hf1_qm_now_c : trI qm_now_c) : Ci l yX11_alike cX11_alike 4 (some .int) 3 0 0 G [.ref qm, .int a1] [(qm, .inr (10, [.int qm_thrown, .ref qm_tape, .int qm_taped, .int qm_size, .int qm_limit, .int qm_to, .int qm_from, .int qm_kind, .int qm_number, .int qm_sign, .int qm_fault, .int qm_place, .long qm_word, .int qm_told, .ref qm_now, .ref qm_read, .ref qm_kept, .ref qm_snaps, .ref qm_aside, .ref qm_name, .ref qm_readName, .ref qm_keptName, .ref qm_isKept, .ref qm_onces, .int qm_snapMany, .ref qm_order, .ref qm_ordered, .int qm_orderMany, .int qm_orderMost, .int qm_passing, .int qm_movedWho, .int qm_scratched, .ref qm_text, .int qm_texts, .int qm_seed, .ref qm_line, .ref qm_written, .int qm_lineMany, .int qm_hasWritten, .ref qm_node, .int qm_nodes, .int qm_onesMany, .int qm_within, .int qm_top])), (qm_now, eI G 339 qm_now_c)] (fun (r9 : Int32) (u9 : va_W) => ∃ (r_x : Int32), r9 = r_x ∧ u9 = [(qm, .inr (10, [.int 0, .ref qm_tape, .int qm_taped, .int qm_size, .int qm_limit, .int qm_to, .int qm_from, .int qm_kind, .int qm_number, .int qm_sign, .int qm_fault, .int qm_place, .long qm_word, .int qm_told, .ref qm_now, .ref qm_read, .ref qm_kept, .ref qm_snaps, .ref qm_aside, .ref qm_name, .ref qm_readName, .ref qm_keptName, .ref qm_isKept, .ref qm_onces, .int qm_snapMany, .ref qm_order, .ref qm_ordered, .int qm_orderMany, .int qm_orderMost, .int qm_passing, .int qm_movedWho, .int qm_scratched, .ref qm_text, .int qm_texts, .int qm_seed, .ref qm_line, .ref qm_written, .int qm_lineMany, .int qm_hasWritten, .ref qm_node, .int qm_nodes, .int qm_onesMany, .int qm_within, .int qm_top])), (qm_now, eI G 339 qm_now_c)]) := by
  refine Ci.ofQ (by decide) (Nat.le_of_ble_eq_true rfl) ?_
  intro p e s m below meth c ls A args Q hQ B hw hl
  have C : CallFix p m c cX11_alike 4 s args gw "LanternStateModel" := B.1
  have hl : lv_has ls 4 [(0, .ref qm), (1, .int a1)] := hl
  refine lv_aload_n C.1 C.2.1 dX11_alike_0 rfl (lv_at hl 0 rfl) ?_
  refine lv_iconst (v := 0) C.1 C.2.1 dX11_alike_1 (by decide) ?_
  refine x_put (w' := [(qm, .inr (10, [.int 0, .ref qm_tape, .int qm_taped, .int qm_size, .int qm_limit, .int qm_to, .int qm_from, .int qm_kind, .int qm_number, .int qm_sign, .int qm_fault, .int qm_place, .long qm_word, .int qm_told, .ref qm_now, .ref qm_read, .ref qm_kept, .ref qm_snaps, .ref qm_aside, .ref qm_name, .ref qm_readName, .ref qm_keptName, .ref qm_isKept, .ref qm_onces, .int qm_snapMany, .ref qm_order, .ref qm_ordered, .int qm_orderMany, .int qm_orderMost, .int qm_passing, .int qm_movedWho, .int qm_scratched, .ref qm_text, .int qm_texts, .int qm_seed, .ref qm_line, .ref qm_written, .int qm_lineMany, .int qm_hasWritten, .ref qm_node, .int qm_nodes, .int qm_onesMany, .int qm_within, .int qm_top])), (qm_now, eI G 339 qm_now_c)]) C hw iwX11 tyX11_ok nmX11 10 rfl 0 rfl 0 (by decide) kw1193 rfl rfl rfl (Nat.le_of_ble_eq_true rfl) rfl dX11_alike_2 (fun H locs hw => ?_)
  refine lv_aload_n C.1 C.2.1 dX11_alike_5 rfl (lv_at hl 0 rfl) ?_
  refine lv_iload_n C.1 C.2.1 dX11_alike_6 rfl (lv_at hl 1 rfl) ?_
  refine x_calliV (As := [.int a1]) (rest := []) (wr := []) C hw (s_X11_isSlide qm a1 0 qm_tape qm_taped qm_size qm_limit qm_to qm_from qm_kind qm_number qm_sign qm_fault qm_place qm_word qm_told qm_now qm_read qm_kept qm_snaps qm_aside qm_name qm_readName qm_keptName qm_isKept qm_onces qm_snapMany qm_order qm_ordered qm_orderMany qm_orderMost qm_passing qm_movedWho qm_scratched qm_text qm_texts qm_seed qm_line qm_written qm_lineMany qm_hasWritten qm_node qm_nodes qm_onesMany qm_within qm_top qm_now_c hf_qm_now_c hf1_qm_now_c) mwX11_isSlide kw1465 [0, 1] [] rfl rfl rfl rfl (by decide) 0 rfl rfl rfl rfl hl.1 rfl (Nat.le_of_ble_eq_true rfl) ⟨(Nat.le_of_ble_eq_true rfl), (Nat.le_of_ble_eq_true rfl)⟩ ⟨(Nat.le_of_ble_eq_true rfl), (Nat.le_of_ble_eq_true rfl)⟩ dX11_alike_7 (fun r1 u9 H locs hp9 hw => ?_)
  rcases hp9 with ⟨rfl, rfl⟩ | ⟨rfl, rfl, hf2, hf3⟩
  · skip
    have hw : Wd G s A [(qm, .inr (10, [.int 0, .ref qm_tape, .int qm_taped, .int qm_size, .int qm_limit, .int qm_to, .int qm_from, .int qm_kind, .int qm_number, .int qm_sign, .int qm_fault, .int qm_place, .long qm_word, .int qm_told, .ref qm_now, .ref qm_read, .ref qm_kept, .ref qm_snaps, .ref qm_aside, .ref qm_name, .ref qm_readName, .ref qm_keptName, .ref qm_isKept, .ref qm_onces, .int qm_snapMany, .ref qm_order, .ref qm_ordered, .int qm_orderMany, .int qm_orderMost, .int qm_passing, .int qm_movedWho, .int qm_scratched, .ref qm_text, .int qm_texts, .int qm_seed, .ref qm_line, .ref qm_written, .int qm_lineMany, .int qm_hasWritten, .ref qm_node, .int qm_nodes, .int qm_onesMany, .int qm_within, .int qm_top])), (qm_now, eI G 339 qm_now_c)] H _ := hw
    refine lv_if_ne (tgt := 15) C.1 C.2.1 dX11_alike_10 (by decide) (fun h9 => absurd (by decide) h9) (fun _ => ?_)
    refine lv_iconst (v := (-1)) C.1 C.2.1 dX11_alike_13 (by decide) ?_
    exact x_retiQ hQ B hw ⟨(-1), rfl, rfl⟩ (Nat.le_of_ble_eq_true rfl) (Nat.le_of_ble_eq_true rfl) dX11_alike_14
  · skip
    have hw : Wd G s A [(qm, .inr (10, [.int 0, .ref qm_tape, .int qm_taped, .int qm_size, .int qm_limit, .int qm_to, .int qm_from, .int qm_kind, .int qm_number, .int qm_sign, .int qm_fault, .int qm_place, .long qm_word, .int qm_told, .ref qm_now, .ref qm_read, .ref qm_kept, .ref qm_snaps, .ref qm_aside, .ref qm_name, .ref qm_readName, .ref qm_keptName, .ref qm_isKept, .ref qm_onces, .int qm_snapMany, .ref qm_order, .ref qm_ordered, .int qm_orderMany, .int qm_orderMost, .int qm_passing, .int qm_movedWho, .int qm_scratched, .ref qm_text, .int qm_texts, .int qm_seed, .ref qm_line, .ref qm_written, .int qm_lineMany, .int qm_hasWritten, .ref qm_node, .int qm_nodes, .int qm_onesMany, .int qm_within, .int qm_top])), (qm_now, eI G 339 qm_now_c)] H _ := hw
    refine lv_if_ne (tgt := 15) C.1 C.2.1 dX11_alike_10 (by decide) (fun _ => ?_) (fun h9 => absurd h9 (by decide))
    refine lv_iconst (v := 0) C.1 C.2.1 dX11_alike_15 (by decide) ?_
    refine lv_istore_n (lv' := [(2, .int 0), (0, .ref qm), (1, .int a1)]) C.1 C.2.1 dX11_alike_16 rfl hl (by decide) rfl (fun ls hl => ?_)
    refine lv_iconst (v := 0) C.1 C.2.1 dX11_alike_17 (by decide) ?_
    refine lv_istore_n (lv' := [(3, .int 0), (2, .int 0), (0, .ref qm), (1, .int a1)]) C.1 C.2.1 dX11_alike_18 rfl hl (by decide) rfl (fun ls hl => ?_)
    have loopJ102 : ∀ (n9 : Nat) (j100 : Int32) (j101 : Int32), (2147483647 - j100.toInt).toNat < n9 → (0 ≤ j100.toInt ∧ j100.toInt ≤ 6) → ∀ (H : Heap) (locs : List Loc) (ls : Array Slot), Wd G s A [(qm, .inr (10, [.int 0, .ref qm_tape, .int qm_taped, .int qm_size, .int qm_limit, .int qm_to, .int qm_from, .int qm_kind, .int qm_number, .int qm_sign, .int qm_fault, .int qm_place, .long qm_word, .int qm_told, .ref qm_now, .ref qm_read, .ref qm_kept, .ref qm_snaps, .ref qm_aside, .ref qm_name, .ref qm_readName, .ref qm_keptName, .ref qm_isKept, .ref qm_onces, .int qm_snapMany, .ref qm_order, .ref qm_ordered, .int qm_orderMany, .int qm_orderMost, .int qm_passing, .int qm_movedWho, .int qm_scratched, .ref qm_text, .int qm_texts, .int qm_seed, .ref qm_line, .ref qm_written, .int qm_lineMany, .int qm_hasWritten, .ref qm_node, .int qm_nodes, .int qm_onesMany, .int qm_within, .int qm_top])), (qm_now, eI G 339 qm_now_c)] H locs → lv_has ls 4 [(3, .int j100), (2, .int j101), (0, .ref qm), (1, .int a1)] → W p l e (rmD 3 0 0) s m args below meth c H locs 0 0 Q (F0 m 19 ls []) := by
      intro n9
      induction n9 with
      | zero => intro j100 j101 h9; exact absurd h9 (Nat.not_lt_zero _)
      | succ n9 ihJ102 =>
        intro j100 j101 h9J102 hJ102_0 H locs ls hw hl
        have hbj100 := i_bd j100
        refine lv_iload_n C.1 C.2.1 dX11_alike_19 rfl (lv_at hl 0 rfl) ?_
        refine lv_aload_n C.1 C.2.1 dX11_alike_20 rfl (lv_at hl 2 rfl) ?_
        refine x_get C hw iwX11 10 rfl 0 rfl 14 (by decide) kw1207 rfl dX11_alike_21 ?_
        refine lv_iconst (v := 0) C.1 C.2.1 dX11_alike_24 (by decide) ?_
        have mm120 := hf_qm_now_c 0
        refine x_iald (v := (qm_now_c 0)) C hw 1 rfl (x_in rfl) rfl dX11_alike_25 (x_genP (fun z : Int32 => z.toInt = (qm_now_c 0).toInt ∧ 0 ≤ z.toInt ∧ z.toInt ≤ 6) ⟨rfl, by omega⟩ (fun v121 hv121 => ?_))
        refine lv_icmp_ge (tgt := 70) C.1 C.2.1 dX11_alike_26 (by decide) (fun c122 => ?_) (fun c122 => ?_)
        · skip
          have c122 : v121.toInt ≤ j100.toInt := i_leT (X := v121.toInt) (Y := j100.toInt) rfl rfl c122
          refine lv_iload_n C.1 C.2.1 dX11_alike_70 rfl (lv_at hl 1 rfl) ?_
          exact x_retiQ hQ B hw ⟨j101, rfl, rfl⟩ (Nat.le_of_ble_eq_true rfl) (Nat.le_of_ble_eq_true rfl) dX11_alike_71
        · skip
          have c122 : j100.toInt < v121.toInt := i_leF (X := v121.toInt) (Y := j100.toInt) rfl rfl c122
          refine lv_iload_n C.1 C.2.1 dX11_alike_29 rfl (lv_at hl 0 rfl) ?_
          refine lv_iload_n C.1 C.2.1 dX11_alike_30 rfl (lv_at hl 3 rfl) ?_
          have J132 : ∀ (j131 : Int32), ∀ (H : Heap) (locs : List Loc) (ls : Array Slot), Wd G s A [(qm, .inr (10, [.int 0, .ref qm_tape, .int qm_taped, .int qm_size, .int qm_limit, .int qm_to, .int qm_from, .int qm_kind, .int qm_number, .int qm_sign, .int qm_fault, .int qm_place, .long qm_word, .int qm_told, .ref qm_now, .ref qm_read, .ref qm_kept, .ref qm_snaps, .ref qm_aside, .ref qm_name, .ref qm_readName, .ref qm_keptName, .ref qm_isKept, .ref qm_onces, .int qm_snapMany, .ref qm_order, .ref qm_ordered, .int qm_orderMany, .int qm_orderMost, .int qm_passing, .int qm_movedWho, .int qm_scratched, .ref qm_text, .int qm_texts, .int qm_seed, .ref qm_line, .ref qm_written, .int qm_lineMany, .int qm_hasWritten, .ref qm_node, .int qm_nodes, .int qm_onesMany, .int qm_within, .int qm_top])), (qm_now, eI G 339 qm_now_c)] H locs → lv_has ls 4 [(3, .int j100), (2, .int j131), (0, .ref qm), (1, .int a1)] → W p l e (rmD 3 0 0) s m args below meth c H locs 0 0 Q (F0 m 64 ls []) := by
            intro j131  H locs ls hw hl
            obtain ⟨v134, ev134⟩ : ∃ z : Int32, j100 + 1 = z := ⟨_, rfl⟩
            have hv134 : v134.toInt = j100.toInt + 1 := by rw [← ev134]; exact i_add rfl rfl (by omega) (by omega)
            refine lv_iinc (v := v134) (lv' := [(3, .int v134), (2, .int j131), (0, .ref qm), (1, .int a1)]) C.1 C.2.1 dX11_alike_64 hl (k := 0) rfl ev134 (by decide) rfl (fun ls hl => ?_)
            refine lv_goto (tgt := 19) C.1 C.2.1 dX11_alike_67 (by decide) ?_
            exact ihJ102 v134 j131 (by omega) (by omega) _ _ _ hw (lv_sub hl [0, 1, 2, 3] rfl)
          refine lv_icmp_eq (tgt := 64) C.1 C.2.1 dX11_alike_31 (by decide) (fun c123 => ?_) (fun c123 => ?_)
          · skip
            have c123 : j100.toInt = a1.toInt := i_eqT (X := j100.toInt) (Y := a1.toInt) rfl rfl c123
            exact J132 j101   _ _ _ hw (lv_sub hl [0, 1, 2, 3] rfl)
          · skip
            have c123 : j100.toInt ≠ a1.toInt := i_eqF (X := j100.toInt) (Y := a1.toInt) rfl rfl c123
            refine lv_aload_n C.1 C.2.1 dX11_alike_34 rfl (lv_at hl 2 rfl) ?_
            refine x_get C hw iwX11 10 rfl 0 rfl 14 (by decide) kw1207 rfl dX11_alike_35 ?_
            refine lv_bipush (v := 69) C.1 C.2.1 dX11_alike_38 (by decide) ?_
            refine lv_iload_n C.1 C.2.1 dX11_alike_40 rfl (lv_at hl 3 rfl) ?_
            refine lv_iadd C.1 C.2.1 dX11_alike_41 (x_genP (fun z : Int32 => z.toInt = 69 + a1.toInt) (i_add (X := 69) (Y := a1.toInt) rfl rfl (by omega) (by omega)) (fun v135 hv135 => ?_))
            refine x_iald (v := (qm_now_c v135.toNatClampNeg)) C hw 1 rfl (i_in (by omega) (by omega)) rfl dX11_alike_42 (x_gen (fun v136 => ?_))
            refine lv_aload_n C.1 C.2.1 dX11_alike_43 rfl (lv_at hl 2 rfl) ?_
            refine x_get C hw iwX11 10 rfl 0 rfl 14 (by decide) kw1207 rfl dX11_alike_44 ?_
            refine lv_bipush (v := 69) C.1 C.2.1 dX11_alike_47 (by decide) ?_
            refine lv_iload_n C.1 C.2.1 dX11_alike_49 rfl (lv_at hl 0 rfl) ?_
            refine lv_iadd C.1 C.2.1 dX11_alike_50 (x_genP (fun z : Int32 => z.toInt = 69 + j100.toInt) (i_add (X := 69) (Y := j100.toInt) rfl rfl (by omega) (by omega)) (fun v137 hv137 => ?_))
            refine x_iald (v := (qm_now_c v137.toNatClampNeg)) C hw 1 rfl (i_in (by omega) (by omega)) rfl dX11_alike_51 (x_gen (fun v138 => ?_))
            refine x_calliS (As := [.int v136, .int v138]) (rest := []) (wr := [(qm, .inr (10, [.int 0, .ref qm_tape, .int qm_taped, .int qm_size, .int qm_limit, .int qm_to, .int qm_from, .int qm_kind, .int qm_number, .int qm_sign, .int qm_fault, .int qm_place, .long qm_word, .int qm_told, .ref qm_now, .ref qm_read, .ref qm_kept, .ref qm_snaps, .ref qm_aside, .ref qm_name, .ref qm_readName, .ref qm_keptName, .ref qm_isKept, .ref qm_onces, .int qm_snapMany, .ref qm_order, .ref qm_ordered, .int qm_orderMany, .int qm_orderMost, .int qm_passing, .int qm_movedWho, .int qm_scratched, .ref qm_text, .int qm_texts, .int qm_seed, .ref qm_line, .ref qm_written, .int qm_lineMany, .int qm_hasWritten, .ref qm_node, .int qm_nodes, .int qm_onesMany, .int qm_within, .int qm_top])), (qm_now, eI G 339 qm_now_c)]) C hw (s_X11_looksLike v136 v138) mwX11_looksLike kw1649 [] [0, 1] rfl rfl rfl rfl (by decide) rfl hl.1 rfl (Nat.le_of_ble_eq_true rfl) ⟨(Nat.le_of_ble_eq_true rfl), (Nat.le_of_ble_eq_true rfl)⟩ ⟨(Nat.le_of_ble_eq_true rfl), (Nat.le_of_ble_eq_true rfl)⟩ dX11_alike_52 (fun r139 u9 H locs hp9 hw => ?_)
            rcases hp9 with ⟨rfl, rfl⟩ | ⟨rfl, rfl⟩
            · skip
              have hw : Wd G s A [(qm, .inr (10, [.int 0, .ref qm_tape, .int qm_taped, .int qm_size, .int qm_limit, .int qm_to, .int qm_from, .int qm_kind, .int qm_number, .int qm_sign, .int qm_fault, .int qm_place, .long qm_word, .int qm_told, .ref qm_now, .ref qm_read, .ref qm_kept, .ref qm_snaps, .ref qm_aside, .ref qm_name, .ref qm_readName, .ref qm_keptName, .ref qm_isKept, .ref qm_onces, .int qm_snapMany, .ref qm_order, .ref qm_ordered, .int qm_orderMany, .int qm_orderMost, .int qm_passing, .int qm_movedWho, .int qm_scratched, .ref qm_text, .int qm_texts, .int qm_seed, .ref qm_line, .ref qm_written, .int qm_lineMany, .int qm_hasWritten, .ref qm_node, .int qm_nodes, .int qm_onesMany, .int qm_within, .int qm_top])), (qm_now, eI G 339 qm_now_c)] H _ := hw
              refine lv_if_eq (tgt := 64) C.1 C.2.1 dX11_alike_55 (by decide) (fun _ => ?_) (fun h9 => absurd (by decide) h9)
              exact J132 j101   _ _ _ hw (lv_sub hl [0, 1, 2, 3] rfl)
            · skip
              have hw : Wd G s A [(qm, .inr (10, [.int 0, .ref qm_tape, .int qm_taped, .int qm_size, .int qm_limit, .int qm_to, .int qm_from, .int qm_kind, .int qm_number, .int qm_sign, .int qm_fault, .int qm_place, .long qm_word, .int qm_told, .ref qm_now, .ref qm_read, .ref qm_kept, .ref qm_snaps, .ref qm_aside, .ref qm_name, .ref qm_readName, .ref qm_keptName, .ref qm_isKept, .ref qm_onces, .int qm_snapMany, .ref qm_order, .ref qm_ordered, .int qm_orderMany, .int qm_orderMost, .int qm_passing, .int qm_movedWho, .int qm_scratched, .ref qm_text, .int qm_texts, .int qm_seed, .ref qm_line, .ref qm_written, .int qm_lineMany, .int qm_hasWritten, .ref qm_node, .int qm_nodes, .int qm_onesMany, .int qm_within, .int qm_top])), (qm_now, eI G 339 qm_now_c)] H _ := hw
              refine lv_if_eq (tgt := 64) C.1 C.2.1 dX11_alike_55 (by decide) (fun h9 => absurd h9 (by decide)) (fun _ => ?_)
              refine lv_iload_n C.1 C.2.1 dX11_alike_58 rfl (lv_at hl 1 rfl) ?_
              refine lv_iconst (v := 1) C.1 C.2.1 dX11_alike_59 (by decide) ?_
              refine lv_iload_n C.1 C.2.1 dX11_alike_60 rfl (lv_at hl 0 rfl) ?_
              refine lv_ishl C.1 C.2.1 dX11_alike_61 (x_genP (fun z : Int32 => 1 ≤ z.toInt ∧ z.toInt ≤ 256) (i_shl1 (by omega) (by omega)) (fun v140 hv140 => ?_))
              refine lv_ior C.1 C.2.1 dX11_alike_62 (x_gen (fun v141 => ?_))
              refine lv_istore_n (lv' := [(2, .int v141), (3, .int j100), (0, .ref qm), (1, .int a1)]) C.1 C.2.1 dX11_alike_63 rfl hl (by decide) rfl (fun ls hl => ?_)
              exact J132 v141   _ _ _ hw (lv_sub hl [1, 0, 2, 3] rfl)
    exact loopJ102 _ 0 0 (Nat.lt_succ_self _) (by decide) _ _ _ hw (lv_sub hl [0, 1, 2, 3] rfl)
theorem dX11_differ_0 : decode cX11_differ 0 = .ok (.aload_n 0, 1) := by decide +kernel
theorem dX11_differ_1 : decode cX11_differ 1 = .ok (.iconst 0, 1) := by decide +kernel
theorem dX11_differ_2 : decode cX11_differ 2 = .ok (.putfield 1, 3) := by decide +kernel
theorem dX11_differ_5 : decode cX11_differ 5 = .ok (.aload_n 0, 1) := by decide +kernel
theorem dX11_differ_6 : decode cX11_differ 6 = .ok (.iload_n 1, 1) := by decide +kernel
theorem dX11_differ_7 : decode cX11_differ 7 = .ok (.invokevirtual 237, 3) := by decide +kernel
theorem dX11_differ_10 : decode cX11_differ 10 = .ok (.ifCond .eq 36, 3) := by decide +kernel
theorem dX11_differ_46 : decode cX11_differ 46 = .ok (.iconst (-1), 1) := by decide +kernel
theorem dX11_differ_47 : decode cX11_differ 47 = .ok (.ireturn, 1) := by decide +kernel
theorem dX11_differ_13 : decode cX11_differ 13 = .ok (.aload_n 0, 1) := by decide +kernel
theorem dX11_differ_14 : decode cX11_differ 14 = .ok (.iload_n 2, 1) := by decide +kernel
theorem dX11_differ_15 : decode cX11_differ 15 = .ok (.invokevirtual 237, 3) := by decide +kernel
theorem dX11_differ_18 : decode cX11_differ 18 = .ok (.ifCond .eq 28, 3) := by decide +kernel
theorem dX11_differ_21 : decode cX11_differ 21 = .ok (.aload_n 0, 1) := by decide +kernel
theorem dX11_differ_22 : decode cX11_differ 22 = .ok (.getfield 98, 3) := by decide +kernel
theorem dX11_differ_25 : decode cX11_differ 25 = .ok (.bipush 69, 2) := by decide +kernel
theorem dX11_differ_27 : decode cX11_differ 27 = .ok (.iload_n 1, 1) := by decide +kernel
theorem dX11_differ_28 : decode cX11_differ 28 = .ok (.iadd, 1) := by decide +kernel
theorem dX11_differ_29 : decode cX11_differ 29 = .ok (.iaload, 1) := by decide +kernel
theorem dX11_differ_30 : decode cX11_differ 30 = .ok (.aload_n 0, 1) := by decide +kernel
theorem dX11_differ_31 : decode cX11_differ 31 = .ok (.getfield 98, 3) := by decide +kernel
theorem dX11_differ_34 : decode cX11_differ 34 = .ok (.bipush 69, 2) := by decide +kernel
theorem dX11_differ_36 : decode cX11_differ 36 = .ok (.iload_n 2, 1) := by decide +kernel
theorem dX11_differ_37 : decode cX11_differ 37 = .ok (.iadd, 1) := by decide +kernel
theorem dX11_differ_38 : decode cX11_differ 38 = .ok (.iaload, 1) := by decide +kernel
theorem dX11_differ_39 : decode cX11_differ 39 = .ok (.ixor, 1) := by decide +kernel
theorem dX11_differ_40 : decode cX11_differ 40 = .ok (.invokestatic 252, 3) := by decide +kernel
theorem dX11_differ_43 : decode cX11_differ 43 = .ok (.goto 4, 3) := by decide +kernel
set_option maxHeartbeats 4000000 in
set_option maxRecDepth 100000 in
theorem s_X11_differ {l : Launch} {G : Gc} (qm : Nat) (a1 : Int32) (a2 : Int32) (qm_thrown : Int32) (qm_tape : Nat) (qm_taped : Int32) (qm_size : Int32) (qm_limit : Int32) (qm_to : Int32) (qm_from : Int32) (qm_kind : Int32) (qm_number : Int32) (qm_sign : Int32) (qm_fault : Int32) (qm_place : Int32) (qm_word : Int64) (qm_told : Int32) (qm_now : Nat) (qm_read : Nat) (qm_kept : Nat) (qm_snaps : Nat) (qm_aside : Nat) (qm_name : Nat) (qm_readName : Nat) (qm_keptName : Nat) (qm_isKept : Nat) (qm_onces : Nat) (qm_snapMany : Int32) (qm_order : Nat) (qm_ordered : Nat) (qm_orderMany : Int32) (qm_orderMost : Int32) (qm_passing : Int32) (qm_movedWho : Int32) (qm_scratched : Int32) (qm_text : Nat) (qm_texts : Int32) (qm_seed : Int32) (qm_line : Nat) (qm_written : Nat) (qm_lineMany : Int32) (qm_hasWritten : Int32) (qm_node : Nat) (qm_nodes : Int32) (qm_onesMany : Int32) (qm_within : Int32) (qm_top : Int32) (qm_now_c : Nat → Int32) (hf_qm_now_c : slI qm_now_c) (hf1_qm_now_c : trI qm_now_c) : Ci l yX11_differ cX11_differ 3 (some .int) 2 0 0 G [.ref qm, .int a1, .int a2] [(qm, .inr (10, [.int qm_thrown, .ref qm_tape, .int qm_taped, .int qm_size, .int qm_limit, .int qm_to, .int qm_from, .int qm_kind, .int qm_number, .int qm_sign, .int qm_fault, .int qm_place, .long qm_word, .int qm_told, .ref qm_now, .ref qm_read, .ref qm_kept, .ref qm_snaps, .ref qm_aside, .ref qm_name, .ref qm_readName, .ref qm_keptName, .ref qm_isKept, .ref qm_onces, .int qm_snapMany, .ref qm_order, .ref qm_ordered, .int qm_orderMany, .int qm_orderMost, .int qm_passing, .int qm_movedWho, .int qm_scratched, .ref qm_text, .int qm_texts, .int qm_seed, .ref qm_line, .ref qm_written, .int qm_lineMany, .int qm_hasWritten, .ref qm_node, .int qm_nodes, .int qm_onesMany, .int qm_within, .int qm_top])), (qm_now, eI G 339 qm_now_c)] (fun (r9 : Int32) (u9 : va_W) => ∃ (r_x : Int32), r9 = r_x ∧ u9 = [(qm, .inr (10, [.int 0, .ref qm_tape, .int qm_taped, .int qm_size, .int qm_limit, .int qm_to, .int qm_from, .int qm_kind, .int qm_number, .int qm_sign, .int qm_fault, .int qm_place, .long qm_word, .int qm_told, .ref qm_now, .ref qm_read, .ref qm_kept, .ref qm_snaps, .ref qm_aside, .ref qm_name, .ref qm_readName, .ref qm_keptName, .ref qm_isKept, .ref qm_onces, .int qm_snapMany, .ref qm_order, .ref qm_ordered, .int qm_orderMany, .int qm_orderMost, .int qm_passing, .int qm_movedWho, .int qm_scratched, .ref qm_text, .int qm_texts, .int qm_seed, .ref qm_line, .ref qm_written, .int qm_lineMany, .int qm_hasWritten, .ref qm_node, .int qm_nodes, .int qm_onesMany, .int qm_within, .int qm_top])), (qm_now, eI G 339 qm_now_c)]) := by
  refine Ci.ofQ (by decide) (Nat.le_of_ble_eq_true rfl) ?_
  intro p e s m below meth c ls A args Q hQ B hw hl
  have C : CallFix p m c cX11_differ 3 s args gw "LanternStateModel" := B.1
  have hl : lv_has ls 3 [(0, .ref qm), (1, .int a1), (2, .int a2)] := hl
  refine lv_aload_n C.1 C.2.1 dX11_differ_0 rfl (lv_at hl 0 rfl) ?_
  refine lv_iconst (v := 0) C.1 C.2.1 dX11_differ_1 (by decide) ?_
  refine x_put (w' := [(qm, .inr (10, [.int 0, .ref qm_tape, .int qm_taped, .int qm_size, .int qm_limit, .int qm_to, .int qm_from, .int qm_kind, .int qm_number, .int qm_sign, .int qm_fault, .int qm_place, .long qm_word, .int qm_told, .ref qm_now, .ref qm_read, .ref qm_kept, .ref qm_snaps, .ref qm_aside, .ref qm_name, .ref qm_readName, .ref qm_keptName, .ref qm_isKept, .ref qm_onces, .int qm_snapMany, .ref qm_order, .ref qm_ordered, .int qm_orderMany, .int qm_orderMost, .int qm_passing, .int qm_movedWho, .int qm_scratched, .ref qm_text, .int qm_texts, .int qm_seed, .ref qm_line, .ref qm_written, .int qm_lineMany, .int qm_hasWritten, .ref qm_node, .int qm_nodes, .int qm_onesMany, .int qm_within, .int qm_top])), (qm_now, eI G 339 qm_now_c)]) C hw iwX11 tyX11_ok nmX11 10 rfl 0 rfl 0 (by decide) kw1193 rfl rfl rfl (Nat.le_of_ble_eq_true rfl) rfl dX11_differ_2 (fun H locs hw => ?_)
  refine lv_aload_n C.1 C.2.1 dX11_differ_5 rfl (lv_at hl 0 rfl) ?_
  refine lv_iload_n C.1 C.2.1 dX11_differ_6 rfl (lv_at hl 1 rfl) ?_
  refine x_calliV (As := [.int a1]) (rest := []) (wr := []) C hw (s_X11_isSlide qm a1 0 qm_tape qm_taped qm_size qm_limit qm_to qm_from qm_kind qm_number qm_sign qm_fault qm_place qm_word qm_told qm_now qm_read qm_kept qm_snaps qm_aside qm_name qm_readName qm_keptName qm_isKept qm_onces qm_snapMany qm_order qm_ordered qm_orderMany qm_orderMost qm_passing qm_movedWho qm_scratched qm_text qm_texts qm_seed qm_line qm_written qm_lineMany qm_hasWritten qm_node qm_nodes qm_onesMany qm_within qm_top qm_now_c hf_qm_now_c hf1_qm_now_c) mwX11_isSlide kw1465 [0, 1] [] rfl rfl rfl rfl (by decide) 0 rfl rfl rfl rfl hl.1 rfl (Nat.le_of_ble_eq_true rfl) ⟨(Nat.le_of_ble_eq_true rfl), (Nat.le_of_ble_eq_true rfl)⟩ ⟨(Nat.le_of_ble_eq_true rfl), (Nat.le_of_ble_eq_true rfl)⟩ dX11_differ_7 (fun r1 u9 H locs hp9 hw => ?_)
  rcases hp9 with ⟨rfl, rfl⟩ | ⟨rfl, rfl, hf2, hf3⟩
  · skip
    have hw : Wd G s A [(qm, .inr (10, [.int 0, .ref qm_tape, .int qm_taped, .int qm_size, .int qm_limit, .int qm_to, .int qm_from, .int qm_kind, .int qm_number, .int qm_sign, .int qm_fault, .int qm_place, .long qm_word, .int qm_told, .ref qm_now, .ref qm_read, .ref qm_kept, .ref qm_snaps, .ref qm_aside, .ref qm_name, .ref qm_readName, .ref qm_keptName, .ref qm_isKept, .ref qm_onces, .int qm_snapMany, .ref qm_order, .ref qm_ordered, .int qm_orderMany, .int qm_orderMost, .int qm_passing, .int qm_movedWho, .int qm_scratched, .ref qm_text, .int qm_texts, .int qm_seed, .ref qm_line, .ref qm_written, .int qm_lineMany, .int qm_hasWritten, .ref qm_node, .int qm_nodes, .int qm_onesMany, .int qm_within, .int qm_top])), (qm_now, eI G 339 qm_now_c)] H _ := hw
    refine lv_if_eq (tgt := 46) C.1 C.2.1 dX11_differ_10 (by decide) (fun _ => ?_) (fun h9 => absurd (by decide) h9)
    refine lv_iconst (v := (-1)) C.1 C.2.1 dX11_differ_46 (by decide) ?_
    exact x_retiQ hQ B hw ⟨(-1), rfl, rfl⟩ (Nat.le_of_ble_eq_true rfl) (Nat.le_of_ble_eq_true rfl) dX11_differ_47
  · skip
    have hw : Wd G s A [(qm, .inr (10, [.int 0, .ref qm_tape, .int qm_taped, .int qm_size, .int qm_limit, .int qm_to, .int qm_from, .int qm_kind, .int qm_number, .int qm_sign, .int qm_fault, .int qm_place, .long qm_word, .int qm_told, .ref qm_now, .ref qm_read, .ref qm_kept, .ref qm_snaps, .ref qm_aside, .ref qm_name, .ref qm_readName, .ref qm_keptName, .ref qm_isKept, .ref qm_onces, .int qm_snapMany, .ref qm_order, .ref qm_ordered, .int qm_orderMany, .int qm_orderMost, .int qm_passing, .int qm_movedWho, .int qm_scratched, .ref qm_text, .int qm_texts, .int qm_seed, .ref qm_line, .ref qm_written, .int qm_lineMany, .int qm_hasWritten, .ref qm_node, .int qm_nodes, .int qm_onesMany, .int qm_within, .int qm_top])), (qm_now, eI G 339 qm_now_c)] H _ := hw
    refine lv_if_eq (tgt := 46) C.1 C.2.1 dX11_differ_10 (by decide) (fun h9 => absurd h9 (by decide)) (fun _ => ?_)
    refine lv_aload_n C.1 C.2.1 dX11_differ_13 rfl (lv_at hl 0 rfl) ?_
    refine lv_iload_n C.1 C.2.1 dX11_differ_14 rfl (lv_at hl 2 rfl) ?_
    refine x_calliV (As := [.int a2]) (rest := []) (wr := []) C hw (s_X11_isSlide qm a2 0 qm_tape qm_taped qm_size qm_limit qm_to qm_from qm_kind qm_number qm_sign qm_fault qm_place qm_word qm_told qm_now qm_read qm_kept qm_snaps qm_aside qm_name qm_readName qm_keptName qm_isKept qm_onces qm_snapMany qm_order qm_ordered qm_orderMany qm_orderMost qm_passing qm_movedWho qm_scratched qm_text qm_texts qm_seed qm_line qm_written qm_lineMany qm_hasWritten qm_node qm_nodes qm_onesMany qm_within qm_top qm_now_c hf_qm_now_c hf1_qm_now_c) mwX11_isSlide kw1465 [0, 1] [] rfl rfl rfl rfl (by decide) 0 rfl rfl rfl rfl hl.1 rfl (Nat.le_of_ble_eq_true rfl) ⟨(Nat.le_of_ble_eq_true rfl), (Nat.le_of_ble_eq_true rfl)⟩ ⟨(Nat.le_of_ble_eq_true rfl), (Nat.le_of_ble_eq_true rfl)⟩ dX11_differ_15 (fun r4 u9 H locs hp9 hw => ?_)
    rcases hp9 with ⟨rfl, rfl⟩ | ⟨rfl, rfl, hf5, hf6⟩
    · skip
      have hw : Wd G s A [(qm, .inr (10, [.int 0, .ref qm_tape, .int qm_taped, .int qm_size, .int qm_limit, .int qm_to, .int qm_from, .int qm_kind, .int qm_number, .int qm_sign, .int qm_fault, .int qm_place, .long qm_word, .int qm_told, .ref qm_now, .ref qm_read, .ref qm_kept, .ref qm_snaps, .ref qm_aside, .ref qm_name, .ref qm_readName, .ref qm_keptName, .ref qm_isKept, .ref qm_onces, .int qm_snapMany, .ref qm_order, .ref qm_ordered, .int qm_orderMany, .int qm_orderMost, .int qm_passing, .int qm_movedWho, .int qm_scratched, .ref qm_text, .int qm_texts, .int qm_seed, .ref qm_line, .ref qm_written, .int qm_lineMany, .int qm_hasWritten, .ref qm_node, .int qm_nodes, .int qm_onesMany, .int qm_within, .int qm_top])), (qm_now, eI G 339 qm_now_c)] H _ := hw
      refine lv_if_eq (tgt := 46) C.1 C.2.1 dX11_differ_18 (by decide) (fun _ => ?_) (fun h9 => absurd (by decide) h9)
      refine lv_iconst (v := (-1)) C.1 C.2.1 dX11_differ_46 (by decide) ?_
      exact x_retiQ hQ B hw ⟨(-1), rfl, rfl⟩ (Nat.le_of_ble_eq_true rfl) (Nat.le_of_ble_eq_true rfl) dX11_differ_47
    · skip
      have hw : Wd G s A [(qm, .inr (10, [.int 0, .ref qm_tape, .int qm_taped, .int qm_size, .int qm_limit, .int qm_to, .int qm_from, .int qm_kind, .int qm_number, .int qm_sign, .int qm_fault, .int qm_place, .long qm_word, .int qm_told, .ref qm_now, .ref qm_read, .ref qm_kept, .ref qm_snaps, .ref qm_aside, .ref qm_name, .ref qm_readName, .ref qm_keptName, .ref qm_isKept, .ref qm_onces, .int qm_snapMany, .ref qm_order, .ref qm_ordered, .int qm_orderMany, .int qm_orderMost, .int qm_passing, .int qm_movedWho, .int qm_scratched, .ref qm_text, .int qm_texts, .int qm_seed, .ref qm_line, .ref qm_written, .int qm_lineMany, .int qm_hasWritten, .ref qm_node, .int qm_nodes, .int qm_onesMany, .int qm_within, .int qm_top])), (qm_now, eI G 339 qm_now_c)] H _ := hw
      refine lv_if_eq (tgt := 46) C.1 C.2.1 dX11_differ_18 (by decide) (fun h9 => absurd h9 (by decide)) (fun _ => ?_)
      refine lv_aload_n C.1 C.2.1 dX11_differ_21 rfl (lv_at hl 0 rfl) ?_
      refine x_get C hw iwX11 10 rfl 0 rfl 14 (by decide) kw1207 rfl dX11_differ_22 ?_
      refine lv_bipush (v := 69) C.1 C.2.1 dX11_differ_25 (by decide) ?_
      refine lv_iload_n C.1 C.2.1 dX11_differ_27 rfl (lv_at hl 1 rfl) ?_
      refine lv_iadd C.1 C.2.1 dX11_differ_28 (x_genP (fun z : Int32 => z.toInt = 69 + a1.toInt) (i_add (X := 69) (Y := a1.toInt) rfl rfl (by omega) (by omega)) (fun v7 hv7 => ?_))
      refine x_iald (v := (qm_now_c v7.toNatClampNeg)) C hw 1 rfl (i_in (by omega) (by omega)) rfl dX11_differ_29 (x_gen (fun v8 => ?_))
      refine lv_aload_n C.1 C.2.1 dX11_differ_30 rfl (lv_at hl 0 rfl) ?_
      refine x_get C hw iwX11 10 rfl 0 rfl 14 (by decide) kw1207 rfl dX11_differ_31 ?_
      refine lv_bipush (v := 69) C.1 C.2.1 dX11_differ_34 (by decide) ?_
      refine lv_iload_n C.1 C.2.1 dX11_differ_36 rfl (lv_at hl 2 rfl) ?_
      refine lv_iadd C.1 C.2.1 dX11_differ_37 (x_genP (fun z : Int32 => z.toInt = 69 + a2.toInt) (i_add (X := 69) (Y := a2.toInt) rfl rfl (by omega) (by omega)) (fun v9 hv9 => ?_))
      refine x_iald (v := (qm_now_c v9.toNatClampNeg)) C hw 1 rfl (i_in (by omega) (by omega)) rfl dX11_differ_38 (x_gen (fun v10 => ?_))
      refine lv_ixor C.1 C.2.1 dX11_differ_39 (x_gen (fun v11 => ?_))
      refine x_calliS (As := [.int v11]) (rest := []) (wr := [(qm, .inr (10, [.int 0, .ref qm_tape, .int qm_taped, .int qm_size, .int qm_limit, .int qm_to, .int qm_from, .int qm_kind, .int qm_number, .int qm_sign, .int qm_fault, .int qm_place, .long qm_word, .int qm_told, .ref qm_now, .ref qm_read, .ref qm_kept, .ref qm_snaps, .ref qm_aside, .ref qm_name, .ref qm_readName, .ref qm_keptName, .ref qm_isKept, .ref qm_onces, .int qm_snapMany, .ref qm_order, .ref qm_ordered, .int qm_orderMany, .int qm_orderMost, .int qm_passing, .int qm_movedWho, .int qm_scratched, .ref qm_text, .int qm_texts, .int qm_seed, .ref qm_line, .ref qm_written, .int qm_lineMany, .int qm_hasWritten, .ref qm_node, .int qm_nodes, .int qm_onesMany, .int qm_within, .int qm_top])), (qm_now, eI G 339 qm_now_c)]) C hw (s_X11_bits v11) mwX11_bits kw1484 [] [0, 1] rfl rfl rfl rfl (by decide) rfl hl.1 rfl (Nat.le_of_ble_eq_true rfl) ⟨(Nat.le_of_ble_eq_true rfl), (Nat.le_of_ble_eq_true rfl)⟩ ⟨(Nat.le_of_ble_eq_true rfl), (Nat.le_of_ble_eq_true rfl)⟩ dX11_differ_40 (fun r12 u9 H locs hp9 hw => ?_)
      obtain ⟨x13, rfl, rfl⟩ := hp9
      have hw : Wd G s A [(qm, .inr (10, [.int 0, .ref qm_tape, .int qm_taped, .int qm_size, .int qm_limit, .int qm_to, .int qm_from, .int qm_kind, .int qm_number, .int qm_sign, .int qm_fault, .int qm_place, .long qm_word, .int qm_told, .ref qm_now, .ref qm_read, .ref qm_kept, .ref qm_snaps, .ref qm_aside, .ref qm_name, .ref qm_readName, .ref qm_keptName, .ref qm_isKept, .ref qm_onces, .int qm_snapMany, .ref qm_order, .ref qm_ordered, .int qm_orderMany, .int qm_orderMost, .int qm_passing, .int qm_movedWho, .int qm_scratched, .ref qm_text, .int qm_texts, .int qm_seed, .ref qm_line, .ref qm_written, .int qm_lineMany, .int qm_hasWritten, .ref qm_node, .int qm_nodes, .int qm_onesMany, .int qm_within, .int qm_top])), (qm_now, eI G 339 qm_now_c)] H _ := hw
      refine lv_goto (tgt := 47) C.1 C.2.1 dX11_differ_43 (by decide) ?_
      exact x_retiQ hQ B hw ⟨r12, rfl, rfl⟩ (Nat.le_of_ble_eq_true rfl) (Nat.le_of_ble_eq_true rfl) dX11_differ_47
theorem dX11_unevenBy_0 : decode cX11_unevenBy 0 = .ok (.iconst 2, 1) := by decide +kernel
theorem dX11_unevenBy_1 : decode cX11_unevenBy 1 = .ok (.aload_n 0, 1) := by decide +kernel
theorem dX11_unevenBy_2 : decode cX11_unevenBy 2 = .ok (.iload_n 1, 1) := by decide +kernel
theorem dX11_unevenBy_3 : decode cX11_unevenBy 3 = .ok (.iconst 0, 1) := by decide +kernel
theorem dX11_unevenBy_4 : decode cX11_unevenBy 4 = .ok (.invokevirtual 276, 3) := by decide +kernel
theorem dX11_unevenBy_7 : decode cX11_unevenBy 7 = .ok (.invokestatic 252, 3) := by decide +kernel
theorem dX11_unevenBy_10 : decode cX11_unevenBy 10 = .ok (.imul, 1) := by decide +kernel
theorem dX11_unevenBy_11 : decode cX11_unevenBy 11 = .ok (.aload_n 0, 1) := by decide +kernel
theorem dX11_unevenBy_12 : decode cX11_unevenBy 12 = .ok (.getfield 98, 3) := by decide +kernel
theorem dX11_unevenBy_15 : decode cX11_unevenBy 15 = .ok (.iconst 1, 1) := by decide +kernel
theorem dX11_unevenBy_16 : decode cX11_unevenBy 16 = .ok (.iaload, 1) := by decide +kernel
theorem dX11_unevenBy_17 : decode cX11_unevenBy 17 = .ok (.isub, 1) := by decide +kernel
theorem dX11_unevenBy_18 : decode cX11_unevenBy 18 = .ok (.invokestatic 328, 3) := by decide +kernel
theorem mwX11_size : MwS yX11_size cX11_size 1 (some .int) 1 := ⟨⟨kw1666, kw15, by decide +kernel⟩, kw1665⟩
theorem dX11_unevenBy_21 : decode cX11_unevenBy 21 = .ok (.ireturn, 1) := by decide +kernel
set_option maxHeartbeats 4000000 in
set_option maxRecDepth 100000 in
theorem s_X11_unevenBy {l : Launch} {G : Gc} (qm : Nat) (a1 : Int32) (qm_thrown : Int32) (qm_tape : Nat) (qm_taped : Int32) (qm_size : Int32) (qm_limit : Int32) (qm_to : Int32) (qm_from : Int32) (qm_kind : Int32) (qm_number : Int32) (qm_sign : Int32) (qm_fault : Int32) (qm_place : Int32) (qm_word : Int64) (qm_told : Int32) (qm_now : Nat) (qm_read : Nat) (qm_kept : Nat) (qm_snaps : Nat) (qm_aside : Nat) (qm_name : Nat) (qm_readName : Nat) (qm_keptName : Nat) (qm_isKept : Nat) (qm_onces : Nat) (qm_snapMany : Int32) (qm_order : Nat) (qm_ordered : Nat) (qm_orderMany : Int32) (qm_orderMost : Int32) (qm_passing : Int32) (qm_movedWho : Int32) (qm_scratched : Int32) (qm_text : Nat) (qm_texts : Int32) (qm_seed : Int32) (qm_line : Nat) (qm_written : Nat) (qm_lineMany : Int32) (qm_hasWritten : Int32) (qm_node : Nat) (qm_nodes : Int32) (qm_onesMany : Int32) (qm_within : Int32) (qm_top : Int32) (qm_now_c : Nat → Int32) (hi_a1 : 0 ≤ a1.toInt ∧ a1.toInt ≤ 5) (hf_qm_now_c : slI qm_now_c) (hf1_qm_now_c : trI qm_now_c) : Ci l yX11_unevenBy cX11_unevenBy 2 (some .int) 4 0 0 G [.ref qm, .int a1] [(qm, .inr (10, [.int qm_thrown, .ref qm_tape, .int qm_taped, .int qm_size, .int qm_limit, .int qm_to, .int qm_from, .int qm_kind, .int qm_number, .int qm_sign, .int qm_fault, .int qm_place, .long qm_word, .int qm_told, .ref qm_now, .ref qm_read, .ref qm_kept, .ref qm_snaps, .ref qm_aside, .ref qm_name, .ref qm_readName, .ref qm_keptName, .ref qm_isKept, .ref qm_onces, .int qm_snapMany, .ref qm_order, .ref qm_ordered, .int qm_orderMany, .int qm_orderMost, .int qm_passing, .int qm_movedWho, .int qm_scratched, .ref qm_text, .int qm_texts, .int qm_seed, .ref qm_line, .ref qm_written, .int qm_lineMany, .int qm_hasWritten, .ref qm_node, .int qm_nodes, .int qm_onesMany, .int qm_within, .int qm_top])), (qm_now, eI G 339 qm_now_c)] (fun (r9 : Int32) (u9 : va_W) => ∃ (r_x : Int32), r9 = r_x ∧ u9 = [(qm, .inr (10, [.int qm_thrown, .ref qm_tape, .int qm_taped, .int qm_size, .int qm_limit, .int qm_to, .int qm_from, .int qm_kind, .int qm_number, .int qm_sign, .int qm_fault, .int qm_place, .long qm_word, .int qm_told, .ref qm_now, .ref qm_read, .ref qm_kept, .ref qm_snaps, .ref qm_aside, .ref qm_name, .ref qm_readName, .ref qm_keptName, .ref qm_isKept, .ref qm_onces, .int qm_snapMany, .ref qm_order, .ref qm_ordered, .int qm_orderMany, .int qm_orderMost, .int qm_passing, .int qm_movedWho, .int qm_scratched, .ref qm_text, .int qm_texts, .int qm_seed, .ref qm_line, .ref qm_written, .int qm_lineMany, .int qm_hasWritten, .ref qm_node, .int qm_nodes, .int qm_onesMany, .int qm_within, .int qm_top])), (qm_now, eI G 339 qm_now_c)]) := by
  refine Ci.ofQ (by decide) (Nat.le_of_ble_eq_true rfl) ?_
  intro p e s m below meth c ls A args Q hQ B hw hl
  have C : CallFix p m c cX11_unevenBy 2 s args gw "LanternStateModel" := B.1
  have hl : lv_has ls 2 [(0, .ref qm), (1, .int a1)] := hl
  refine lv_iconst (v := 2) C.1 C.2.1 dX11_unevenBy_0 (by decide) ?_
  refine lv_aload_n C.1 C.2.1 dX11_unevenBy_1 rfl (lv_at hl 0 rfl) ?_
  refine lv_iload_n C.1 C.2.1 dX11_unevenBy_2 rfl (lv_at hl 1 rfl) ?_
  refine lv_iconst (v := 0) C.1 C.2.1 dX11_unevenBy_3 (by decide) ?_
  refine x_calliV (As := [.int a1, .int 0]) (rest := [.int 2]) (wr := []) C hw (s_X11_sighsFor qm a1 0 qm_thrown qm_tape qm_taped qm_size qm_limit qm_to qm_from qm_kind qm_number qm_sign qm_fault qm_place qm_word qm_told qm_now qm_read qm_kept qm_snaps qm_aside qm_name qm_readName qm_keptName qm_isKept qm_onces qm_snapMany qm_order qm_ordered qm_orderMany qm_orderMost qm_passing qm_movedWho qm_scratched qm_text qm_texts qm_seed qm_line qm_written qm_lineMany qm_hasWritten qm_node qm_nodes qm_onesMany qm_within qm_top qm_now_c (by omega) hf_qm_now_c hf1_qm_now_c) mwX11_sighsFor kw1525 [0, 1] [] rfl rfl rfl rfl (by decide) 0 rfl rfl rfl rfl hl.1 rfl (Nat.le_of_ble_eq_true rfl) ⟨(Nat.le_of_ble_eq_true rfl), (Nat.le_of_ble_eq_true rfl)⟩ ⟨(Nat.le_of_ble_eq_true rfl), (Nat.le_of_ble_eq_true rfl)⟩ dX11_unevenBy_4 (fun r1 u9 H locs hp9 hw => ?_)
  obtain ⟨x2, rfl, rfl⟩ := hp9
  have hw : Wd G s A [(qm, .inr (10, [.int qm_thrown, .ref qm_tape, .int qm_taped, .int qm_size, .int qm_limit, .int qm_to, .int qm_from, .int qm_kind, .int qm_number, .int qm_sign, .int qm_fault, .int qm_place, .long qm_word, .int qm_told, .ref qm_now, .ref qm_read, .ref qm_kept, .ref qm_snaps, .ref qm_aside, .ref qm_name, .ref qm_readName, .ref qm_keptName, .ref qm_isKept, .ref qm_onces, .int qm_snapMany, .ref qm_order, .ref qm_ordered, .int qm_orderMany, .int qm_orderMost, .int qm_passing, .int qm_movedWho, .int qm_scratched, .ref qm_text, .int qm_texts, .int qm_seed, .ref qm_line, .ref qm_written, .int qm_lineMany, .int qm_hasWritten, .ref qm_node, .int qm_nodes, .int qm_onesMany, .int qm_within, .int qm_top])), (qm_now, eI G 339 qm_now_c)] H _ := hw
  refine x_calliS (As := [.int r1]) (rest := [.int 2]) (wr := [(qm, .inr (10, [.int qm_thrown, .ref qm_tape, .int qm_taped, .int qm_size, .int qm_limit, .int qm_to, .int qm_from, .int qm_kind, .int qm_number, .int qm_sign, .int qm_fault, .int qm_place, .long qm_word, .int qm_told, .ref qm_now, .ref qm_read, .ref qm_kept, .ref qm_snaps, .ref qm_aside, .ref qm_name, .ref qm_readName, .ref qm_keptName, .ref qm_isKept, .ref qm_onces, .int qm_snapMany, .ref qm_order, .ref qm_ordered, .int qm_orderMany, .int qm_orderMost, .int qm_passing, .int qm_movedWho, .int qm_scratched, .ref qm_text, .int qm_texts, .int qm_seed, .ref qm_line, .ref qm_written, .int qm_lineMany, .int qm_hasWritten, .ref qm_node, .int qm_nodes, .int qm_onesMany, .int qm_within, .int qm_top])), (qm_now, eI G 339 qm_now_c)]) C hw (s_X11_bits r1) mwX11_bits kw1484 [] [0, 1] rfl rfl rfl rfl (by decide) rfl hl.1 rfl (Nat.le_of_ble_eq_true rfl) ⟨(Nat.le_of_ble_eq_true rfl), (Nat.le_of_ble_eq_true rfl)⟩ ⟨(Nat.le_of_ble_eq_true rfl), (Nat.le_of_ble_eq_true rfl)⟩ dX11_unevenBy_7 (fun r3 u9 H locs hp9 hw => ?_)
  obtain ⟨x4, rfl, rfl⟩ := hp9
  have hw : Wd G s A [(qm, .inr (10, [.int qm_thrown, .ref qm_tape, .int qm_taped, .int qm_size, .int qm_limit, .int qm_to, .int qm_from, .int qm_kind, .int qm_number, .int qm_sign, .int qm_fault, .int qm_place, .long qm_word, .int qm_told, .ref qm_now, .ref qm_read, .ref qm_kept, .ref qm_snaps, .ref qm_aside, .ref qm_name, .ref qm_readName, .ref qm_keptName, .ref qm_isKept, .ref qm_onces, .int qm_snapMany, .ref qm_order, .ref qm_ordered, .int qm_orderMany, .int qm_orderMost, .int qm_passing, .int qm_movedWho, .int qm_scratched, .ref qm_text, .int qm_texts, .int qm_seed, .ref qm_line, .ref qm_written, .int qm_lineMany, .int qm_hasWritten, .ref qm_node, .int qm_nodes, .int qm_onesMany, .int qm_within, .int qm_top])), (qm_now, eI G 339 qm_now_c)] H _ := hw
  refine lv_imul C.1 C.2.1 dX11_unevenBy_10 (x_gen (fun v5 => ?_))
  refine lv_aload_n C.1 C.2.1 dX11_unevenBy_11 rfl (lv_at hl 0 rfl) ?_
  refine x_get C hw iwX11 10 rfl 0 rfl 14 (by decide) kw1207 rfl dX11_unevenBy_12 ?_
  refine lv_iconst (v := 1) C.1 C.2.1 dX11_unevenBy_15 (by decide) ?_
  have mm6 := hf_qm_now_c 1
  refine x_iald (v := (qm_now_c 1)) C hw 1 rfl (x_in rfl) rfl dX11_unevenBy_16 (x_genP (fun z : Int32 => z.toInt = (qm_now_c 1).toInt ∧ 0 ≤ z.toInt ∧ z.toInt ≤ 8) ⟨rfl, by omega⟩ (fun v7 hv7 => ?_))
  refine lv_isub C.1 C.2.1 dX11_unevenBy_17 (x_gen (fun v8 => ?_))
  refine x_calliS (As := [.int v8]) (rest := []) (wr := [(qm, .inr (10, [.int qm_thrown, .ref qm_tape, .int qm_taped, .int qm_size, .int qm_limit, .int qm_to, .int qm_from, .int qm_kind, .int qm_number, .int qm_sign, .int qm_fault, .int qm_place, .long qm_word, .int qm_told, .ref qm_now, .ref qm_read, .ref qm_kept, .ref qm_snaps, .ref qm_aside, .ref qm_name, .ref qm_readName, .ref qm_keptName, .ref qm_isKept, .ref qm_onces, .int qm_snapMany, .ref qm_order, .ref qm_ordered, .int qm_orderMany, .int qm_orderMost, .int qm_passing, .int qm_movedWho, .int qm_scratched, .ref qm_text, .int qm_texts, .int qm_seed, .ref qm_line, .ref qm_written, .int qm_lineMany, .int qm_hasWritten, .ref qm_node, .int qm_nodes, .int qm_onesMany, .int qm_within, .int qm_top])), (qm_now, eI G 339 qm_now_c)]) C hw (s_X11_size v8) mwX11_size kw1664 [] [0, 1] rfl rfl rfl rfl (by decide) rfl hl.1 rfl (Nat.le_of_ble_eq_true rfl) ⟨(Nat.le_of_ble_eq_true rfl), (Nat.le_of_ble_eq_true rfl)⟩ ⟨(Nat.le_of_ble_eq_true rfl), (Nat.le_of_ble_eq_true rfl)⟩ dX11_unevenBy_18 (fun r9 u9 H locs hp9 hw => ?_)
  obtain ⟨x10, rfl, rfl⟩ := hp9
  have hw : Wd G s A [(qm, .inr (10, [.int qm_thrown, .ref qm_tape, .int qm_taped, .int qm_size, .int qm_limit, .int qm_to, .int qm_from, .int qm_kind, .int qm_number, .int qm_sign, .int qm_fault, .int qm_place, .long qm_word, .int qm_told, .ref qm_now, .ref qm_read, .ref qm_kept, .ref qm_snaps, .ref qm_aside, .ref qm_name, .ref qm_readName, .ref qm_keptName, .ref qm_isKept, .ref qm_onces, .int qm_snapMany, .ref qm_order, .ref qm_ordered, .int qm_orderMany, .int qm_orderMost, .int qm_passing, .int qm_movedWho, .int qm_scratched, .ref qm_text, .int qm_texts, .int qm_seed, .ref qm_line, .ref qm_written, .int qm_lineMany, .int qm_hasWritten, .ref qm_node, .int qm_nodes, .int qm_onesMany, .int qm_within, .int qm_top])), (qm_now, eI G 339 qm_now_c)] H _ := hw
  exact x_retiQ hQ B hw ⟨r9, rfl, rfl⟩ (Nat.le_of_ble_eq_true rfl) (Nat.le_of_ble_eq_true rfl) dX11_unevenBy_21
theorem dX11_parts_0 : decode cX11_parts 0 = .ok (.aload_n 0, 1) := by decide +kernel
theorem dX11_parts_1 : decode cX11_parts 1 = .ok (.iconst 0, 1) := by decide +kernel
theorem dX11_parts_2 : decode cX11_parts 2 = .ok (.putfield 1, 3) := by decide +kernel
theorem dX11_parts_5 : decode cX11_parts 5 = .ok (.iconst (-1), 1) := by decide +kernel
theorem dX11_parts_6 : decode cX11_parts 6 = .ok (.istore_n 1, 1) := by decide +kernel
theorem dX11_parts_7 : decode cX11_parts 7 = .ok (.iconst 0, 1) := by decide +kernel
theorem dX11_parts_8 : decode cX11_parts 8 = .ok (.istore_n 2, 1) := by decide +kernel
theorem dX11_parts_9 : decode cX11_parts 9 = .ok (.iload_n 2, 1) := by decide +kernel
theorem dX11_parts_10 : decode cX11_parts 10 = .ok (.aload_n 0, 1) := by decide +kernel
theorem dX11_parts_11 : decode cX11_parts 11 = .ok (.getfield 98, 3) := by decide +kernel
theorem dX11_parts_14 : decode cX11_parts 14 = .ok (.iconst 0, 1) := by decide +kernel
theorem dX11_parts_15 : decode cX11_parts 15 = .ok (.iaload, 1) := by decide +kernel
theorem dX11_parts_16 : decode cX11_parts 16 = .ok (.if_icmp .ge 37, 3) := by decide +kernel
theorem dX11_parts_19 : decode cX11_parts 19 = .ok (.aload_n 0, 1) := by decide +kernel
theorem dX11_parts_20 : decode cX11_parts 20 = .ok (.iload_n 2, 1) := by decide +kernel
theorem dX11_parts_21 : decode cX11_parts 21 = .ok (.invokevirtual 249, 3) := by decide +kernel
theorem dX11_parts_24 : decode cX11_parts 24 = .ok (.ifCond .ne 23, 3) := by decide +kernel
theorem dX11_parts_27 : decode cX11_parts 27 = .ok (.iload_n 1, 1) := by decide +kernel
theorem dX11_parts_28 : decode cX11_parts 28 = .ok (.iconst (-1), 1) := by decide +kernel
theorem dX11_parts_29 : decode cX11_parts 29 = .ok (.if_icmp .eq 16, 3) := by decide +kernel
theorem dX11_parts_45 : decode cX11_parts 45 = .ok (.iload_n 2, 1) := by decide +kernel
theorem dX11_parts_46 : decode cX11_parts 46 = .ok (.istore_n 1, 1) := by decide +kernel
theorem dX11_parts_47 : decode cX11_parts 47 = .ok (.iinc 2 1, 3) := by decide +kernel
theorem dX11_parts_50 : decode cX11_parts 50 = .ok (.goto (-41), 3) := by decide +kernel
theorem dX11_parts_32 : decode cX11_parts 32 = .ok (.aload_n 0, 1) := by decide +kernel
theorem dX11_parts_33 : decode cX11_parts 33 = .ok (.iload_n 2, 1) := by decide +kernel
theorem dX11_parts_34 : decode cX11_parts 34 = .ok (.invokevirtual 330, 3) := by decide +kernel
theorem mwX11_unevenBy : MwV yX11_unevenBy cX11_unevenBy 2 (some .int) 1 := ⟨⟨kw1663, kw15, by decide +kernel⟩, kw1662, kS91⟩
theorem dX11_parts_37 : decode cX11_parts 37 = .ok (.aload_n 0, 1) := by decide +kernel
theorem dX11_parts_38 : decode cX11_parts 38 = .ok (.iload_n 1, 1) := by decide +kernel
theorem dX11_parts_39 : decode cX11_parts 39 = .ok (.invokevirtual 330, 3) := by decide +kernel
theorem dX11_parts_42 : decode cX11_parts 42 = .ok (.if_icmp .ge 5, 3) := by decide +kernel
theorem dX11_parts_53 : decode cX11_parts 53 = .ok (.iload_n 1, 1) := by decide +kernel
theorem dX11_parts_54 : decode cX11_parts 54 = .ok (.ireturn, 1) := by decide +kernel
set_option maxHeartbeats 4000000 in
set_option maxRecDepth 100000 in
theorem s_X11_parts {l : Launch} {G : Gc} (qm : Nat) (qm_thrown : Int32) (qm_tape : Nat) (qm_taped : Int32) (qm_size : Int32) (qm_limit : Int32) (qm_to : Int32) (qm_from : Int32) (qm_kind : Int32) (qm_number : Int32) (qm_sign : Int32) (qm_fault : Int32) (qm_place : Int32) (qm_word : Int64) (qm_told : Int32) (qm_now : Nat) (qm_read : Nat) (qm_kept : Nat) (qm_snaps : Nat) (qm_aside : Nat) (qm_name : Nat) (qm_readName : Nat) (qm_keptName : Nat) (qm_isKept : Nat) (qm_onces : Nat) (qm_snapMany : Int32) (qm_order : Nat) (qm_ordered : Nat) (qm_orderMany : Int32) (qm_orderMost : Int32) (qm_passing : Int32) (qm_movedWho : Int32) (qm_scratched : Int32) (qm_text : Nat) (qm_texts : Int32) (qm_seed : Int32) (qm_line : Nat) (qm_written : Nat) (qm_lineMany : Int32) (qm_hasWritten : Int32) (qm_node : Nat) (qm_nodes : Int32) (qm_onesMany : Int32) (qm_within : Int32) (qm_top : Int32) (qm_now_c : Nat → Int32) (hf_qm_now_c : slI qm_now_c) (hf1_qm_now_c : trI qm_now_c) : Ci l yX11_parts cX11_parts 3 (some .int) 5 0 0 G [.ref qm] [(qm, .inr (10, [.int qm_thrown, .ref qm_tape, .int qm_taped, .int qm_size, .int qm_limit, .int qm_to, .int qm_from, .int qm_kind, .int qm_number, .int qm_sign, .int qm_fault, .int qm_place, .long qm_word, .int qm_told, .ref qm_now, .ref qm_read, .ref qm_kept, .ref qm_snaps, .ref qm_aside, .ref qm_name, .ref qm_readName, .ref qm_keptName, .ref qm_isKept, .ref qm_onces, .int qm_snapMany, .ref qm_order, .ref qm_ordered, .int qm_orderMany, .int qm_orderMost, .int qm_passing, .int qm_movedWho, .int qm_scratched, .ref qm_text, .int qm_texts, .int qm_seed, .ref qm_line, .ref qm_written, .int qm_lineMany, .int qm_hasWritten, .ref qm_node, .int qm_nodes, .int qm_onesMany, .int qm_within, .int qm_top])), (qm_now, eI G 339 qm_now_c)] (fun (r9 : Int32) (u9 : va_W) => ∃ (r_x : Int32), r9 = r_x ∧ u9 = [(qm, .inr (10, [.int 0, .ref qm_tape, .int qm_taped, .int qm_size, .int qm_limit, .int qm_to, .int qm_from, .int qm_kind, .int qm_number, .int qm_sign, .int qm_fault, .int qm_place, .long qm_word, .int qm_told, .ref qm_now, .ref qm_read, .ref qm_kept, .ref qm_snaps, .ref qm_aside, .ref qm_name, .ref qm_readName, .ref qm_keptName, .ref qm_isKept, .ref qm_onces, .int qm_snapMany, .ref qm_order, .ref qm_ordered, .int qm_orderMany, .int qm_orderMost, .int qm_passing, .int qm_movedWho, .int qm_scratched, .ref qm_text, .int qm_texts, .int qm_seed, .ref qm_line, .ref qm_written, .int qm_lineMany, .int qm_hasWritten, .ref qm_node, .int qm_nodes, .int qm_onesMany, .int qm_within, .int qm_top])), (qm_now, eI G 339 qm_now_c)] ∧ ((-1) ≤ r_x.toInt ∧ r_x.toInt ≤ 5)) := by
  refine Ci.ofQ (by decide) (Nat.le_of_ble_eq_true rfl) ?_
  intro p e s m below meth c ls A args Q hQ B hw hl
  have C : CallFix p m c cX11_parts 3 s args gw "LanternStateModel" := B.1
  have hl : lv_has ls 3 [(0, .ref qm)] := hl
  refine lv_aload_n C.1 C.2.1 dX11_parts_0 rfl (lv_at hl 0 rfl) ?_
  refine lv_iconst (v := 0) C.1 C.2.1 dX11_parts_1 (by decide) ?_
  refine x_put (w' := [(qm, .inr (10, [.int 0, .ref qm_tape, .int qm_taped, .int qm_size, .int qm_limit, .int qm_to, .int qm_from, .int qm_kind, .int qm_number, .int qm_sign, .int qm_fault, .int qm_place, .long qm_word, .int qm_told, .ref qm_now, .ref qm_read, .ref qm_kept, .ref qm_snaps, .ref qm_aside, .ref qm_name, .ref qm_readName, .ref qm_keptName, .ref qm_isKept, .ref qm_onces, .int qm_snapMany, .ref qm_order, .ref qm_ordered, .int qm_orderMany, .int qm_orderMost, .int qm_passing, .int qm_movedWho, .int qm_scratched, .ref qm_text, .int qm_texts, .int qm_seed, .ref qm_line, .ref qm_written, .int qm_lineMany, .int qm_hasWritten, .ref qm_node, .int qm_nodes, .int qm_onesMany, .int qm_within, .int qm_top])), (qm_now, eI G 339 qm_now_c)]) C hw iwX11 tyX11_ok nmX11 10 rfl 0 rfl 0 (by decide) kw1193 rfl rfl rfl (Nat.le_of_ble_eq_true rfl) rfl dX11_parts_2 (fun H locs hw => ?_)
  refine lv_iconst (v := (-1)) C.1 C.2.1 dX11_parts_5 (by decide) ?_
  refine lv_istore_n (lv' := [(1, .int (-1)), (0, .ref qm)]) C.1 C.2.1 dX11_parts_6 rfl hl (by decide) rfl (fun ls hl => ?_)
  refine lv_iconst (v := 0) C.1 C.2.1 dX11_parts_7 (by decide) ?_
  refine lv_istore_n (lv' := [(2, .int 0), (1, .int (-1)), (0, .ref qm)]) C.1 C.2.1 dX11_parts_8 rfl hl (by decide) rfl (fun ls hl => ?_)
  have loopJ95 : ∀ (n9 : Nat) (j93 : Int32) (j94 : Int32), (2147483647 - j93.toInt).toNat < n9 → (0 ≤ j93.toInt ∧ j93.toInt ≤ 6) → ((-1) ≤ j94.toInt ∧ j94.toInt ≤ 5) → ∀ (H : Heap) (locs : List Loc) (ls : Array Slot), Wd G s A [(qm, .inr (10, [.int 0, .ref qm_tape, .int qm_taped, .int qm_size, .int qm_limit, .int qm_to, .int qm_from, .int qm_kind, .int qm_number, .int qm_sign, .int qm_fault, .int qm_place, .long qm_word, .int qm_told, .ref qm_now, .ref qm_read, .ref qm_kept, .ref qm_snaps, .ref qm_aside, .ref qm_name, .ref qm_readName, .ref qm_keptName, .ref qm_isKept, .ref qm_onces, .int qm_snapMany, .ref qm_order, .ref qm_ordered, .int qm_orderMany, .int qm_orderMost, .int qm_passing, .int qm_movedWho, .int qm_scratched, .ref qm_text, .int qm_texts, .int qm_seed, .ref qm_line, .ref qm_written, .int qm_lineMany, .int qm_hasWritten, .ref qm_node, .int qm_nodes, .int qm_onesMany, .int qm_within, .int qm_top])), (qm_now, eI G 339 qm_now_c)] H locs → lv_has ls 3 [(2, .int j93), (1, .int j94), (0, .ref qm)] → W p l e (rmD 5 0 0) s m args below meth c H locs 0 0 Q (F0 m 9 ls []) := by
    intro n9
    induction n9 with
    | zero => intro j93 j94 h9; exact absurd h9 (Nat.not_lt_zero _)
    | succ n9 ihJ95 =>
      intro j93 j94 h9J95 hJ95_0 hJ95_1 H locs ls hw hl
      have hbj93 := i_bd j93
      refine lv_iload_n C.1 C.2.1 dX11_parts_9 rfl (lv_at hl 0 rfl) ?_
      refine lv_aload_n C.1 C.2.1 dX11_parts_10 rfl (lv_at hl 2 rfl) ?_
      refine x_get C hw iwX11 10 rfl 0 rfl 14 (by decide) kw1207 rfl dX11_parts_11 ?_
      refine lv_iconst (v := 0) C.1 C.2.1 dX11_parts_14 (by decide) ?_
      have mm113 := hf_qm_now_c 0
      refine x_iald (v := (qm_now_c 0)) C hw 1 rfl (x_in rfl) rfl dX11_parts_15 (x_genP (fun z : Int32 => z.toInt = (qm_now_c 0).toInt ∧ 0 ≤ z.toInt ∧ z.toInt ≤ 6) ⟨rfl, by omega⟩ (fun v114 hv114 => ?_))
      refine lv_icmp_ge (tgt := 53) C.1 C.2.1 dX11_parts_16 (by decide) (fun c115 => ?_) (fun c115 => ?_)
      · skip
        have c115 : v114.toInt ≤ j93.toInt := i_leT (X := v114.toInt) (Y := j93.toInt) rfl rfl c115
        refine lv_iload_n C.1 C.2.1 dX11_parts_53 rfl (lv_at hl 1 rfl) ?_
        exact x_retiQ hQ B hw ⟨j94, rfl, rfl, (by omega)⟩ (Nat.le_of_ble_eq_true rfl) (Nat.le_of_ble_eq_true rfl) dX11_parts_54
      · skip
        have c115 : j93.toInt < v114.toInt := i_leF (X := v114.toInt) (Y := j93.toInt) rfl rfl c115
        refine lv_aload_n C.1 C.2.1 dX11_parts_19 rfl (lv_at hl 2 rfl) ?_
        refine lv_iload_n C.1 C.2.1 dX11_parts_20 rfl (lv_at hl 0 rfl) ?_
        refine x_calliV (As := [.int j93]) (rest := []) (wr := []) C hw (s_X11_isCracked qm j93 0 qm_tape qm_taped qm_size qm_limit qm_to qm_from qm_kind qm_number qm_sign qm_fault qm_place qm_word qm_told qm_now qm_read qm_kept qm_snaps qm_aside qm_name qm_readName qm_keptName qm_isKept qm_onces qm_snapMany qm_order qm_ordered qm_orderMany qm_orderMost qm_passing qm_movedWho qm_scratched qm_text qm_texts qm_seed qm_line qm_written qm_lineMany qm_hasWritten qm_node qm_nodes qm_onesMany qm_within qm_top qm_now_c hf_qm_now_c hf1_qm_now_c) mwX11_isCracked kw1480 [0, 1] [] rfl rfl rfl rfl (by decide) 0 rfl rfl rfl rfl hl.1 rfl (Nat.le_of_ble_eq_true rfl) ⟨(Nat.le_of_ble_eq_true rfl), (Nat.le_of_ble_eq_true rfl)⟩ ⟨(Nat.le_of_ble_eq_true rfl), (Nat.le_of_ble_eq_true rfl)⟩ dX11_parts_21 (fun r116 u9 H locs hp9 hw => ?_)
        have J125 : ∀ (j124 : Int32), ((-1) ≤ j124.toInt ∧ j124.toInt ≤ 5) → ∀ (H : Heap) (locs : List Loc) (ls : Array Slot), Wd G s A [(qm, .inr (10, [.int 0, .ref qm_tape, .int qm_taped, .int qm_size, .int qm_limit, .int qm_to, .int qm_from, .int qm_kind, .int qm_number, .int qm_sign, .int qm_fault, .int qm_place, .long qm_word, .int qm_told, .ref qm_now, .ref qm_read, .ref qm_kept, .ref qm_snaps, .ref qm_aside, .ref qm_name, .ref qm_readName, .ref qm_keptName, .ref qm_isKept, .ref qm_onces, .int qm_snapMany, .ref qm_order, .ref qm_ordered, .int qm_orderMany, .int qm_orderMost, .int qm_passing, .int qm_movedWho, .int qm_scratched, .ref qm_text, .int qm_texts, .int qm_seed, .ref qm_line, .ref qm_written, .int qm_lineMany, .int qm_hasWritten, .ref qm_node, .int qm_nodes, .int qm_onesMany, .int qm_within, .int qm_top])), (qm_now, eI G 339 qm_now_c)] H locs → lv_has ls 3 [(2, .int j93), (1, .int j124), (0, .ref qm)] → W p l e (rmD 5 0 0) s m args below meth c H locs 0 0 Q (F0 m 47 ls []) := by
          intro j124 hJ125_0 H locs ls hw hl
          obtain ⟨v127, ev127⟩ : ∃ z : Int32, j93 + 1 = z := ⟨_, rfl⟩
          have hv127 : v127.toInt = j93.toInt + 1 := by rw [← ev127]; exact i_add rfl rfl (by omega) (by omega)
          refine lv_iinc (v := v127) (lv' := [(2, .int v127), (1, .int j124), (0, .ref qm)]) C.1 C.2.1 dX11_parts_47 hl (k := 0) rfl ev127 (by decide) rfl (fun ls hl => ?_)
          refine lv_goto (tgt := 9) C.1 C.2.1 dX11_parts_50 (by decide) ?_
          exact ihJ95 v127 j124 (by omega) (by omega) (by omega) _ _ _ hw (lv_sub hl [0, 1, 2] rfl)
        rcases hp9 with ⟨rfl, rfl⟩ | ⟨rfl, rfl⟩
        · skip
          have hw : Wd G s A [(qm, .inr (10, [.int 0, .ref qm_tape, .int qm_taped, .int qm_size, .int qm_limit, .int qm_to, .int qm_from, .int qm_kind, .int qm_number, .int qm_sign, .int qm_fault, .int qm_place, .long qm_word, .int qm_told, .ref qm_now, .ref qm_read, .ref qm_kept, .ref qm_snaps, .ref qm_aside, .ref qm_name, .ref qm_readName, .ref qm_keptName, .ref qm_isKept, .ref qm_onces, .int qm_snapMany, .ref qm_order, .ref qm_ordered, .int qm_orderMany, .int qm_orderMost, .int qm_passing, .int qm_movedWho, .int qm_scratched, .ref qm_text, .int qm_texts, .int qm_seed, .ref qm_line, .ref qm_written, .int qm_lineMany, .int qm_hasWritten, .ref qm_node, .int qm_nodes, .int qm_onesMany, .int qm_within, .int qm_top])), (qm_now, eI G 339 qm_now_c)] H _ := hw
          refine lv_if_ne (tgt := 47) C.1 C.2.1 dX11_parts_24 (by decide) (fun h9 => absurd (by decide) h9) (fun _ => ?_)
          refine lv_iload_n C.1 C.2.1 dX11_parts_27 rfl (lv_at hl 1 rfl) ?_
          refine lv_iconst (v := (-1)) C.1 C.2.1 dX11_parts_28 (by decide) ?_
          have J134 : ∀ (H : Heap) (locs : List Loc) (ls : Array Slot), Wd G s A [(qm, .inr (10, [.int 0, .ref qm_tape, .int qm_taped, .int qm_size, .int qm_limit, .int qm_to, .int qm_from, .int qm_kind, .int qm_number, .int qm_sign, .int qm_fault, .int qm_place, .long qm_word, .int qm_told, .ref qm_now, .ref qm_read, .ref qm_kept, .ref qm_snaps, .ref qm_aside, .ref qm_name, .ref qm_readName, .ref qm_keptName, .ref qm_isKept, .ref qm_onces, .int qm_snapMany, .ref qm_order, .ref qm_ordered, .int qm_orderMany, .int qm_orderMost, .int qm_passing, .int qm_movedWho, .int qm_scratched, .ref qm_text, .int qm_texts, .int qm_seed, .ref qm_line, .ref qm_written, .int qm_lineMany, .int qm_hasWritten, .ref qm_node, .int qm_nodes, .int qm_onesMany, .int qm_within, .int qm_top])), (qm_now, eI G 339 qm_now_c)] H locs → lv_has ls 3 [(2, .int j93), (0, .ref qm)] → W p l e (rmD 5 0 0) s m args below meth c H locs 0 0 Q (F0 m 45 ls []) := by
            intro   H locs ls hw hl
            refine lv_iload_n C.1 C.2.1 dX11_parts_45 rfl (lv_at hl 0 rfl) ?_
            refine lv_istore_n (lv' := [(1, .int j93), (2, .int j93), (0, .ref qm)]) C.1 C.2.1 dX11_parts_46 rfl hl (by decide) rfl (fun ls hl => ?_)
            exact J125 j93  (by omega) _ _ _ hw (lv_sub hl [1, 0, 2] rfl)
          refine lv_icmp_eq (tgt := 45) C.1 C.2.1 dX11_parts_29 (by decide) (fun c128 => ?_) (fun c128 => ?_)
          · skip
            have c128 : j94.toInt = (-1) := i_eqT (X := j94.toInt) (Y := (-1)) rfl rfl c128
            exact J134    _ _ _ hw (lv_sub hl [0, 2] rfl)
          · skip
            have c128 : j94.toInt ≠ (-1) := i_eqF (X := j94.toInt) (Y := (-1)) rfl rfl c128
            refine lv_aload_n C.1 C.2.1 dX11_parts_32 rfl (lv_at hl 2 rfl) ?_
            refine lv_iload_n C.1 C.2.1 dX11_parts_33 rfl (lv_at hl 0 rfl) ?_
            refine x_calliV (As := [.int j93]) (rest := []) (wr := []) C hw (s_X11_unevenBy qm j93 0 qm_tape qm_taped qm_size qm_limit qm_to qm_from qm_kind qm_number qm_sign qm_fault qm_place qm_word qm_told qm_now qm_read qm_kept qm_snaps qm_aside qm_name qm_readName qm_keptName qm_isKept qm_onces qm_snapMany qm_order qm_ordered qm_orderMany qm_orderMost qm_passing qm_movedWho qm_scratched qm_text qm_texts qm_seed qm_line qm_written qm_lineMany qm_hasWritten qm_node qm_nodes qm_onesMany qm_within qm_top qm_now_c (by omega) hf_qm_now_c hf1_qm_now_c) mwX11_unevenBy kw1660 [0, 1] [] rfl rfl rfl rfl (by decide) 0 rfl rfl rfl rfl hl.1 rfl (Nat.le_of_ble_eq_true rfl) ⟨(Nat.le_of_ble_eq_true rfl), (Nat.le_of_ble_eq_true rfl)⟩ ⟨(Nat.le_of_ble_eq_true rfl), (Nat.le_of_ble_eq_true rfl)⟩ dX11_parts_34 (fun r135 u9 H locs hp9 hw => ?_)
            obtain ⟨x136, rfl, rfl⟩ := hp9
            have hw : Wd G s A [(qm, .inr (10, [.int 0, .ref qm_tape, .int qm_taped, .int qm_size, .int qm_limit, .int qm_to, .int qm_from, .int qm_kind, .int qm_number, .int qm_sign, .int qm_fault, .int qm_place, .long qm_word, .int qm_told, .ref qm_now, .ref qm_read, .ref qm_kept, .ref qm_snaps, .ref qm_aside, .ref qm_name, .ref qm_readName, .ref qm_keptName, .ref qm_isKept, .ref qm_onces, .int qm_snapMany, .ref qm_order, .ref qm_ordered, .int qm_orderMany, .int qm_orderMost, .int qm_passing, .int qm_movedWho, .int qm_scratched, .ref qm_text, .int qm_texts, .int qm_seed, .ref qm_line, .ref qm_written, .int qm_lineMany, .int qm_hasWritten, .ref qm_node, .int qm_nodes, .int qm_onesMany, .int qm_within, .int qm_top])), (qm_now, eI G 339 qm_now_c)] H _ := hw
            refine lv_aload_n C.1 C.2.1 dX11_parts_37 rfl (lv_at hl 2 rfl) ?_
            refine lv_iload_n C.1 C.2.1 dX11_parts_38 rfl (lv_at hl 1 rfl) ?_
            refine x_calliV (As := [.int j94]) (rest := [.int r135]) (wr := []) C hw (s_X11_unevenBy qm j94 0 qm_tape qm_taped qm_size qm_limit qm_to qm_from qm_kind qm_number qm_sign qm_fault qm_place qm_word qm_told qm_now qm_read qm_kept qm_snaps qm_aside qm_name qm_readName qm_keptName qm_isKept qm_onces qm_snapMany qm_order qm_ordered qm_orderMany qm_orderMost qm_passing qm_movedWho qm_scratched qm_text qm_texts qm_seed qm_line qm_written qm_lineMany qm_hasWritten qm_node qm_nodes qm_onesMany qm_within qm_top qm_now_c (by omega) hf_qm_now_c hf1_qm_now_c) mwX11_unevenBy kw1660 [0, 1] [] rfl rfl rfl rfl (by decide) 0 rfl rfl rfl rfl hl.1 rfl (Nat.le_of_ble_eq_true rfl) ⟨(Nat.le_of_ble_eq_true rfl), (Nat.le_of_ble_eq_true rfl)⟩ ⟨(Nat.le_of_ble_eq_true rfl), (Nat.le_of_ble_eq_true rfl)⟩ dX11_parts_39 (fun r137 u9 H locs hp9 hw => ?_)
            obtain ⟨x138, rfl, rfl⟩ := hp9
            have hw : Wd G s A [(qm, .inr (10, [.int 0, .ref qm_tape, .int qm_taped, .int qm_size, .int qm_limit, .int qm_to, .int qm_from, .int qm_kind, .int qm_number, .int qm_sign, .int qm_fault, .int qm_place, .long qm_word, .int qm_told, .ref qm_now, .ref qm_read, .ref qm_kept, .ref qm_snaps, .ref qm_aside, .ref qm_name, .ref qm_readName, .ref qm_keptName, .ref qm_isKept, .ref qm_onces, .int qm_snapMany, .ref qm_order, .ref qm_ordered, .int qm_orderMany, .int qm_orderMost, .int qm_passing, .int qm_movedWho, .int qm_scratched, .ref qm_text, .int qm_texts, .int qm_seed, .ref qm_line, .ref qm_written, .int qm_lineMany, .int qm_hasWritten, .ref qm_node, .int qm_nodes, .int qm_onesMany, .int qm_within, .int qm_top])), (qm_now, eI G 339 qm_now_c)] H _ := hw
            refine lv_icmp_ge (tgt := 47) C.1 C.2.1 dX11_parts_42 (by decide) (fun c139 => ?_) (fun c139 => ?_)
            · skip
              have c139 : r137.toInt ≤ r135.toInt := i_leT (X := r137.toInt) (Y := r135.toInt) rfl rfl c139
              have bc139_r135 := i_bd r135
              have bc139_r137 := i_bd r137
              exact J125 j94  (by omega) _ _ _ hw (lv_sub hl [0, 1, 2] rfl)
            · skip
              have c139 : r135.toInt < r137.toInt := i_leF (X := r137.toInt) (Y := r135.toInt) rfl rfl c139
              have bc139_r135 := i_bd r135
              have bc139_r137 := i_bd r137
              exact J134    _ _ _ hw (lv_sub hl [0, 2] rfl)
        · skip
          have hw : Wd G s A [(qm, .inr (10, [.int 0, .ref qm_tape, .int qm_taped, .int qm_size, .int qm_limit, .int qm_to, .int qm_from, .int qm_kind, .int qm_number, .int qm_sign, .int qm_fault, .int qm_place, .long qm_word, .int qm_told, .ref qm_now, .ref qm_read, .ref qm_kept, .ref qm_snaps, .ref qm_aside, .ref qm_name, .ref qm_readName, .ref qm_keptName, .ref qm_isKept, .ref qm_onces, .int qm_snapMany, .ref qm_order, .ref qm_ordered, .int qm_orderMany, .int qm_orderMost, .int qm_passing, .int qm_movedWho, .int qm_scratched, .ref qm_text, .int qm_texts, .int qm_seed, .ref qm_line, .ref qm_written, .int qm_lineMany, .int qm_hasWritten, .ref qm_node, .int qm_nodes, .int qm_onesMany, .int qm_within, .int qm_top])), (qm_now, eI G 339 qm_now_c)] H _ := hw
          refine lv_if_ne (tgt := 47) C.1 C.2.1 dX11_parts_24 (by decide) (fun _ => ?_) (fun h9 => absurd h9 (by decide))
          exact J125 j94  (by omega) _ _ _ hw (lv_sub hl [0, 1, 2] rfl)
  exact loopJ95 _ 0 (-1) (Nat.lt_succ_self _) (by decide) (by decide) _ _ _ hw (lv_sub hl [0, 1, 2] rfl)
