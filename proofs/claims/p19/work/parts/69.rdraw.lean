-- needs: 08 6 7 12 14 16 17 18 20 09
theorem dX11_draw_0 : decode cX11_draw 0 = .ok (.aload_n 0, 1) := by decide +kernel
theorem dX11_draw_1 : decode cX11_draw 1 = .ok (.aload_n 0, 1) := by decide +kernel
theorem dX11_draw_2 : decode cX11_draw 2 = .ok (.getfield 346, 3) := by decide +kernel
theorem dX11_draw_5 : decode cX11_draw 5 = .ok (.ldc_w 349, 3) := by decide +kernel
theorem dX11_draw_8 : decode cX11_draw 8 = .ok (.imul, 1) := by decide +kernel
theorem dX11_draw_9 : decode cX11_draw 9 = .ok (.sipush 12345, 3) := by decide +kernel
theorem dX11_draw_12 : decode cX11_draw 12 = .ok (.iadd, 1) := by decide +kernel
theorem dX11_draw_13 : decode cX11_draw 13 = .ok (.putfield 346, 3) := by decide +kernel
theorem dX11_draw_16 : decode cX11_draw 16 = .ok (.aload_n 0, 1) := by decide +kernel
theorem dX11_draw_17 : decode cX11_draw 17 = .ok (.getfield 346, 3) := by decide +kernel
theorem dX11_draw_20 : decode cX11_draw 20 = .ok (.bipush 8, 2) := by decide +kernel
theorem dX11_draw_22 : decode cX11_draw 22 = .ok (.iushr, 1) := by decide +kernel
theorem dX11_draw_23 : decode cX11_draw 23 = .ok (.iload_n 1, 1) := by decide +kernel
theorem dX11_draw_24 : decode cX11_draw 24 = .ok (.irem, 1) := by decide +kernel
theorem dX11_draw_25 : decode cX11_draw 25 = .ok (.ireturn, 1) := by decide +kernel
set_option maxHeartbeats 4000000 in
set_option maxRecDepth 100000 in
theorem s_X11_draw {l : Launch} {G : Gc} (qm : Nat) (a1 : Int32) (qm_thrown : Int32) (qm_tape : Nat) (qm_taped : Int32) (qm_size : Int32) (qm_limit : Int32) (qm_to : Int32) (qm_from : Int32) (qm_kind : Int32) (qm_number : Int32) (qm_sign : Int32) (qm_fault : Int32) (qm_place : Int32) (qm_word : Int64) (qm_told : Int32) (qm_now : Nat) (qm_read : Nat) (qm_kept : Nat) (qm_snaps : Nat) (qm_aside : Nat) (qm_name : Nat) (qm_readName : Nat) (qm_keptName : Nat) (qm_isKept : Nat) (qm_onces : Nat) (qm_snapMany : Int32) (qm_order : Nat) (qm_ordered : Nat) (qm_orderMany : Int32) (qm_orderMost : Int32) (qm_passing : Int32) (qm_movedWho : Int32) (qm_scratched : Int32) (qm_text : Nat) (qm_texts : Int32) (qm_seed : Int32) (qm_line : Nat) (qm_written : Nat) (qm_lineMany : Int32) (qm_hasWritten : Int32) (qm_node : Nat) (qm_nodes : Int32) (qm_onesMany : Int32) (qm_within : Int32) (qm_top : Int32) (hi_a1 : 1 ≤ a1.toInt ∧ a1.toInt ≤ 12) : Ci l yX11_draw cX11_draw 2 (some .int) 0 0 0 G [.ref qm, .int a1] [(qm, .inr (10, [.int qm_thrown, .ref qm_tape, .int qm_taped, .int qm_size, .int qm_limit, .int qm_to, .int qm_from, .int qm_kind, .int qm_number, .int qm_sign, .int qm_fault, .int qm_place, .long qm_word, .int qm_told, .ref qm_now, .ref qm_read, .ref qm_kept, .ref qm_snaps, .ref qm_aside, .ref qm_name, .ref qm_readName, .ref qm_keptName, .ref qm_isKept, .ref qm_onces, .int qm_snapMany, .ref qm_order, .ref qm_ordered, .int qm_orderMany, .int qm_orderMost, .int qm_passing, .int qm_movedWho, .int qm_scratched, .ref qm_text, .int qm_texts, .int qm_seed, .ref qm_line, .ref qm_written, .int qm_lineMany, .int qm_hasWritten, .ref qm_node, .int qm_nodes, .int qm_onesMany, .int qm_within, .int qm_top]))] (fun (r9 : Int32) (u9 : va_W) => ∃ (x0_qm_seed : Int32) (r_x : Int32), r9 = r_x ∧ u9 = [(qm, .inr (10, [.int qm_thrown, .ref qm_tape, .int qm_taped, .int qm_size, .int qm_limit, .int qm_to, .int qm_from, .int qm_kind, .int qm_number, .int qm_sign, .int qm_fault, .int qm_place, .long qm_word, .int qm_told, .ref qm_now, .ref qm_read, .ref qm_kept, .ref qm_snaps, .ref qm_aside, .ref qm_name, .ref qm_readName, .ref qm_keptName, .ref qm_isKept, .ref qm_onces, .int qm_snapMany, .ref qm_order, .ref qm_ordered, .int qm_orderMany, .int qm_orderMost, .int qm_passing, .int qm_movedWho, .int qm_scratched, .ref qm_text, .int qm_texts, .int x0_qm_seed, .ref qm_line, .ref qm_written, .int qm_lineMany, .int qm_hasWritten, .ref qm_node, .int qm_nodes, .int qm_onesMany, .int qm_within, .int qm_top]))] ∧ (0 ≤ r_x.toInt ∧ r_x.toInt ≤ 11) ∧ (r_x.toInt + 1 ≤ a1.toInt)) := by
  refine Ci.ofQ (by decide) (Nat.le_of_ble_eq_true rfl) ?_
  intro p e s m below meth c ls A args Q hQ B hw hl
  have C : CallFix p m c cX11_draw 2 s args gw "LanternStateModel" := B.1
  have hl : lv_has ls 2 [(0, .ref qm), (1, .int a1)] := hl
  refine lv_aload_n C.1 C.2.1 dX11_draw_0 rfl (lv_at hl 0 rfl) ?_
  refine lv_aload_n C.1 C.2.1 dX11_draw_1 rfl (lv_at hl 0 rfl) ?_
  refine x_get C hw iwX11 10 rfl 0 rfl 34 (by decide) kw1227 rfl dX11_draw_2 ?_
  refine lv_ldcw (v := 1103515245) C.1 C.2.1 C.2.2.2.1 (C.2.2.2.2 _ kw1699) dX11_draw_5 ?_
  refine lv_imul C.1 C.2.1 dX11_draw_8 (x_gen (fun v1 => ?_))
  refine lv_sipush (v := 12345) C.1 C.2.1 dX11_draw_9 (by decide) ?_
  refine lv_iadd C.1 C.2.1 dX11_draw_12 (x_gen (fun v2 => ?_))
  refine x_put (w' := [(qm, .inr (10, [.int qm_thrown, .ref qm_tape, .int qm_taped, .int qm_size, .int qm_limit, .int qm_to, .int qm_from, .int qm_kind, .int qm_number, .int qm_sign, .int qm_fault, .int qm_place, .long qm_word, .int qm_told, .ref qm_now, .ref qm_read, .ref qm_kept, .ref qm_snaps, .ref qm_aside, .ref qm_name, .ref qm_readName, .ref qm_keptName, .ref qm_isKept, .ref qm_onces, .int qm_snapMany, .ref qm_order, .ref qm_ordered, .int qm_orderMany, .int qm_orderMost, .int qm_passing, .int qm_movedWho, .int qm_scratched, .ref qm_text, .int qm_texts, .int v2, .ref qm_line, .ref qm_written, .int qm_lineMany, .int qm_hasWritten, .ref qm_node, .int qm_nodes, .int qm_onesMany, .int qm_within, .int qm_top]))]) C hw iwX11 tyX11_ok nmX11 10 rfl 0 rfl 34 (by decide) kw1227 rfl rfl rfl (Nat.le_of_ble_eq_true rfl) rfl dX11_draw_13 (fun H locs hw => ?_)
  refine lv_aload_n C.1 C.2.1 dX11_draw_16 rfl (lv_at hl 0 rfl) ?_
  refine x_get C hw iwX11 10 rfl 0 rfl 34 (by decide) kw1227 rfl dX11_draw_17 ?_
  refine lv_bipush (v := 8) C.1 C.2.1 dX11_draw_20 (by decide) ?_
  refine lv_iushr (v := ((v2.toUInt32 >>> ((8 : Int32).toUInt32 &&& Int32.toUInt32 31)).toInt32)) C.1 C.2.1 dX11_draw_22 rfl (x_genP (fun z : Int32 => 0 ≤ z.toInt ∧ z.toInt ≤ 16777215) (i_ushr8 _) (fun v3 hv3 => ?_))
  refine lv_iload_n C.1 C.2.1 dX11_draw_23 rfl (lv_at hl 1 rfl) ?_
  refine lv_irem C.1 C.2.1 dX11_draw_24 (i_ne0 (by omega)) (x_genP (fun z : Int32 => (0 ≤ z.toInt ∧ z.toInt < a1.toInt) ∧ z.toInt ≤ v3.toInt) (i_rem (X := v3.toInt) (Y := a1.toInt) rfl rfl (by omega) (by omega)) (fun v4 hv4 => ?_))
  exact x_retiQ hQ B hw ⟨v2, v4, rfl, rfl, (by omega), (by omega)⟩ (Nat.le_of_ble_eq_true rfl) (Nat.le_of_ble_eq_true rfl) dX11_draw_25
theorem dX11_drawHours_0 : decode cX11_drawHours 0 = .ok (.aload_n 0, 1) := by decide +kernel
theorem dX11_drawHours_1 : decode cX11_drawHours 1 = .ok (.iload_n 2, 1) := by decide +kernel
theorem dX11_drawHours_2 : decode cX11_drawHours 2 = .ok (.putfield 346, 3) := by decide +kernel
theorem dX11_drawHours_5 : decode cX11_drawHours 5 = .ok (.iload_n 1, 1) := by decide +kernel
theorem dX11_drawHours_6 : decode cX11_drawHours 6 = .ok (.sipush 400, 3) := by decide +kernel
theorem dX11_drawHours_9 : decode cX11_drawHours 9 = .ok (.aload_n 0, 1) := by decide +kernel
theorem dX11_drawHours_10 : decode cX11_drawHours 10 = .ok (.getfield 98, 3) := by decide +kernel
theorem dX11_drawHours_13 : decode cX11_drawHours 13 = .ok (.bipush 64, 2) := by decide +kernel
theorem dX11_drawHours_15 : decode cX11_drawHours 15 = .ok (.iaload, 1) := by decide +kernel
theorem dX11_drawHours_16 : decode cX11_drawHours 16 = .ok (.isub, 1) := by decide +kernel
theorem dX11_drawHours_17 : decode cX11_drawHours 17 = .ok (.invokestatic 298, 3) := by decide +kernel
theorem dX11_drawHours_20 : decode cX11_drawHours 20 = .ok (.istore_n 3, 1) := by decide +kernel
theorem dX11_drawHours_21 : decode cX11_drawHours 21 = .ok (.iconst 0, 1) := by decide +kernel
theorem dX11_drawHours_22 : decode cX11_drawHours 22 = .ok (.istore 4, 2) := by decide +kernel
theorem dX11_drawHours_24 : decode cX11_drawHours 24 = .ok (.iload 4, 2) := by decide +kernel
theorem dX11_drawHours_26 : decode cX11_drawHours 26 = .ok (.iload_n 3, 1) := by decide +kernel
theorem dX11_drawHours_27 : decode cX11_drawHours 27 = .ok (.if_icmp .ge 105, 3) := by decide +kernel
theorem dX11_drawHours_30 : decode cX11_drawHours 30 = .ok (.aload_n 0, 1) := by decide +kernel
theorem dX11_drawHours_31 : decode cX11_drawHours 31 = .ok (.aload_n 0, 1) := by decide +kernel
theorem dX11_drawHours_32 : decode cX11_drawHours 32 = .ok (.getfield 98, 3) := by decide +kernel
theorem dX11_drawHours_35 : decode cX11_drawHours 35 = .ok (.iconst 0, 1) := by decide +kernel
theorem dX11_drawHours_36 : decode cX11_drawHours 36 = .ok (.iaload, 1) := by decide +kernel
theorem dX11_drawHours_37 : decode cX11_drawHours 37 = .ok (.invokevirtual 350, 3) := by decide +kernel
theorem mwX11_draw : MwV yX11_draw cX11_draw 2 (some .int) 1 := ⟨⟨kw1698, kw15, by decide +kernel⟩, kw1697, kS96⟩
theorem dX11_drawHours_40 : decode cX11_drawHours 40 = .ok (.istore 5, 2) := by decide +kernel
theorem dX11_drawHours_42 : decode cX11_drawHours 42 = .ok (.aload_n 0, 1) := by decide +kernel
theorem dX11_drawHours_43 : decode cX11_drawHours 43 = .ok (.iconst 4, 1) := by decide +kernel
theorem dX11_drawHours_44 : decode cX11_drawHours 44 = .ok (.invokevirtual 350, 3) := by decide +kernel
theorem dX11_drawHours_47 : decode cX11_drawHours 47 = .ok (.istore 6, 2) := by decide +kernel
theorem dX11_drawHours_49 : decode cX11_drawHours 49 = .ok (.aload_n 0, 1) := by decide +kernel
theorem dX11_drawHours_50 : decode cX11_drawHours 50 = .ok (.iconst 0, 1) := by decide +kernel
theorem dX11_drawHours_51 : decode cX11_drawHours 51 = .ok (.iload 5, 2) := by decide +kernel
theorem dX11_drawHours_53 : decode cX11_drawHours 53 = .ok (.iload 6, 2) := by decide +kernel
theorem dX11_drawHours_55 : decode cX11_drawHours 55 = .ok (.invokevirtual 285, 3) := by decide +kernel
theorem dX11_drawHours_58 : decode cX11_drawHours 58 = .ok (.ifCond .ne 13, 3) := by decide +kernel
theorem dX11_drawHours_61 : decode cX11_drawHours 61 = .ok (.aload_n 0, 1) := by decide +kernel
theorem dX11_drawHours_62 : decode cX11_drawHours 62 = .ok (.iconst 0, 1) := by decide +kernel
theorem dX11_drawHours_63 : decode cX11_drawHours 63 = .ok (.iload 5, 2) := by decide +kernel
theorem dX11_drawHours_65 : decode cX11_drawHours 65 = .ok (.iload 6, 2) := by decide +kernel
theorem dX11_drawHours_67 : decode cX11_drawHours 67 = .ok (.invokevirtual 292, 3) := by decide +kernel
theorem dX11_drawHours_70 : decode cX11_drawHours 70 = .ok (.pop, 1) := by decide +kernel
theorem dX11_drawHours_71 : decode cX11_drawHours 71 = .ok (.iconst 0, 1) := by decide +kernel
theorem dX11_drawHours_72 : decode cX11_drawHours 72 = .ok (.istore 7, 2) := by decide +kernel
theorem dX11_drawHours_74 : decode cX11_drawHours 74 = .ok (.iload 7, 2) := by decide +kernel
theorem dX11_drawHours_76 : decode cX11_drawHours 76 = .ok (.aload_n 0, 1) := by decide +kernel
theorem dX11_drawHours_77 : decode cX11_drawHours 77 = .ok (.getfield 98, 3) := by decide +kernel
theorem dX11_drawHours_80 : decode cX11_drawHours 80 = .ok (.iconst 1, 1) := by decide +kernel
theorem dX11_drawHours_81 : decode cX11_drawHours 81 = .ok (.iaload, 1) := by decide +kernel
theorem dX11_drawHours_82 : decode cX11_drawHours 82 = .ok (.if_icmp .ge 40, 3) := by decide +kernel
theorem dX11_drawHours_85 : decode cX11_drawHours 85 = .ok (.aload_n 0, 1) := by decide +kernel
theorem dX11_drawHours_86 : decode cX11_drawHours 86 = .ok (.bipush 12, 2) := by decide +kernel
theorem dX11_drawHours_88 : decode cX11_drawHours 88 = .ok (.invokevirtual 350, 3) := by decide +kernel
theorem dX11_drawHours_91 : decode cX11_drawHours 91 = .ok (.ifCond .ne 25, 3) := by decide +kernel
theorem dX11_drawHours_94 : decode cX11_drawHours 94 = .ok (.aload_n 0, 1) := by decide +kernel
theorem dX11_drawHours_95 : decode cX11_drawHours 95 = .ok (.getfield 98, 3) := by decide +kernel
theorem dX11_drawHours_98 : decode cX11_drawHours 98 = .ok (.bipush 81, 2) := by decide +kernel
theorem dX11_drawHours_100 : decode cX11_drawHours 100 = .ok (.iload 7, 2) := by decide +kernel
theorem dX11_drawHours_102 : decode cX11_drawHours 102 = .ok (.iadd, 1) := by decide +kernel
theorem dX11_drawHours_103 : decode cX11_drawHours 103 = .ok (.iconst 1, 1) := by decide +kernel
theorem dX11_drawHours_104 : decode cX11_drawHours 104 = .ok (.aload_n 0, 1) := by decide +kernel
theorem dX11_drawHours_105 : decode cX11_drawHours 105 = .ok (.getfield 98, 3) := by decide +kernel
theorem dX11_drawHours_108 : decode cX11_drawHours 108 = .ok (.bipush 81, 2) := by decide +kernel
theorem dX11_drawHours_110 : decode cX11_drawHours 110 = .ok (.iload 7, 2) := by decide +kernel
theorem dX11_drawHours_112 : decode cX11_drawHours 112 = .ok (.iadd, 1) := by decide +kernel
theorem dX11_drawHours_113 : decode cX11_drawHours 113 = .ok (.iaload, 1) := by decide +kernel
theorem dX11_drawHours_114 : decode cX11_drawHours 114 = .ok (.isub, 1) := by decide +kernel
theorem dX11_drawHours_115 : decode cX11_drawHours 115 = .ok (.iastore, 1) := by decide +kernel
theorem dX11_drawHours_116 : decode cX11_drawHours 116 = .ok (.iinc 7 1, 3) := by decide +kernel
theorem dX11_drawHours_119 : decode cX11_drawHours 119 = .ok (.goto (-45), 3) := by decide +kernel
theorem dX11_drawHours_122 : decode cX11_drawHours 122 = .ok (.aload_n 0, 1) := by decide +kernel
theorem dX11_drawHours_123 : decode cX11_drawHours 123 = .ok (.invokevirtual 301, 3) := by decide +kernel
theorem dX11_drawHours_126 : decode cX11_drawHours 126 = .ok (.iinc 4 1, 3) := by decide +kernel
theorem dX11_drawHours_129 : decode cX11_drawHours 129 = .ok (.goto (-105), 3) := by decide +kernel
theorem dX11_drawHours_132 : decode cX11_drawHours 132 = .ok (.iload_n 3, 1) := by decide +kernel
theorem dX11_drawHours_133 : decode cX11_drawHours 133 = .ok (.ireturn, 1) := by decide +kernel
set_option maxHeartbeats 4000000 in
set_option maxRecDepth 100000 in
theorem s_X11_drawHours {l : Launch} {G : Gc} (qm : Nat) (a1 : Int32) (a2 : Int32) (qm_thrown : Int32) (qm_tape : Nat) (qm_taped : Int32) (qm_size : Int32) (qm_limit : Int32) (qm_to : Int32) (qm_from : Int32) (qm_kind : Int32) (qm_number : Int32) (qm_sign : Int32) (qm_fault : Int32) (qm_place : Int32) (qm_word : Int64) (qm_told : Int32) (qm_now : Nat) (qm_read : Nat) (qm_kept : Nat) (qm_snaps : Nat) (qm_aside : Nat) (qm_name : Nat) (qm_readName : Nat) (qm_keptName : Nat) (qm_isKept : Nat) (qm_onces : Nat) (qm_snapMany : Int32) (qm_order : Nat) (qm_ordered : Nat) (qm_orderMany : Int32) (qm_orderMost : Int32) (qm_passing : Int32) (qm_movedWho : Int32) (qm_scratched : Int32) (qm_text : Nat) (qm_texts : Int32) (qm_seed : Int32) (qm_line : Nat) (qm_written : Nat) (qm_lineMany : Int32) (qm_hasWritten : Int32) (qm_node : Nat) (qm_nodes : Int32) (qm_onesMany : Int32) (qm_within : Int32) (qm_top : Int32) (qm_now_c : Nat → Int32) (hf_qm_now_c : slI qm_now_c) (hf1_qm_now_c : trI qm_now_c) (hr_0 : 1 ≤ (qm_now_c 0).toInt) : Ci l yX11_drawHours cX11_drawHours 8 (some .int) 5 0 0 G [.ref qm, .int a1, .int a2] [(qm, .inr (10, [.int qm_thrown, .ref qm_tape, .int qm_taped, .int qm_size, .int qm_limit, .int qm_to, .int qm_from, .int qm_kind, .int qm_number, .int qm_sign, .int qm_fault, .int qm_place, .long qm_word, .int qm_told, .ref qm_now, .ref qm_read, .ref qm_kept, .ref qm_snaps, .ref qm_aside, .ref qm_name, .ref qm_readName, .ref qm_keptName, .ref qm_isKept, .ref qm_onces, .int qm_snapMany, .ref qm_order, .ref qm_ordered, .int qm_orderMany, .int qm_orderMost, .int qm_passing, .int qm_movedWho, .int qm_scratched, .ref qm_text, .int qm_texts, .int qm_seed, .ref qm_line, .ref qm_written, .int qm_lineMany, .int qm_hasWritten, .ref qm_node, .int qm_nodes, .int qm_onesMany, .int qm_within, .int qm_top])), (qm_now, eI G 339 qm_now_c)] (fun (r9 : Int32) (u9 : va_W) => ∃ (x0_qm_seed : Int32) (x1_qm_now_c : Nat → Int32) (r_x : Int32), r9 = r_x ∧ u9 = [(qm, .inr (10, [.int qm_thrown, .ref qm_tape, .int qm_taped, .int qm_size, .int qm_limit, .int qm_to, .int qm_from, .int qm_kind, .int qm_number, .int qm_sign, .int qm_fault, .int qm_place, .long qm_word, .int qm_told, .ref qm_now, .ref qm_read, .ref qm_kept, .ref qm_snaps, .ref qm_aside, .ref qm_name, .ref qm_readName, .ref qm_keptName, .ref qm_isKept, .ref qm_onces, .int qm_snapMany, .ref qm_order, .ref qm_ordered, .int qm_orderMany, .int qm_orderMost, .int qm_passing, .int qm_movedWho, .int qm_scratched, .ref qm_text, .int qm_texts, .int x0_qm_seed, .ref qm_line, .ref qm_written, .int qm_lineMany, .int qm_hasWritten, .ref qm_node, .int qm_nodes, .int qm_onesMany, .int qm_within, .int qm_top])), (qm_now, eI G 339 x1_qm_now_c)] ∧ (loW qm_now_c x1_qm_now_c) ∧ (slI x1_qm_now_c) ∧ (trI x1_qm_now_c) ∧ ((x1_qm_now_c 0).toInt = (qm_now_c 0).toInt)) := by
  refine Ci.ofQ (by decide) (Nat.le_of_ble_eq_true rfl) ?_
  intro p e s m below meth c ls A args Q hQ B hw hl
  have C : CallFix p m c cX11_drawHours 8 s args gw "LanternStateModel" := B.1
  have hl : lv_has ls 8 [(0, .ref qm), (1, .int a1), (2, .int a2)] := hl
  refine lv_aload_n C.1 C.2.1 dX11_drawHours_0 rfl (lv_at hl 0 rfl) ?_
  refine lv_iload_n C.1 C.2.1 dX11_drawHours_1 rfl (lv_at hl 2 rfl) ?_
  refine x_put (w' := [(qm, .inr (10, [.int qm_thrown, .ref qm_tape, .int qm_taped, .int qm_size, .int qm_limit, .int qm_to, .int qm_from, .int qm_kind, .int qm_number, .int qm_sign, .int qm_fault, .int qm_place, .long qm_word, .int qm_told, .ref qm_now, .ref qm_read, .ref qm_kept, .ref qm_snaps, .ref qm_aside, .ref qm_name, .ref qm_readName, .ref qm_keptName, .ref qm_isKept, .ref qm_onces, .int qm_snapMany, .ref qm_order, .ref qm_ordered, .int qm_orderMany, .int qm_orderMost, .int qm_passing, .int qm_movedWho, .int qm_scratched, .ref qm_text, .int qm_texts, .int a2, .ref qm_line, .ref qm_written, .int qm_lineMany, .int qm_hasWritten, .ref qm_node, .int qm_nodes, .int qm_onesMany, .int qm_within, .int qm_top])), (qm_now, eI G 339 qm_now_c)]) C hw iwX11 tyX11_ok nmX11 10 rfl 0 rfl 34 (by decide) kw1227 rfl rfl rfl (Nat.le_of_ble_eq_true rfl) rfl dX11_drawHours_2 (fun H locs hw => ?_)
  refine lv_iload_n C.1 C.2.1 dX11_drawHours_5 rfl (lv_at hl 1 rfl) ?_
  refine lv_sipush (v := 400) C.1 C.2.1 dX11_drawHours_6 (by decide) ?_
  refine lv_aload_n C.1 C.2.1 dX11_drawHours_9 rfl (lv_at hl 0 rfl) ?_
  refine x_get C hw iwX11 10 rfl 0 rfl 14 (by decide) kw1207 rfl dX11_drawHours_10 ?_
  refine lv_bipush (v := 64) C.1 C.2.1 dX11_drawHours_13 (by decide) ?_
  refine x_iald (v := (qm_now_c 64)) C hw 1 rfl (x_in rfl) rfl dX11_drawHours_15 (x_gen (fun v1 => ?_))
  refine lv_isub C.1 C.2.1 dX11_drawHours_16 (x_gen (fun v2 => ?_))
  refine x_calliS (As := [.int a1, .int v2]) (rest := []) (wr := [(qm, .inr (10, [.int qm_thrown, .ref qm_tape, .int qm_taped, .int qm_size, .int qm_limit, .int qm_to, .int qm_from, .int qm_kind, .int qm_number, .int qm_sign, .int qm_fault, .int qm_place, .long qm_word, .int qm_told, .ref qm_now, .ref qm_read, .ref qm_kept, .ref qm_snaps, .ref qm_aside, .ref qm_name, .ref qm_readName, .ref qm_keptName, .ref qm_isKept, .ref qm_onces, .int qm_snapMany, .ref qm_order, .ref qm_ordered, .int qm_orderMany, .int qm_orderMost, .int qm_passing, .int qm_movedWho, .int qm_scratched, .ref qm_text, .int qm_texts, .int a2, .ref qm_line, .ref qm_written, .int qm_lineMany, .int qm_hasWritten, .ref qm_node, .int qm_nodes, .int qm_onesMany, .int qm_within, .int qm_top])), (qm_now, eI G 339 qm_now_c)]) C hw (s_X11_least a1 v2) mwX11_least kw1601 [] [0, 1] rfl rfl rfl rfl (by decide) rfl hl.1 rfl (Nat.le_of_ble_eq_true rfl) ⟨(Nat.le_of_ble_eq_true rfl), (Nat.le_of_ble_eq_true rfl)⟩ ⟨(Nat.le_of_ble_eq_true rfl), (Nat.le_of_ble_eq_true rfl)⟩ dX11_drawHours_17 (fun r3 u9 H locs hp9 hw => ?_)
  obtain ⟨x4, rfl, rfl⟩ := hp9
  have hw : Wd G s A [(qm, .inr (10, [.int qm_thrown, .ref qm_tape, .int qm_taped, .int qm_size, .int qm_limit, .int qm_to, .int qm_from, .int qm_kind, .int qm_number, .int qm_sign, .int qm_fault, .int qm_place, .long qm_word, .int qm_told, .ref qm_now, .ref qm_read, .ref qm_kept, .ref qm_snaps, .ref qm_aside, .ref qm_name, .ref qm_readName, .ref qm_keptName, .ref qm_isKept, .ref qm_onces, .int qm_snapMany, .ref qm_order, .ref qm_ordered, .int qm_orderMany, .int qm_orderMost, .int qm_passing, .int qm_movedWho, .int qm_scratched, .ref qm_text, .int qm_texts, .int a2, .ref qm_line, .ref qm_written, .int qm_lineMany, .int qm_hasWritten, .ref qm_node, .int qm_nodes, .int qm_onesMany, .int qm_within, .int qm_top])), (qm_now, eI G 339 qm_now_c)] H _ := hw
  refine lv_istore_n (lv' := [(3, .int r3), (0, .ref qm), (1, .int a1), (2, .int a2)]) C.1 C.2.1 dX11_drawHours_20 rfl hl (by decide) rfl (fun ls hl => ?_)
  refine lv_iconst (v := 0) C.1 C.2.1 dX11_drawHours_21 (by decide) ?_
  refine lv_istore (lv' := [(4, .int 0), (3, .int r3), (0, .ref qm), (1, .int a1), (2, .int a2)]) C.1 C.2.1 dX11_drawHours_22 hl (by decide) rfl (fun ls hl => ?_)
  have loopJ7528 : ∀ (n9 : Nat) (j7525 : Int32) (j7526 : Int32) (j7527 : Nat → Int32), (2147483647 - j7525.toInt).toNat < n9 → (loW qm_now_c j7527) → (slI j7527) → (trI j7527) → ((j7527 0).toInt = (qm_now_c 0).toInt) → (0 ≤ j7525.toInt) → ∀ (H : Heap) (locs : List Loc) (ls : Array Slot), Wd G s A [(qm, .inr (10, [.int qm_thrown, .ref qm_tape, .int qm_taped, .int qm_size, .int qm_limit, .int qm_to, .int qm_from, .int qm_kind, .int qm_number, .int qm_sign, .int qm_fault, .int qm_place, .long qm_word, .int qm_told, .ref qm_now, .ref qm_read, .ref qm_kept, .ref qm_snaps, .ref qm_aside, .ref qm_name, .ref qm_readName, .ref qm_keptName, .ref qm_isKept, .ref qm_onces, .int qm_snapMany, .ref qm_order, .ref qm_ordered, .int qm_orderMany, .int qm_orderMost, .int qm_passing, .int qm_movedWho, .int qm_scratched, .ref qm_text, .int qm_texts, .int j7526, .ref qm_line, .ref qm_written, .int qm_lineMany, .int qm_hasWritten, .ref qm_node, .int qm_nodes, .int qm_onesMany, .int qm_within, .int qm_top])), (qm_now, eI G 339 j7527)] H locs → lv_has ls 8 [(4, .int j7525), (3, .int r3), (0, .ref qm)] → W p l e (rmD 5 0 0) s m args below meth c H locs 0 0 Q (F0 m 24 ls []) := by
    intro n9
    induction n9 with
    | zero => intro j7525 j7526 j7527 h9; exact absurd h9 (Nat.not_lt_zero _)
    | succ n9 ihJ7528 =>
      intro j7525 j7526 j7527 h9J7528 hJ7528_0 hJ7528_1 hJ7528_2 hJ7528_3 hJ7528_4 H locs ls hw hl
      have hbj7525 := i_bd j7525
      refine lv_iload C.1 C.2.1 dX11_drawHours_24 (lv_at hl 0 rfl) ?_
      refine lv_iload_n C.1 C.2.1 dX11_drawHours_26 rfl (lv_at hl 1 rfl) ?_
      refine lv_icmp_ge (tgt := 132) C.1 C.2.1 dX11_drawHours_27 (by decide) (fun c7830 => ?_) (fun c7830 => ?_)
      · skip
        have c7830 : r3.toInt ≤ j7525.toInt := i_leT (X := r3.toInt) (Y := j7525.toInt) rfl rfl c7830
        have bc7830_j7525 := i_bd j7525
        have bc7830_r3 := i_bd r3
        refine lv_iload_n C.1 C.2.1 dX11_drawHours_132 rfl (lv_at hl 1 rfl) ?_
        exact x_retiQ hQ B hw ⟨j7526, j7527, r3, rfl, rfl, hJ7528_0, hJ7528_1, hJ7528_2, (by omega)⟩ (Nat.le_of_ble_eq_true rfl) (Nat.le_of_ble_eq_true rfl) dX11_drawHours_133
      · skip
        have c7830 : j7525.toInt < r3.toInt := i_leF (X := r3.toInt) (Y := j7525.toInt) rfl rfl c7830
        have bc7830_j7525 := i_bd j7525
        have bc7830_r3 := i_bd r3
        refine lv_aload_n C.1 C.2.1 dX11_drawHours_30 rfl (lv_at hl 2 rfl) ?_
        refine lv_aload_n C.1 C.2.1 dX11_drawHours_31 rfl (lv_at hl 2 rfl) ?_
        refine x_get C hw iwX11 10 rfl 0 rfl 14 (by decide) kw1207 rfl dX11_drawHours_32 ?_
        refine lv_iconst (v := 0) C.1 C.2.1 dX11_drawHours_35 (by decide) ?_
        have mm7831 := hJ7528_1 0
        refine x_iald (v := (j7527 0)) C hw 1 rfl (x_in rfl) rfl dX11_drawHours_36 (x_genP (fun z : Int32 => z.toInt = (j7527 0).toInt ∧ 0 ≤ z.toInt ∧ z.toInt ≤ 6) ⟨rfl, by omega⟩ (fun v7832 hv7832 => ?_))
        refine x_calliV (As := [.int v7832]) (rest := []) (wr := [(qm_now, eI G 339 j7527)]) C hw (s_X11_draw qm v7832 qm_thrown qm_tape qm_taped qm_size qm_limit qm_to qm_from qm_kind qm_number qm_sign qm_fault qm_place qm_word qm_told qm_now qm_read qm_kept qm_snaps qm_aside qm_name qm_readName qm_keptName qm_isKept qm_onces qm_snapMany qm_order qm_ordered qm_orderMany qm_orderMost qm_passing qm_movedWho qm_scratched qm_text qm_texts j7526 qm_line qm_written qm_lineMany qm_hasWritten qm_node qm_nodes qm_onesMany qm_within qm_top (by omega)) mwX11_draw kw1695 [0] [1] rfl rfl rfl rfl (by decide) 0 rfl rfl rfl rfl hl.1 rfl (Nat.le_of_ble_eq_true rfl) ⟨(Nat.le_of_ble_eq_true rfl), (Nat.le_of_ble_eq_true rfl)⟩ ⟨(Nat.le_of_ble_eq_true rfl), (Nat.le_of_ble_eq_true rfl)⟩ dX11_drawHours_37 (fun r7833 u9 H locs hp9 hw => ?_)
        obtain ⟨x7834, x7835, rfl, rfl, hf7836, hf7837⟩ := hp9
        have hw : Wd G s A [(qm_now, eI G 339 j7527), (qm, .inr (10, [.int qm_thrown, .ref qm_tape, .int qm_taped, .int qm_size, .int qm_limit, .int qm_to, .int qm_from, .int qm_kind, .int qm_number, .int qm_sign, .int qm_fault, .int qm_place, .long qm_word, .int qm_told, .ref qm_now, .ref qm_read, .ref qm_kept, .ref qm_snaps, .ref qm_aside, .ref qm_name, .ref qm_readName, .ref qm_keptName, .ref qm_isKept, .ref qm_onces, .int qm_snapMany, .ref qm_order, .ref qm_ordered, .int qm_orderMany, .int qm_orderMost, .int qm_passing, .int qm_movedWho, .int qm_scratched, .ref qm_text, .int qm_texts, .int x7834, .ref qm_line, .ref qm_written, .int qm_lineMany, .int qm_hasWritten, .ref qm_node, .int qm_nodes, .int qm_onesMany, .int qm_within, .int qm_top]))] H _ := hw
        refine lv_istore (lv' := [(5, .int r7833), (4, .int j7525), (3, .int r3), (0, .ref qm)]) C.1 C.2.1 dX11_drawHours_40 hl (by decide) rfl (fun ls hl => ?_)
        refine lv_aload_n C.1 C.2.1 dX11_drawHours_42 rfl (lv_at hl 3 rfl) ?_
        refine lv_iconst (v := 4) C.1 C.2.1 dX11_drawHours_43 (by decide) ?_
        refine x_calliV (As := [.int 4]) (rest := []) (wr := [(qm_now, eI G 339 j7527)]) C hw (s_X11_draw qm 4 qm_thrown qm_tape qm_taped qm_size qm_limit qm_to qm_from qm_kind qm_number qm_sign qm_fault qm_place qm_word qm_told qm_now qm_read qm_kept qm_snaps qm_aside qm_name qm_readName qm_keptName qm_isKept qm_onces qm_snapMany qm_order qm_ordered qm_orderMany qm_orderMost qm_passing qm_movedWho qm_scratched qm_text qm_texts x7834 qm_line qm_written qm_lineMany qm_hasWritten qm_node qm_nodes qm_onesMany qm_within qm_top (by decide)) mwX11_draw kw1695 [1] [0] rfl rfl rfl rfl (by decide) 0 rfl rfl rfl rfl hl.1 rfl (Nat.le_of_ble_eq_true rfl) ⟨(Nat.le_of_ble_eq_true rfl), (Nat.le_of_ble_eq_true rfl)⟩ ⟨(Nat.le_of_ble_eq_true rfl), (Nat.le_of_ble_eq_true rfl)⟩ dX11_drawHours_44 (fun r7838 u9 H locs hp9 hw => ?_)
        obtain ⟨x7839, x7840, rfl, rfl, hf7841, hf7842⟩ := hp9
        have hw : Wd G s A [(qm_now, eI G 339 j7527), (qm, .inr (10, [.int qm_thrown, .ref qm_tape, .int qm_taped, .int qm_size, .int qm_limit, .int qm_to, .int qm_from, .int qm_kind, .int qm_number, .int qm_sign, .int qm_fault, .int qm_place, .long qm_word, .int qm_told, .ref qm_now, .ref qm_read, .ref qm_kept, .ref qm_snaps, .ref qm_aside, .ref qm_name, .ref qm_readName, .ref qm_keptName, .ref qm_isKept, .ref qm_onces, .int qm_snapMany, .ref qm_order, .ref qm_ordered, .int qm_orderMany, .int qm_orderMost, .int qm_passing, .int qm_movedWho, .int qm_scratched, .ref qm_text, .int qm_texts, .int x7839, .ref qm_line, .ref qm_written, .int qm_lineMany, .int qm_hasWritten, .ref qm_node, .int qm_nodes, .int qm_onesMany, .int qm_within, .int qm_top]))] H _ := hw
        have hf7842 : r7838.toInt + 1 ≤ 4 := by first | exact hf7842 | (have e0 : (4 : Int32).toInt = 4 := rfl; omega)
        refine lv_istore (lv' := [(6, .int r7838), (5, .int r7833), (4, .int j7525), (3, .int r3), (0, .ref qm)]) C.1 C.2.1 dX11_drawHours_47 hl (by decide) rfl (fun ls hl => ?_)
        refine lv_aload_n C.1 C.2.1 dX11_drawHours_49 rfl (lv_at hl 4 rfl) ?_
        refine lv_iconst (v := 0) C.1 C.2.1 dX11_drawHours_50 (by decide) ?_
        refine lv_iload C.1 C.2.1 dX11_drawHours_51 (lv_at hl 1 rfl) ?_
        refine lv_iload C.1 C.2.1 dX11_drawHours_53 (lv_at hl 0 rfl) ?_
        refine x_calliV (As := [.int 0, .int r7833, .int r7838]) (rest := []) (wr := []) C hw (s_X11_why qm 0 r7833 r7838 qm_thrown qm_tape qm_taped qm_size qm_limit qm_to qm_from qm_kind qm_number qm_sign qm_fault qm_place qm_word qm_told qm_now qm_read qm_kept qm_snaps qm_aside qm_name qm_readName qm_keptName qm_isKept qm_onces qm_snapMany qm_order qm_ordered qm_orderMany qm_orderMost qm_passing qm_movedWho qm_scratched qm_text qm_texts x7839 qm_line qm_written qm_lineMany qm_hasWritten qm_node qm_nodes qm_onesMany qm_within qm_top j7527 (by omega) (by omega) hJ7528_1 hJ7528_2) mwX11_why kw1553 [1, 0] [] rfl rfl rfl rfl (by decide) 0 rfl rfl rfl rfl hl.1 rfl (Nat.le_of_ble_eq_true rfl) ⟨(Nat.le_of_ble_eq_true rfl), (Nat.le_of_ble_eq_true rfl)⟩ ⟨(Nat.le_of_ble_eq_true rfl), (Nat.le_of_ble_eq_true rfl)⟩ dX11_drawHours_55 (fun r7843 u9 H locs hp9 hw => ?_)
        obtain ⟨x7844, rfl, rfl, hf7845⟩ := hp9
        have hw : Wd G s A [(qm, .inr (10, [.int qm_thrown, .ref qm_tape, .int qm_taped, .int qm_size, .int qm_limit, .int qm_to, .int qm_from, .int qm_kind, .int qm_number, .int qm_sign, .int qm_fault, .int qm_place, .long qm_word, .int qm_told, .ref qm_now, .ref qm_read, .ref qm_kept, .ref qm_snaps, .ref qm_aside, .ref qm_name, .ref qm_readName, .ref qm_keptName, .ref qm_isKept, .ref qm_onces, .int qm_snapMany, .ref qm_order, .ref qm_ordered, .int qm_orderMany, .int qm_orderMost, .int qm_passing, .int qm_movedWho, .int qm_scratched, .ref qm_text, .int qm_texts, .int x7839, .ref qm_line, .ref qm_written, .int qm_lineMany, .int qm_hasWritten, .ref qm_node, .int qm_nodes, .int qm_onesMany, .int qm_within, .int qm_top])), (qm_now, eI G 339 j7527)] H _ := hw
        have J7856 : ∀ (j7855 : Nat → Int32), (loW qm_now_c j7855) → (slI j7855) → (trI j7855) → ((j7855 0).toInt = (qm_now_c 0).toInt) → ∀ (H : Heap) (locs : List Loc) (ls : Array Slot), Wd G s A [(qm, .inr (10, [.int qm_thrown, .ref qm_tape, .int qm_taped, .int qm_size, .int qm_limit, .int qm_to, .int qm_from, .int qm_kind, .int qm_number, .int qm_sign, .int qm_fault, .int qm_place, .long qm_word, .int qm_told, .ref qm_now, .ref qm_read, .ref qm_kept, .ref qm_snaps, .ref qm_aside, .ref qm_name, .ref qm_readName, .ref qm_keptName, .ref qm_isKept, .ref qm_onces, .int qm_snapMany, .ref qm_order, .ref qm_ordered, .int qm_orderMany, .int qm_orderMost, .int qm_passing, .int qm_movedWho, .int qm_scratched, .ref qm_text, .int qm_texts, .int x7839, .ref qm_line, .ref qm_written, .int qm_lineMany, .int qm_hasWritten, .ref qm_node, .int qm_nodes, .int qm_onesMany, .int qm_within, .int qm_top])), (qm_now, eI G 339 j7855)] H locs → lv_has ls 8 [(4, .int j7525), (3, .int r3), (0, .ref qm)] → W p l e (rmD 5 0 0) s m args below meth c H locs 0 0 Q (F0 m 71 ls []) := by
          intro j7855 hJ7856_0 hJ7856_1 hJ7856_2 hJ7856_3 H locs ls hw hl
          refine lv_iconst (v := 0) C.1 C.2.1 dX11_drawHours_71 (by decide) ?_
          refine lv_istore (lv' := [(7, .int 0), (4, .int j7525), (3, .int r3), (0, .ref qm)]) C.1 C.2.1 dX11_drawHours_72 hl (by decide) rfl (fun ls hl => ?_)
          have loopJ8339 : ∀ (n9 : Nat) (j8336 : Int32) (j8337 : Int32) (j8338 : Nat → Int32), (2147483647 - j8336.toInt).toNat < n9 → (loW qm_now_c j8338) → (slI j8338) → (trI j8338) → ((j8338 0).toInt = (qm_now_c 0).toInt) → (0 ≤ j8336.toInt ∧ j8336.toInt ≤ 8) → ∀ (H : Heap) (locs : List Loc) (ls : Array Slot), Wd G s A [(qm, .inr (10, [.int qm_thrown, .ref qm_tape, .int qm_taped, .int qm_size, .int qm_limit, .int qm_to, .int qm_from, .int qm_kind, .int qm_number, .int qm_sign, .int qm_fault, .int qm_place, .long qm_word, .int qm_told, .ref qm_now, .ref qm_read, .ref qm_kept, .ref qm_snaps, .ref qm_aside, .ref qm_name, .ref qm_readName, .ref qm_keptName, .ref qm_isKept, .ref qm_onces, .int qm_snapMany, .ref qm_order, .ref qm_ordered, .int qm_orderMany, .int qm_orderMost, .int qm_passing, .int qm_movedWho, .int qm_scratched, .ref qm_text, .int qm_texts, .int j8337, .ref qm_line, .ref qm_written, .int qm_lineMany, .int qm_hasWritten, .ref qm_node, .int qm_nodes, .int qm_onesMany, .int qm_within, .int qm_top])), (qm_now, eI G 339 j8338)] H locs → lv_has ls 8 [(7, .int j8336), (4, .int j7525), (3, .int r3), (0, .ref qm)] → W p l e (rmD 5 0 0) s m args below meth c H locs 0 0 Q (F0 m 74 ls []) := by
            intro n9
            induction n9 with
            | zero => intro j8336 j8337 j8338 h9; exact absurd h9 (Nat.not_lt_zero _)
            | succ n9 ihJ8339 =>
              intro j8336 j8337 j8338 h9J8339 hJ8339_0 hJ8339_1 hJ8339_2 hJ8339_3 hJ8339_4 H locs ls hw hl
              have hbj8336 := i_bd j8336
              refine lv_iload C.1 C.2.1 dX11_drawHours_74 (lv_at hl 0 rfl) ?_
              refine lv_aload_n C.1 C.2.1 dX11_drawHours_76 rfl (lv_at hl 3 rfl) ?_
              refine x_get C hw iwX11 10 rfl 0 rfl 14 (by decide) kw1207 rfl dX11_drawHours_77 ?_
              refine lv_iconst (v := 1) C.1 C.2.1 dX11_drawHours_80 (by decide) ?_
              have mm8367 := hJ8339_1 1
              refine x_iald (v := (j8338 1)) C hw 1 rfl (x_in rfl) rfl dX11_drawHours_81 (x_genP (fun z : Int32 => z.toInt = (j8338 1).toInt ∧ 0 ≤ z.toInt ∧ z.toInt ≤ 8) ⟨rfl, by omega⟩ (fun v8368 hv8368 => ?_))
              refine lv_icmp_ge (tgt := 122) C.1 C.2.1 dX11_drawHours_82 (by decide) (fun c8369 => ?_) (fun c8369 => ?_)
              · skip
                have c8369 : v8368.toInt ≤ j8336.toInt := i_leT (X := v8368.toInt) (Y := j8336.toInt) rfl rfl c8369
                refine lv_aload_n C.1 C.2.1 dX11_drawHours_122 rfl (lv_at hl 3 rfl) ?_
                refine x_callvV (As := []) (rest := []) (wr := []) C hw (s_X11_oneHour qm qm_thrown qm_tape qm_taped qm_size qm_limit qm_to qm_from qm_kind qm_number qm_sign qm_fault qm_place qm_word qm_told qm_now qm_read qm_kept qm_snaps qm_aside qm_name qm_readName qm_keptName qm_isKept qm_onces qm_snapMany qm_order qm_ordered qm_orderMany qm_orderMost qm_passing qm_movedWho qm_scratched qm_text qm_texts j8337 qm_line qm_written qm_lineMany qm_hasWritten qm_node qm_nodes qm_onesMany qm_within qm_top j8338 hJ8339_1 hJ8339_2) mwX11_oneHour kw1604 [0, 1] [] rfl rfl rfl rfl (by decide) 0 rfl rfl rfl rfl hl.1 rfl (Nat.le_of_ble_eq_true rfl) ⟨(Nat.le_of_ble_eq_true rfl), (Nat.le_of_ble_eq_true rfl)⟩ ⟨(Nat.le_of_ble_eq_true rfl), (Nat.le_of_ble_eq_true rfl)⟩ dX11_drawHours_123 (fun  u9 H locs hp9 hw => ?_)
                obtain ⟨x8370, rfl, hf8371, hf8373, hf8374, hf8375⟩ := hp9
                have hw : Wd G s A [(qm, .inr (10, [.int qm_thrown, .ref qm_tape, .int qm_taped, .int qm_size, .int qm_limit, .int qm_to, .int qm_from, .int qm_kind, .int qm_number, .int qm_sign, .int qm_fault, .int qm_place, .long qm_word, .int qm_told, .ref qm_now, .ref qm_read, .ref qm_kept, .ref qm_snaps, .ref qm_aside, .ref qm_name, .ref qm_readName, .ref qm_keptName, .ref qm_isKept, .ref qm_onces, .int qm_snapMany, .ref qm_order, .ref qm_ordered, .int qm_orderMany, .int qm_orderMost, .int qm_passing, .int qm_movedWho, .int qm_scratched, .ref qm_text, .int qm_texts, .int j8337, .ref qm_line, .ref qm_written, .int qm_lineMany, .int qm_hasWritten, .ref qm_node, .int qm_nodes, .int qm_onesMany, .int qm_within, .int qm_top])), (qm_now, eI G 339 x8370)] H _ := hw
                have fw8372 : loW qm_now_c x8370 := loW_tr hJ8339_0 hf8371
                obtain ⟨v8376, ev8376⟩ : ∃ z : Int32, j7525 + 1 = z := ⟨_, rfl⟩
                have hv8376 : v8376.toInt = j7525.toInt + 1 := by rw [← ev8376]; exact i_add rfl rfl (by omega) (by omega)
                refine lv_iinc (v := v8376) (lv' := [(4, .int v8376), (7, .int j8336), (3, .int r3), (0, .ref qm)]) C.1 C.2.1 dX11_drawHours_126 hl (k := 1) rfl ev8376 (by decide) rfl (fun ls hl => ?_)
                refine lv_goto (tgt := 24) C.1 C.2.1 dX11_drawHours_129 (by decide) ?_
                exact ihJ7528 v8376 j8337 x8370 (by omega) fw8372 hf8373 hf8374 (by omega) (by omega) _ _ _ hw (lv_sub hl [0, 2, 3] rfl)
              · skip
                have c8369 : j8336.toInt < v8368.toInt := i_leF (X := v8368.toInt) (Y := j8336.toInt) rfl rfl c8369
                refine lv_aload_n C.1 C.2.1 dX11_drawHours_85 rfl (lv_at hl 3 rfl) ?_
                refine lv_bipush (v := 12) C.1 C.2.1 dX11_drawHours_86 (by decide) ?_
                refine x_calliV (As := [.int 12]) (rest := []) (wr := [(qm_now, eI G 339 j8338)]) C hw (s_X11_draw qm 12 qm_thrown qm_tape qm_taped qm_size qm_limit qm_to qm_from qm_kind qm_number qm_sign qm_fault qm_place qm_word qm_told qm_now qm_read qm_kept qm_snaps qm_aside qm_name qm_readName qm_keptName qm_isKept qm_onces qm_snapMany qm_order qm_ordered qm_orderMany qm_orderMost qm_passing qm_movedWho qm_scratched qm_text qm_texts j8337 qm_line qm_written qm_lineMany qm_hasWritten qm_node qm_nodes qm_onesMany qm_within qm_top (by decide)) mwX11_draw kw1695 [0] [1] rfl rfl rfl rfl (by decide) 0 rfl rfl rfl rfl hl.1 rfl (Nat.le_of_ble_eq_true rfl) ⟨(Nat.le_of_ble_eq_true rfl), (Nat.le_of_ble_eq_true rfl)⟩ ⟨(Nat.le_of_ble_eq_true rfl), (Nat.le_of_ble_eq_true rfl)⟩ dX11_drawHours_88 (fun r8377 u9 H locs hp9 hw => ?_)
                obtain ⟨x8378, x8379, rfl, rfl, hf8380, hf8381⟩ := hp9
                have hw : Wd G s A [(qm_now, eI G 339 j8338), (qm, .inr (10, [.int qm_thrown, .ref qm_tape, .int qm_taped, .int qm_size, .int qm_limit, .int qm_to, .int qm_from, .int qm_kind, .int qm_number, .int qm_sign, .int qm_fault, .int qm_place, .long qm_word, .int qm_told, .ref qm_now, .ref qm_read, .ref qm_kept, .ref qm_snaps, .ref qm_aside, .ref qm_name, .ref qm_readName, .ref qm_keptName, .ref qm_isKept, .ref qm_onces, .int qm_snapMany, .ref qm_order, .ref qm_ordered, .int qm_orderMany, .int qm_orderMost, .int qm_passing, .int qm_movedWho, .int qm_scratched, .ref qm_text, .int qm_texts, .int x8378, .ref qm_line, .ref qm_written, .int qm_lineMany, .int qm_hasWritten, .ref qm_node, .int qm_nodes, .int qm_onesMany, .int qm_within, .int qm_top]))] H _ := hw
                have hf8381 : r8377.toInt + 1 ≤ 12 := by first | exact hf8381 | (have e0 : (12 : Int32).toInt = 12 := rfl; omega)
                have J8395 : ∀ (j8394 : Nat → Int32), (loW qm_now_c j8394) → (slI j8394) → (trI j8394) → ((j8394 0).toInt = (qm_now_c 0).toInt) → ∀ (H : Heap) (locs : List Loc) (ls : Array Slot), Wd G s A [(qm_now, eI G 339 j8394), (qm, .inr (10, [.int qm_thrown, .ref qm_tape, .int qm_taped, .int qm_size, .int qm_limit, .int qm_to, .int qm_from, .int qm_kind, .int qm_number, .int qm_sign, .int qm_fault, .int qm_place, .long qm_word, .int qm_told, .ref qm_now, .ref qm_read, .ref qm_kept, .ref qm_snaps, .ref qm_aside, .ref qm_name, .ref qm_readName, .ref qm_keptName, .ref qm_isKept, .ref qm_onces, .int qm_snapMany, .ref qm_order, .ref qm_ordered, .int qm_orderMany, .int qm_orderMost, .int qm_passing, .int qm_movedWho, .int qm_scratched, .ref qm_text, .int qm_texts, .int x8378, .ref qm_line, .ref qm_written, .int qm_lineMany, .int qm_hasWritten, .ref qm_node, .int qm_nodes, .int qm_onesMany, .int qm_within, .int qm_top]))] H locs → lv_has ls 8 [(7, .int j8336), (4, .int j7525), (3, .int r3), (0, .ref qm)] → W p l e (rmD 5 0 0) s m args below meth c H locs 0 0 Q (F0 m 116 ls []) := by
                  intro j8394 hJ8395_0 hJ8395_1 hJ8395_2 hJ8395_3 H locs ls hw hl
                  obtain ⟨v8397, ev8397⟩ : ∃ z : Int32, j8336 + 1 = z := ⟨_, rfl⟩
                  have hv8397 : v8397.toInt = j8336.toInt + 1 := by rw [← ev8397]; exact i_add rfl rfl (by omega) (by omega)
                  refine lv_iinc (v := v8397) (lv' := [(7, .int v8397), (4, .int j7525), (3, .int r3), (0, .ref qm)]) C.1 C.2.1 dX11_drawHours_116 hl (k := 0) rfl ev8397 (by decide) rfl (fun ls hl => ?_)
                  refine lv_goto (tgt := 74) C.1 C.2.1 dX11_drawHours_119 (by decide) ?_
                  have hw := hw.sub (w' := [(qm, .inr (10, [.int qm_thrown, .ref qm_tape, .int qm_taped, .int qm_size, .int qm_limit, .int qm_to, .int qm_from, .int qm_kind, .int qm_number, .int qm_sign, .int qm_fault, .int qm_place, .long qm_word, .int qm_told, .ref qm_now, .ref qm_read, .ref qm_kept, .ref qm_snaps, .ref qm_aside, .ref qm_name, .ref qm_readName, .ref qm_keptName, .ref qm_isKept, .ref qm_onces, .int qm_snapMany, .ref qm_order, .ref qm_ordered, .int qm_orderMany, .int qm_orderMost, .int qm_passing, .int qm_movedWho, .int qm_scratched, .ref qm_text, .int qm_texts, .int x8378, .ref qm_line, .ref qm_written, .int qm_lineMany, .int qm_hasWritten, .ref qm_node, .int qm_nodes, .int qm_onesMany, .int qm_within, .int qm_top])), (qm_now, eI G 339 j8394)]) [1, 0] rfl rfl
                  exact ihJ8339 v8397 x8378 j8394 (by omega) hJ8395_0 hJ8395_1 hJ8395_2 (by omega) (by omega) _ _ _ hw (lv_sub hl [0, 1, 2, 3] rfl)
                refine lv_if_ne (tgt := 116) C.1 C.2.1 dX11_drawHours_91 (by decide) (fun c8382 => ?_) (fun c8382 => ?_)
                · skip
                  have c8382 : r8377.toInt ≠ 0 := i_eqF (X := r8377.toInt) (Y := 0) rfl rfl c8382
                  exact J8395 j8338  hJ8339_0 hJ8339_1 hJ8339_2 (by omega) _ _ _ hw (lv_sub hl [0, 1, 2, 3] rfl)
                · skip
                  have c8382 : r8377.toInt = 0 := i_eqT (X := r8377.toInt) (Y := 0) rfl rfl c8382
                  refine lv_aload_n C.1 C.2.1 dX11_drawHours_94 rfl (lv_at hl 3 rfl) ?_
                  refine x_get C hw iwX11 10 rfl 1 rfl 14 (by decide) kw1207 rfl dX11_drawHours_95 ?_
                  refine lv_bipush (v := 81) C.1 C.2.1 dX11_drawHours_98 (by decide) ?_
                  refine lv_iload C.1 C.2.1 dX11_drawHours_100 (lv_at hl 0 rfl) ?_
                  refine lv_iadd C.1 C.2.1 dX11_drawHours_102 (x_genP (fun z : Int32 => z.toInt = 81 + j8336.toInt) (i_add (X := 81) (Y := j8336.toInt) rfl rfl (by omega) (by omega)) (fun v8398 hv8398 => ?_))
                  refine lv_iconst (v := 1) C.1 C.2.1 dX11_drawHours_103 (by decide) ?_
                  refine lv_aload_n C.1 C.2.1 dX11_drawHours_104 rfl (lv_at hl 3 rfl) ?_
                  refine x_get C hw iwX11 10 rfl 1 rfl 14 (by decide) kw1207 rfl dX11_drawHours_105 ?_
                  refine lv_bipush (v := 81) C.1 C.2.1 dX11_drawHours_108 (by decide) ?_
                  refine lv_iload C.1 C.2.1 dX11_drawHours_110 (lv_at hl 0 rfl) ?_
                  refine lv_iadd C.1 C.2.1 dX11_drawHours_112 (x_genP (fun z : Int32 => z.toInt = 81 + j8336.toInt) (i_add (X := 81) (Y := j8336.toInt) rfl rfl (by omega) (by omega)) (fun v8399 hv8399 => ?_))
                  refine x_iald (v := (j8338 v8399.toNatClampNeg)) C hw 0 rfl (i_in (by omega) (by omega)) rfl dX11_drawHours_113 (x_gen (fun v8400 => ?_))
                  refine lv_isub C.1 C.2.1 dX11_drawHours_114 (x_gen (fun v8401 => ?_))
                  obtain ⟨g8402, eg8402⟩ : ∃ z, upd j8338 (v8398.toNatClampNeg) v8401 = z := ⟨_, rfl⟩
                  have mm8403 := i_cn v8398
                  have fs8404 : slI g8402 := eg8402 ▸ slI_upd hJ8339_1 (by intro q; omega) (by intro q; omega) (by intro q; omega)
                  have mm8405 : (g8402 0).toInt = (j8338 0).toInt := by rw [← eg8402, upd_lo (by omega)]
                  have mm8406 : (g8402 1).toInt = (j8338 1).toInt := by rw [← eg8402, upd_lo (by omega)]
                  have ft8407 : trI g8402 := eg8402 ▸ trI_lo hJ8339_2 (by omega)
                  have fw8408 : loW qm_now_c g8402 := eg8402 ▸ loW_upd hJ8339_0 (by rw [i_cn]; omega)
                  refine x_iast (f' := g8402) (w' := [(qm_now, eI G 339 g8402), (qm, .inr (10, [.int qm_thrown, .ref qm_tape, .int qm_taped, .int qm_size, .int qm_limit, .int qm_to, .int qm_from, .int qm_kind, .int qm_number, .int qm_sign, .int qm_fault, .int qm_place, .long qm_word, .int qm_told, .ref qm_now, .ref qm_read, .ref qm_kept, .ref qm_snaps, .ref qm_aside, .ref qm_name, .ref qm_readName, .ref qm_keptName, .ref qm_isKept, .ref qm_onces, .int qm_snapMany, .ref qm_order, .ref qm_ordered, .int qm_orderMany, .int qm_orderMost, .int qm_passing, .int qm_movedWho, .int qm_scratched, .ref qm_text, .int qm_texts, .int x8378, .ref qm_line, .ref qm_written, .int qm_lineMany, .int qm_hasWritten, .ref qm_node, .int qm_nodes, .int qm_onesMany, .int qm_within, .int qm_top]))]) C hw 0 rfl (i_in (by omega) (by omega)) eg8402 rfl dX11_drawHours_115 (fun H locs hw => ?_)
                  exact J8395 g8402  fw8408 fs8404 ft8407 (by omega) _ _ _ hw (lv_sub hl [0, 1, 2, 3] rfl)
          exact loopJ8339 _ 0 x7839 j7855 (Nat.lt_succ_self _) hJ7856_0 hJ7856_1 hJ7856_2 (by omega) (by decide) _ _ _ hw (lv_sub hl [0, 1, 2, 3] rfl)
        refine lv_if_ne (tgt := 71) C.1 C.2.1 dX11_drawHours_58 (by decide) (fun c7846 => ?_) (fun c7846 => ?_)
        · skip
          have c7846 : r7843.toInt ≠ 0 := i_eqF (X := r7843.toInt) (Y := 0) rfl rfl c7846
          exact J7856 j7527  hJ7528_0 hJ7528_1 hJ7528_2 (by omega) _ _ _ hw (lv_sub hl [2, 3, 4] rfl)
        · skip
          have c7846 : r7843.toInt = 0 := i_eqT (X := r7843.toInt) (Y := 0) rfl rfl c7846
          refine lv_aload_n C.1 C.2.1 dX11_drawHours_61 rfl (lv_at hl 4 rfl) ?_
          refine lv_iconst (v := 0) C.1 C.2.1 dX11_drawHours_62 (by decide) ?_
          refine lv_iload C.1 C.2.1 dX11_drawHours_63 (lv_at hl 1 rfl) ?_
          refine lv_iload C.1 C.2.1 dX11_drawHours_65 (lv_at hl 0 rfl) ?_
          refine x_calliV (As := [.int 0, .int r7833, .int r7838]) (rest := []) (wr := []) C hw (s_X11_live qm 0 r7833 r7838 qm_thrown qm_tape qm_taped qm_size qm_limit qm_to qm_from qm_kind qm_number qm_sign qm_fault qm_place qm_word qm_told qm_now qm_read qm_kept qm_snaps qm_aside qm_name qm_readName qm_keptName qm_isKept qm_onces qm_snapMany qm_order qm_ordered qm_orderMany qm_orderMost qm_passing qm_movedWho qm_scratched qm_text qm_texts x7839 qm_line qm_written qm_lineMany qm_hasWritten qm_node qm_nodes qm_onesMany qm_within qm_top j7527 (by omega) (by omega) hJ7528_1 hJ7528_2) mwX11_live kw1565 [0, 1] [] rfl rfl rfl rfl (by decide) 0 rfl rfl rfl rfl hl.1 rfl (Nat.le_of_ble_eq_true rfl) ⟨(Nat.le_of_ble_eq_true rfl), (Nat.le_of_ble_eq_true rfl)⟩ ⟨(Nat.le_of_ble_eq_true rfl), (Nat.le_of_ble_eq_true rfl)⟩ dX11_drawHours_67 (fun r8409 u9 H locs hp9 hw => ?_)
          obtain ⟨x8410, x8411, rfl, rfl, hf8412, hf8414, hf8415, hf8416⟩ := hp9
          have hw : Wd G s A [(qm, .inr (10, [.int qm_thrown, .ref qm_tape, .int qm_taped, .int qm_size, .int qm_limit, .int qm_to, .int qm_from, .int qm_kind, .int qm_number, .int qm_sign, .int qm_fault, .int qm_place, .long qm_word, .int qm_told, .ref qm_now, .ref qm_read, .ref qm_kept, .ref qm_snaps, .ref qm_aside, .ref qm_name, .ref qm_readName, .ref qm_keptName, .ref qm_isKept, .ref qm_onces, .int qm_snapMany, .ref qm_order, .ref qm_ordered, .int qm_orderMany, .int qm_orderMost, .int qm_passing, .int qm_movedWho, .int qm_scratched, .ref qm_text, .int qm_texts, .int x7839, .ref qm_line, .ref qm_written, .int qm_lineMany, .int qm_hasWritten, .ref qm_node, .int qm_nodes, .int qm_onesMany, .int qm_within, .int qm_top])), (qm_now, eI G 339 x8410)] H _ := hw
          have fw8413 : loW qm_now_c x8410 := loW_tr hJ7528_0 hf8412
          refine lv_pop C.1 C.2.1 dX11_drawHours_70 rfl ?_
          exact J7856 x8410  fw8413 hf8414 hf8415 (by omega) _ _ _ hw (lv_sub hl [2, 3, 4] rfl)
  exact loopJ7528 _ 0 a2 qm_now_c (Nat.lt_succ_self _) (loW_rfl qm_now_c) hf_qm_now_c hf1_qm_now_c (by omega) (by decide) _ _ _ hw (lv_sub hl [0, 1, 2] rfl)
theorem dX11_drawn_0 : decode cX11_drawn 0 = .ok (.aload_n 0, 1) := by decide +kernel
theorem dX11_drawn_1 : decode cX11_drawn 1 = .ok (.iconst 0, 1) := by decide +kernel
theorem dX11_drawn_2 : decode cX11_drawn 2 = .ok (.putfield 1, 3) := by decide +kernel
theorem dX11_drawn_5 : decode cX11_drawn 5 = .ok (.iload_n 1, 1) := by decide +kernel
theorem dX11_drawn_6 : decode cX11_drawn 6 = .ok (.iconst 1, 1) := by decide +kernel
theorem dX11_drawn_7 : decode cX11_drawn 7 = .ok (.bipush 24, 2) := by decide +kernel
theorem dX11_drawn_9 : decode cX11_drawn 9 = .ok (.invokestatic 75, 3) := by decide +kernel
theorem dX11_drawn_12 : decode cX11_drawn 12 = .ok (.ifCond .eq 12, 3) := by decide +kernel
theorem dX11_drawn_24 : decode cX11_drawn 24 = .ok (.iconst (-1), 1) := by decide +kernel
theorem dX11_drawn_25 : decode cX11_drawn 25 = .ok (.ireturn, 1) := by decide +kernel
theorem dX11_drawn_15 : decode cX11_drawn 15 = .ok (.aload_n 0, 1) := by decide +kernel
theorem dX11_drawn_16 : decode cX11_drawn 16 = .ok (.getfield 98, 3) := by decide +kernel
theorem dX11_drawn_19 : decode cX11_drawn 19 = .ok (.iconst 0, 1) := by decide +kernel
theorem dX11_drawn_20 : decode cX11_drawn 20 = .ok (.iaload, 1) := by decide +kernel
theorem dX11_drawn_21 : decode cX11_drawn 21 = .ok (.ifCond .ne 5, 3) := by decide +kernel
theorem dX11_drawn_26 : decode cX11_drawn 26 = .ok (.aload_n 0, 1) := by decide +kernel
theorem dX11_drawn_27 : decode cX11_drawn 27 = .ok (.getfield 98, 3) := by decide +kernel
theorem dX11_drawn_30 : decode cX11_drawn 30 = .ok (.bipush 64, 2) := by decide +kernel
theorem dX11_drawn_32 : decode cX11_drawn 32 = .ok (.iaload, 1) := by decide +kernel
theorem dX11_drawn_33 : decode cX11_drawn 33 = .ok (.sipush 400, 3) := by decide +kernel
theorem dX11_drawn_36 : decode cX11_drawn 36 = .ok (.if_icmp .ne 5, 3) := by decide +kernel
theorem dX11_drawn_41 : decode cX11_drawn 41 = .ok (.aload_n 0, 1) := by decide +kernel
theorem dX11_drawn_42 : decode cX11_drawn 42 = .ok (.invokevirtual 289, 3) := by decide +kernel
theorem dX11_drawn_45 : decode cX11_drawn 45 = .ok (.aload_n 0, 1) := by decide +kernel
theorem dX11_drawn_46 : decode cX11_drawn 46 = .ok (.iload_n 1, 1) := by decide +kernel
theorem dX11_drawn_47 : decode cX11_drawn 47 = .ok (.iload_n 2, 1) := by decide +kernel
theorem dX11_drawn_48 : decode cX11_drawn 48 = .ok (.invokevirtual 353, 3) := by decide +kernel
theorem mwX11_drawHours : MwV yX11_drawHours cX11_drawHours 8 (some .int) 2 := ⟨⟨kw1694, kw15, by decide +kernel⟩, kw1693, kS95⟩
theorem dX11_drawn_51 : decode cX11_drawn 51 = .ok (.ireturn, 1) := by decide +kernel
theorem dX11_drawn_39 : decode cX11_drawn 39 = .ok (.iconst 0, 1) := by decide +kernel
theorem dX11_drawn_40 : decode cX11_drawn 40 = .ok (.ireturn, 1) := by decide +kernel
set_option maxHeartbeats 4000000 in
set_option maxRecDepth 100000 in
theorem s_X11_drawn {l : Launch} {G : Gc} (qm : Nat) (a1 : Int32) (a2 : Int32) (qm_thrown : Int32) (qm_tape : Nat) (qm_taped : Int32) (qm_size : Int32) (qm_limit : Int32) (qm_to : Int32) (qm_from : Int32) (qm_kind : Int32) (qm_number : Int32) (qm_sign : Int32) (qm_fault : Int32) (qm_place : Int32) (qm_word : Int64) (qm_told : Int32) (qm_now : Nat) (qm_read : Nat) (qm_kept : Nat) (qm_snaps : Nat) (qm_aside : Nat) (qm_name : Nat) (qm_readName : Nat) (qm_keptName : Nat) (qm_isKept : Nat) (qm_onces : Nat) (qm_snapMany : Int32) (qm_order : Nat) (qm_ordered : Nat) (qm_orderMany : Int32) (qm_orderMost : Int32) (qm_passing : Int32) (qm_movedWho : Int32) (qm_scratched : Int32) (qm_text : Nat) (qm_texts : Int32) (qm_seed : Int32) (qm_line : Nat) (qm_written : Nat) (qm_lineMany : Int32) (qm_hasWritten : Int32) (qm_node : Nat) (qm_nodes : Int32) (qm_onesMany : Int32) (qm_within : Int32) (qm_top : Int32) (qm_now_c : Nat → Int32) (qm_snaps_c : Nat → Int32) (hf_qm_now_c : slI qm_now_c) (hf1_qm_now_c : trI qm_now_c) (hi_qm_snapMany : 0 ≤ qm_snapMany.toInt ∧ qm_snapMany.toInt ≤ 8) : Ci l yX11_drawn cX11_drawn 3 (some .int) 6 0 0 G [.ref qm, .int a1, .int a2] [(qm, .inr (10, [.int qm_thrown, .ref qm_tape, .int qm_taped, .int qm_size, .int qm_limit, .int qm_to, .int qm_from, .int qm_kind, .int qm_number, .int qm_sign, .int qm_fault, .int qm_place, .long qm_word, .int qm_told, .ref qm_now, .ref qm_read, .ref qm_kept, .ref qm_snaps, .ref qm_aside, .ref qm_name, .ref qm_readName, .ref qm_keptName, .ref qm_isKept, .ref qm_onces, .int qm_snapMany, .ref qm_order, .ref qm_ordered, .int qm_orderMany, .int qm_orderMost, .int qm_passing, .int qm_movedWho, .int qm_scratched, .ref qm_text, .int qm_texts, .int qm_seed, .ref qm_line, .ref qm_written, .int qm_lineMany, .int qm_hasWritten, .ref qm_node, .int qm_nodes, .int qm_onesMany, .int qm_within, .int qm_top])), (qm_now, eI G 339 qm_now_c), (qm_snaps, eI G 264 qm_snaps_c)] (fun (r9 : Int32) (u9 : va_W) => ∃ (x0_qm_snapMany : Int32) (x1_qm_seed : Int32) (x2_qm_now_c : Nat → Int32) (x3_qm_snaps_c : Nat → Int32) (r_x : Int32), r9 = r_x ∧ u9 = [(qm, .inr (10, [.int 0, .ref qm_tape, .int qm_taped, .int qm_size, .int qm_limit, .int qm_to, .int qm_from, .int qm_kind, .int qm_number, .int qm_sign, .int qm_fault, .int qm_place, .long qm_word, .int qm_told, .ref qm_now, .ref qm_read, .ref qm_kept, .ref qm_snaps, .ref qm_aside, .ref qm_name, .ref qm_readName, .ref qm_keptName, .ref qm_isKept, .ref qm_onces, .int x0_qm_snapMany, .ref qm_order, .ref qm_ordered, .int qm_orderMany, .int qm_orderMost, .int qm_passing, .int qm_movedWho, .int qm_scratched, .ref qm_text, .int qm_texts, .int x1_qm_seed, .ref qm_line, .ref qm_written, .int qm_lineMany, .int qm_hasWritten, .ref qm_node, .int qm_nodes, .int qm_onesMany, .int qm_within, .int qm_top])), (qm_now, eI G 339 x2_qm_now_c), (qm_snaps, eI G 264 x3_qm_snaps_c)] ∧ (0 ≤ x0_qm_snapMany.toInt ∧ x0_qm_snapMany.toInt ≤ 8) ∧ (loW qm_now_c x2_qm_now_c) ∧ (slI x2_qm_now_c) ∧ (trI x2_qm_now_c)) := by
  refine Ci.ofQ (by decide) (Nat.le_of_ble_eq_true rfl) ?_
  intro p e s m below meth c ls A args Q hQ B hw hl
  have C : CallFix p m c cX11_drawn 3 s args gw "LanternStateModel" := B.1
  have hl : lv_has ls 3 [(0, .ref qm), (1, .int a1), (2, .int a2)] := hl
  refine lv_aload_n C.1 C.2.1 dX11_drawn_0 rfl (lv_at hl 0 rfl) ?_
  refine lv_iconst (v := 0) C.1 C.2.1 dX11_drawn_1 (by decide) ?_
  refine x_put (w' := [(qm, .inr (10, [.int 0, .ref qm_tape, .int qm_taped, .int qm_size, .int qm_limit, .int qm_to, .int qm_from, .int qm_kind, .int qm_number, .int qm_sign, .int qm_fault, .int qm_place, .long qm_word, .int qm_told, .ref qm_now, .ref qm_read, .ref qm_kept, .ref qm_snaps, .ref qm_aside, .ref qm_name, .ref qm_readName, .ref qm_keptName, .ref qm_isKept, .ref qm_onces, .int qm_snapMany, .ref qm_order, .ref qm_ordered, .int qm_orderMany, .int qm_orderMost, .int qm_passing, .int qm_movedWho, .int qm_scratched, .ref qm_text, .int qm_texts, .int qm_seed, .ref qm_line, .ref qm_written, .int qm_lineMany, .int qm_hasWritten, .ref qm_node, .int qm_nodes, .int qm_onesMany, .int qm_within, .int qm_top])), (qm_now, eI G 339 qm_now_c), (qm_snaps, eI G 264 qm_snaps_c)]) C hw iwX11 tyX11_ok nmX11 10 rfl 0 rfl 0 (by decide) kw1193 rfl rfl rfl (Nat.le_of_ble_eq_true rfl) rfl dX11_drawn_2 (fun H locs hw => ?_)
  refine lv_iload_n C.1 C.2.1 dX11_drawn_5 rfl (lv_at hl 1 rfl) ?_
  refine lv_iconst (v := 1) C.1 C.2.1 dX11_drawn_6 (by decide) ?_
  refine lv_bipush (v := 24) C.1 C.2.1 dX11_drawn_7 (by decide) ?_
  refine x_calliS (As := [.int a1, .int 1, .int 24]) (rest := []) (wr := [(qm, .inr (10, [.int 0, .ref qm_tape, .int qm_taped, .int qm_size, .int qm_limit, .int qm_to, .int qm_from, .int qm_kind, .int qm_number, .int qm_sign, .int qm_fault, .int qm_place, .long qm_word, .int qm_told, .ref qm_now, .ref qm_read, .ref qm_kept, .ref qm_snaps, .ref qm_aside, .ref qm_name, .ref qm_readName, .ref qm_keptName, .ref qm_isKept, .ref qm_onces, .int qm_snapMany, .ref qm_order, .ref qm_ordered, .int qm_orderMany, .int qm_orderMost, .int qm_passing, .int qm_movedWho, .int qm_scratched, .ref qm_text, .int qm_texts, .int qm_seed, .ref qm_line, .ref qm_written, .int qm_lineMany, .int qm_hasWritten, .ref qm_node, .int qm_nodes, .int qm_onesMany, .int qm_within, .int qm_top])), (qm_now, eI G 339 qm_now_c), (qm_snaps, eI G 264 qm_snaps_c)]) C hw (s_X11_isIn a1 1 24) mwX11_isIn kw1396 [] [0, 1, 2] rfl rfl rfl rfl (by decide) rfl hl.1 rfl (Nat.le_of_ble_eq_true rfl) ⟨(Nat.le_of_ble_eq_true rfl), (Nat.le_of_ble_eq_true rfl)⟩ ⟨(Nat.le_of_ble_eq_true rfl), (Nat.le_of_ble_eq_true rfl)⟩ dX11_drawn_9 (fun r1 u9 H locs hp9 hw => ?_)
  rcases hp9 with ⟨rfl, rfl, hf2⟩ | ⟨rfl, rfl, hf3, hf4⟩
  · skip
    have hw : Wd G s A [(qm, .inr (10, [.int 0, .ref qm_tape, .int qm_taped, .int qm_size, .int qm_limit, .int qm_to, .int qm_from, .int qm_kind, .int qm_number, .int qm_sign, .int qm_fault, .int qm_place, .long qm_word, .int qm_told, .ref qm_now, .ref qm_read, .ref qm_kept, .ref qm_snaps, .ref qm_aside, .ref qm_name, .ref qm_readName, .ref qm_keptName, .ref qm_isKept, .ref qm_onces, .int qm_snapMany, .ref qm_order, .ref qm_ordered, .int qm_orderMany, .int qm_orderMost, .int qm_passing, .int qm_movedWho, .int qm_scratched, .ref qm_text, .int qm_texts, .int qm_seed, .ref qm_line, .ref qm_written, .int qm_lineMany, .int qm_hasWritten, .ref qm_node, .int qm_nodes, .int qm_onesMany, .int qm_within, .int qm_top])), (qm_now, eI G 339 qm_now_c), (qm_snaps, eI G 264 qm_snaps_c)] H _ := hw
    have hf2 : a1.toInt < 1 ∨ 24 < a1.toInt := by first | exact hf2 | (have e0 : (1 : Int32).toInt = 1 := rfl; have e1 : (24 : Int32).toInt = 24 := rfl; omega)
    refine lv_if_eq (tgt := 24) C.1 C.2.1 dX11_drawn_12 (by decide) (fun _ => ?_) (fun h9 => absurd (by decide) h9)
    refine lv_iconst (v := (-1)) C.1 C.2.1 dX11_drawn_24 (by decide) ?_
    exact x_retiQ hQ B hw ⟨qm_snapMany, qm_seed, qm_now_c, qm_snaps_c, (-1), rfl, rfl, (by omega), (loW_rfl qm_now_c), hf_qm_now_c, hf1_qm_now_c⟩ (Nat.le_of_ble_eq_true rfl) (Nat.le_of_ble_eq_true rfl) dX11_drawn_25
  · skip
    have hw : Wd G s A [(qm, .inr (10, [.int 0, .ref qm_tape, .int qm_taped, .int qm_size, .int qm_limit, .int qm_to, .int qm_from, .int qm_kind, .int qm_number, .int qm_sign, .int qm_fault, .int qm_place, .long qm_word, .int qm_told, .ref qm_now, .ref qm_read, .ref qm_kept, .ref qm_snaps, .ref qm_aside, .ref qm_name, .ref qm_readName, .ref qm_keptName, .ref qm_isKept, .ref qm_onces, .int qm_snapMany, .ref qm_order, .ref qm_ordered, .int qm_orderMany, .int qm_orderMost, .int qm_passing, .int qm_movedWho, .int qm_scratched, .ref qm_text, .int qm_texts, .int qm_seed, .ref qm_line, .ref qm_written, .int qm_lineMany, .int qm_hasWritten, .ref qm_node, .int qm_nodes, .int qm_onesMany, .int qm_within, .int qm_top])), (qm_now, eI G 339 qm_now_c), (qm_snaps, eI G 264 qm_snaps_c)] H _ := hw
    have hf3 : 1 ≤ a1.toInt := by first | exact hf3 | (have e0 : (1 : Int32).toInt = 1 := rfl; omega)
    have hf4 : a1.toInt ≤ 24 := by first | exact hf4 | (have e0 : (24 : Int32).toInt = 24 := rfl; omega)
    refine lv_if_eq (tgt := 24) C.1 C.2.1 dX11_drawn_12 (by decide) (fun h9 => absurd h9 (by decide)) (fun _ => ?_)
    refine lv_aload_n C.1 C.2.1 dX11_drawn_15 rfl (lv_at hl 0 rfl) ?_
    refine x_get C hw iwX11 10 rfl 0 rfl 14 (by decide) kw1207 rfl dX11_drawn_16 ?_
    refine lv_iconst (v := 0) C.1 C.2.1 dX11_drawn_19 (by decide) ?_
    have mm5 := hf_qm_now_c 0
    refine x_iald (v := (qm_now_c 0)) C hw 1 rfl (x_in rfl) rfl dX11_drawn_20 (x_genP (fun z : Int32 => z.toInt = (qm_now_c 0).toInt ∧ 0 ≤ z.toInt ∧ z.toInt ≤ 6) ⟨rfl, by omega⟩ (fun v6 hv6 => ?_))
    refine lv_if_ne (tgt := 26) C.1 C.2.1 dX11_drawn_21 (by decide) (fun c7 => ?_) (fun c7 => ?_)
    · skip
      have c7 : v6.toInt ≠ 0 := i_eqF (X := v6.toInt) (Y := 0) rfl rfl c7
      refine lv_aload_n C.1 C.2.1 dX11_drawn_26 rfl (lv_at hl 0 rfl) ?_
      refine x_get C hw iwX11 10 rfl 0 rfl 14 (by decide) kw1207 rfl dX11_drawn_27 ?_
      refine lv_bipush (v := 64) C.1 C.2.1 dX11_drawn_30 (by decide) ?_
      refine x_iald (v := (qm_now_c 64)) C hw 1 rfl (x_in rfl) rfl dX11_drawn_32 (x_gen (fun v8 => ?_))
      refine lv_sipush (v := 400) C.1 C.2.1 dX11_drawn_33 (by decide) ?_
      refine lv_icmp_ne (tgt := 41) C.1 C.2.1 dX11_drawn_36 (by decide) (fun c9 => ?_) (fun c9 => ?_)
      · skip
        have c9 : v8.toInt ≠ 400 := i_eqF (X := v8.toInt) (Y := 400) rfl rfl c9
        have bc9_v8 := i_bd v8
        refine lv_aload_n C.1 C.2.1 dX11_drawn_41 rfl (lv_at hl 0 rfl) ?_
        refine x_callvV (As := []) (rest := []) (wr := []) C hw (s_X11_snap qm 0 qm_tape qm_taped qm_size qm_limit qm_to qm_from qm_kind qm_number qm_sign qm_fault qm_place qm_word qm_told qm_now qm_read qm_kept qm_snaps qm_aside qm_name qm_readName qm_keptName qm_isKept qm_onces qm_snapMany qm_order qm_ordered qm_orderMany qm_orderMost qm_passing qm_movedWho qm_scratched qm_text qm_texts qm_seed qm_line qm_written qm_lineMany qm_hasWritten qm_node qm_nodes qm_onesMany qm_within qm_top qm_now_c qm_snaps_c hf_qm_now_c hf1_qm_now_c (by omega)) mwX11_snap kw1561 [0, 1, 2] [] rfl rfl rfl rfl (by decide) 0 rfl rfl rfl rfl hl.1 rfl (Nat.le_of_ble_eq_true rfl) ⟨(Nat.le_of_ble_eq_true rfl), (Nat.le_of_ble_eq_true rfl)⟩ ⟨(Nat.le_of_ble_eq_true rfl), (Nat.le_of_ble_eq_true rfl)⟩ dX11_drawn_42 (fun  u9 H locs hp9 hw => ?_)
        obtain ⟨x10, x11, rfl, hf12⟩ := hp9
        have hw : Wd G s A [(qm, .inr (10, [.int 0, .ref qm_tape, .int qm_taped, .int qm_size, .int qm_limit, .int qm_to, .int qm_from, .int qm_kind, .int qm_number, .int qm_sign, .int qm_fault, .int qm_place, .long qm_word, .int qm_told, .ref qm_now, .ref qm_read, .ref qm_kept, .ref qm_snaps, .ref qm_aside, .ref qm_name, .ref qm_readName, .ref qm_keptName, .ref qm_isKept, .ref qm_onces, .int x10, .ref qm_order, .ref qm_ordered, .int qm_orderMany, .int qm_orderMost, .int qm_passing, .int qm_movedWho, .int qm_scratched, .ref qm_text, .int qm_texts, .int qm_seed, .ref qm_line, .ref qm_written, .int qm_lineMany, .int qm_hasWritten, .ref qm_node, .int qm_nodes, .int qm_onesMany, .int qm_within, .int qm_top])), (qm_now, eI G 339 qm_now_c), (qm_snaps, eI G 264 x11)] H _ := hw
        refine lv_aload_n C.1 C.2.1 dX11_drawn_45 rfl (lv_at hl 0 rfl) ?_
        refine lv_iload_n C.1 C.2.1 dX11_drawn_46 rfl (lv_at hl 1 rfl) ?_
        refine lv_iload_n C.1 C.2.1 dX11_drawn_47 rfl (lv_at hl 2 rfl) ?_
        refine x_calliV (As := [.int a1, .int a2]) (rest := []) (wr := [(qm_snaps, eI G 264 x11)]) C hw (s_X11_drawHours qm a1 a2 0 qm_tape qm_taped qm_size qm_limit qm_to qm_from qm_kind qm_number qm_sign qm_fault qm_place qm_word qm_told qm_now qm_read qm_kept qm_snaps qm_aside qm_name qm_readName qm_keptName qm_isKept qm_onces x10 qm_order qm_ordered qm_orderMany qm_orderMost qm_passing qm_movedWho qm_scratched qm_text qm_texts qm_seed qm_line qm_written qm_lineMany qm_hasWritten qm_node qm_nodes qm_onesMany qm_within qm_top qm_now_c hf_qm_now_c hf1_qm_now_c (by omega)) mwX11_drawHours kw1691 [0, 1] [2] rfl rfl rfl rfl (by decide) 0 rfl rfl rfl rfl hl.1 rfl (Nat.le_of_ble_eq_true rfl) ⟨(Nat.le_of_ble_eq_true rfl), (Nat.le_of_ble_eq_true rfl)⟩ ⟨(Nat.le_of_ble_eq_true rfl), (Nat.le_of_ble_eq_true rfl)⟩ dX11_drawn_48 (fun r13 u9 H locs hp9 hw => ?_)
        obtain ⟨x14, x15, x16, rfl, rfl, hf17, hf18, hf19, hf20⟩ := hp9
        have hw : Wd G s A [(qm_snaps, eI G 264 x11), (qm, .inr (10, [.int 0, .ref qm_tape, .int qm_taped, .int qm_size, .int qm_limit, .int qm_to, .int qm_from, .int qm_kind, .int qm_number, .int qm_sign, .int qm_fault, .int qm_place, .long qm_word, .int qm_told, .ref qm_now, .ref qm_read, .ref qm_kept, .ref qm_snaps, .ref qm_aside, .ref qm_name, .ref qm_readName, .ref qm_keptName, .ref qm_isKept, .ref qm_onces, .int x10, .ref qm_order, .ref qm_ordered, .int qm_orderMany, .int qm_orderMost, .int qm_passing, .int qm_movedWho, .int qm_scratched, .ref qm_text, .int qm_texts, .int x14, .ref qm_line, .ref qm_written, .int qm_lineMany, .int qm_hasWritten, .ref qm_node, .int qm_nodes, .int qm_onesMany, .int qm_within, .int qm_top])), (qm_now, eI G 339 x15)] H _ := hw
        have hw := hw.sub (w' := [(qm, .inr (10, [.int 0, .ref qm_tape, .int qm_taped, .int qm_size, .int qm_limit, .int qm_to, .int qm_from, .int qm_kind, .int qm_number, .int qm_sign, .int qm_fault, .int qm_place, .long qm_word, .int qm_told, .ref qm_now, .ref qm_read, .ref qm_kept, .ref qm_snaps, .ref qm_aside, .ref qm_name, .ref qm_readName, .ref qm_keptName, .ref qm_isKept, .ref qm_onces, .int x10, .ref qm_order, .ref qm_ordered, .int qm_orderMany, .int qm_orderMost, .int qm_passing, .int qm_movedWho, .int qm_scratched, .ref qm_text, .int qm_texts, .int x14, .ref qm_line, .ref qm_written, .int qm_lineMany, .int qm_hasWritten, .ref qm_node, .int qm_nodes, .int qm_onesMany, .int qm_within, .int qm_top])), (qm_now, eI G 339 x15), (qm_snaps, eI G 264 x11)]) [1, 2, 0] rfl rfl
        exact x_retiQ hQ B hw ⟨x10, x14, x15, x11, r13, rfl, rfl, (by omega), hf17, hf18, hf19⟩ (Nat.le_of_ble_eq_true rfl) (Nat.le_of_ble_eq_true rfl) dX11_drawn_51
      · skip
        have c9 : v8.toInt = 400 := i_eqT (X := v8.toInt) (Y := 400) rfl rfl c9
        have bc9_v8 := i_bd v8
        refine lv_iconst (v := 0) C.1 C.2.1 dX11_drawn_39 (by decide) ?_
        exact x_retiQ hQ B hw ⟨qm_snapMany, qm_seed, qm_now_c, qm_snaps_c, 0, rfl, rfl, (by omega), (loW_rfl qm_now_c), hf_qm_now_c, hf1_qm_now_c⟩ (Nat.le_of_ble_eq_true rfl) (Nat.le_of_ble_eq_true rfl) dX11_drawn_40
    · skip
      have c7 : v6.toInt = 0 := i_eqT (X := v6.toInt) (Y := 0) rfl rfl c7
      refine lv_iconst (v := (-1)) C.1 C.2.1 dX11_drawn_24 (by decide) ?_
      exact x_retiQ hQ B hw ⟨qm_snapMany, qm_seed, qm_now_c, qm_snaps_c, (-1), rfl, rfl, (by omega), (loW_rfl qm_now_c), hf_qm_now_c, hf1_qm_now_c⟩ (Nat.le_of_ble_eq_true rfl) (Nat.le_of_ble_eq_true rfl) dX11_drawn_25
theorem dX11_layAside_0 : decode cX11_layAside 0 = .ok (.iconst 0, 1) := by decide +kernel
theorem dX11_layAside_1 : decode cX11_layAside 1 = .ok (.istore_n 1, 1) := by decide +kernel
theorem dX11_layAside_2 : decode cX11_layAside 2 = .ok (.iload_n 1, 1) := by decide +kernel
theorem dX11_layAside_3 : decode cX11_layAside 3 = .ok (.bipush 33, 2) := by decide +kernel
theorem dX11_layAside_5 : decode cX11_layAside 5 = .ok (.if_icmp .ge 24, 3) := by decide +kernel
theorem dX11_layAside_8 : decode cX11_layAside 8 = .ok (.aload_n 0, 1) := by decide +kernel
theorem dX11_layAside_9 : decode cX11_layAside 9 = .ok (.getfield 110, 3) := by decide +kernel
theorem dX11_layAside_12 : decode cX11_layAside 12 = .ok (.iload_n 1, 1) := by decide +kernel
theorem dX11_layAside_13 : decode cX11_layAside 13 = .ok (.aload_n 0, 1) := by decide +kernel
theorem dX11_layAside_14 : decode cX11_layAside 14 = .ok (.getfield 98, 3) := by decide +kernel
theorem dX11_layAside_17 : decode cX11_layAside 17 = .ok (.bipush 64, 2) := by decide +kernel
theorem dX11_layAside_19 : decode cX11_layAside 19 = .ok (.iload_n 1, 1) := by decide +kernel
theorem dX11_layAside_20 : decode cX11_layAside 20 = .ok (.iadd, 1) := by decide +kernel
theorem dX11_layAside_21 : decode cX11_layAside 21 = .ok (.iaload, 1) := by decide +kernel
theorem dX11_layAside_22 : decode cX11_layAside 22 = .ok (.iastore, 1) := by decide +kernel
theorem dX11_layAside_23 : decode cX11_layAside 23 = .ok (.iinc 1 1, 3) := by decide +kernel
theorem dX11_layAside_26 : decode cX11_layAside 26 = .ok (.goto (-24), 3) := by decide +kernel
theorem dX11_layAside_29 : decode cX11_layAside 29 = .ok (.return_, 1) := by decide +kernel
set_option maxHeartbeats 4000000 in
set_option maxRecDepth 100000 in
theorem s_X11_layAside {l : Launch} {G : Gc} (qm : Nat) (qm_thrown : Int32) (qm_tape : Nat) (qm_taped : Int32) (qm_size : Int32) (qm_limit : Int32) (qm_to : Int32) (qm_from : Int32) (qm_kind : Int32) (qm_number : Int32) (qm_sign : Int32) (qm_fault : Int32) (qm_place : Int32) (qm_word : Int64) (qm_told : Int32) (qm_now : Nat) (qm_read : Nat) (qm_kept : Nat) (qm_snaps : Nat) (qm_aside : Nat) (qm_name : Nat) (qm_readName : Nat) (qm_keptName : Nat) (qm_isKept : Nat) (qm_onces : Nat) (qm_snapMany : Int32) (qm_order : Nat) (qm_ordered : Nat) (qm_orderMany : Int32) (qm_orderMost : Int32) (qm_passing : Int32) (qm_movedWho : Int32) (qm_scratched : Int32) (qm_text : Nat) (qm_texts : Int32) (qm_seed : Int32) (qm_line : Nat) (qm_written : Nat) (qm_lineMany : Int32) (qm_hasWritten : Int32) (qm_node : Nat) (qm_nodes : Int32) (qm_onesMany : Int32) (qm_within : Int32) (qm_top : Int32) (qm_now_c : Nat → Int32) (qm_aside_c : Nat → Int32) (hf_qm_now_c : slI qm_now_c) (hf1_qm_now_c : trI qm_now_c) : Cv l yX11_layAside cX11_layAside 2 0 0 0 G [.ref qm] [(qm, .inr (10, [.int qm_thrown, .ref qm_tape, .int qm_taped, .int qm_size, .int qm_limit, .int qm_to, .int qm_from, .int qm_kind, .int qm_number, .int qm_sign, .int qm_fault, .int qm_place, .long qm_word, .int qm_told, .ref qm_now, .ref qm_read, .ref qm_kept, .ref qm_snaps, .ref qm_aside, .ref qm_name, .ref qm_readName, .ref qm_keptName, .ref qm_isKept, .ref qm_onces, .int qm_snapMany, .ref qm_order, .ref qm_ordered, .int qm_orderMany, .int qm_orderMost, .int qm_passing, .int qm_movedWho, .int qm_scratched, .ref qm_text, .int qm_texts, .int qm_seed, .ref qm_line, .ref qm_written, .int qm_lineMany, .int qm_hasWritten, .ref qm_node, .int qm_nodes, .int qm_onesMany, .int qm_within, .int qm_top])), (qm_now, eI G 339 qm_now_c), (qm_aside, eI G 33 qm_aside_c)] (fun (u9 : va_W) => ∃ (x0_qm_aside_c : Nat → Int32), u9 = [(qm, .inr (10, [.int qm_thrown, .ref qm_tape, .int qm_taped, .int qm_size, .int qm_limit, .int qm_to, .int qm_from, .int qm_kind, .int qm_number, .int qm_sign, .int qm_fault, .int qm_place, .long qm_word, .int qm_told, .ref qm_now, .ref qm_read, .ref qm_kept, .ref qm_snaps, .ref qm_aside, .ref qm_name, .ref qm_readName, .ref qm_keptName, .ref qm_isKept, .ref qm_onces, .int qm_snapMany, .ref qm_order, .ref qm_ordered, .int qm_orderMany, .int qm_orderMost, .int qm_passing, .int qm_movedWho, .int qm_scratched, .ref qm_text, .int qm_texts, .int qm_seed, .ref qm_line, .ref qm_written, .int qm_lineMany, .int qm_hasWritten, .ref qm_node, .int qm_nodes, .int qm_onesMany, .int qm_within, .int qm_top])), (qm_now, eI G 339 qm_now_c), (qm_aside, eI G 33 x0_qm_aside_c)]) := by
  refine Cv.ofQ (by decide) (Nat.le_of_ble_eq_true rfl) ?_
  intro p e s m below meth c ls A args Q hQ B hw hl
  have C : CallFix p m c cX11_layAside 2 s args gw "LanternStateModel" := B.1
  have hl : lv_has ls 2 [(0, .ref qm)] := hl
  refine lv_iconst (v := 0) C.1 C.2.1 dX11_layAside_0 (by decide) ?_
  refine lv_istore_n (lv' := [(1, .int 0), (0, .ref qm)]) C.1 C.2.1 dX11_layAside_1 rfl hl (by decide) rfl (fun ls hl => ?_)
  have loopJ110 : ∀ (n9 : Nat) (j108 : Int32) (j109 : Nat → Int32), (2147483647 - j108.toInt).toNat < n9 → (0 ≤ j108.toInt ∧ j108.toInt ≤ 33) → ∀ (H : Heap) (locs : List Loc) (ls : Array Slot), Wd G s A [(qm, .inr (10, [.int qm_thrown, .ref qm_tape, .int qm_taped, .int qm_size, .int qm_limit, .int qm_to, .int qm_from, .int qm_kind, .int qm_number, .int qm_sign, .int qm_fault, .int qm_place, .long qm_word, .int qm_told, .ref qm_now, .ref qm_read, .ref qm_kept, .ref qm_snaps, .ref qm_aside, .ref qm_name, .ref qm_readName, .ref qm_keptName, .ref qm_isKept, .ref qm_onces, .int qm_snapMany, .ref qm_order, .ref qm_ordered, .int qm_orderMany, .int qm_orderMost, .int qm_passing, .int qm_movedWho, .int qm_scratched, .ref qm_text, .int qm_texts, .int qm_seed, .ref qm_line, .ref qm_written, .int qm_lineMany, .int qm_hasWritten, .ref qm_node, .int qm_nodes, .int qm_onesMany, .int qm_within, .int qm_top])), (qm_now, eI G 339 qm_now_c), (qm_aside, eI G 33 j109)] H locs → lv_has ls 2 [(1, .int j108), (0, .ref qm)] → W p l e (rmD 0 0 0) s m args below meth c H locs 0 0 Q (F0 m 2 ls []) := by
    intro n9
    induction n9 with
    | zero => intro j108 j109 h9; exact absurd h9 (Nat.not_lt_zero _)
    | succ n9 ihJ110 =>
      intro j108 j109 h9J110 hJ110_0 H locs ls hw hl
      have hbj108 := i_bd j108
      refine lv_iload_n C.1 C.2.1 dX11_layAside_2 rfl (lv_at hl 0 rfl) ?_
      refine lv_bipush (v := 33) C.1 C.2.1 dX11_layAside_3 (by decide) ?_
      refine lv_icmp_ge (tgt := 29) C.1 C.2.1 dX11_layAside_5 (by decide) (fun c119 => ?_) (fun c119 => ?_)
      · skip
        have c119 : 33 ≤ j108.toInt := i_leT (X := 33) (Y := j108.toInt) rfl rfl c119
        exact x_retvQ hQ B hw ⟨j109, rfl⟩ (Nat.le_of_ble_eq_true rfl) (Nat.le_of_ble_eq_true rfl) dX11_layAside_29
      · skip
        have c119 : j108.toInt < 33 := i_leF (X := 33) (Y := j108.toInt) rfl rfl c119
        refine lv_aload_n C.1 C.2.1 dX11_layAside_8 rfl (lv_at hl 1 rfl) ?_
        refine x_get C hw iwX11 10 rfl 0 rfl 18 (by decide) kw1211 rfl dX11_layAside_9 ?_
        refine lv_iload_n C.1 C.2.1 dX11_layAside_12 rfl (lv_at hl 0 rfl) ?_
        refine lv_aload_n C.1 C.2.1 dX11_layAside_13 rfl (lv_at hl 1 rfl) ?_
        refine x_get C hw iwX11 10 rfl 0 rfl 14 (by decide) kw1207 rfl dX11_layAside_14 ?_
        refine lv_bipush (v := 64) C.1 C.2.1 dX11_layAside_17 (by decide) ?_
        refine lv_iload_n C.1 C.2.1 dX11_layAside_19 rfl (lv_at hl 0 rfl) ?_
        refine lv_iadd C.1 C.2.1 dX11_layAside_20 (x_genP (fun z : Int32 => z.toInt = 64 + j108.toInt) (i_add (X := 64) (Y := j108.toInt) rfl rfl (by omega) (by omega)) (fun v120 hv120 => ?_))
        refine x_iald (v := (qm_now_c v120.toNatClampNeg)) C hw 1 rfl (i_in (by omega) (by omega)) rfl dX11_layAside_21 (x_gen (fun v121 => ?_))
        obtain ⟨g122, eg122⟩ : ∃ z, upd j109 (j108.toNatClampNeg) v121 = z := ⟨_, rfl⟩
        refine x_iast (f' := g122) (w' := [(qm, .inr (10, [.int qm_thrown, .ref qm_tape, .int qm_taped, .int qm_size, .int qm_limit, .int qm_to, .int qm_from, .int qm_kind, .int qm_number, .int qm_sign, .int qm_fault, .int qm_place, .long qm_word, .int qm_told, .ref qm_now, .ref qm_read, .ref qm_kept, .ref qm_snaps, .ref qm_aside, .ref qm_name, .ref qm_readName, .ref qm_keptName, .ref qm_isKept, .ref qm_onces, .int qm_snapMany, .ref qm_order, .ref qm_ordered, .int qm_orderMany, .int qm_orderMost, .int qm_passing, .int qm_movedWho, .int qm_scratched, .ref qm_text, .int qm_texts, .int qm_seed, .ref qm_line, .ref qm_written, .int qm_lineMany, .int qm_hasWritten, .ref qm_node, .int qm_nodes, .int qm_onesMany, .int qm_within, .int qm_top])), (qm_now, eI G 339 qm_now_c), (qm_aside, eI G 33 g122)]) C hw 2 rfl (i_in (by omega) (by omega)) eg122 rfl dX11_layAside_22 (fun H locs hw => ?_)
        obtain ⟨v123, ev123⟩ : ∃ z : Int32, j108 + 1 = z := ⟨_, rfl⟩
        have hv123 : v123.toInt = j108.toInt + 1 := by rw [← ev123]; exact i_add rfl rfl (by omega) (by omega)
        refine lv_iinc (v := v123) (lv' := [(1, .int v123), (0, .ref qm)]) C.1 C.2.1 dX11_layAside_23 hl (k := 0) rfl ev123 (by decide) rfl (fun ls hl => ?_)
        refine lv_goto (tgt := 2) C.1 C.2.1 dX11_layAside_26 (by decide) ?_
        exact ihJ110 v123 g122 (by omega) (by omega) _ _ _ hw (lv_sub hl [0, 1] rfl)
  exact loopJ110 _ 0 qm_aside_c (Nat.lt_succ_self _) (by decide) _ _ _ hw (lv_sub hl [0, 1] rfl)
theorem dX11_takeBack_0 : decode cX11_takeBack 0 = .ok (.iconst 0, 1) := by decide +kernel
theorem dX11_takeBack_1 : decode cX11_takeBack 1 = .ok (.istore_n 1, 1) := by decide +kernel
theorem dX11_takeBack_2 : decode cX11_takeBack 2 = .ok (.iload_n 1, 1) := by decide +kernel
theorem dX11_takeBack_3 : decode cX11_takeBack 3 = .ok (.bipush 33, 2) := by decide +kernel
theorem dX11_takeBack_5 : decode cX11_takeBack 5 = .ok (.if_icmp .ge 24, 3) := by decide +kernel
theorem dX11_takeBack_8 : decode cX11_takeBack 8 = .ok (.aload_n 0, 1) := by decide +kernel
theorem dX11_takeBack_9 : decode cX11_takeBack 9 = .ok (.getfield 98, 3) := by decide +kernel
theorem dX11_takeBack_12 : decode cX11_takeBack 12 = .ok (.bipush 64, 2) := by decide +kernel
theorem dX11_takeBack_14 : decode cX11_takeBack 14 = .ok (.iload_n 1, 1) := by decide +kernel
theorem dX11_takeBack_15 : decode cX11_takeBack 15 = .ok (.iadd, 1) := by decide +kernel
theorem dX11_takeBack_16 : decode cX11_takeBack 16 = .ok (.aload_n 0, 1) := by decide +kernel
theorem dX11_takeBack_17 : decode cX11_takeBack 17 = .ok (.getfield 110, 3) := by decide +kernel
theorem dX11_takeBack_20 : decode cX11_takeBack 20 = .ok (.iload_n 1, 1) := by decide +kernel
theorem dX11_takeBack_21 : decode cX11_takeBack 21 = .ok (.iaload, 1) := by decide +kernel
theorem dX11_takeBack_22 : decode cX11_takeBack 22 = .ok (.iastore, 1) := by decide +kernel
theorem dX11_takeBack_23 : decode cX11_takeBack 23 = .ok (.iinc 1 1, 3) := by decide +kernel
theorem dX11_takeBack_26 : decode cX11_takeBack 26 = .ok (.goto (-24), 3) := by decide +kernel
theorem dX11_takeBack_29 : decode cX11_takeBack 29 = .ok (.return_, 1) := by decide +kernel
set_option maxHeartbeats 4000000 in
set_option maxRecDepth 100000 in
theorem s_X11_takeBack {l : Launch} {G : Gc} (qm : Nat) (qm_thrown : Int32) (qm_tape : Nat) (qm_taped : Int32) (qm_size : Int32) (qm_limit : Int32) (qm_to : Int32) (qm_from : Int32) (qm_kind : Int32) (qm_number : Int32) (qm_sign : Int32) (qm_fault : Int32) (qm_place : Int32) (qm_word : Int64) (qm_told : Int32) (qm_now : Nat) (qm_read : Nat) (qm_kept : Nat) (qm_snaps : Nat) (qm_aside : Nat) (qm_name : Nat) (qm_readName : Nat) (qm_keptName : Nat) (qm_isKept : Nat) (qm_onces : Nat) (qm_snapMany : Int32) (qm_order : Nat) (qm_ordered : Nat) (qm_orderMany : Int32) (qm_orderMost : Int32) (qm_passing : Int32) (qm_movedWho : Int32) (qm_scratched : Int32) (qm_text : Nat) (qm_texts : Int32) (qm_seed : Int32) (qm_line : Nat) (qm_written : Nat) (qm_lineMany : Int32) (qm_hasWritten : Int32) (qm_node : Nat) (qm_nodes : Int32) (qm_onesMany : Int32) (qm_within : Int32) (qm_top : Int32) (qm_now_c : Nat → Int32) (qm_aside_c : Nat → Int32) (hf_qm_now_c : slI qm_now_c) (hf1_qm_now_c : trI qm_now_c) : Cv l yX11_takeBack cX11_takeBack 2 0 0 0 G [.ref qm] [(qm, .inr (10, [.int qm_thrown, .ref qm_tape, .int qm_taped, .int qm_size, .int qm_limit, .int qm_to, .int qm_from, .int qm_kind, .int qm_number, .int qm_sign, .int qm_fault, .int qm_place, .long qm_word, .int qm_told, .ref qm_now, .ref qm_read, .ref qm_kept, .ref qm_snaps, .ref qm_aside, .ref qm_name, .ref qm_readName, .ref qm_keptName, .ref qm_isKept, .ref qm_onces, .int qm_snapMany, .ref qm_order, .ref qm_ordered, .int qm_orderMany, .int qm_orderMost, .int qm_passing, .int qm_movedWho, .int qm_scratched, .ref qm_text, .int qm_texts, .int qm_seed, .ref qm_line, .ref qm_written, .int qm_lineMany, .int qm_hasWritten, .ref qm_node, .int qm_nodes, .int qm_onesMany, .int qm_within, .int qm_top])), (qm_now, eI G 339 qm_now_c), (qm_aside, eI G 33 qm_aside_c)] (fun (u9 : va_W) => ∃ (x0_qm_now_c : Nat → Int32), u9 = [(qm, .inr (10, [.int qm_thrown, .ref qm_tape, .int qm_taped, .int qm_size, .int qm_limit, .int qm_to, .int qm_from, .int qm_kind, .int qm_number, .int qm_sign, .int qm_fault, .int qm_place, .long qm_word, .int qm_told, .ref qm_now, .ref qm_read, .ref qm_kept, .ref qm_snaps, .ref qm_aside, .ref qm_name, .ref qm_readName, .ref qm_keptName, .ref qm_isKept, .ref qm_onces, .int qm_snapMany, .ref qm_order, .ref qm_ordered, .int qm_orderMany, .int qm_orderMost, .int qm_passing, .int qm_movedWho, .int qm_scratched, .ref qm_text, .int qm_texts, .int qm_seed, .ref qm_line, .ref qm_written, .int qm_lineMany, .int qm_hasWritten, .ref qm_node, .int qm_nodes, .int qm_onesMany, .int qm_within, .int qm_top])), (qm_now, eI G 339 x0_qm_now_c), (qm_aside, eI G 33 qm_aside_c)] ∧ (loW qm_now_c x0_qm_now_c) ∧ (slI x0_qm_now_c) ∧ (trI x0_qm_now_c) ∧ ((x0_qm_now_c 0).toInt = (qm_now_c 0).toInt)) := by
  refine Cv.ofQ (by decide) (Nat.le_of_ble_eq_true rfl) ?_
  intro p e s m below meth c ls A args Q hQ B hw hl
  have C : CallFix p m c cX11_takeBack 2 s args gw "LanternStateModel" := B.1
  have hl : lv_has ls 2 [(0, .ref qm)] := hl
  refine lv_iconst (v := 0) C.1 C.2.1 dX11_takeBack_0 (by decide) ?_
  refine lv_istore_n (lv' := [(1, .int 0), (0, .ref qm)]) C.1 C.2.1 dX11_takeBack_1 rfl hl (by decide) rfl (fun ls hl => ?_)
  have loopJ193 : ∀ (n9 : Nat) (j191 : Int32) (j192 : Nat → Int32), (2147483647 - j191.toInt).toNat < n9 → (loW qm_now_c j192) → (slI j192) → (trI j192) → ((j192 0).toInt = (qm_now_c 0).toInt) → (0 ≤ j191.toInt ∧ j191.toInt ≤ 33) → ∀ (H : Heap) (locs : List Loc) (ls : Array Slot), Wd G s A [(qm, .inr (10, [.int qm_thrown, .ref qm_tape, .int qm_taped, .int qm_size, .int qm_limit, .int qm_to, .int qm_from, .int qm_kind, .int qm_number, .int qm_sign, .int qm_fault, .int qm_place, .long qm_word, .int qm_told, .ref qm_now, .ref qm_read, .ref qm_kept, .ref qm_snaps, .ref qm_aside, .ref qm_name, .ref qm_readName, .ref qm_keptName, .ref qm_isKept, .ref qm_onces, .int qm_snapMany, .ref qm_order, .ref qm_ordered, .int qm_orderMany, .int qm_orderMost, .int qm_passing, .int qm_movedWho, .int qm_scratched, .ref qm_text, .int qm_texts, .int qm_seed, .ref qm_line, .ref qm_written, .int qm_lineMany, .int qm_hasWritten, .ref qm_node, .int qm_nodes, .int qm_onesMany, .int qm_within, .int qm_top])), (qm_now, eI G 339 j192), (qm_aside, eI G 33 qm_aside_c)] H locs → lv_has ls 2 [(1, .int j191), (0, .ref qm)] → W p l e (rmD 0 0 0) s m args below meth c H locs 0 0 Q (F0 m 2 ls []) := by
    intro n9
    induction n9 with
    | zero => intro j191 j192 h9; exact absurd h9 (Nat.not_lt_zero _)
    | succ n9 ihJ193 =>
      intro j191 j192 h9J193 hJ193_0 hJ193_1 hJ193_2 hJ193_3 hJ193_4 H locs ls hw hl
      have hbj191 := i_bd j191
      refine lv_iload_n C.1 C.2.1 dX11_takeBack_2 rfl (lv_at hl 0 rfl) ?_
      refine lv_bipush (v := 33) C.1 C.2.1 dX11_takeBack_3 (by decide) ?_
      refine lv_icmp_ge (tgt := 29) C.1 C.2.1 dX11_takeBack_5 (by decide) (fun c208 => ?_) (fun c208 => ?_)
      · skip
        have c208 : 33 ≤ j191.toInt := i_leT (X := 33) (Y := j191.toInt) rfl rfl c208
        exact x_retvQ hQ B hw ⟨j192, rfl, hJ193_0, hJ193_1, hJ193_2, (by omega)⟩ (Nat.le_of_ble_eq_true rfl) (Nat.le_of_ble_eq_true rfl) dX11_takeBack_29
      · skip
        have c208 : j191.toInt < 33 := i_leF (X := 33) (Y := j191.toInt) rfl rfl c208
        refine lv_aload_n C.1 C.2.1 dX11_takeBack_8 rfl (lv_at hl 1 rfl) ?_
        refine x_get C hw iwX11 10 rfl 0 rfl 14 (by decide) kw1207 rfl dX11_takeBack_9 ?_
        refine lv_bipush (v := 64) C.1 C.2.1 dX11_takeBack_12 (by decide) ?_
        refine lv_iload_n C.1 C.2.1 dX11_takeBack_14 rfl (lv_at hl 0 rfl) ?_
        refine lv_iadd C.1 C.2.1 dX11_takeBack_15 (x_genP (fun z : Int32 => z.toInt = 64 + j191.toInt) (i_add (X := 64) (Y := j191.toInt) rfl rfl (by omega) (by omega)) (fun v209 hv209 => ?_))
        refine lv_aload_n C.1 C.2.1 dX11_takeBack_16 rfl (lv_at hl 1 rfl) ?_
        refine x_get C hw iwX11 10 rfl 0 rfl 18 (by decide) kw1211 rfl dX11_takeBack_17 ?_
        refine lv_iload_n C.1 C.2.1 dX11_takeBack_20 rfl (lv_at hl 0 rfl) ?_
        refine x_iald (v := (qm_aside_c j191.toNatClampNeg)) C hw 2 rfl (i_in (by omega) (by omega)) rfl dX11_takeBack_21 (x_gen (fun v210 => ?_))
        obtain ⟨g211, eg211⟩ : ∃ z, upd j192 (v209.toNatClampNeg) v210 = z := ⟨_, rfl⟩
        have mm212 := i_cn v209
        have fs213 : slI g211 := eg211 ▸ slI_upd hJ193_1 (by intro q; omega) (by intro q; omega) (by intro q; omega)
        have mm214 : (g211 0).toInt = (j192 0).toInt := by rw [← eg211, upd_lo (by omega)]
        have mm215 : (g211 1).toInt = (j192 1).toInt := by rw [← eg211, upd_lo (by omega)]
        have ft216 : trI g211 := eg211 ▸ trI_lo hJ193_2 (by omega)
        have fw217 : loW qm_now_c g211 := eg211 ▸ loW_upd hJ193_0 (by rw [i_cn]; omega)
        refine x_iast (f' := g211) (w' := [(qm, .inr (10, [.int qm_thrown, .ref qm_tape, .int qm_taped, .int qm_size, .int qm_limit, .int qm_to, .int qm_from, .int qm_kind, .int qm_number, .int qm_sign, .int qm_fault, .int qm_place, .long qm_word, .int qm_told, .ref qm_now, .ref qm_read, .ref qm_kept, .ref qm_snaps, .ref qm_aside, .ref qm_name, .ref qm_readName, .ref qm_keptName, .ref qm_isKept, .ref qm_onces, .int qm_snapMany, .ref qm_order, .ref qm_ordered, .int qm_orderMany, .int qm_orderMost, .int qm_passing, .int qm_movedWho, .int qm_scratched, .ref qm_text, .int qm_texts, .int qm_seed, .ref qm_line, .ref qm_written, .int qm_lineMany, .int qm_hasWritten, .ref qm_node, .int qm_nodes, .int qm_onesMany, .int qm_within, .int qm_top])), (qm_now, eI G 339 g211), (qm_aside, eI G 33 qm_aside_c)]) C hw 1 rfl (i_in (by omega) (by omega)) eg211 rfl dX11_takeBack_22 (fun H locs hw => ?_)
        obtain ⟨v218, ev218⟩ : ∃ z : Int32, j191 + 1 = z := ⟨_, rfl⟩
        have hv218 : v218.toInt = j191.toInt + 1 := by rw [← ev218]; exact i_add rfl rfl (by omega) (by omega)
        refine lv_iinc (v := v218) (lv' := [(1, .int v218), (0, .ref qm)]) C.1 C.2.1 dX11_takeBack_23 hl (k := 0) rfl ev218 (by decide) rfl (fun ls hl => ?_)
        refine lv_goto (tgt := 2) C.1 C.2.1 dX11_takeBack_26 (by decide) ?_
        exact ihJ193 v218 g211 (by omega) fw217 fs213 ft216 (by omega) (by omega) _ _ _ hw (lv_sub hl [0, 1] rfl)
  exact loopJ193 _ 0 qm_now_c (Nat.lt_succ_self _) (loW_rfl qm_now_c) hf_qm_now_c hf1_qm_now_c (by omega) (by decide) _ _ _ hw (lv_sub hl [0, 1] rfl)
theorem dX11_odds_0 : decode cX11_odds 0 = .ok (.aload_n 0, 1) := by decide +kernel
theorem dX11_odds_1 : decode cX11_odds 1 = .ok (.iconst 0, 1) := by decide +kernel
theorem dX11_odds_2 : decode cX11_odds 2 = .ok (.putfield 1, 3) := by decide +kernel
theorem dX11_odds_5 : decode cX11_odds 5 = .ok (.aload_n 0, 1) := by decide +kernel
theorem dX11_odds_6 : decode cX11_odds 6 = .ok (.iload_n 1, 1) := by decide +kernel
theorem dX11_odds_7 : decode cX11_odds 7 = .ok (.invokevirtual 237, 3) := by decide +kernel
theorem dX11_odds_10 : decode cX11_odds 10 = .ok (.ifCond .eq 13, 3) := by decide +kernel
theorem dX11_odds_23 : decode cX11_odds 23 = .ok (.iconst (-1), 1) := by decide +kernel
theorem dX11_odds_24 : decode cX11_odds 24 = .ok (.ireturn, 1) := by decide +kernel
theorem dX11_odds_13 : decode cX11_odds 13 = .ok (.iload_n 2, 1) := by decide +kernel
theorem dX11_odds_14 : decode cX11_odds 14 = .ok (.iconst 1, 1) := by decide +kernel
theorem dX11_odds_15 : decode cX11_odds 15 = .ok (.bipush 30, 2) := by decide +kernel
theorem dX11_odds_17 : decode cX11_odds 17 = .ok (.invokestatic 75, 3) := by decide +kernel
theorem dX11_odds_20 : decode cX11_odds 20 = .ok (.ifCond .ne 5, 3) := by decide +kernel
theorem dX11_odds_25 : decode cX11_odds 25 = .ok (.aload_n 0, 1) := by decide +kernel
theorem dX11_odds_26 : decode cX11_odds 26 = .ok (.invokevirtual 356, 3) := by decide +kernel
theorem mwX11_layAside : MwV yX11_layAside cX11_layAside 2 none 0 := ⟨⟨kw1707, kw15, by decide +kernel⟩, kw1706, kS97⟩
theorem dX11_odds_29 : decode cX11_odds 29 = .ok (.iconst 0, 1) := by decide +kernel
theorem dX11_odds_30 : decode cX11_odds 30 = .ok (.istore 4, 2) := by decide +kernel
theorem dX11_odds_32 : decode cX11_odds 32 = .ok (.iconst 0, 1) := by decide +kernel
theorem dX11_odds_33 : decode cX11_odds 33 = .ok (.istore 5, 2) := by decide +kernel
theorem dX11_odds_35 : decode cX11_odds 35 = .ok (.iload 5, 2) := by decide +kernel
theorem dX11_odds_37 : decode cX11_odds 37 = .ok (.iload_n 2, 1) := by decide +kernel
theorem dX11_odds_38 : decode cX11_odds 38 = .ok (.if_icmp .ge 35, 3) := by decide +kernel
theorem dX11_odds_41 : decode cX11_odds 41 = .ok (.aload_n 0, 1) := by decide +kernel
theorem dX11_odds_42 : decode cX11_odds 42 = .ok (.bipush 20, 2) := by decide +kernel
theorem dX11_odds_44 : decode cX11_odds 44 = .ok (.iload_n 3, 1) := by decide +kernel
theorem dX11_odds_45 : decode cX11_odds 45 = .ok (.iload 5, 2) := by decide +kernel
theorem dX11_odds_47 : decode cX11_odds 47 = .ok (.iadd, 1) := by decide +kernel
theorem dX11_odds_48 : decode cX11_odds 48 = .ok (.invokevirtual 353, 3) := by decide +kernel
theorem dX11_odds_51 : decode cX11_odds 51 = .ok (.pop, 1) := by decide +kernel
theorem dX11_odds_52 : decode cX11_odds 52 = .ok (.aload_n 0, 1) := by decide +kernel
theorem dX11_odds_53 : decode cX11_odds 53 = .ok (.iload_n 1, 1) := by decide +kernel
theorem dX11_odds_54 : decode cX11_odds 54 = .ok (.invokevirtual 246, 3) := by decide +kernel
theorem dX11_odds_57 : decode cX11_odds 57 = .ok (.ifCond .eq 6, 3) := by decide +kernel
theorem dX11_odds_60 : decode cX11_odds 60 = .ok (.iinc 4 1, 3) := by decide +kernel
theorem dX11_odds_63 : decode cX11_odds 63 = .ok (.aload_n 0, 1) := by decide +kernel
theorem dX11_odds_64 : decode cX11_odds 64 = .ok (.invokevirtual 359, 3) := by decide +kernel
theorem mwX11_takeBack : MwV yX11_takeBack cX11_takeBack 2 none 0 := ⟨⟨kw1711, kw15, by decide +kernel⟩, kw1710, kS98⟩
theorem dX11_odds_67 : decode cX11_odds 67 = .ok (.iinc 5 1, 3) := by decide +kernel
theorem dX11_odds_70 : decode cX11_odds 70 = .ok (.goto (-35), 3) := by decide +kernel
theorem dX11_odds_73 : decode cX11_odds 73 = .ok (.iload 4, 2) := by decide +kernel
theorem dX11_odds_75 : decode cX11_odds 75 = .ok (.ireturn, 1) := by decide +kernel
set_option maxHeartbeats 4000000 in
set_option maxRecDepth 100000 in
theorem s_X11_odds {l : Launch} {G : Gc} (qm : Nat) (a1 : Int32) (a2 : Int32) (a3 : Int32) (qm_thrown : Int32) (qm_tape : Nat) (qm_taped : Int32) (qm_size : Int32) (qm_limit : Int32) (qm_to : Int32) (qm_from : Int32) (qm_kind : Int32) (qm_number : Int32) (qm_sign : Int32) (qm_fault : Int32) (qm_place : Int32) (qm_word : Int64) (qm_told : Int32) (qm_now : Nat) (qm_read : Nat) (qm_kept : Nat) (qm_snaps : Nat) (qm_aside : Nat) (qm_name : Nat) (qm_readName : Nat) (qm_keptName : Nat) (qm_isKept : Nat) (qm_onces : Nat) (qm_snapMany : Int32) (qm_order : Nat) (qm_ordered : Nat) (qm_orderMany : Int32) (qm_orderMost : Int32) (qm_passing : Int32) (qm_movedWho : Int32) (qm_scratched : Int32) (qm_text : Nat) (qm_texts : Int32) (qm_seed : Int32) (qm_line : Nat) (qm_written : Nat) (qm_lineMany : Int32) (qm_hasWritten : Int32) (qm_node : Nat) (qm_nodes : Int32) (qm_onesMany : Int32) (qm_within : Int32) (qm_top : Int32) (qm_now_c : Nat → Int32) (qm_aside_c : Nat → Int32) (hf_qm_now_c : slI qm_now_c) (hf1_qm_now_c : trI qm_now_c) : Ci l yX11_odds cX11_odds 6 (some .int) 6 0 0 G [.ref qm, .int a1, .int a2, .int a3] [(qm, .inr (10, [.int qm_thrown, .ref qm_tape, .int qm_taped, .int qm_size, .int qm_limit, .int qm_to, .int qm_from, .int qm_kind, .int qm_number, .int qm_sign, .int qm_fault, .int qm_place, .long qm_word, .int qm_told, .ref qm_now, .ref qm_read, .ref qm_kept, .ref qm_snaps, .ref qm_aside, .ref qm_name, .ref qm_readName, .ref qm_keptName, .ref qm_isKept, .ref qm_onces, .int qm_snapMany, .ref qm_order, .ref qm_ordered, .int qm_orderMany, .int qm_orderMost, .int qm_passing, .int qm_movedWho, .int qm_scratched, .ref qm_text, .int qm_texts, .int qm_seed, .ref qm_line, .ref qm_written, .int qm_lineMany, .int qm_hasWritten, .ref qm_node, .int qm_nodes, .int qm_onesMany, .int qm_within, .int qm_top])), (qm_now, eI G 339 qm_now_c), (qm_aside, eI G 33 qm_aside_c)] (fun (r9 : Int32) (u9 : va_W) => ∃ (x0_qm_seed : Int32) (x1_qm_now_c : Nat → Int32) (x2_qm_aside_c : Nat → Int32) (r_x : Int32), r9 = r_x ∧ u9 = [(qm, .inr (10, [.int 0, .ref qm_tape, .int qm_taped, .int qm_size, .int qm_limit, .int qm_to, .int qm_from, .int qm_kind, .int qm_number, .int qm_sign, .int qm_fault, .int qm_place, .long qm_word, .int qm_told, .ref qm_now, .ref qm_read, .ref qm_kept, .ref qm_snaps, .ref qm_aside, .ref qm_name, .ref qm_readName, .ref qm_keptName, .ref qm_isKept, .ref qm_onces, .int qm_snapMany, .ref qm_order, .ref qm_ordered, .int qm_orderMany, .int qm_orderMost, .int qm_passing, .int qm_movedWho, .int qm_scratched, .ref qm_text, .int qm_texts, .int x0_qm_seed, .ref qm_line, .ref qm_written, .int qm_lineMany, .int qm_hasWritten, .ref qm_node, .int qm_nodes, .int qm_onesMany, .int qm_within, .int qm_top])), (qm_now, eI G 339 x1_qm_now_c), (qm_aside, eI G 33 x2_qm_aside_c)] ∧ (loW qm_now_c x1_qm_now_c) ∧ (slI x1_qm_now_c) ∧ (trI x1_qm_now_c)) := by
  refine Ci.ofQ (by decide) (Nat.le_of_ble_eq_true rfl) ?_
  intro p e s m below meth c ls A args Q hQ B hw hl
  have C : CallFix p m c cX11_odds 6 s args gw "LanternStateModel" := B.1
  have hl : lv_has ls 6 [(0, .ref qm), (1, .int a1), (2, .int a2), (3, .int a3)] := hl
  refine lv_aload_n C.1 C.2.1 dX11_odds_0 rfl (lv_at hl 0 rfl) ?_
  refine lv_iconst (v := 0) C.1 C.2.1 dX11_odds_1 (by decide) ?_
  refine x_put (w' := [(qm, .inr (10, [.int 0, .ref qm_tape, .int qm_taped, .int qm_size, .int qm_limit, .int qm_to, .int qm_from, .int qm_kind, .int qm_number, .int qm_sign, .int qm_fault, .int qm_place, .long qm_word, .int qm_told, .ref qm_now, .ref qm_read, .ref qm_kept, .ref qm_snaps, .ref qm_aside, .ref qm_name, .ref qm_readName, .ref qm_keptName, .ref qm_isKept, .ref qm_onces, .int qm_snapMany, .ref qm_order, .ref qm_ordered, .int qm_orderMany, .int qm_orderMost, .int qm_passing, .int qm_movedWho, .int qm_scratched, .ref qm_text, .int qm_texts, .int qm_seed, .ref qm_line, .ref qm_written, .int qm_lineMany, .int qm_hasWritten, .ref qm_node, .int qm_nodes, .int qm_onesMany, .int qm_within, .int qm_top])), (qm_now, eI G 339 qm_now_c), (qm_aside, eI G 33 qm_aside_c)]) C hw iwX11 tyX11_ok nmX11 10 rfl 0 rfl 0 (by decide) kw1193 rfl rfl rfl (Nat.le_of_ble_eq_true rfl) rfl dX11_odds_2 (fun H locs hw => ?_)
  refine lv_aload_n C.1 C.2.1 dX11_odds_5 rfl (lv_at hl 0 rfl) ?_
  refine lv_iload_n C.1 C.2.1 dX11_odds_6 rfl (lv_at hl 1 rfl) ?_
  refine x_calliV (As := [.int a1]) (rest := []) (wr := [(qm_aside, eI G 33 qm_aside_c)]) C hw (s_X11_isSlide qm a1 0 qm_tape qm_taped qm_size qm_limit qm_to qm_from qm_kind qm_number qm_sign qm_fault qm_place qm_word qm_told qm_now qm_read qm_kept qm_snaps qm_aside qm_name qm_readName qm_keptName qm_isKept qm_onces qm_snapMany qm_order qm_ordered qm_orderMany qm_orderMost qm_passing qm_movedWho qm_scratched qm_text qm_texts qm_seed qm_line qm_written qm_lineMany qm_hasWritten qm_node qm_nodes qm_onesMany qm_within qm_top qm_now_c hf_qm_now_c hf1_qm_now_c) mwX11_isSlide kw1465 [0, 1] [2] rfl rfl rfl rfl (by decide) 0 rfl rfl rfl rfl hl.1 rfl (Nat.le_of_ble_eq_true rfl) ⟨(Nat.le_of_ble_eq_true rfl), (Nat.le_of_ble_eq_true rfl)⟩ ⟨(Nat.le_of_ble_eq_true rfl), (Nat.le_of_ble_eq_true rfl)⟩ dX11_odds_7 (fun r1 u9 H locs hp9 hw => ?_)
  rcases hp9 with ⟨rfl, rfl⟩ | ⟨rfl, rfl, hf2, hf3⟩
  · skip
    have hw : Wd G s A [(qm_aside, eI G 33 qm_aside_c), (qm, .inr (10, [.int 0, .ref qm_tape, .int qm_taped, .int qm_size, .int qm_limit, .int qm_to, .int qm_from, .int qm_kind, .int qm_number, .int qm_sign, .int qm_fault, .int qm_place, .long qm_word, .int qm_told, .ref qm_now, .ref qm_read, .ref qm_kept, .ref qm_snaps, .ref qm_aside, .ref qm_name, .ref qm_readName, .ref qm_keptName, .ref qm_isKept, .ref qm_onces, .int qm_snapMany, .ref qm_order, .ref qm_ordered, .int qm_orderMany, .int qm_orderMost, .int qm_passing, .int qm_movedWho, .int qm_scratched, .ref qm_text, .int qm_texts, .int qm_seed, .ref qm_line, .ref qm_written, .int qm_lineMany, .int qm_hasWritten, .ref qm_node, .int qm_nodes, .int qm_onesMany, .int qm_within, .int qm_top])), (qm_now, eI G 339 qm_now_c)] H _ := hw
    refine lv_if_eq (tgt := 23) C.1 C.2.1 dX11_odds_10 (by decide) (fun _ => ?_) (fun h9 => absurd (by decide) h9)
    refine lv_iconst (v := (-1)) C.1 C.2.1 dX11_odds_23 (by decide) ?_
    have hw := hw.sub (w' := [(qm, .inr (10, [.int 0, .ref qm_tape, .int qm_taped, .int qm_size, .int qm_limit, .int qm_to, .int qm_from, .int qm_kind, .int qm_number, .int qm_sign, .int qm_fault, .int qm_place, .long qm_word, .int qm_told, .ref qm_now, .ref qm_read, .ref qm_kept, .ref qm_snaps, .ref qm_aside, .ref qm_name, .ref qm_readName, .ref qm_keptName, .ref qm_isKept, .ref qm_onces, .int qm_snapMany, .ref qm_order, .ref qm_ordered, .int qm_orderMany, .int qm_orderMost, .int qm_passing, .int qm_movedWho, .int qm_scratched, .ref qm_text, .int qm_texts, .int qm_seed, .ref qm_line, .ref qm_written, .int qm_lineMany, .int qm_hasWritten, .ref qm_node, .int qm_nodes, .int qm_onesMany, .int qm_within, .int qm_top])), (qm_now, eI G 339 qm_now_c), (qm_aside, eI G 33 qm_aside_c)]) [1, 2, 0] rfl rfl
    exact x_retiQ hQ B hw ⟨qm_seed, qm_now_c, qm_aside_c, (-1), rfl, rfl, (loW_rfl qm_now_c), hf_qm_now_c, hf1_qm_now_c⟩ (Nat.le_of_ble_eq_true rfl) (Nat.le_of_ble_eq_true rfl) dX11_odds_24
  · skip
    have hw : Wd G s A [(qm_aside, eI G 33 qm_aside_c), (qm, .inr (10, [.int 0, .ref qm_tape, .int qm_taped, .int qm_size, .int qm_limit, .int qm_to, .int qm_from, .int qm_kind, .int qm_number, .int qm_sign, .int qm_fault, .int qm_place, .long qm_word, .int qm_told, .ref qm_now, .ref qm_read, .ref qm_kept, .ref qm_snaps, .ref qm_aside, .ref qm_name, .ref qm_readName, .ref qm_keptName, .ref qm_isKept, .ref qm_onces, .int qm_snapMany, .ref qm_order, .ref qm_ordered, .int qm_orderMany, .int qm_orderMost, .int qm_passing, .int qm_movedWho, .int qm_scratched, .ref qm_text, .int qm_texts, .int qm_seed, .ref qm_line, .ref qm_written, .int qm_lineMany, .int qm_hasWritten, .ref qm_node, .int qm_nodes, .int qm_onesMany, .int qm_within, .int qm_top])), (qm_now, eI G 339 qm_now_c)] H _ := hw
    refine lv_if_eq (tgt := 23) C.1 C.2.1 dX11_odds_10 (by decide) (fun h9 => absurd h9 (by decide)) (fun _ => ?_)
    refine lv_iload_n C.1 C.2.1 dX11_odds_13 rfl (lv_at hl 2 rfl) ?_
    refine lv_iconst (v := 1) C.1 C.2.1 dX11_odds_14 (by decide) ?_
    refine lv_bipush (v := 30) C.1 C.2.1 dX11_odds_15 (by decide) ?_
    refine x_calliS (As := [.int a2, .int 1, .int 30]) (rest := []) (wr := [(qm_aside, eI G 33 qm_aside_c), (qm, .inr (10, [.int 0, .ref qm_tape, .int qm_taped, .int qm_size, .int qm_limit, .int qm_to, .int qm_from, .int qm_kind, .int qm_number, .int qm_sign, .int qm_fault, .int qm_place, .long qm_word, .int qm_told, .ref qm_now, .ref qm_read, .ref qm_kept, .ref qm_snaps, .ref qm_aside, .ref qm_name, .ref qm_readName, .ref qm_keptName, .ref qm_isKept, .ref qm_onces, .int qm_snapMany, .ref qm_order, .ref qm_ordered, .int qm_orderMany, .int qm_orderMost, .int qm_passing, .int qm_movedWho, .int qm_scratched, .ref qm_text, .int qm_texts, .int qm_seed, .ref qm_line, .ref qm_written, .int qm_lineMany, .int qm_hasWritten, .ref qm_node, .int qm_nodes, .int qm_onesMany, .int qm_within, .int qm_top])), (qm_now, eI G 339 qm_now_c)]) C hw (s_X11_isIn a2 1 30) mwX11_isIn kw1396 [] [0, 1, 2] rfl rfl rfl rfl (by decide) rfl hl.1 rfl (Nat.le_of_ble_eq_true rfl) ⟨(Nat.le_of_ble_eq_true rfl), (Nat.le_of_ble_eq_true rfl)⟩ ⟨(Nat.le_of_ble_eq_true rfl), (Nat.le_of_ble_eq_true rfl)⟩ dX11_odds_17 (fun r4 u9 H locs hp9 hw => ?_)
    rcases hp9 with ⟨rfl, rfl, hf5⟩ | ⟨rfl, rfl, hf6, hf7⟩
    · skip
      have hw : Wd G s A [(qm_aside, eI G 33 qm_aside_c), (qm, .inr (10, [.int 0, .ref qm_tape, .int qm_taped, .int qm_size, .int qm_limit, .int qm_to, .int qm_from, .int qm_kind, .int qm_number, .int qm_sign, .int qm_fault, .int qm_place, .long qm_word, .int qm_told, .ref qm_now, .ref qm_read, .ref qm_kept, .ref qm_snaps, .ref qm_aside, .ref qm_name, .ref qm_readName, .ref qm_keptName, .ref qm_isKept, .ref qm_onces, .int qm_snapMany, .ref qm_order, .ref qm_ordered, .int qm_orderMany, .int qm_orderMost, .int qm_passing, .int qm_movedWho, .int qm_scratched, .ref qm_text, .int qm_texts, .int qm_seed, .ref qm_line, .ref qm_written, .int qm_lineMany, .int qm_hasWritten, .ref qm_node, .int qm_nodes, .int qm_onesMany, .int qm_within, .int qm_top])), (qm_now, eI G 339 qm_now_c)] H _ := hw
      have hf5 : a2.toInt < 1 ∨ 30 < a2.toInt := by first | exact hf5 | (have e0 : (1 : Int32).toInt = 1 := rfl; have e1 : (30 : Int32).toInt = 30 := rfl; omega)
      refine lv_if_ne (tgt := 25) C.1 C.2.1 dX11_odds_20 (by decide) (fun h9 => absurd (by decide) h9) (fun _ => ?_)
      refine lv_iconst (v := (-1)) C.1 C.2.1 dX11_odds_23 (by decide) ?_
      have hw := hw.sub (w' := [(qm, .inr (10, [.int 0, .ref qm_tape, .int qm_taped, .int qm_size, .int qm_limit, .int qm_to, .int qm_from, .int qm_kind, .int qm_number, .int qm_sign, .int qm_fault, .int qm_place, .long qm_word, .int qm_told, .ref qm_now, .ref qm_read, .ref qm_kept, .ref qm_snaps, .ref qm_aside, .ref qm_name, .ref qm_readName, .ref qm_keptName, .ref qm_isKept, .ref qm_onces, .int qm_snapMany, .ref qm_order, .ref qm_ordered, .int qm_orderMany, .int qm_orderMost, .int qm_passing, .int qm_movedWho, .int qm_scratched, .ref qm_text, .int qm_texts, .int qm_seed, .ref qm_line, .ref qm_written, .int qm_lineMany, .int qm_hasWritten, .ref qm_node, .int qm_nodes, .int qm_onesMany, .int qm_within, .int qm_top])), (qm_now, eI G 339 qm_now_c), (qm_aside, eI G 33 qm_aside_c)]) [1, 2, 0] rfl rfl
      exact x_retiQ hQ B hw ⟨qm_seed, qm_now_c, qm_aside_c, (-1), rfl, rfl, (loW_rfl qm_now_c), hf_qm_now_c, hf1_qm_now_c⟩ (Nat.le_of_ble_eq_true rfl) (Nat.le_of_ble_eq_true rfl) dX11_odds_24
    · skip
      have hw : Wd G s A [(qm_aside, eI G 33 qm_aside_c), (qm, .inr (10, [.int 0, .ref qm_tape, .int qm_taped, .int qm_size, .int qm_limit, .int qm_to, .int qm_from, .int qm_kind, .int qm_number, .int qm_sign, .int qm_fault, .int qm_place, .long qm_word, .int qm_told, .ref qm_now, .ref qm_read, .ref qm_kept, .ref qm_snaps, .ref qm_aside, .ref qm_name, .ref qm_readName, .ref qm_keptName, .ref qm_isKept, .ref qm_onces, .int qm_snapMany, .ref qm_order, .ref qm_ordered, .int qm_orderMany, .int qm_orderMost, .int qm_passing, .int qm_movedWho, .int qm_scratched, .ref qm_text, .int qm_texts, .int qm_seed, .ref qm_line, .ref qm_written, .int qm_lineMany, .int qm_hasWritten, .ref qm_node, .int qm_nodes, .int qm_onesMany, .int qm_within, .int qm_top])), (qm_now, eI G 339 qm_now_c)] H _ := hw
      have hf6 : 1 ≤ a2.toInt := by first | exact hf6 | (have e0 : (1 : Int32).toInt = 1 := rfl; omega)
      have hf7 : a2.toInt ≤ 30 := by first | exact hf7 | (have e0 : (30 : Int32).toInt = 30 := rfl; omega)
      refine lv_if_ne (tgt := 25) C.1 C.2.1 dX11_odds_20 (by decide) (fun _ => ?_) (fun h9 => absurd h9 (by decide))
      refine lv_aload_n C.1 C.2.1 dX11_odds_25 rfl (lv_at hl 0 rfl) ?_
      refine x_callvV (As := []) (rest := []) (wr := []) C hw (s_X11_layAside qm 0 qm_tape qm_taped qm_size qm_limit qm_to qm_from qm_kind qm_number qm_sign qm_fault qm_place qm_word qm_told qm_now qm_read qm_kept qm_snaps qm_aside qm_name qm_readName qm_keptName qm_isKept qm_onces qm_snapMany qm_order qm_ordered qm_orderMany qm_orderMost qm_passing qm_movedWho qm_scratched qm_text qm_texts qm_seed qm_line qm_written qm_lineMany qm_hasWritten qm_node qm_nodes qm_onesMany qm_within qm_top qm_now_c qm_aside_c hf_qm_now_c hf1_qm_now_c) mwX11_layAside kw1704 [1, 2, 0] [] rfl rfl rfl rfl (by decide) 0 rfl rfl rfl rfl hl.1 rfl (Nat.le_of_ble_eq_true rfl) ⟨(Nat.le_of_ble_eq_true rfl), (Nat.le_of_ble_eq_true rfl)⟩ ⟨(Nat.le_of_ble_eq_true rfl), (Nat.le_of_ble_eq_true rfl)⟩ dX11_odds_26 (fun  u9 H locs hp9 hw => ?_)
      obtain ⟨x8, rfl⟩ := hp9
      have hw : Wd G s A [(qm, .inr (10, [.int 0, .ref qm_tape, .int qm_taped, .int qm_size, .int qm_limit, .int qm_to, .int qm_from, .int qm_kind, .int qm_number, .int qm_sign, .int qm_fault, .int qm_place, .long qm_word, .int qm_told, .ref qm_now, .ref qm_read, .ref qm_kept, .ref qm_snaps, .ref qm_aside, .ref qm_name, .ref qm_readName, .ref qm_keptName, .ref qm_isKept, .ref qm_onces, .int qm_snapMany, .ref qm_order, .ref qm_ordered, .int qm_orderMany, .int qm_orderMost, .int qm_passing, .int qm_movedWho, .int qm_scratched, .ref qm_text, .int qm_texts, .int qm_seed, .ref qm_line, .ref qm_written, .int qm_lineMany, .int qm_hasWritten, .ref qm_node, .int qm_nodes, .int qm_onesMany, .int qm_within, .int qm_top])), (qm_now, eI G 339 qm_now_c), (qm_aside, eI G 33 x8)] H _ := hw
      refine lv_iconst (v := 0) C.1 C.2.1 dX11_odds_29 (by decide) ?_
      refine lv_istore (lv' := [(4, .int 0), (0, .ref qm), (1, .int a1), (2, .int a2), (3, .int a3)]) C.1 C.2.1 dX11_odds_30 hl (by decide) rfl (fun ls hl => ?_)
      refine lv_iconst (v := 0) C.1 C.2.1 dX11_odds_32 (by decide) ?_
      refine lv_istore (lv' := [(5, .int 0), (4, .int 0), (0, .ref qm), (1, .int a1), (2, .int a2), (3, .int a3)]) C.1 C.2.1 dX11_odds_33 hl (by decide) rfl (fun ls hl => ?_)
      have loopJ733 : ∀ (n9 : Nat) (j729 : Int32) (j730 : Int32) (j731 : Int32) (j732 : Nat → Int32), (2147483647 - j729.toInt).toNat < n9 → (0 ≤ j729.toInt ∧ j729.toInt ≤ 30) → (loW qm_now_c j732) → (slI j732) → (trI j732) → ((j732 0).toInt = (qm_now_c 0).toInt) → ∀ (H : Heap) (locs : List Loc) (ls : Array Slot), Wd G s A [(qm, .inr (10, [.int 0, .ref qm_tape, .int qm_taped, .int qm_size, .int qm_limit, .int qm_to, .int qm_from, .int qm_kind, .int qm_number, .int qm_sign, .int qm_fault, .int qm_place, .long qm_word, .int qm_told, .ref qm_now, .ref qm_read, .ref qm_kept, .ref qm_snaps, .ref qm_aside, .ref qm_name, .ref qm_readName, .ref qm_keptName, .ref qm_isKept, .ref qm_onces, .int qm_snapMany, .ref qm_order, .ref qm_ordered, .int qm_orderMany, .int qm_orderMost, .int qm_passing, .int qm_movedWho, .int qm_scratched, .ref qm_text, .int qm_texts, .int j731, .ref qm_line, .ref qm_written, .int qm_lineMany, .int qm_hasWritten, .ref qm_node, .int qm_nodes, .int qm_onesMany, .int qm_within, .int qm_top])), (qm_now, eI G 339 j732), (qm_aside, eI G 33 x8)] H locs → lv_has ls 6 [(5, .int j729), (4, .int j730), (0, .ref qm), (1, .int a1), (2, .int a2), (3, .int a3)] → W p l e (rmD 6 0 0) s m args below meth c H locs 0 0 Q (F0 m 35 ls []) := by
        intro n9
        induction n9 with
        | zero => intro j729 j730 j731 j732 h9; exact absurd h9 (Nat.not_lt_zero _)
        | succ n9 ihJ733 =>
          intro j729 j730 j731 j732 h9J733 hJ733_0 hJ733_1 hJ733_2 hJ733_3 hJ733_4 H locs ls hw hl
          have hbj729 := i_bd j729
          refine lv_iload C.1 C.2.1 dX11_odds_35 (lv_at hl 0 rfl) ?_
          refine lv_iload_n C.1 C.2.1 dX11_odds_37 rfl (lv_at hl 4 rfl) ?_
          refine lv_icmp_ge (tgt := 73) C.1 C.2.1 dX11_odds_38 (by decide) (fun c762 => ?_) (fun c762 => ?_)
          · skip
            have c762 : a2.toInt ≤ j729.toInt := i_leT (X := a2.toInt) (Y := j729.toInt) rfl rfl c762
            refine lv_iload C.1 C.2.1 dX11_odds_73 (lv_at hl 1 rfl) ?_
            exact x_retiQ hQ B hw ⟨j731, j732, x8, j730, rfl, rfl, hJ733_1, hJ733_2, hJ733_3⟩ (Nat.le_of_ble_eq_true rfl) (Nat.le_of_ble_eq_true rfl) dX11_odds_75
          · skip
            have c762 : j729.toInt < a2.toInt := i_leF (X := a2.toInt) (Y := j729.toInt) rfl rfl c762
            refine lv_aload_n C.1 C.2.1 dX11_odds_41 rfl (lv_at hl 2 rfl) ?_
            refine lv_bipush (v := 20) C.1 C.2.1 dX11_odds_42 (by decide) ?_
            refine lv_iload_n C.1 C.2.1 dX11_odds_44 rfl (lv_at hl 5 rfl) ?_
            refine lv_iload C.1 C.2.1 dX11_odds_45 (lv_at hl 0 rfl) ?_
            refine lv_iadd C.1 C.2.1 dX11_odds_47 (x_gen (fun v763 => ?_))
            refine x_calliV (As := [.int 20, .int v763]) (rest := []) (wr := [(qm_aside, eI G 33 x8)]) C hw (s_X11_drawHours qm 20 v763 0 qm_tape qm_taped qm_size qm_limit qm_to qm_from qm_kind qm_number qm_sign qm_fault qm_place qm_word qm_told qm_now qm_read qm_kept qm_snaps qm_aside qm_name qm_readName qm_keptName qm_isKept qm_onces qm_snapMany qm_order qm_ordered qm_orderMany qm_orderMost qm_passing qm_movedWho qm_scratched qm_text qm_texts j731 qm_line qm_written qm_lineMany qm_hasWritten qm_node qm_nodes qm_onesMany qm_within qm_top j732 hJ733_2 hJ733_3 (by omega)) mwX11_drawHours kw1691 [0, 1] [2] rfl rfl rfl rfl (by decide) 0 rfl rfl rfl rfl hl.1 rfl (Nat.le_of_ble_eq_true rfl) ⟨(Nat.le_of_ble_eq_true rfl), (Nat.le_of_ble_eq_true rfl)⟩ ⟨(Nat.le_of_ble_eq_true rfl), (Nat.le_of_ble_eq_true rfl)⟩ dX11_odds_48 (fun r764 u9 H locs hp9 hw => ?_)
            obtain ⟨x765, x766, x767, rfl, rfl, hf768, hf770, hf771, hf772⟩ := hp9
            have hw : Wd G s A [(qm_aside, eI G 33 x8), (qm, .inr (10, [.int 0, .ref qm_tape, .int qm_taped, .int qm_size, .int qm_limit, .int qm_to, .int qm_from, .int qm_kind, .int qm_number, .int qm_sign, .int qm_fault, .int qm_place, .long qm_word, .int qm_told, .ref qm_now, .ref qm_read, .ref qm_kept, .ref qm_snaps, .ref qm_aside, .ref qm_name, .ref qm_readName, .ref qm_keptName, .ref qm_isKept, .ref qm_onces, .int qm_snapMany, .ref qm_order, .ref qm_ordered, .int qm_orderMany, .int qm_orderMost, .int qm_passing, .int qm_movedWho, .int qm_scratched, .ref qm_text, .int qm_texts, .int x765, .ref qm_line, .ref qm_written, .int qm_lineMany, .int qm_hasWritten, .ref qm_node, .int qm_nodes, .int qm_onesMany, .int qm_within, .int qm_top])), (qm_now, eI G 339 x766)] H _ := hw
            have fw769 : loW qm_now_c x766 := loW_tr hJ733_1 hf768
            refine lv_pop C.1 C.2.1 dX11_odds_51 rfl ?_
            refine lv_aload_n C.1 C.2.1 dX11_odds_52 rfl (lv_at hl 2 rfl) ?_
            refine lv_iload_n C.1 C.2.1 dX11_odds_53 rfl (lv_at hl 3 rfl) ?_
            refine x_calliV (As := [.int a1]) (rest := []) (wr := [(qm_aside, eI G 33 x8)]) C hw (s_X11_isSo qm a1 0 qm_tape qm_taped qm_size qm_limit qm_to qm_from qm_kind qm_number qm_sign qm_fault qm_place qm_word qm_told qm_now qm_read qm_kept qm_snaps qm_aside qm_name qm_readName qm_keptName qm_isKept qm_onces qm_snapMany qm_order qm_ordered qm_orderMany qm_orderMost qm_passing qm_movedWho qm_scratched qm_text qm_texts x765 qm_line qm_written qm_lineMany qm_hasWritten qm_node qm_nodes qm_onesMany qm_within qm_top x766 hf770 hf771) mwX11_isSo kw1476 [1, 2] [0] rfl rfl rfl rfl (by decide) 0 rfl rfl rfl rfl hl.1 rfl (Nat.le_of_ble_eq_true rfl) ⟨(Nat.le_of_ble_eq_true rfl), (Nat.le_of_ble_eq_true rfl)⟩ ⟨(Nat.le_of_ble_eq_true rfl), (Nat.le_of_ble_eq_true rfl)⟩ dX11_odds_54 (fun r773 u9 H locs hp9 hw => ?_)
            have J776 : ∀ (j775 : Int32), ((x766 0).toInt = (qm_now_c 0).toInt) → ∀ (H : Heap) (locs : List Loc) (ls : Array Slot), Wd G s A [(qm_aside, eI G 33 x8), (qm, .inr (10, [.int 0, .ref qm_tape, .int qm_taped, .int qm_size, .int qm_limit, .int qm_to, .int qm_from, .int qm_kind, .int qm_number, .int qm_sign, .int qm_fault, .int qm_place, .long qm_word, .int qm_told, .ref qm_now, .ref qm_read, .ref qm_kept, .ref qm_snaps, .ref qm_aside, .ref qm_name, .ref qm_readName, .ref qm_keptName, .ref qm_isKept, .ref qm_onces, .int qm_snapMany, .ref qm_order, .ref qm_ordered, .int qm_orderMany, .int qm_orderMost, .int qm_passing, .int qm_movedWho, .int qm_scratched, .ref qm_text, .int qm_texts, .int x765, .ref qm_line, .ref qm_written, .int qm_lineMany, .int qm_hasWritten, .ref qm_node, .int qm_nodes, .int qm_onesMany, .int qm_within, .int qm_top])), (qm_now, eI G 339 x766)] H locs → lv_has ls 6 [(5, .int j729), (4, .int j775), (0, .ref qm), (1, .int a1), (2, .int a2), (3, .int a3)] → W p l e (rmD 6 0 0) s m args below meth c H locs 0 0 Q (F0 m 63 ls []) := by
              intro j775 hJ776_0 H locs ls hw hl
              refine lv_aload_n C.1 C.2.1 dX11_odds_63 rfl (lv_at hl 2 rfl) ?_
              refine x_callvV (As := []) (rest := []) (wr := []) C hw (s_X11_takeBack qm 0 qm_tape qm_taped qm_size qm_limit qm_to qm_from qm_kind qm_number qm_sign qm_fault qm_place qm_word qm_told qm_now qm_read qm_kept qm_snaps qm_aside qm_name qm_readName qm_keptName qm_isKept qm_onces qm_snapMany qm_order qm_ordered qm_orderMany qm_orderMost qm_passing qm_movedWho qm_scratched qm_text qm_texts x765 qm_line qm_written qm_lineMany qm_hasWritten qm_node qm_nodes qm_onesMany qm_within qm_top x766 x8 hf770 hf771) mwX11_takeBack kw1708 [1, 2, 0] [] rfl rfl rfl rfl (by decide) 0 rfl rfl rfl rfl hl.1 rfl (Nat.le_of_ble_eq_true rfl) ⟨(Nat.le_of_ble_eq_true rfl), (Nat.le_of_ble_eq_true rfl)⟩ ⟨(Nat.le_of_ble_eq_true rfl), (Nat.le_of_ble_eq_true rfl)⟩ dX11_odds_64 (fun  u9 H locs hp9 hw => ?_)
              obtain ⟨x785, rfl, hf786, hf789, hf790, hf791⟩ := hp9
              have hw : Wd G s A [(qm, .inr (10, [.int 0, .ref qm_tape, .int qm_taped, .int qm_size, .int qm_limit, .int qm_to, .int qm_from, .int qm_kind, .int qm_number, .int qm_sign, .int qm_fault, .int qm_place, .long qm_word, .int qm_told, .ref qm_now, .ref qm_read, .ref qm_kept, .ref qm_snaps, .ref qm_aside, .ref qm_name, .ref qm_readName, .ref qm_keptName, .ref qm_isKept, .ref qm_onces, .int qm_snapMany, .ref qm_order, .ref qm_ordered, .int qm_orderMany, .int qm_orderMost, .int qm_passing, .int qm_movedWho, .int qm_scratched, .ref qm_text, .int qm_texts, .int x765, .ref qm_line, .ref qm_written, .int qm_lineMany, .int qm_hasWritten, .ref qm_node, .int qm_nodes, .int qm_onesMany, .int qm_within, .int qm_top])), (qm_now, eI G 339 x785), (qm_aside, eI G 33 x8)] H _ := hw
              have fw787 : loW j732 x785 := loW_tr hf768 hf786
              have fw788 : loW qm_now_c x785 := loW_tr fw769 hf786
              obtain ⟨v792, ev792⟩ : ∃ z : Int32, j729 + 1 = z := ⟨_, rfl⟩
              have hv792 : v792.toInt = j729.toInt + 1 := by rw [← ev792]; exact i_add rfl rfl (by omega) (by omega)
              refine lv_iinc (v := v792) (lv' := [(5, .int v792), (4, .int j775), (0, .ref qm), (1, .int a1), (2, .int a2), (3, .int a3)]) C.1 C.2.1 dX11_odds_67 hl (k := 0) rfl ev792 (by decide) rfl (fun ls hl => ?_)
              refine lv_goto (tgt := 35) C.1 C.2.1 dX11_odds_70 (by decide) ?_
              exact ihJ733 v792 j775 x765 x785 (by omega) (by omega) fw788 hf789 hf790 (by omega) _ _ _ hw (lv_sub hl [0, 1, 2, 3, 4, 5] rfl)
            rcases hp9 with ⟨rfl, rfl⟩ | ⟨rfl, rfl⟩
            · skip
              have hw : Wd G s A [(qm_aside, eI G 33 x8), (qm, .inr (10, [.int 0, .ref qm_tape, .int qm_taped, .int qm_size, .int qm_limit, .int qm_to, .int qm_from, .int qm_kind, .int qm_number, .int qm_sign, .int qm_fault, .int qm_place, .long qm_word, .int qm_told, .ref qm_now, .ref qm_read, .ref qm_kept, .ref qm_snaps, .ref qm_aside, .ref qm_name, .ref qm_readName, .ref qm_keptName, .ref qm_isKept, .ref qm_onces, .int qm_snapMany, .ref qm_order, .ref qm_ordered, .int qm_orderMany, .int qm_orderMost, .int qm_passing, .int qm_movedWho, .int qm_scratched, .ref qm_text, .int qm_texts, .int x765, .ref qm_line, .ref qm_written, .int qm_lineMany, .int qm_hasWritten, .ref qm_node, .int qm_nodes, .int qm_onesMany, .int qm_within, .int qm_top])), (qm_now, eI G 339 x766)] H _ := hw
              refine lv_if_eq (tgt := 63) C.1 C.2.1 dX11_odds_57 (by decide) (fun _ => ?_) (fun h9 => absurd (by decide) h9)
              exact J776 j730  (by omega) _ _ _ hw (lv_sub hl [0, 1, 2, 3, 4, 5] rfl)
            · skip
              have hw : Wd G s A [(qm_aside, eI G 33 x8), (qm, .inr (10, [.int 0, .ref qm_tape, .int qm_taped, .int qm_size, .int qm_limit, .int qm_to, .int qm_from, .int qm_kind, .int qm_number, .int qm_sign, .int qm_fault, .int qm_place, .long qm_word, .int qm_told, .ref qm_now, .ref qm_read, .ref qm_kept, .ref qm_snaps, .ref qm_aside, .ref qm_name, .ref qm_readName, .ref qm_keptName, .ref qm_isKept, .ref qm_onces, .int qm_snapMany, .ref qm_order, .ref qm_ordered, .int qm_orderMany, .int qm_orderMost, .int qm_passing, .int qm_movedWho, .int qm_scratched, .ref qm_text, .int qm_texts, .int x765, .ref qm_line, .ref qm_written, .int qm_lineMany, .int qm_hasWritten, .ref qm_node, .int qm_nodes, .int qm_onesMany, .int qm_within, .int qm_top])), (qm_now, eI G 339 x766)] H _ := hw
              refine lv_if_eq (tgt := 63) C.1 C.2.1 dX11_odds_57 (by decide) (fun h9 => absurd h9 (by decide)) (fun _ => ?_)
              obtain ⟨v793, ev793⟩ : ∃ z : Int32, j730 + 1 = z := ⟨_, rfl⟩
              refine lv_iinc (v := v793) (lv' := [(4, .int v793), (5, .int j729), (0, .ref qm), (1, .int a1), (2, .int a2), (3, .int a3)]) C.1 C.2.1 dX11_odds_60 hl (k := 1) rfl ev793 (by decide) rfl (fun ls hl => ?_)
              exact J776 v793  (by omega) _ _ _ hw (lv_sub hl [1, 0, 2, 3, 4, 5] rfl)
      exact loopJ733 _ 0 0 qm_seed qm_now_c (Nat.lt_succ_self _) (by decide) (loW_rfl qm_now_c) hf_qm_now_c hf1_qm_now_c (by omega) _ _ _ hw (lv_sub hl [0, 1, 2, 3, 4, 5] rfl)
