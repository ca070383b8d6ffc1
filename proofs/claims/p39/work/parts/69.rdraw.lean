-- needs: 08 6 7 12 14 16 17 18 20 09
theorem dX11_draw_0 : decode cX11_draw 0 = .ok (.aload_n 0, 1) := by decide +kernel
theorem dX11_draw_1 : decode cX11_draw 1 = .ok (.aload_n 0, 1) := by decide +kernel
theorem dX11_draw_2 : decode cX11_draw 2 = .ok (.getfield 346, 3) := by decide +kernel
theorem dX11_draw_5 : decode cX11_draw 5 = .ok (.ldc_w 349, 3) := by decide +kernel
theorem dX11_draw_8 : decode cX11_draw 8 = .ok (.imul, 1) := by decide +kernel
theorem dX11_draw_9 : decode cX11_draw 9 = .ok (.sipush 12345, 3) := by decide +kernel
theorem dX11_draw_12 : decode cX11_draw 12 = .ok (.iadd, 1) := by decide +kernel
theorem dX11_draw_13 : decode cX11_draw 13 = .ok (.putfield 346, 3) := by decide +kernel
theorem dX11_draw_16 : decode cX11_draw 16 = .ok (.aload_n 0, 1) := by decide +kernel
theorem dX11_draw_17 : decode cX11_draw 17 = .ok (.getfield 346, 3) := by decide +kernel
theorem dX11_draw_20 : decode cX11_draw 20 = .ok (.bipush 8, 2) := by decide +kernel
theorem dX11_draw_22 : decode cX11_draw 22 = .ok (.iushr, 1) := by decide +kernel
theorem dX11_draw_23 : decode cX11_draw 23 = .ok (.iload_n 1, 1) := by decide +kernel
theorem dX11_draw_24 : decode cX11_draw 24 = .ok (.irem, 1) := by decide +kernel
theorem dX11_draw_25 : decode cX11_draw 25 = .ok (.ireturn, 1) := by decide +kernel
set_option maxHeartbeats 4000000 in
set_option maxRecDepth 100000 in
theorem s_X11_draw {l : Launch} {G : Gc} (qm : Nat) (a1 : Int32) (qm_thrown : Int32) (qm_tape : Nat) (qm_taped : Int32) (qm_size : Int32) (qm_limit : Int32) (qm_to : Int32) (qm_from : Int32) (qm_kind : Int32) (qm_number : Int32) (qm_sign : Int32) (qm_fault : Int32) (qm_place : Int32) (qm_word : Int64) (qm_told : Int32) (qm_now : Nat) (qm_read : Nat) (qm_kept : Nat) (qm_snaps : Nat) (qm_aside : Nat) (qm_name : Nat) (qm_readName : Nat) (qm_keptName : Nat) (qm_isKept : Nat) (qm_onces : Nat) (qm_snapMany : Int32) (qm_order : Nat) (qm_ordered : Nat) (qm_orderMany : Int32) (qm_orderMost : Int32) (qm_passing : Int32) (qm_movedWho : Int32) (qm_scratched : Int32) (qm_text : Nat) (qm_texts : Int32) (qm_seed : Int32) (qm_line : Nat) (qm_written : Nat) (qm_lineMany : Int32) (qm_hasWritten : Int32) (qm_node : Nat) (qm_nodes : Int32) (qm_onesMany : Int32) (qm_within : Int32) (qm_top : Int32) (hi_a1 : 1 ≤ a1.toInt ∧ a1.toInt ≤ 12) : Ci l yX11_draw cX11_draw 2 (some .int) 0 0 0 G [.ref qm, .int a1] [(qm, .inr (10, [.int qm_thrown, .ref qm_tape, .int qm_taped, .int qm_size, .int qm_limit, .int qm_to, .int qm_from, .int qm_kind, .int qm_number, .int qm_sign, .int qm_fault, .int qm_place, .long qm_word, .int qm_told, .ref qm_now, .ref qm_read, .ref qm_kept, .ref qm_snaps, .ref qm_aside, .ref qm_name, .ref qm_readName, .ref qm_keptName, .ref qm_isKept, .ref qm_onces, .int qm_snapMany, .ref qm_order, .ref qm_ordered, .int qm_orderMany, .int qm_orderMost, .int qm_passing, .int qm_movedWho, .int qm_scratched, .ref qm_text, .int qm_texts, .int qm_seed, .ref qm_line, .ref qm_written, .int qm_lineMany, .int qm_hasWritten, .ref qm_node, .int qm_nodes, .int qm_onesMany, .int qm_within, .int qm_top]))] (fun (r9 : Int32) (u9 : va_W) => ∃ (x0_qm_seed : Int32) (r_x : Int32), r9 = r_x ∧ u9 = [(qm, .inr (10, [.int qm_thrown, .ref qm_tape, .int qm_taped, .int qm_size, .int qm_limit, .int qm_to, .int qm_from, .int qm_kind, .int qm_number, .int qm_sign, .int qm_fault, .int qm_place, .long qm_word, .int qm_told, .ref qm_now, .ref qm_read, .ref qm_kept, .ref qm_snaps, .ref qm_aside, .ref qm_name, .ref qm_readName, .ref qm_keptName, .ref qm_isKept, .ref qm_onces, .int qm_snapMany, .ref qm_order, .ref qm_ordered, .int qm_orderMany, .int qm_orderMost, .int qm_passing, .int qm_movedWho, .int qm_scratched, .ref qm_text, .int qm_texts, .int x0_qm_seed, .ref qm_line, .ref qm_written, .int qm_lineMany, .int qm_hasWritten, .ref qm_node, .int qm_nodes, .int qm_onesMany, .int qm_within, .int qm_top]))] ∧ (0 ≤ r_x.toInt ∧ r_x.toInt ≤ 11) ∧ (r_x.toInt + 1 ≤ a1.toInt)) := by
  refine Ci.ofQ (by decide) (Nat.le_of_ble_eq_true rfl) ?_
  intro p e s m below meth c ls A args Q hQ B hw hl
  have C : CallFix p m c cX11_draw 2 s args gw "LanternStateModel" := B.1
  have hl : lv_has ls 2 [(0, .ref qm), (1, .int a1)] := hl
  refine lv_aload_n C.1 C.2.1 dX11_draw_0 rfl (lv_at hl 0 rfl) ?_
  refine lv_aload_n C.1 C.2.1 dX11_draw_1 rfl (lv_at hl 0 rfl) ?_
  refine x_get C hw iwX11 10 rfl 0 rfl 34 (by decide) kw1227 rfl dX11_draw_2 ?_
  refine lv_ldcw (v := 1103515245) C.1 C.2.1 C.2.2.2.1 (C.2.2.2.2 _ kw1699) dX11_draw_5 ?_
  refine lv_imul C.1 C.2.1 dX11_draw_8 (x_gen (fun v1 => ?_))
  refine lv_sipush (v := 12345) C.1 C.2.1 dX11_draw_9 (by decide) ?_
  refine lv_iadd C.1 C.2.1 dX11_draw_12 (x_gen (fun v2 => ?_))
  refine x_put (w' := [(qm, .inr (10, [.int qm_thrown, .ref qm_tape, .int qm_taped, .int qm_size, .int qm_limit, .int qm_to, .int qm_from, .int qm_kind, .int qm_number, .int qm_sign, .int qm_fault, .int qm_place, .long qm_word, .int qm_told, .ref qm_now, .ref qm_read, .ref qm_kept, .ref qm_snaps, .ref qm_aside, .ref qm_name, .ref qm_readName, .ref qm_keptName, .ref qm_isKept, .ref qm_onces, .int qm_snapMany, .ref qm_order, .ref qm_ordered, .int qm_orderMany, .int qm_orderMost, .int qm_passing, .int qm_movedWho, .int qm_scratched, .ref qm_text, .int qm_texts, .int v2, .ref qm_line, .ref qm_written, .int qm_lineMany, .int qm_hasWritten, .ref qm_node, .int qm_nodes, .int qm_onesMany, .int qm_within, .int qm_top]))]) C hw iwX11 tyX11_ok nmX11 10 rfl 0 rfl 34 (by decide) kw1227 rfl rfl rfl (Nat.le_of_ble_eq_true rfl) rfl dX11_draw_13 (fun H locs hw => ?_)
  refine lv_aload_n C.1 C.2.1 dX11_draw_16 rfl (lv_at hl 0 rfl) ?_
  refine x_get C hw iwX11 10 rfl 0 rfl 34 (by decide) kw1227 rfl dX11_draw_17 ?_
  refine lv_bipush (v := 8) C.1 C.2.1 dX11_draw_20 (by decide) ?_
  refine lv_iushr (v := ((v2.toUInt32 >>> ((8 : Int32).toUInt32 &&& Int32.toUInt32 31)).toInt32)) C.1 C.2.1 dX11_draw_22 rfl (x_genP (fun z : Int32 => 0 ≤ z.toInt ∧ z.toInt ≤ 16777215) (i_ushr8 _) (fun v3 hv3 => ?_))
  refine lv_iload_n C.1 C.2.1 dX11_draw_23 rfl (lv_at hl 1 rfl) ?_
  refine lv_irem C.1 C.2.1 dX11_draw_24 (i_ne0 (by omega)) (x_genP (fun z : Int32 => (0 ≤ z.toInt ∧ z.toInt < a1.toInt) ∧ z.toInt ≤ v3.toInt) (i_rem (X := v3.toInt) (Y := a1.toInt) rfl rfl (by omega) (by omega)) (fun v4 hv4 => ?_))
  exact x_retiQ hQ B hw ⟨v2, v4, rfl, rfl, (by omega), (by omega)⟩ (Nat.le_of_ble_eq_true rfl) (Nat.le_of_ble_eq_true rfl) dX11_draw_25
theorem dX11_drawHours_0 : decode cX11_drawHours 0 = .ok (.aload_n 0, 1) := by decide +kernel
theorem dX11_drawHours_1 : decode cX11_drawHours 1 = .ok (.iload_n 2, 1) := by decide +kernel
theorem dX11_drawHours_2 : decode cX11_drawHours 2 = .ok (.putfield 346, 3) := by decide +kernel
theorem dX11_drawHours_5 : decode cX11_drawHours 5 = .ok (.iload_n 1, 1) := by decide +kernel
theorem dX11_drawHours_6 : decode cX11_drawHours 6 = .ok (.sipush 400, 3) := by decide +kernel
theorem dX11_drawHours_9 : decode cX11_drawHours 9 = .ok (.aload_n 0, 1) := by decide +kernel
theorem dX11_drawHours_10 : decode cX11_drawHours 10 = .ok (.getfield 98, 3) := by decide +kernel
theorem dX11_drawHours_13 : decode cX11_drawHours 13 = .ok (.bipush 64, 2) := by decide +kernel
theorem dX11_drawHours_15 : decode cX11_drawHours 15 = .ok (.iaload, 1) := by decide +kernel
theorem dX11_drawHours_16 : decode cX11_drawHours 16 = .ok (.isub, 1) := by decide +kernel
theorem dX11_drawHours_17 : decode cX11_drawHours 17 = .ok (.invokestatic 298, 3) := by decide +kernel
theorem dX11_drawHours_20 : decode cX11_drawHours 20 = .ok (.istore_n 3, 1) := by decide +kernel
theorem dX11_drawHours_21 : decode cX11_drawHours 21 = .ok (.iconst 0, 1) := by decide +kernel
theorem dX11_drawHours_22 : decode cX11_drawHours 22 = .ok (.istore 4, 2) := by decide +kernel
theorem dX11_drawHours_24 : decode cX11_drawHours 24 = .ok (.iload 4, 2) := by decide +kernel
theorem dX11_drawHours_26 : decode cX11_drawHours 26 = .ok (.iload_n 3, 1) := by decide +kernel
theorem dX11_drawHours_27 : decode cX11_drawHours 27 = .ok (.if_icmp .ge 105, 3) := by decide +kernel
theorem dX11_drawHours_30 : decode cX11_drawHours 30 = .ok (.aload_n 0, 1) := by decide +kernel
theorem dX11_drawHours_31 : decode cX11_drawHours 31 = .ok (.aload_n 0, 1) := by decide +kernel
theorem dX11_drawHours_32 : decode cX11_drawHours 32 = .ok (.getfield 98, 3) := by decide +kernel
theorem dX11_drawHours_35 : decode cX11_drawHours 35 = .ok (.iconst 0, 1) := by decide +kernel
theorem dX11_drawHours_36 : decode cX11_drawHours 36 = .ok (.iaload, 1) := by decide +kernel
theorem dX11_drawHours_37 : decode cX11_drawHours 37 = .ok (.invokevirtual 350, 3) := by decide +kernel
theorem mwX11_draw : MwV yX11_draw cX11_draw 2 (some .int) 1 := ⟨⟨kw1698, kw15, by decide +kernel⟩, kw1697, kS96⟩
theorem dX11_drawHours_40 : decode cX11_drawHours 40 = .ok (.istore 5, 2) := by decide +kernel
theorem dX11_drawHours_42 : decode cX11_drawHours 42 = .ok (.aload_n 0, 1) := by decide +kernel
theorem dX11_drawHours_43 : decode cX11_drawHours 43 = .ok (.iconst 4, 1) := by decide +kernel
theorem dX11_drawHours_44 : decode cX11_drawHours 44 = .ok (.invokevirtual 350, 3) := by decide +kernel
theorem dX11_drawHours_47 : decode cX11_drawHours 47 = .ok (.istore 6, 2) := by decide +kernel
theorem dX11_drawHours_49 : decode cX11_drawHours 49 = .ok (.aload_n 0, 1) := by decide +kernel
theorem dX11_drawHours_50 : decode cX11_drawHours 50 = .ok (.iconst 0, 1) := by decide +kernel
theorem dX11_drawHours_51 : decode cX11_drawHours 51 = .ok (.iload 5, 2) := by decide +kernel
theorem dX11_drawHours_53 : decode cX11_drawHours 53 = .ok (.iload 6, 2) := by decide +kernel
theorem dX11_drawHours_55 : decode cX11_drawHours 55 = .ok (.invokevirtual 285, 3) := by decide +kernel
theorem dX11_drawHours_58 : decode cX11_drawHours 58 = .ok (.ifCond .ne 13, 3) := by decide +kernel
theorem dX11_drawHours_61 : decode cX11_drawHours 61 = .ok (.aload_n 0, 1) := by decide +kernel
theorem dX11_drawHours_62 : decode cX11_drawHours 62 = .ok (.iconst 0, 1) := by decide +kernel
theorem dX11_drawHours_63 : decode cX11_drawHours 63 = .ok (.iload 5, 2) := by decide +kernel
theorem dX11_drawHours_65 : decode cX11_drawHours 65 = .ok (.iload 6, 2) := by decide +kernel
theorem dX11_drawHours_67 : decode cX11_drawHours 67 = .ok (.invokevirtual 292, 3) := by decide +kernel
theorem dX11_drawHours_70 : decode cX11_drawHours 70 = .ok (.pop, 1) := by decide +kernel
theorem dX11_drawHours_71 : decode cX11_drawHours 71 = .ok (.iconst 0, 1) := by decide +kernel
theorem dX11_drawHours_72 : decode cX11_drawHours 72 = .ok (.istore 7, 2) := by decide +kernel
theorem dX11_drawHours_74 : decode cX11_drawHours 74 = .ok (.iload 7, 2) := by decide +kernel
theorem dX11_drawHours_76 : decode cX11_drawHours 76 = .ok (.aload_n 0, 1) := by decide +kernel
theorem dX11_drawHours_77 : decode cX11_drawHours 77 = .ok (.getfield 98, 3) := by decide +kernel
theorem dX11_drawHours_80 : decode cX11_drawHours 80 = .ok (.iconst 1, 1) := by decide +kernel
theorem dX11_drawHours_81 : decode cX11_drawHours 81 = .ok (.iaload, 1) := by decide +kernel
theorem dX11_drawHours_82 : decode cX11_drawHours 82 = .ok (.if_icmp .ge 40, 3) := by decide +kernel
theorem dX11_drawHours_85 : decode cX11_drawHours 85 = .ok (.aload_n 0, 1) := by decide +kernel
theorem dX11_drawHours_86 : decode cX11_drawHours 86 = .ok (.bipush 12, 2) := by decide +kernel
theorem dX11_drawHours_88 : decode cX11_drawHours 88 = .ok (.invokevirtual 350, 3) := by decide +kernel
theorem dX11_drawHours_91 : decode cX11_drawHours 91 = .ok (.ifCond .ne 25, 3) := by decide +kernel
theorem dX11_drawHours_94 : decode cX11_drawHours 94 = .ok (.aload_n 0, 1) := by decide +kernel
theorem dX11_drawHours_95 : decode cX11_drawHours 95 = .ok (.getfield 98, 3) := by decide +kernel
theorem dX11_drawHours_98 : decode cX11_drawHours 98 = .ok (.bipush 81, 2) := by decide +kernel
theorem dX11_drawHours_100 : decode cX11_drawHours 100 = .ok (.iload 7, 2) := by decide +kernel
theorem dX11_drawHours_102 : decode cX11_drawHours 102 = .ok (.iadd, 1) := by decide +kernel
theorem dX11_drawHours_103 : decode cX11_drawHours 103 = .ok (.iconst 1, 1) := by decide +kernel
theorem dX11_drawHours_104 : decode cX11_drawHours 104 = .ok (.aload_n 0, 1) := by decide +kernel
theorem dX11_drawHours_105 : decode cX11_drawHours 105 = .ok (.getfield 98, 3) := by decide +kernel
theorem dX11_drawHours_108 : decode cX11_drawHours 108 = .ok (.bipush 81, 2) := by decide +kernel
theorem dX11_drawHours_110 : decode cX11_drawHours 110 = .ok (.iload 7, 2) := by decide +kernel
theorem dX11_drawHours_112 : decode cX11_drawHours 112 = .ok (.iadd, 1) := by decide +kernel
theorem dX11_drawHours_113 : decode cX11_drawHours 113 = .ok (.iaload, 1) := by decide +kernel
theorem dX11_drawHours_114 : decode cX11_drawHours 114 = .ok (.isub, 1) := by decide +kernel
theorem dX11_drawHours_115 : decode cX11_drawHours 115 = .ok (.iastore, 1) := by decide +kernel
theorem dX11_drawHours_116 : decode cX11_drawHours 116 = .ok (.iinc 7 1, 3) := by decide +kernel
theorem dX11_drawHours_119 : decode cX11_drawHours 119 = .ok (.goto (-45), 3) := by decide +kernel
theorem dX11_drawHours_122 : decode cX11_drawHours 122 = .ok (.aload_n 0, 1) := by decide +kernel
theorem dX11_drawHours_123 : decode cX11_drawHours 123 = .ok (.invokevirtual 301, 3) := by decide +kernel
theorem dX11_drawHours_126 : decode cX11_drawHours 126 = .ok (.iinc 4 1, 3) := by decide +kernel
theorem dX11_drawHours_129 : decode cX11_drawHours 129 = .ok (.goto (-105), 3) := by decide +kernel
theorem dX11_drawHours_132 : decode cX11_drawHours 132 = .ok (.iload_n 3, 1) := by decide +kernel
theorem dX11_drawHours_133 : decode cX11_drawHours 133 = .ok (.ireturn, 1) := by decide +kernel
set_option maxHeartbeats 4000000 in
set_option maxRecDepth 100000 in
theorem s_X11_drawHours {l : Launch} {G : Gc} (qm : Nat) (a1 : Int32) (a2 : Int32) (qm_thrown : Int32) (qm_tape : Nat) (qm_taped : Int32) (qm_size : Int32) (qm_limit : Int32) (qm_to : Int32) (qm_from : Int32) (qm_kind : Int32) (qm_number : Int32) (qm_sign : Int32) (qm_fault : Int32) (qm_place : Int32) (qm_word : Int64) (qm_told : Int32) (qm_now : Nat) (qm_read : Nat) (qm_kept : Nat) (qm_snaps : Nat) (qm_aside : Nat) (qm_name : Nat) (qm_readName : Nat) (qm_keptName : Nat) (qm_isKept : Nat) (qm_onces : Nat) (qm_snapMany : Int32) (qm_order : Nat) (qm_ordered : Nat) (qm_orderMany : Int32) (qm_orderMost : Int32) (qm_passing : Int32) (qm_movedWho : Int32) (qm_scratched : Int32) (qm_text : Nat) (qm_texts : Int32) (qm_seed : Int32) (qm_line : Nat) (qm_written : Nat) (qm_lineMany : Int32) (qm_hasWritten : Int32) (qm_node : Nat) (qm_nodes : Int32) (qm_onesMany : Int32) (qm_within : Int32) (qm_top : Int32) (qm_now_c : Nat → Int32) (hf_qm_now_c : slI qm_now_c) (hf1_qm_now_c : trI qm_now_c) (hr_0 : 1 ≤ (qm_now_c 0).toInt) : Ci l yX11_drawHours cX11_drawHours 8 (some .int) 5 0 0 G [.ref qm, .int a1, .int a2] [(qm, .inr (10, [.int qm_thrown, .ref qm_tape, .int qm_taped, .int qm_size, .int qm_limit, .int qm_to, .int qm_from, .int qm_kind, .int qm_number, .int qm_sign, .int qm_fault, .int qm_place, .long qm_word, .int qm_told, .ref qm_now, .ref qm_read, .ref qm_kept, .ref qm_snaps, .ref qm_aside, .ref qm_name, .ref qm_readName, .ref qm_keptName, .ref qm_isKept, .ref qm_onces, .int qm_snapMany, .ref qm_order, .ref qm_ordered, .int qm_orderMany, .int qm_orderMost, .int qm_passing, .int qm_movedWho, .int qm_scratched, .ref qm_text, .int qm_texts, .int qm_seed, .ref qm_line, .ref qm_written, .int qm_lineMany, .int qm_hasWritten, .ref qm_node, .int qm_nodes, .int qm_onesMany, .int qm_within, .int qm_top])), (qm_now, eI G 339 qm_now_c)] (fun (r9 : Int32) (u9 : va_W) => ∃ (x0_qm_seed : Int32) (x1_qm_now_c : Nat → Int32) (r_x : Int32), r9 = r_x ∧ u9 = [(qm, .inr (10, [.int qm_thrown, .ref qm_tape, .int qm_taped, .int qm_size, .int qm_limit, .int qm_to, .int qm_from, .int qm_kind, .int qm_number, .int qm_sign, .int qm_fault, .int qm_place, .long qm_word, .int qm_told, .ref qm_now, .ref qm_read, .ref qm_kept, .ref qm_snaps, .ref qm_aside, .ref qm_name, .ref qm_readName, .ref qm_keptName, .ref qm_isKept, .ref qm_onces, .int qm_snapMany, .ref qm_order, .ref qm_ordered, .int qm_orderMany, .int qm_orderMost, .int qm_passing, .int qm_movedWho, .int qm_scratched, .ref qm_text, .int qm_texts, .int x0_qm_seed, .ref qm_line, .ref qm_written, .int qm_lineMany, .int qm_hasWritten, .ref qm_node, .int qm_nodes, .int qm_onesMany, .int qm_within, .int qm_top])), (qm_now, eI G 339 x1_qm_now_c)] ∧ (slI x1_qm_now_c) ∧ (trI x1_qm_now_c) ∧ ((x1_qm_now_c 0).toInt = (qm_now_c 0).toInt)) := by
  refine Ci.ofQ (by decide) (Nat.le_of_ble_eq_true rfl) ?_
  intro p e s m below meth c ls A args Q hQ B hw hl
  have C : CallFix p m c cX11_drawHours 8 s args gw "LanternStateModel" := B.1
  have hl : lv_has ls 8 [(0, .ref qm), (1, .int a1), (2, .int a2)] := hl
  refine lv_aload_n C.1 C.2.1 dX11_drawHours_0 rfl (lv_at hl 0 rfl) ?_
  refine lv_iload_n C.1 C.2.1 dX11_drawHours_1 rfl (lv_at hl 2 rfl) ?_
  refine x_put (w' := [(qm, .inr (10, [.int qm_thrown, .ref qm_tape, .int qm_taped, .int qm_size, .int qm_limit, .int qm_to, .int qm_from, .int qm_kind, .int qm_number, .int qm_sign, .int qm_fault, .int qm_place, .long qm_word, .int qm_told, .ref qm_now, .ref qm_read, .ref qm_kept, .ref qm_snaps, .ref qm_aside, .ref qm_name, .ref qm_readName, .ref qm_keptName, .ref qm_isKept, .ref qm_onces, .int qm_snapMany, .ref qm_order, .ref qm_ordered, .int qm_orderMany, .int qm_orderMost, .int qm_passing, .int qm_movedWho, .int qm_scratched, .ref qm_text, .int qm_texts, .int a2, .ref qm_line, .ref qm_written, .int qm_lineMany, .int qm_hasWritten, .ref qm_node, .int qm_nodes, .int qm_onesMany, .int qm_within, .int qm_top])), (qm_now, eI G 339 qm_now_c)]) C hw iwX11 tyX11_ok nmX11 10 rfl 0 rfl 34 (by decide) kw1227 rfl rfl rfl (Nat.le_of_ble_eq_true rfl) rfl dX11_drawHours_2 (fun H locs hw => ?_)
  refine lv_iload_n C.1 C.2.1 dX11_drawHours_5 rfl (lv_at hl 1 rfl) ?_
  refine lv_sipush (v := 400) C.1 C.2.1 dX11_drawHours_6 (by decide) ?_
  refine lv_aload_n C.1 C.2.1 dX11_drawHours_9 rfl (lv_at hl 0 rfl) ?_
  refine x_get C hw iwX11 10 rfl 0 rfl 14 (by decide) kw1207 rfl dX11_drawHours_10 ?_
  refine lv_bipush (v := 64) C.1 C.2.1 dX11_drawHours_13 (by decide) ?_
  refine x_iald (v := (qm_now_c 64)) C hw 1 rfl (x_in rfl) rfl dX11_drawHours_15 (x_gen (fun v1 => ?_))
  refine lv_isub C.1 C.2.1 dX11_drawHours_16 (x_gen (fun v2 => ?_))
  refine x_calliS (As := [.int a1, .int v2]) (rest := []) (wr := [(qm, .inr (10, [.int qm_thrown, .ref qm_tape, .int qm_taped, .int qm_size, .int qm_limit, .int qm_to, .int qm_from, .int qm_kind, .int qm_number, .int qm_sign, .int qm_fault, .int qm_place, .long qm_word, .int qm_told, .ref qm_now, .ref qm_read, .ref qm_kept, .ref qm_snaps, .ref qm_aside, .ref qm_name, .ref qm_readName, .ref qm_keptName, .ref qm_isKept, .ref qm_onces, .int qm_snapMany, .ref qm_order, .ref qm_ordered, .int qm_orderMany, .int qm_orderMost, .int qm_passing, .int qm_movedWho, .int qm_scratched, .ref qm_text, .int qm_texts, .int a2, .ref qm_line, .ref qm_written, .int qm_lineMany, .int qm_hasWritten, .ref qm_node, .int qm_nodes, .int qm_onesMany, .int qm_within, .int qm_top])), (qm_now, eI G 339 qm_now_c)]) C hw (s_X11_least a1 v2) mwX11_least kw1601 [] [0, 1] rfl rfl rfl rfl (by decide) rfl hl.1 rfl (Nat.le_of_ble_eq_true rfl) ⟨(Nat.le_of_ble_eq_true rfl), (Nat.le_of_ble_eq_true rfl)⟩ ⟨(Nat.le_of_ble_eq_true rfl), (Nat.le_of_ble_eq_true rfl)⟩ dX11_drawHours_17 (fun r3 u9 H locs hp9 hw => ?_)
  obtain ⟨x4, rfl, rfl⟩ := hp9
  have hw : Wd G s A [(qm, .inr (10, [.int qm_thrown, .ref qm_tape, .int qm_taped, .int qm_size, .int qm_limit, .int qm_to, .int qm_from, .int qm_kind, .int qm_number, .int qm_sign, .int qm_fault, .int qm_place, .long qm_word, .int qm_told, .ref qm_now, .ref qm_read, .ref qm_kept, .ref qm_snaps, .ref qm_aside, .ref qm_name, .ref qm_readName, .ref qm_keptName, .ref qm_isKept, .ref qm_onces, .int qm_snapMany, .ref qm_order, .ref qm_ordered, .int qm_orderMany, .int qm_orderMost, .int qm_passing, .int qm_movedWho, .int qm_scratched, .ref qm_text, .int qm_texts, .int a2, .ref qm_line, .ref qm_written, .int qm_lineMany, .int qm_hasWritten, .ref qm_node, .int qm_nodes, .int qm_onesMany, .int qm_within, .int qm_top])), (qm_now, eI G 339 qm_now_c)] H _ := hw
  refine lv_istore_n (lv' := [(3, .int r3), (0, .ref qm), (1, .int a1), (2, .int a2)]) C.1 C.2.1 dX11_drawHours_20 rfl hl (by decide) rfl (fun ls hl => ?_)
  refine lv_iconst (v := 0) C.1 C.2.1 dX11_drawHours_21 (by decide) ?_
  refine lv_istore (lv' := [(4, .int 0), (3, .int r3), (0, .ref qm), (1, .int a1), (2, .int a2)]) C.1 C.2.1 dX11_drawHours_22 hl (by decide) rfl (fun ls hl => ?_)
  have loopJ7179 : ∀ (n9 : Nat) (j7176 : Int32) (j7177 : Int32) (j7178 : Nat → Int32), (2147483647 - j7176.toInt).toNat < n9 → (slI j7178) → (trI j7178) → ((j7178 0).toInt = (qm_now_c 0).toInt) → (0 ≤ j7176.toInt) → ∀ (H : Heap) (locs : List Loc) (ls : Array Slot), Wd G s A [(qm, .inr (10, [.int qm_thrown, .ref qm_tape, .int qm_taped, .int qm_size, .int qm_limit, .int qm_to, .int qm_from, .int qm_kind, .int qm_number, .int qm_sign, .int qm_fault, .int qm_place, .long qm_word, .int qm_told, .ref qm_now, .ref qm_read, .ref qm_kept, .ref qm_snaps, .ref qm_aside, .ref qm_name, .ref qm_readName, .ref qm_keptName, .ref qm_isKept, .ref qm_onces, .int qm_snapMany, .ref qm_order, .ref qm_ordered, .int qm_orderMany, .int qm_orderMost, .int qm_passing, .int qm_movedWho, .int qm_scratched, .ref qm_text, .int qm_texts, .int j7177, .ref qm_line, .ref qm_written, .int qm_lineMany, .int qm_hasWritten, .ref qm_node, .int qm_nodes, .int qm_onesMany, .int qm_within, .int qm_top])), (qm_now, eI G 339 j7178)] H locs → lv_has ls 8 [(4, .int j7176), (3, .int r3), (0, .ref qm)] → W p l e (rmD 5 0 0) s m args below meth c H locs 0 0 Q (F0 m 24 ls []) := by
    intro n9
    induction n9 with
    | zero => intro j7176 j7177 j7178 h9; exact absurd h9 (Nat.not_lt_zero _)
    | succ n9 ihJ7179 =>
      intro j7176 j7177 j7178 h9J7179 hJ7179_0 hJ7179_1 hJ7179_2 hJ7179_3 H locs ls hw hl
      have hbj7176 := i_bd j7176
      refine lv_iload C.1 C.2.1 dX11_drawHours_24 (lv_at hl 0 rfl) ?_
      refine lv_iload_n C.1 C.2.1 dX11_drawHours_26 rfl (lv_at hl 1 rfl) ?_
      refine lv_icmp_ge (tgt := 132) C.1 C.2.1 dX11_drawHours_27 (by decide) (fun c7467 => ?_) (fun c7467 => ?_)
      · skip
        have c7467 : r3.toInt ≤ j7176.toInt := i_leT (X := r3.toInt) (Y := j7176.toInt) rfl rfl c7467
        have bc7467_j7176 := i_bd j7176
        have bc7467_r3 := i_bd r3
        refine lv_iload_n C.1 C.2.1 dX11_drawHours_132 rfl (lv_at hl 1 rfl) ?_
        exact x_retiQ hQ B hw ⟨j7177, j7178, r3, rfl, rfl, hJ7179_0, hJ7179_1, (by omega)⟩ (Nat.le_of_ble_eq_true rfl) (Nat.le_of_ble_eq_true rfl) dX11_drawHours_133
      · skip
        have c7467 : j7176.toInt < r3.toInt := i_leF (X := r3.toInt) (Y := j7176.toInt) rfl rfl c7467
        have bc7467_j7176 := i_bd j7176
        have bc7467_r3 := i_bd r3
        refine lv_aload_n C.1 C.2.1 dX11_drawHours_30 rfl (lv_at hl 2 rfl) ?_
        refine lv_aload_n C.1 C.2.1 dX11_drawHours_31 rfl (lv_at hl 2 rfl) ?_
        refine x_get C hw iwX11 10 rfl 0 rfl 14 (by decide) kw1207 rfl dX11_drawHours_32 ?_
        refine lv_iconst (v := 0) C.1 C.2.1 dX11_drawHours_35 (by decide) ?_
        have mm7468 := hJ7179_0 0
        refine x_iald (v := (j7178 0)) C hw 1 rfl (x_in rfl) rfl dX11_drawHours_36 (x_genP (fun z : Int32 => z.toInt = (j7178 0).toInt ∧ 0 ≤ z.toInt ∧ z.toInt ≤ 6) ⟨rfl, by omega⟩ (fun v7469 hv7469 => ?_))
        refine x_calliV (As := [.int v7469]) (rest := []) (wr := [(qm_now, eI G 339 j7178)]) C hw (s_X11_draw qm v7469 qm_thrown qm_tape qm_taped qm_size qm_limit qm_to qm_from qm_kind qm_number qm_sign qm_fault qm_place qm_word qm_told qm_now qm_read qm_kept qm_snaps qm_aside qm_name qm_readName qm_keptName qm_isKept qm_onces qm_snapMany qm_order qm_ordered qm_orderMany qm_orderMost qm_passing qm_movedWho qm_scratched qm_text qm_texts j7177 qm_line qm_written qm_lineMany qm_hasWritten qm_node qm_nodes qm_onesMany qm_within qm_top (by omega)) mwX11_draw kw1695 [0] [1] rfl rfl rfl rfl (by decide) 0 rfl rfl rfl rfl hl.1 rfl (Nat.le_of_ble_eq_true rfl) ⟨(Nat.le_of_ble_eq_true rfl), (Nat.le_of_ble_eq_true rfl)⟩ ⟨(Nat.le_of_ble_eq_true rfl), (Nat.le_of_ble_eq_true rfl)⟩ dX11_drawHours_37 (fun r7470 u9 H locs hp9 hw => ?_)
        obtain ⟨x7471, x7472, rfl, rfl, hf7473, hf7474⟩ := hp9
        have hw : Wd G s A [(qm_now, eI G 339 j7178), (qm, .inr (10, [.int qm_thrown, .ref qm_tape, .int qm_taped, .int qm_size, .int qm_limit, .int qm_to, .int qm_from, .int qm_kind, .int qm_number, .int qm_sign, .int qm_fault, .int qm_place, .long qm_word, .int qm_told, .ref qm_now, .ref qm_read, .ref qm_kept, .ref qm_snaps, .ref qm_aside, .ref qm_name, .ref qm_readName, .ref qm_keptName, .ref qm_isKept, .ref qm_onces, .int qm_snapMany, .ref qm_order, .ref qm_ordered, .int qm_orderMany, .int qm_orderMost, .int qm_passing, .int qm_movedWho, .int qm_scratched, .ref qm_text, .int qm_texts, .int x7471, .ref qm_line, .ref qm_written, .int qm_lineMany, .int qm_hasWritten, .ref qm_node, .int qm_nodes, .int qm_onesMany, .int qm_within, .int qm_top]))] H _ := hw
        refine lv_istore (lv' := [(5, .int r7470), (4, .int j7176), (3, .int r3), (0, .ref qm)]) C.1 C.2.1 dX11_drawHours_40 hl (by decide) rfl (fun ls hl => ?_)
        refine lv_aload_n C.1 C.2.1 dX11_drawHours_42 rfl (lv_at hl 3 rfl) ?_
        refine lv_iconst (v := 4) C.1 C.2.1 dX11_drawHours_43 (by decide) ?_
        refine x_calliV (As := [.int 4]) (rest := []) (wr := [(qm_now, eI G 339 j7178)]) C hw (s_X11_draw qm 4 qm_thrown qm_tape qm_taped qm_size qm_limit qm_to qm_from qm_kind qm_number qm_sign qm_fault qm_place qm_word qm_told qm_now qm_read qm_kept qm_snaps qm_aside qm_name qm_readName qm_keptName qm_isKept qm_onces qm_snapMany qm_order qm_ordered qm_orderMany qm_orderMost qm_passing qm_movedWho qm_scratched qm_text qm_texts x7471 qm_line qm_written qm_lineMany qm_hasWritten qm_node qm_nodes qm_onesMany qm_within qm_top (by decide)) mwX11_draw kw1695 [1] [0] rfl rfl rfl rfl (by decide) 0 rfl rfl rfl rfl hl.1 rfl (Nat.le_of_ble_eq_true rfl) ⟨(Nat.le_of_ble_eq_true rfl), (Nat.le_of_ble_eq_true rfl)⟩ ⟨(Nat.le_of_ble_eq_true rfl), (Nat.le_of_ble_eq_true rfl)⟩ dX11_drawHours_44 (fun r7475 u9 H locs hp9 hw => ?_)
        obtain ⟨x7476, x7477, rfl, rfl, hf7478, hf7479⟩ := hp9
        have hw : Wd G s A [(qm_now, eI G 339 j7178), (qm, .inr (10, [.int qm_thrown, .ref qm_tape, .int qm_taped, .int qm_size, .int qm_limit, .int qm_to, .int qm_from, .int qm_kind, .int qm_number, .int qm_sign, .int qm_fault, .int qm_place, .long qm_word, .int qm_told, .ref qm_now, .ref qm_read, .ref qm_kept, .ref qm_snaps, .ref qm_aside, .ref qm_name, .ref qm_readName, .ref qm_keptName, .ref qm_isKept, .ref qm_onces, .int qm_snapMany, .ref qm_order, .ref qm_ordered, .int qm_orderMany, .int qm_orderMost, .int qm_passing, .int qm_movedWho, .int qm_scratched, .ref qm_text, .int qm_texts, .int x7476, .ref qm_line, .ref qm_written, .int qm_lineMany, .int qm_hasWritten, .ref qm_node, .int qm_nodes, .int qm_onesMany, .int qm_within, .int qm_top]))] H _ := hw
        have hf7479 : r7475.toInt + 1 ≤ 4 := by first | exact hf7479 | (have e0 : (4 : Int32).toInt = 4 := rfl; omega)
        refine lv_istore (lv' := [(6, .int r7475), (5, .int r7470), (4, .int j7176), (3, .int r3), (0, .ref qm)]) C.1 C.2.1 dX11_drawHours_47 hl (by decide) rfl (fun ls hl => ?_)
        refine lv_aload_n C.1 C.2.1 dX11_drawHours_49 rfl (lv_at hl 4 rfl) ?_
        refine lv_iconst (v := 0) C.1 C.2.1 dX11_drawHours_50 (by decide) ?_
        refine lv_iload C.1 C.2.1 dX11_drawHours_51 (lv_at hl 1 rfl) ?_
        refine lv_iload C.1 C.2.1 dX11_drawHours_53 (lv_at hl 0 rfl) ?_
        refine x_calliV (As := [.int 0, .int r7470, .int r7475]) (rest := []) (wr := []) C hw (s_X11_why qm 0 r7470 r7475 qm_thrown qm_tape qm_taped qm_size qm_limit qm_to qm_from qm_kind qm_number qm_sign qm_fault qm_place qm_word qm_told qm_now qm_read qm_kept qm_snaps qm_aside qm_name qm_readName qm_keptName qm_isKept qm_onces qm_snapMany qm_order qm_ordered qm_orderMany qm_orderMost qm_passing qm_movedWho qm_scratched qm_text qm_texts x7476 qm_line qm_written qm_lineMany qm_hasWritten qm_node qm_nodes qm_onesMany qm_within qm_top j7178 (by omega) (by omega) hJ7179_0 hJ7179_1) mwX11_why kw1553 [1, 0] [] rfl rfl rfl rfl (by decide) 0 rfl rfl rfl rfl hl.1 rfl (Nat.le_of_ble_eq_true rfl) ⟨(Nat.le_of_ble_eq_true rfl), (Nat.le_of_ble_eq_true rfl)⟩ ⟨(Nat.le_of_ble_eq_true rfl), (Nat.le_of_ble_eq_true rfl)⟩ dX11_drawHours_55 (fun r7480 u9 H locs hp9 hw => ?_)
        obtain ⟨x7481, rfl, rfl, hf7482⟩ := hp9
        have hw : Wd G s A [(qm, .inr (10, [.int qm_thrown, .ref qm_tape, .int qm_taped, .int qm_size, .int qm_limit, .int qm_to, .int qm_from, .int qm_kind, .int qm_number, .int qm_sign, .int qm_fault, .int qm_place, .long qm_word, .int qm_told, .ref qm_now, .ref qm_read, .ref qm_kept, .ref qm_snaps, .ref qm_aside, .ref qm_name, .ref qm_readName, .ref qm_keptName, .ref qm_isKept, .ref qm_onces, .int qm_snapMany, .ref qm_order, .ref qm_ordered, .int qm_orderMany, .int qm_orderMost, .int qm_passing, .int qm_movedWho, .int qm_scratched, .ref qm_text, .int qm_texts, .int x7476, .ref qm_line, .ref qm_written, .int qm_lineMany, .int qm_hasWritten, .ref qm_node, .int qm_nodes, .int qm_onesMany, .int qm_within, .int qm_top])), (qm_now, eI G 339 j7178)] H _ := hw
        have J7491 : ∀ (j7490 : Nat → Int32), (slI j7490) → (trI j7490) → ((j7490 0).toInt = (qm_now_c 0).toInt) → ∀ (H : Heap) (locs : List Loc) (ls : Array Slot), Wd G s A [(qm, .inr (10, [.int qm_thrown, .ref qm_tape, .int qm_taped, .int qm_size, .int qm_limit, .int qm_to, .int qm_from, .int qm_kind, .int qm_number, .int qm_sign, .int qm_fault, .int qm_place, .long qm_word, .int qm_told, .ref qm_now, .ref qm_read, .ref qm_kept, .ref qm_snaps, .ref qm_aside, .ref qm_name, .ref qm_readName, .ref qm_keptName, .ref qm_isKept, .ref qm_onces, .int qm_snapMany, .ref qm_order, .ref qm_ordered, .int qm_orderMany, .int qm_orderMost, .int qm_passing, .int qm_movedWho, .int qm_scratched, .ref qm_text, .int qm_texts, .int x7476, .ref qm_line, .ref qm_written, .int qm_lineMany, .int qm_hasWritten, .ref qm_node, .int qm_nodes, .int qm_onesMany, .int qm_within, .int qm_top])), (qm_now, eI G 339 j7490)] H locs → lv_has ls 8 [(4, .int j7176), (3, .int r3), (0, .ref qm)] → W p l e (rmD 5 0 0) s m args below meth c H locs 0 0 Q (F0 m 71 ls []) := by
          intro j7490 hJ7491_0 hJ7491_1 hJ7491_2 H locs ls hw hl
          refine lv_iconst (v := 0) C.1 C.2.1 dX11_drawHours_71 (by decide) ?_
          refine lv_istore (lv' := [(7, .int 0), (4, .int j7176), (3, .int r3), (0, .ref qm)]) C.1 C.2.1 dX11_drawHours_72 hl (by decide) rfl (fun ls hl => ?_)
          have loopJ7954 : ∀ (n9 : Nat) (j7951 : Int32) (j7952 : Int32) (j7953 : Nat → Int32), (2147483647 - j7951.toInt).toNat < n9 → (slI j7953) → (trI j7953) → ((j7953 0).toInt = (qm_now_c 0).toInt) → (0 ≤ j7951.toInt ∧ j7951.toInt ≤ 8) → ∀ (H : Heap) (locs : List Loc) (ls : Array Slot), Wd G s A [(qm, .inr (10, [.int qm_thrown, .ref qm_tape, .int qm_taped, .int qm_size, .int qm_limit, .int qm_to, .int qm_from, .int qm_kind, .int qm_number, .int qm_sign, .int qm_fault, .int qm_place, .long qm_word, .int qm_told, .ref qm_now, .ref qm_read, .ref qm_kept, .ref qm_snaps, .ref qm_aside, .ref qm_name, .ref qm_readName, .ref qm_keptName, .ref qm_isKept, .ref qm_onces, .int qm_snapMany, .ref qm_order, .ref qm_ordered, .int qm_orderMany, .int qm_orderMost, .int qm_passing, .int qm_movedWho, .int qm_scratched, .ref qm_text, .int qm_texts, .int j7952, .ref qm_line, .ref qm_written, .int qm_lineMany, .int qm_hasWritten, .ref qm_node, .int qm_nodes, .int qm_onesMany, .int qm_within, .int qm_top])), (qm_now, eI G 339 j7953)] H locs → lv_has ls 8 [(7, .int j7951), (4, .int j7176), (3, .int r3), (0, .ref qm)] → W p l e (rmD 5 0 0) s m args below meth c H locs 0 0 Q (F0 m 74 ls []) := by
            intro n9
            induction n9 with
            | zero => intro j7951 j7952 j7953 h9; exact absurd h9 (Nat.not_lt_zero _)
            | succ n9 ihJ7954 =>
              intro j7951 j7952 j7953 h9J7954 hJ7954_0 hJ7954_1 hJ7954_2 hJ7954_3 H locs ls hw hl
              have hbj7951 := i_bd j7951
              refine lv_iload C.1 C.2.1 dX11_drawHours_74 (lv_at hl 0 rfl) ?_
              refine lv_aload_n C.1 C.2.1 dX11_drawHours_76 rfl (lv_at hl 3 rfl) ?_
              refine x_get C hw iwX11 10 rfl 0 rfl 14 (by decide) kw1207 rfl dX11_drawHours_77 ?_
              refine lv_iconst (v := 1) C.1 C.2.1 dX11_drawHours_80 (by decide) ?_
              have mm7981 := hJ7954_0 1
              refine x_iald (v := (j7953 1)) C hw 1 rfl (x_in rfl) rfl dX11_drawHours_81 (x_genP (fun z : Int32 => z.toInt = (j7953 1).toInt ∧ 0 ≤ z.toInt ∧ z.toInt ≤ 8) ⟨rfl, by omega⟩ (fun v7982 hv7982 => ?_))
              refine lv_icmp_ge (tgt := 122) C.1 C.2.1 dX11_drawHours_82 (by decide) (fun c7983 => ?_) (fun c7983 => ?_)
              · skip
                have c7983 : v7982.toInt ≤ j7951.toInt := i_leT (X := v7982.toInt) (Y := j7951.toInt) rfl rfl c7983
                refine lv_aload_n C.1 C.2.1 dX11_drawHours_122 rfl (lv_at hl 3 rfl) ?_
                refine x_callvV (As := []) (rest := []) (wr := []) C hw (s_X11_oneHour qm qm_thrown qm_tape qm_taped qm_size qm_limit qm_to qm_from qm_kind qm_number qm_sign qm_fault qm_place qm_word qm_told qm_now qm_read qm_kept qm_snaps qm_aside qm_name qm_readName qm_keptName qm_isKept qm_onces qm_snapMany qm_order qm_ordered qm_orderMany qm_orderMost qm_passing qm_movedWho qm_scratched qm_text qm_texts j7952 qm_line qm_written qm_lineMany qm_hasWritten qm_node qm_nodes qm_onesMany qm_within qm_top j7953 hJ7954_0 hJ7954_1) mwX11_oneHour kw1604 [0, 1] [] rfl rfl rfl rfl (by decide) 0 rfl rfl rfl rfl hl.1 rfl (Nat.le_of_ble_eq_true rfl) ⟨(Nat.le_of_ble_eq_true rfl), (Nat.le_of_ble_eq_true rfl)⟩ ⟨(Nat.le_of_ble_eq_true rfl), (Nat.le_of_ble_eq_true rfl)⟩ dX11_drawHours_123 (fun  u9 H locs hp9 hw => ?_)
                obtain ⟨x7984, rfl, hf7985, hf7986, hf7987⟩ := hp9
                have hw : Wd G s A [(qm, .inr (10, [.int qm_thrown, .ref qm_tape, .int qm_taped, .int qm_size, .int qm_limit, .int qm_to, .int qm_from, .int qm_kind, .int qm_number, .int qm_sign, .int qm_fault, .int qm_place, .long qm_word, .int qm_told, .ref qm_now, .ref qm_read, .ref qm_kept, .ref qm_snaps, .ref qm_aside, .ref qm_name, .ref qm_readName, .ref qm_keptName, .ref qm_isKept, .ref qm_onces, .int qm_snapMany, .ref qm_order, .ref qm_ordered, .int qm_orderMany, .int qm_orderMost, .int qm_passing, .int qm_movedWho, .int qm_scratched, .ref qm_text, .int qm_texts, .int j7952, .ref qm_line, .ref qm_written, .int qm_lineMany, .int qm_hasWritten, .ref qm_node, .int qm_nodes, .int qm_onesMany, .int qm_within, .int qm_top])), (qm_now, eI G 339 x7984)] H _ := hw
                obtain ⟨v7988, ev7988⟩ : ∃ z : Int32, j7176 + 1 = z := ⟨_, rfl⟩
                have hv7988 : v7988.toInt = j7176.toInt + 1 := by rw [← ev7988]; exact i_add rfl rfl (by omega) (by omega)
                refine lv_iinc (v := v7988) (lv' := [(4, .int v7988), (7, .int j7951), (3, .int r3), (0, .ref qm)]) C.1 C.2.1 dX11_drawHours_126 hl (k := 1) rfl ev7988 (by decide) rfl (fun ls hl => ?_)
                refine lv_goto (tgt := 24) C.1 C.2.1 dX11_drawHours_129 (by decide) ?_
                exact ihJ7179 v7988 j7952 x7984 (by omega) hf7985 hf7986 (by omega) (by omega) _ _ _ hw (lv_sub hl [0, 2, 3] rfl)
              · skip
                have c7983 : j7951.toInt < v7982.toInt := i_leF (X := v7982.toInt) (Y := j7951.toInt) rfl rfl c7983
                refine lv_aload_n C.1 C.2.1 dX11_drawHours_85 rfl (lv_at hl 3 rfl) ?_
                refine lv_bipush (v := 12) C.1 C.2.1 dX11_drawHours_86 (by decide) ?_
                refine x_calliV (As := [.int 12]) (rest := []) (wr := [(qm_now, eI G 339 j7953)]) C hw (s_X11_draw qm 12 qm_thrown qm_tape qm_taped qm_size qm_limit qm_to qm_from qm_kind qm_number qm_sign qm_fault qm_place qm_word qm_told qm_now qm_read qm_kept qm_snaps qm_aside qm_name qm_readName qm_keptName qm_isKept qm_onces qm_snapMany qm_order qm_ordered qm_orderMany qm_orderMost qm_passing qm_movedWho qm_scratched qm_text qm_texts j7952 qm_line qm_written qm_lineMany qm_hasWritten qm_node qm_nodes qm_onesMany qm_within qm_top (by decide)) mwX11_draw kw1695 [0] [1] rfl rfl rfl rfl (by decide) 0 rfl rfl rfl rfl hl.1 rfl (Nat.le_of_ble_eq_true rfl) ⟨(Nat.le_of_ble_eq_true rfl), (Nat.le_of_ble_eq_true rfl)⟩ ⟨(Nat.le_of_ble_eq_true rfl), (Nat.le_of_ble_eq_true rfl)⟩ dX11_drawHours_88 (fun r7989 u9 H locs hp9 hw => ?_)
                obtain ⟨x7990, x7991, rfl, rfl, hf7992, hf7993⟩ := hp9
                have hw : Wd G s A [(qm_now, eI G 339 j7953), (qm, .inr (10, [.int qm_thrown, .ref qm_tape, .int qm_taped, .int qm_size, .int qm_limit, .int qm_to, .int qm_from, .int qm_kind, .int qm_number, .int qm_sign, .int qm_fault, .int qm_place, .long qm_word, .int qm_told, .ref qm_now, .ref qm_read, .ref qm_kept, .ref qm_snaps, .ref qm_aside, .ref qm_name, .ref qm_readName, .ref qm_keptName, .ref qm_isKept, .ref qm_onces, .int qm_snapMany, .ref qm_order, .ref qm_ordered, .int qm_orderMany, .int qm_orderMost, .int qm_passing, .int qm_movedWho, .int qm_scratched, .ref qm_text, .int qm_texts, .int x7990, .ref qm_line, .ref qm_written, .int qm_lineMany, .int qm_hasWritten, .ref qm_node, .int qm_nodes, .int qm_onesMany, .int qm_within, .int qm_top]))] H _ := hw
                have hf7993 : r7989.toInt + 1 ≤ 12 := by first | exact hf7993 | (have e0 : (12 : Int32).toInt = 12 := rfl; omega)
                have J8006 : ∀ (j8005 : Nat → Int32), (slI j8005) → (trI j8005) → ((j8005 0).toInt = (qm_now_c 0).toInt) → ∀ (H : Heap) (locs : List Loc) (ls : Array Slot), Wd G s A [(qm_now, eI G 339 j8005), (qm, .inr (10, [.int qm_thrown, .ref qm_tape, .int qm_taped, .int qm_size, .int qm_limit, .int qm_to, .int qm_from, .int qm_kind, .int qm_number, .int qm_sign, .int qm_fault, .int qm_place, .long qm_word, .int qm_told, .ref qm_now, .ref qm_read, .ref qm_kept, .ref qm_snaps, .ref qm_aside, .ref qm_name, .ref qm_readName, .ref qm_keptName, .ref qm_isKept, .ref qm_onces, .int qm_snapMany, .ref qm_order, .ref qm_ordered, .int qm_orderMany, .int qm_orderMost, .int qm_passing, .int qm_movedWho, .int qm_scratched, .ref qm_text, .int qm_texts, .int x7990, .ref qm_line, .ref qm_written, .int qm_lineMany, .int qm_hasWritten, .ref qm_node, .int qm_nodes, .int qm_onesMany, .int qm_within, .int qm_top]))] H locs → lv_has ls 8 [(7, .int j7951), (4, .int j7176), (3, .int r3), (0, .ref qm)] → W p l e (rmD 5 0 0) s m args below meth c H locs 0 0 Q (F0 m 116 ls []) := by
                  intro j8005 hJ8006_0 hJ8006_1 hJ8006_2 H locs ls hw hl
                  obtain ⟨v8008, ev8008⟩ : ∃ z : Int32, j7951 + 1 = z := ⟨_, rfl⟩
                  have hv8008 : v8008.toInt = j7951.toInt + 1 := by rw [← ev8008]; exact i_add rfl rfl (by omega) (by omega)
                  refine lv_iinc (v := v8008) (lv' := [(7, .int v8008), (4, .int j7176), (3, .int r3), (0, .ref qm)]) C.1 C.2.1 dX11_drawHours_116 hl (k := 0) rfl ev8008 (by decide) rfl (fun ls hl => ?_)
                  refine lv_goto (tgt := 74) C.1 C.2.1 dX11_drawHours_119 (by decide) ?_
                  have hw := hw.sub (w' := [(qm, .inr (10, [.int qm_thrown, .ref qm_tape, .int qm_taped, .int qm_size, .int qm_limit, .int qm_to, .int qm_from, .int qm_kind, .int qm_number, .int qm_sign, .int qm_fault, .int qm_place, .long qm_word, .int qm_told, .ref qm_now, .ref qm_read, .ref qm_kept, .ref qm_snaps, .ref qm_aside, .ref qm_name, .ref qm_readName, .ref qm_keptName, .ref qm_isKept, .ref qm_onces, .int qm_snapMany, .ref qm_order, .ref qm_ordered, .int qm_orderMany, .int qm_orderMost, .int qm_passing, .int qm_movedWho, .int qm_scratched, .ref qm_text, .int qm_texts, .int x7990, .ref qm_line, .ref qm_written, .int qm_lineMany, .int qm_hasWritten, .ref qm_node, .int qm_nodes, .int qm_onesMany, .int qm_within, .int qm_top])), (qm_now, eI G 339 j8005)]) [1, 0] rfl rfl
                  exact ihJ7954 v8008 x7990 j8005 (by omega) hJ8006_0 hJ8006_1 (by omega) (by omega) _ _ _ hw (lv_sub hl [0, 1, 2, 3] rfl)
                refine lv_if_ne (tgt := 116) C.1 C.2.1 dX11_drawHours_91 (by decide) (fun c7994 => ?_) (fun c7994 => ?_)
                · skip
                  have c7994 : r7989.toInt ≠ 0 := i_eqF (X := r7989.toInt) (Y := 0) rfl rfl c7994
                  exact J8006 j7953  hJ7954_0 hJ7954_1 (by omega) _ _ _ hw (lv_sub hl [0, 1, 2, 3] rfl)
                · skip
                  have c7994 : r7989.toInt = 0 := i_eqT (X := r7989.toInt) (Y := 0) rfl rfl c7994
                  refine lv_aload_n C.1 C.2.1 dX11_drawHours_94 rfl (lv_at hl 3 rfl) ?_
                  refine x_get C hw iwX11 10 rfl 1 rfl 14 (by decide) kw1207 rfl dX11_drawHours_95 ?_
                  refine lv_bipush (v := 81) C.1 C.2.1 dX11_drawHours_98 (by decide) ?_
                  refine lv_iload C.1 C.2.1 dX11_drawHours_100 (lv_at hl 0 rfl) ?_
                  refine lv_iadd C.1 C.2.1 dX11_drawHours_102 (x_genP (fun z : Int32 => z.toInt = 81 + j7951.toInt) (i_add (X := 81) (Y := j7951.toInt) rfl rfl (by omega) (by omega)) (fun v8009 hv8009 => ?_))
                  refine lv_iconst (v := 1) C.1 C.2.1 dX11_drawHours_103 (by decide) ?_
                  refine lv_aload_n C.1 C.2.1 dX11_drawHours_104 rfl (lv_at hl 3 rfl) ?_
                  refine x_get C hw iwX11 10 rfl 1 rfl 14 (by decide) kw1207 rfl dX11_drawHours_105 ?_
                  refine lv_bipush (v := 81) C.1 C.2.1 dX11_drawHours_108 (by decide) ?_
                  refine lv_iload C.1 C.2.1 dX11_drawHours_110 (lv_at hl 0 rfl) ?_
                  refine lv_iadd C.1 C.2.1 dX11_drawHours_112 (x_genP (fun z : Int32 => z.toInt = 81 + j7951.toInt) (i_add (X := 81) (Y := j7951.toInt) rfl rfl (by omega) (by omega)) (fun v8010 hv8010 => ?_))
                  refine x_iald (v := (j7953 v8010.toNatClampNeg)) C hw 0 rfl (i_in (by omega) (by omega)) rfl dX11_drawHours_113 (x_gen (fun v8011 => ?_))
                  refine lv_isub C.1 C.2.1 dX11_drawHours_114 (x_gen (fun v8012 => ?_))
                  obtain ⟨g8013, eg8013⟩ : ∃ z, upd j7953 (v8009.toNatClampNeg) v8012 = z := ⟨_, rfl⟩
                  have mm8014 := i_cn v8009
                  have fs8015 : slI g8013 := eg8013 ▸ slI_upd hJ7954_0 (by intro q; omega) (by intro q; omega) (by intro q; omega)
                  have mm8016 : (g8013 0).toInt = (j7953 0).toInt := by rw [← eg8013, upd_lo (by omega)]
                  have mm8017 : (g8013 1).toInt = (j7953 1).toInt := by rw [← eg8013, upd_lo (by omega)]
                  have ft8018 : trI g8013 := eg8013 ▸ trI_lo hJ7954_1 (by omega)
                  refine x_iast (f' := g8013) (w' := [(qm_now, eI G 339 g8013), (qm, .inr (10, [.int qm_thrown, .ref qm_tape, .int qm_taped, .int qm_size, .int qm_limit, .int qm_to, .int qm_from, .int qm_kind, .int qm_number, .int qm_sign, .int qm_fault, .int qm_place, .long qm_word, .int qm_told, .ref qm_now, .ref qm_read, .ref qm_kept, .ref qm_snaps, .ref qm_aside, .ref qm_name, .ref qm_readName, .ref qm_keptName, .ref qm_isKept, .ref qm_onces, .int qm_snapMany, .ref qm_order, .ref qm_ordered, .int qm_orderMany, .int qm_orderMost, .int qm_passing, .int qm_movedWho, .int qm_scratched, .ref qm_text, .int qm_texts, .int x7990, .ref qm_line, .ref qm_written, .int qm_lineMany, .int qm_hasWritten, .ref qm_node, .int qm_nodes, .int qm_onesMany, .int qm_within, .int qm_top]))]) C hw 0 rfl (i_in (by omega) (by omega)) eg8013 rfl dX11_drawHours_115 (fun H locs hw => ?_)
                  exact J8006 g8013  fs8015 ft8018 (by omega) _ _ _ hw (lv_sub hl [0, 1, 2, 3] rfl)
          exact loopJ7954 _ 0 x7476 j7490 (Nat.lt_succ_self _) hJ7491_0 hJ7491_1 (by omega) (by decide) _ _ _ hw (lv_sub hl [0, 1, 2, 3] rfl)
        refine lv_if_ne (tgt := 71) C.1 C.2.1 dX11_drawHours_58 (by decide) (fun c7483 => ?_) (fun c7483 => ?_)
        · skip
          have c7483 : r7480.toInt ≠ 0 := i_eqF (X := r7480.toInt) (Y := 0) rfl rfl c7483
          exact J7491 j7178  hJ7179_0 hJ7179_1 (by omega) _ _ _ hw (lv_sub hl [2, 3, 4] rfl)
        · skip
          have c7483 : r7480.toInt = 0 := i_eqT (X := r7480.toInt) (Y := 0) rfl rfl c7483
          refine lv_aload_n C.1 C.2.1 dX11_drawHours_61 rfl (lv_at hl 4 rfl) ?_
          refine lv_iconst (v := 0) C.1 C.2.1 dX11_drawHours_62 (by decide) ?_
          refine lv_iload C.1 C.2.1 dX11_drawHours_63 (lv_at hl 1 rfl) ?_
          refine lv_iload C.1 C.2.1 dX11_drawHours_65 (lv_at hl 0 rfl) ?_
          refine x_calliV (As := [.int 0, .int r7470, .int r7475]) (rest := []) (wr := []) C hw (s_X11_live qm 0 r7470 r7475 qm_thrown qm_tape qm_taped qm_size qm_limit qm_to qm_from qm_kind qm_number qm_sign qm_fault qm_place qm_word qm_told qm_now qm_read qm_kept qm_snaps qm_aside qm_name qm_readName qm_keptName qm_isKept qm_onces qm_snapMany qm_order qm_ordered qm_orderMany qm_orderMost qm_passing qm_movedWho qm_scratched qm_text qm_texts x7476 qm_line qm_written qm_lineMany qm_hasWritten qm_node qm_nodes qm_onesMany qm_within qm_top j7178 (by omega) (by omega) hJ7179_0 hJ7179_1) mwX11_live kw1565 [0, 1] [] rfl rfl rfl rfl (by decide) 0 rfl rfl rfl rfl hl.1 rfl (Nat.le_of_ble_eq_true rfl) ⟨(Nat.le_of_ble_eq_true rfl), (Nat.le_of_ble_eq_true rfl)⟩ ⟨(Nat.le_of_ble_eq_true rfl), (Nat.le_of_ble_eq_true rfl)⟩ dX11_drawHours_67 (fun r8019 u9 H locs hp9 hw => ?_)
          obtain ⟨x8020, x8021, rfl, rfl, hf8022, hf8023, hf8024⟩ := hp9
          have hw : Wd G s A [(qm, .inr (10, [.int qm_thrown, .ref qm_tape, .int qm_taped, .int qm_size, .int qm_limit, .int qm_to, .int qm_from, .int qm_kind, .int qm_number, .int qm_sign, .int qm_fault, .int qm_place, .long qm_word, .int qm_told, .ref qm_now, .ref qm_read, .ref qm_kept, .ref qm_snaps, .ref qm_aside, .ref qm_name, .ref qm_readName, .ref qm_keptName, .ref qm_isKept, .ref qm_onces, .int qm_snapMany, .ref qm_order, .ref qm_ordered, .int qm_orderMany, .int qm_orderMost, .int qm_passing, .int qm_movedWho, .int qm_scratched, .ref qm_text, .int qm_texts, .int x7476, .ref qm_line, .ref qm_written, .int qm_lineMany, .int qm_hasWritten, .ref qm_node, .int qm_nodes, .int qm_onesMany, .int qm_within, .int qm_top])), (qm_now, eI G 339 x8020)] H _ := hw
          refine lv_pop C.1 C.2.1 dX11_drawHours_70 rfl ?_
          exact J7491 x8020  hf8022 hf8023 (by omega) _ _ _ hw (lv_sub hl [2, 3, 4] rfl)
  exact loopJ7179 _ 0 a2 qm_now_c (Nat.lt_succ_self _) hf_qm_now_c hf1_qm_now_c (by omega) (by decide) _ _ _ hw (lv_sub hl [0, 1, 2] rfl)
theorem dX11_drawn_0 : decode cX11_drawn 0 = .ok (.aload_n 0, 1) := by decide +kernel
theorem dX11_drawn_1 : decode cX11_drawn 1 = .ok (.iconst 0, 1) := by decide +kernel
theorem dX11_drawn_2 : decode cX11_drawn 2 = .ok (.putfield 1, 3) := by decide +kernel
theorem dX11_drawn_5 : decode cX11_drawn 5 = .ok (.iload_n 1, 1) := by decide +kernel
theorem dX11_drawn_6 : decode cX11_drawn 6 = .ok (.iconst 1, 1) := by decide +kernel
theorem dX11_drawn_7 : decode cX11_drawn 7 = .ok (.bipush 24, 2) := by decide +kernel
theorem dX11_drawn_9 : decode cX11_drawn 9 = .ok (.invokestatic 75, 3) := by decide +kernel
theorem dX11_drawn_12 : decode cX11_drawn 12 = .ok (.ifCond .eq 12, 3) := by decide +kernel
theorem dX11_drawn_24 : decode cX11_drawn 24 = .ok (.iconst (-1), 1) := by decide +kernel
theorem dX11_drawn_25 : decode cX11_drawn 25 = .ok (.ireturn, 1) := by decide +kernel
theorem dX11_drawn_15 : decode cX11_drawn 15 = .ok (.aload_n 0, 1) := by decide +kernel
theorem dX11_drawn_16 : decode cX11_drawn 16 = .ok (.getfield 98, 3) := by decide +kernel
theorem dX11_drawn_19 : decode cX11_drawn 19 = .ok (.iconst 0, 1) := by decide +kernel
theorem dX11_drawn_20 : decode cX11_drawn 20 = .ok (.iaload, 1) := by decide +kernel
theorem dX11_drawn_21 : decode cX11_drawn 21 = .ok (.ifCond .ne 5, 3) := by decide +kernel
theorem dX11_drawn_26 : decode cX11_drawn 26 = .ok (.aload_n 0, 1) := by decide +kernel
theorem dX11_drawn_27 : decode cX11_drawn 27 = .ok (.getfield 98, 3) := by decide +kernel
theorem dX11_drawn_30 : decode cX11_drawn 30 = .ok (.bipush 64, 2) := by decide +kernel
theorem dX11_drawn_32 : decode cX11_drawn 32 = .ok (.iaload, 1) := by decide +kernel
theorem dX11_drawn_33 : decode cX11_drawn 33 = .ok (.sipush 400, 3) := by decide +kernel
theorem dX11_drawn_36 : decode cX11_drawn 36 = .ok (.if_icmp .ne 5, 3) := by decide +kernel
theorem dX11_drawn_41 : decode cX11_drawn 41 = .ok (.aload_n 0, 1) := by decide +kernel
theorem dX11_drawn_42 : decode cX11_drawn 42 = .ok (.invokevirtual 289, 3) := by decide +kernel
theorem dX11_drawn_45 : decode cX11_drawn 45 = .ok (.aload_n 0, 1) := by decide +kernel
theorem dX11_drawn_46 : decode cX11_drawn 46 = .ok (.iload_n 1, 1) := by decide +kernel
theorem dX11_drawn_47 : decode cX11_drawn 47 = .ok (.iload_n 2, 1) := by decide +kernel
theorem dX11_drawn_48 : decode cX11_drawn 48 = .ok (.invokevirtual 353, 3) := by decide +kernel
theorem mwX11_drawHours : MwV yX11_drawHours cX11_drawHours 8 (some .int) 2 := ⟨⟨kw1694, kw15, by decide +kernel⟩, kw1693, kS95⟩
theorem dX11_drawn_51 : decode cX11_drawn 51 = .ok (.ireturn, 1) := by decide +kernel
theorem dX11_drawn_39 : decode cX11_drawn 39 = .ok (.iconst 0, 1) := by decide +kernel
theorem dX11_drawn_40 : decode cX11_drawn 40 = .ok (.ireturn, 1) := by decide +kernel
set_option maxHeartbeats 4000000 in
set_option maxRecDepth 100000 in
theorem s_X11_drawn {l : Launch} {G : Gc} (qm : Nat) (a1 : Int32) (a2 : Int32) (qm_thrown : Int32) (qm_tape : Nat) (qm_taped : Int32) (qm_size : Int32) (qm_limit : Int32) (qm_to : Int32) (qm_from : Int32) (qm_kind : Int32) (qm_number : Int32) (qm_sign : Int32) (qm_fault : Int32) (qm_place : Int32) (qm_word : Int64) (qm_told : Int32) (qm_now : Nat) (qm_read : Nat) (qm_kept : Nat) (qm_snaps : Nat) (qm_aside : Nat) (qm_name : Nat) (qm_readName : Nat) (qm_keptName : Nat) (qm_isKept : Nat) (qm_onces : Nat) (qm_snapMany : Int32) (qm_order : Nat) (qm_ordered : Nat) (qm_orderMany : Int32) (qm_orderMost : Int32) (qm_passing : Int32) (qm_movedWho : Int32) (qm_scratched : Int32) (qm_text : Nat) (qm_texts : Int32) (qm_seed : Int32) (qm_line : Nat) (qm_written : Nat) (qm_lineMany : Int32) (qm_hasWritten : Int32) (qm_node : Nat) (qm_nodes : Int32) (qm_onesMany : Int32) (qm_within : Int32) (qm_top : Int32) (qm_now_c : Nat → Int32) (qm_snaps_c : Nat → Int32) (hf_qm_now_c : slI qm_now_c) (hf1_qm_now_c : trI qm_now_c) (hi_qm_snapMany : 0 ≤ qm_snapMany.toInt ∧ qm_snapMany.toInt ≤ 8) : Ci l yX11_drawn cX11_drawn 3 (some .int) 6 0 0 G [.ref qm, .int a1, .int a2] [(qm, .inr (10, [.int qm_thrown, .ref qm_tape, .int qm_taped, .int qm_size, .int qm_limit, .int qm_to, .int qm_from, .int qm_kind, .int qm_number, .int qm_sign, .int qm_fault, .int qm_place, .long qm_word, .int qm_told, .ref qm_now, .ref qm_read, .ref qm_kept, .ref qm_snaps, .ref qm_aside, .ref qm_name, .ref qm_readName, .ref qm_keptName, .ref qm_isKept, .ref qm_onces, .int qm_snapMany, .ref qm_order, .ref qm_ordered, .int qm_orderMany, .int qm_orderMost, .int qm_passing, .int qm_movedWho, .int qm_scratched, .ref qm_text, .int qm_texts, .int qm_seed, .ref qm_line, .ref qm_written, .int qm_lineMany, .int qm_hasWritten, .ref qm_node, .int qm_nodes, .int qm_onesMany, .int qm_within, .int qm_top])), (qm_now, eI G 339 qm_now_c), (qm_snaps, eI G 264 qm_snaps_c)] (fun (r9 : Int32) (u9 : va_W) => ∃ (x0_qm_snapMany : Int32) (x1_qm_seed : Int32) (x2_qm_now_c : Nat → Int32) (x3_qm_snaps_c : Nat → Int32) (r_x : Int32), r9 = r_x ∧ u9 = [(qm, .inr (10, [.int 0, .ref qm_tape, .int qm_taped, .int qm_size, .int qm_limit, .int qm_to, .int qm_from, .int qm_kind, .int qm_number, .int qm_sign, .int qm_fault, .int qm_place, .long qm_word, .int qm_told, .ref qm_now, .ref qm_read, .ref qm_kept, .ref qm_snaps, .ref qm_aside, .ref qm_name, .ref qm_readName, .ref qm_keptName, .ref qm_isKept, .ref qm_onces, .int x0_qm_snapMany, .ref qm_order, .ref qm_ordered, .int qm_orderMany, .int qm_orderMost, .int qm_passing, .int qm_movedWho, .int qm_scratched, .ref qm_text, .int qm_texts, .int x1_qm_seed, .ref qm_line, .ref qm_written, .int qm_lineMany, .int qm_hasWritten, .ref qm_node, .int qm_nodes, .int qm_onesMany, .int qm_within, .int qm_top])), (qm_now, eI G 339 x2_qm_now_c), (qm_snaps, eI G 264 x3_qm_snaps_c)] ∧ (0 ≤ x0_qm_snapMany.toInt ∧ x0_qm_snapMany.toInt ≤ 8) ∧ (slI x2_qm_now_c) ∧ (trI x2_qm_now_c)) := by
  refine Ci.ofQ (by decide) (Nat.le_of_ble_eq_true rfl) ?_
  intro p e s m below meth c ls A args Q hQ B hw hl
  have C : CallFix p m c cX11_drawn 3 s args gw "LanternStateModel" := B.1
  have hl : lv_has ls 3 [(0, .ref qm), (1, .int a1), (2, .int a2)] := hl
  refine lv_aload_n C.1 C.2.1 dX11_drawn_0 rfl (lv_at hl 0 rfl) ?_
  refine lv_iconst (v := 0) C.1 C.2.1 dX11_drawn_1 (by decide) ?_
  refine x_put (w' := [(qm, .inr (10, [.int 0, .ref qm_tape, .int qm_taped, .int qm_size, .int qm_limit, .int qm_to, .int qm_from, .int qm_kind, .int qm_number, .int qm_sign, .int qm_fault, .int qm_place, .long qm_word, .int qm_told, .ref qm_now, .ref qm_read, .ref qm_kept, .ref qm_snaps, .ref qm_aside, .ref qm_name, .ref qm_readName, .ref qm_keptName, .ref qm_isKept, .ref qm_onces, .int qm_snapMany, .ref qm_order, .ref qm_ordered, .int qm_orderMany, .int qm_orderMost, .int qm_passing, .int qm_movedWho, .int qm_scratched, .ref qm_text, .int qm_texts, .int qm_seed, .ref qm_line, .ref qm_written, .int qm_lineMany, .int qm_hasWritten, .ref qm_node, .int qm_nodes, .int qm_onesMany, .int qm_within, .int qm_top])), (qm_now, eI G 339 qm_now_c), (qm_snaps, eI G 264 qm_snaps_c)]) C hw iwX11 tyX11_ok nmX11 10 rfl 0 rfl 0 (by decide) kw1193 rfl rfl rfl (Nat.le_of_ble_eq_true rfl) rfl dX11_drawn_2 (fun H locs hw => ?_)
  refine lv_iload_n C.1 C.2.1 dX11_drawn_5 rfl (lv_at hl 1 rfl) ?_
  refine lv_iconst (v := 1) C.1 C.2.1 dX11_drawn_6 (by decide) ?_
  refine lv_bipush (v := 24) C.1 C.2.1 dX11_drawn_7 (by decide) ?_
  refine x_calliS (As := [.int a1, .int 1, .int 24]) (rest := []) (wr := [(qm, .inr (10, [.int 0, .ref qm_tape, .int qm_taped, .int qm_size, .int qm_limit, .int qm_to, .int qm_from, .int qm_kind, .int qm_number, .int qm_sign, .int qm_fault, .int qm_place, .long qm_word, .int qm_told, .ref qm_now, .ref qm_read, .ref qm_kept, .ref qm_snaps, .ref qm_aside, .ref qm_name, .ref qm_readName, .ref qm_keptName, .ref qm_isKept, .ref qm_onces, .int qm_snapMany, .ref qm_order, .ref qm_ordered, .int qm_orderMany, .int qm_orderMost, .int qm_passing, .int qm_movedWho, .int qm_scratched, .ref qm_text, .int qm_texts, .int qm_seed, .ref qm_line, .ref qm_written, .int qm_lineMany, .int qm_hasWritten, .ref qm_node, .int qm_nodes, .int qm_onesMany, .int qm_within, .int qm_top])), (qm_now, eI G 339 qm_now_c), (qm_snaps, eI G 264 qm_snaps_c)]) C hw (s_X11_isIn a1 1 24) mwX11_isIn kw1396 [] [0, 1, 2] rfl rfl rfl rfl (by decide) rfl hl.1 rfl (Nat.le_of_ble_eq_true rfl) ⟨(Nat.le_of_ble_eq_true rfl), (Nat.le_of_ble_eq_true rfl)⟩ ⟨(Nat.le_of_ble_eq_true rfl), (Nat.le_of_ble_eq_true rfl)⟩ dX11_drawn_9 (fun r1 u9 H locs hp9 hw => ?_)
  rcases hp9 with ⟨rfl, rfl, hf2⟩ | ⟨rfl, rfl, hf3, hf4⟩
  · skip
    have hw : Wd G s A [(qm, .inr (10, [.int 0, .ref qm_tape, .int qm_taped, .int qm_size, .int qm_limit, .int qm_to, .int qm_from, .int qm_kind, .int qm_number, .int qm_sign, .int qm_fault, .int qm_place, .long qm_word, .int qm_told, .ref qm_now, .ref qm_read, .ref qm_kept, .ref qm_snaps, .ref qm_aside, .ref qm_name, .ref qm_readName, .ref qm_keptName, .ref qm_isKept, .ref qm_onces, .int qm_snapMany, .ref qm_order, .ref qm_ordered, .int qm_orderMany, .int qm_orderMost, .int qm_passing, .int qm_movedWho, .int qm_scratched, .ref qm_text, .int qm_texts, .int qm_seed, .ref qm_line, .ref qm_written, .int qm_lineMany, .int qm_hasWritten, .ref qm_node, .int qm_nodes, .int qm_onesMany, .int qm_within, .int qm_top])), (qm_now, eI G 339 qm_now_c), (qm_snaps, eI G 264 qm_snaps_c)] H _ := hw
    have hf2 : a1.toInt < 1 ∨ 24 < a1.toInt := by first | exact hf2 | (have e0 : (1 : Int32).toInt = 1 := rfl; have e1 : (24 : Int32).toInt = 24 := rfl; omega)
    refine lv_if_eq (tgt := 24) C.1 C.2.1 dX11_drawn_12 (by decide) (fun _ => ?_) (fun h9 => absurd (by decide) h9)
    refine lv_iconst (v := (-1)) C.1 C.2.1 dX11_drawn_24 (by decide) ?_
    exact x_retiQ hQ B hw ⟨qm_snapMany, qm_seed, qm_now_c, qm_snaps_c, (-1), rfl, rfl, (by omega), hf_qm_now_c, hf1_qm_now_c⟩ (Nat.le_of_ble_eq_true rfl) (Nat.le_of_ble_eq_true rfl) dX11_drawn_25
  · skip
    have hw : Wd G s A [(qm, .inr (10, [.int 0, .ref qm_tape, .int qm_taped, .int qm_size, .int qm_limit, .int qm_to, .int qm_from, .int qm_kind, .int qm_number, .int qm_sign, .int qm_fault, .int qm_place, .long qm_word, .int qm_told, .ref qm_now, .ref qm_read, .ref qm_kept, .ref qm_snaps, .ref qm_aside, .ref qm_name, .ref qm_readName, .ref qm_keptName, .ref qm_isKept, .ref qm_onces, .int qm_snapMany, .ref qm_order, .ref qm_ordered, .int qm_orderMany, .int qm_orderMost, .int qm_passing, .int qm_movedWho, .int qm_scratched, .ref qm_text, .int qm_texts, .int qm_seed, .ref qm_line, .ref qm_written, .int qm_lineMany, .int qm_hasWritten, .ref qm_node, .int qm_nodes, .int qm_onesMany, .int qm_within, .int qm_top])), (qm_now, eI G 339 qm_now_c), (qm_snaps, eI G 264 qm_snaps_c)] H _ := hw
    have hf3 : 1 ≤ a1.toInt := by first | exact hf3 | (have e0 : (1 : Int32).toInt = 1 := rfl; omega)
    have hf4 : a1.toInt ≤ 24 := by first | exact hf4 | (have e0 : (24 : Int32).toInt = 24 := rfl; omega)
    refine lv_if_eq (tgt := 24) C.1 C.2.1 dX11_drawn_12 (by decide) (fun h9 => absurd h9 (by decide)) (fun _ => ?_)
    refine lv_aload_n C.1 C.2.1 dX11_drawn_15 rfl (lv_at hl 0 rfl) ?_
    refine x_get C hw iwX11 10 rfl 0 rfl 14 (by decide) kw1207 rfl dX11_drawn_16 ?_
    refine lv_iconst (v := 0) C.1 C.2.1 dX11_drawn_19 (by decide) ?_
    have mm5 := hf_qm_now_c 0
    refine x_iald (v := (qm_now_c 0)) C hw 1 rfl (x_in rfl) rfl dX11_drawn_20 (x_genP (fun z : Int32 => z.toInt = (qm_now_c 0).toInt ∧ 0 ≤ z.toInt ∧ z.toInt ≤ 6) ⟨rfl, by omega⟩ (fun v6 hv6 => ?_))
    refine lv_if_ne (tgt := 26) C.1 C.2.1 dX11_drawn_21 (by decide) (fun c7 => ?_) (fun c7 => ?_)
    · skip
      have c7 : v6.toInt ≠ 0 := i_eqF (X := v6.toInt) (Y := 0) rfl rfl c7
      refine lv_aload_n C.1 C.2.1 dX11_drawn_26 rfl (lv_at hl 0 rfl) ?_
      refine x_get C hw iwX11 10 rfl 0 rfl 14 (by decide) kw1207 rfl dX11_drawn_27 ?_
      refine lv_bipush (v := 64) C.1 C.2.1 dX11_drawn_30 (by decide) ?_
      refine x_iald (v := (qm_now_c 64)) C hw 1 rfl (x_in rfl) rfl dX11_drawn_32 (x_gen (fun v8 => ?_))
      refine lv_sipush (v := 400) C.1 C.2.1 dX11_drawn_33 (by decide) ?_
      refine lv_icmp_ne (tgt := 41) C.1 C.2.1 dX11_drawn_36 (by decide) (fun c9 => ?_) (fun c9 => ?_)
      · skip
        have c9 : v8.toInt ≠ 400 := i_eqF (X := v8.toInt) (Y := 400) rfl rfl c9
        have bc9_v8 := i_bd v8
        refine lv_aload_n C.1 C.2.1 dX11_drawn_41 rfl (lv_at hl 0 rfl) ?_
        refine x_callvV (As := []) (rest := []) (wr := []) C hw (s_X11_snap qm 0 qm_tape qm_taped qm_size qm_limit qm_to qm_from qm_kind qm_number qm_sign qm_fault qm_place qm_word qm_told qm_now qm_read qm_kept qm_snaps qm_aside qm_name qm_readName qm_keptName qm_isKept qm_onces qm_snapMany qm_order qm_ordered qm_orderMany qm_orderMost qm_passing qm_movedWho qm_scratched qm_text qm_texts qm_seed qm_line qm_written qm_lineMany qm_hasWritten qm_node qm_nodes qm_onesMany qm_within qm_top qm_now_c qm_snaps_c hf_qm_now_c hf1_qm_now_c (by omega)) mwX11_snap kw1561 [0, 1, 2] [] rfl rfl rfl rfl (by decide) 0 rfl rfl rfl rfl hl.1 rfl (Nat.le_of_ble_eq_true rfl) ⟨(Nat.le_of_ble_eq_true rfl), (Nat.le_of_ble_eq_true rfl)⟩ ⟨(Nat.le_of_ble_eq_true rfl), (Nat.le_of_ble_eq_true rfl)⟩ dX11_drawn_42 (fun  u9 H locs hp9 hw => ?_)
        obtain ⟨x10, x11, rfl, hf12⟩ := hp9
        have hw : Wd G s A [(qm, .inr (10, [.int 0, .ref qm_tape, .int qm_taped, .int qm_size, .int qm_limit, .int qm_to, .int qm_from, .int qm_kind, .int qm_number, .int qm_sign, .int qm_fault, .int qm_place, .long qm_word, .int qm_told, .ref qm_now, .ref qm_read, .ref qm_kept, .ref qm_snaps, .ref qm_aside, .ref qm_name, .ref qm_readName, .ref qm_keptName, .ref qm_isKept, .ref qm_onces, .int x10, .ref qm_order, .ref qm_ordered, .int qm_orderMany, .int qm_orderMost, .int qm_passing, .int qm_movedWho, .int qm_scratched, .ref qm_text, .int qm_texts, .int qm_seed, .ref qm_line, .ref qm_written, .int qm_lineMany, .int qm_hasWritten, .ref qm_node, .int qm_nodes, .int qm_onesMany, .int qm_within, .int qm_top])), (qm_now, eI G 339 qm_now_c), (qm_snaps, eI G 264 x11)] H _ := hw
        refine lv_aload_n C.1 C.2.1 dX11_drawn_45 rfl (lv_at hl 0 rfl) ?_
        refine lv_iload_n C.1 C.2.1 dX11_drawn_46 rfl (lv_at hl 1 rfl) ?_
        refine lv_iload_n C.1 C.2.1 dX11_drawn_47 rfl (lv_at hl 2 rfl) ?_
        refine x_calliV (As := [.int a1, .int a2]) (rest := []) (wr := [(qm_snaps, eI G 264 x11)]) C hw (s_X11_drawHours qm a1 a2 0 qm_tape qm_taped qm_size qm_limit qm_to qm_from qm_kind qm_number qm_sign qm_fault qm_place qm_word qm_told qm_now qm_read qm_kept qm_snaps qm_aside qm_name qm_readName qm_keptName qm_isKept qm_onces x10 qm_order qm_ordered qm_orderMany qm_orderMost qm_passing qm_movedWho qm_scratched qm_text qm_texts qm_seed qm_line qm_written qm_lineMany qm_hasWritten qm_node qm_nodes qm_onesMany qm_within qm_top qm_now_c hf_qm_now_c hf1_qm_now_c (by omega)) mwX11_drawHours kw1691 [0, 1] [2] rfl rfl rfl rfl (by decide) 0 rfl rfl rfl rfl hl.1 rfl (Nat.le_of_ble_eq_true rfl) ⟨(Nat.le_of_ble_eq_true rfl), (Nat.le_of_ble_eq_true rfl)⟩ ⟨(Nat.le_of_ble_eq_true rfl), (Nat.le_of_ble_eq_true rfl)⟩ dX11_drawn_48 (fun r13 u9 H locs hp9 hw => ?_)
        obtain ⟨x14, x15, x16, rfl, rfl, hf17, hf18, hf19⟩ := hp9
        have hw : Wd G s A [(qm_snaps, eI G 264 x11), (qm, .inr (10, [.int 0, .ref qm_tape, .int qm_taped, .int qm_size, .int qm_limit, .int qm_to, .int qm_from, .int qm_kind, .int qm_number, .int qm_sign, .int qm_fault, .int qm_place, .long qm_word, .int qm_told, .ref qm_now, .ref qm_read, .ref qm_kept, .ref qm_snaps, .ref qm_aside, .ref qm_name, .ref qm_readName, .ref qm_keptName, .ref qm_isKept, .ref qm_onces, .int x10, .ref qm_order, .ref qm_ordered, .int qm_orderMany, .int qm_orderMost, .int qm_passing, .int qm_movedWho, .int qm_scratched, .ref qm_text, .int qm_texts, .int x14, .ref qm_line, .ref qm_written, .int qm_lineMany, .int qm_hasWritten, .ref qm_node, .int qm_nodes, .int qm_onesMany, .int qm_within, .int qm_top])), (qm_now, eI G 339 x15)] H _ := hw
        have hw := hw.sub (w' := [(qm, .inr (10, [.int 0, .ref qm_tape, .int qm_taped, .int qm_size, .int qm_limit, .int qm_to, .int qm_from, .int qm_kind, .int qm_number, .int qm_sign, .int qm_fault, .int qm_place, .long qm_word, .int qm_told, .ref qm_now, .ref qm_read, .ref qm_kept, .ref qm_snaps, .ref qm_aside, .ref qm_name, .ref qm_readName, .ref qm_keptName, .ref qm_isKept, .ref qm_onces, .int x10, .ref qm_order, .ref qm_ordered, .int qm_orderMany, .int qm_orderMost, .int qm_passing, .int qm_movedWho, .int qm_scratched, .ref qm_text, .int qm_texts, .int x14, .ref qm_line, .ref qm_written, .int qm_lineMany, .int qm_hasWritten, .ref qm_node, .int qm_nodes, .int qm_onesMany, .int qm_within, .int qm_top])), (qm_now, eI G 339 x15), (qm_snaps, eI G 264 x11)]) [1, 2, 0] rfl rfl
        exact x_retiQ hQ B hw ⟨x10, x14, x15, x11, r13, rfl, rfl, (by omega), hf17, hf18⟩ (Nat.le_of_ble_eq_true rfl) (Nat.le_of_ble_eq_true rfl) dX11_drawn_51
      · skip
        have c9 : v8.toInt = 400 := i_eqT (X := v8.toInt) (Y := 400) rfl rfl c9
        have bc9_v8 := i_bd v8
        refine lv_iconst (v := 0) C.1 C.2.1 dX11_drawn_39 (by decide) ?_
        exact x_retiQ hQ B hw ⟨qm_snapMany, qm_seed, qm_now_c, qm_snaps_c, 0, rfl, rfl, (by omega), hf_qm_now_c, hf1_qm_now_c⟩ (Nat.le_of_ble_eq_true rfl) (Nat.le_of_ble_eq_true rfl) dX11_drawn_40
    · skip
      have c7 : v6.toInt = 0 := i_eqT (X := v6.toInt) (Y := 0) rfl rfl c7
      refine lv_iconst (v := (-1)) C.1 C.2.1 dX11_drawn_24 (by decide) ?_
      exact x_retiQ hQ B hw ⟨qm_snapMany, qm_seed, qm_now_c, qm_snaps_c, (-1), rfl, rfl, (by omega), hf_qm_now_c, hf1_qm_now_c⟩ (Nat.le_of_ble_eq_true rfl) (Nat.le_of_ble_eq_true rfl) dX11_drawn_25
theorem dX11_layAside_0 : decode cX11_layAside 0 = .ok (.iconst 0, 1) := by decide +kernel
theorem dX11_layAside_1 : decode cX11_layAside 1 = .ok (.istore_n 1, 1) := by decide +kernel
theorem dX11_layAside_2 : decode cX11_layAside 2 = .ok (.iload_n 1, 1) := by decide +kernel
theorem dX11_layAside_3 : decode cX11_layAside 3 = .ok (.bipush 33, 2) := by decide +kernel
theorem dX11_layAside_5 : decode cX11_layAside 5 = .ok (.if_icmp .ge 24, 3) := by decide +kernel
theorem dX11_layAside_8 : decode cX11_layAside 8 = .ok (.aload_n 0, 1) := by decide +kernel
theorem dX11_layAside_9 : decode cX11_layAside 9 = .ok (.getfield 110, 3) := by decide +kernel
theorem dX11_layAside_12 : decode cX11_layAside 12 = .ok (.iload_n 1, 1) := by decide +kernel
theorem dX11_layAside_13 : decode cX11_layAside 13 = .ok (.aload_n 0, 1) := by decide +kernel
theorem dX11_layAside_14 : decode cX11_layAside 14 = .ok (.getfield 98, 3) := by decide +kernel
theorem dX11_layAside_17 : decode cX11_layAside 17 = .ok (.bipush 64, 2) := by decide +kernel
theorem dX11_layAside_19 : decode cX11_layAside 19 = .ok (.iload_n 1, 1) := by decide +kernel
theorem dX11_layAside_20 : decode cX11_layAside 20 = .ok (.iadd, 1) := by decide +kernel
theorem dX11_layAside_21 : decode cX11_layAside 21 = .ok (.iaload, 1) := by decide +kernel
theorem dX11_layAside_22 : decode cX11_layAside 22 = .ok (.iastore, 1) := by decide +kernel
theorem dX11_layAside_23 : decode cX11_layAside 23 = .ok (.iinc 1 1, 3) := by decide +kernel
theorem dX11_layAside_26 : decode cX11_layAside 26 = .ok (.goto (-24), 3) := by decide +kernel
theorem dX11_layAside_29 : decode cX11_layAside 29 = .ok (.return_, 1) := by decide +kernel
set_option maxHeartbeats 4000000 in
set_option maxRecDepth 100000 in
theorem s_X11_layAside {l : Launch} {G : Gc} (qm : Nat) (qm_thrown : Int32) (qm_tape : Nat) (qm_taped : Int32) (qm_size : Int32) (qm_limit : Int32) (qm_to : Int32) (qm_from : Int32) (qm_kind : Int32) (qm_number : Int32) (qm_sign : Int32) (qm_fault : Int32) (qm_place : Int32) (qm_word : Int64) (qm_told : Int32) (qm_now : Nat) (qm_read : Nat) (qm_kept : Nat) (qm_snaps : Nat) (qm_aside : Nat) (qm_name : Nat) (qm_readName : Nat) (qm_keptName : Nat) (qm_isKept : Nat) (qm_onces : Nat) (qm_snapMany : Int32) (qm_order : Nat) (qm_ordered : Nat) (qm_orderMany : Int32) (qm_orderMost : Int32) (qm_passing : Int32) (qm_movedWho : Int32) (qm_scratched : Int32) (qm_text : Nat) (qm_texts : Int32) (qm_seed : Int32) (qm_line : Nat) (qm_written : Nat) (qm_lineMany : Int32) (qm_hasWritten : Int32) (qm_node : Nat) (qm_nodes : Int32) (qm_onesMany : Int32) (qm_within : Int32) (qm_top : Int32) (qm_now_c : Nat → Int32) (qm_aside_c : Nat → Int32) (hf_qm_now_c : slI qm_now_c) (hf1_qm_now_c : trI qm_now_c) : Cv l yX11_layAside cX11_layAside 2 0 0 0 G [.ref qm] [(qm, .inr (10, [.int qm_thrown, .ref qm_tape, .int qm_taped, .int qm_size, .int qm_limit, .int qm_to, .int qm_from, .int qm_kind, .int qm_number, .int qm_sign, .int qm_fault, .int qm_place, .long qm_word, .int qm_told, .ref qm_now, .ref qm_read, .ref qm_kept, .ref qm_snaps, .ref qm_aside, .ref qm_name, .ref qm_readName, .ref qm_keptName, .ref qm_isKept, .ref qm_onces, .int qm_snapMany, .ref qm_order, .ref qm_ordered, .int qm_orderMany, .int qm_orderMost, .int qm_passing, .int qm_movedWho, .int qm_scratched, .ref qm_text, .int qm_texts, .int qm_seed, .ref qm_line, .ref qm_written, .int qm_lineMany, .int qm_hasWritten, .ref qm_node, .int qm_nodes, .int qm_onesMany, .int qm_within, .int qm_top])), (qm_now, eI G 339 qm_now_c), (qm_aside, eI G 33 qm_aside_c)] (fun (u9 : va_W) => ∃ (x0_qm_aside_c : Nat → Int32), u9 = [(qm, .inr (10, [.int qm_thrown, .ref qm_tape, .int qm_taped, .int qm_size, .int qm_limit, .int qm_to, .int qm_from, .int qm_kind, .int qm_number, .int qm_sign, .int qm_fault, .int qm_place, .long qm_word, .int qm_told, .ref qm_now, .ref qm_read, .ref qm_kept, .ref qm_snaps, .ref qm_aside, .ref qm_name, .ref qm_readName, .ref qm_keptName, .ref qm_isKept, .ref qm_onces, .int qm_snapMany, .ref qm_order, .ref qm_ordered, .int qm_orderMany, .int qm_orderMost, .int qm_passing, .int qm_movedWho, .int qm_scratched, .ref qm_text, .int qm_texts, .int qm_seed, .ref qm_line, .ref qm_written, .int qm_lineMany, .int qm_hasWritten, .ref qm_node, .int qm_nodes, .int qm_onesMany, .int qm_within, .int qm_top])), (qm_now, eI G 339 qm_now_c), (qm_aside, eI G 33 x0_qm_aside_c)]) := by
  refine Cv.ofQ (by decide) (Nat.le_of_ble_eq_true rfl) ?_
  intro p e s m below meth c ls A args Q hQ B hw hl
  have C : CallFix p m c cX11_layAside 2 s args gw "LanternStateModel" := B.1
  have hl : lv_has ls 2 [(0, .ref qm)] := hl
  refine lv_iconst (v := 0) C.1 C.2.1 dX11_layAside_0 (by decide) ?_
  refine lv_istore_n (lv' := [(1, .int 0), (0, .ref qm)]) C.1 C.2.1 dX11_layAside_1 rfl hl (by decide) rfl (fun ls hl => ?_)
  have loopJ110 : ∀ (n9 : Nat) (j108 : Int32) (j109 : Nat → Int32), (2147483647 - j108.toInt).toNat < n9 → (0 ≤ j108.toInt ∧ j108.toInt ≤ 33) → ∀ (H : Heap) (locs : List Loc) (ls : Array Slot), Wd G s A [(qm, .inr (10, [.int qm_thrown, .ref qm_tape, .int qm_taped, .int qm_size, .int qm_limit, .int qm_to, .int qm_from, .int qm_kind, .int qm_number, .int qm_sign, .int qm_fault, .int qm_place, .long qm_word, .int qm_told, .ref qm_now, .ref qm_read, .ref qm_kept, .ref qm_snaps, .ref qm_aside, .ref qm_name, .ref qm_readName, .ref qm_keptName, .ref qm_isKept, .ref qm_onces, .int qm_snapMany, .ref qm_order, .ref qm_ordered, .int qm_orderMany, .int qm_orderMost, .int qm_passing, .int qm_movedWho, .int qm_scratched, .ref qm_text, .int qm_texts, .int qm_seed, .ref qm_line, .ref qm_written, .int qm_lineMany, .int qm_hasWritten, .ref qm_node, .int qm_nodes, .int qm_onesMany, .int qm_within, .int qm_top])), (qm_now, eI G 339 qm_now_c), (qm_aside, eI G 33 j109)] H locs → lv_has ls 2 [(1, .int j108), (0, .ref qm)] → W p l e (rmD 0 0 0) s m args below meth c H locs 0 0 Q (F0 m 2 ls []) := by
    intro n9
    induction n9 with
    | zero => intro j108 j109 h9; exact absurd h9 (Nat.not_lt_zero _)
    | succ n9 ihJ110 =>
      intro j108 j109 h9J110 hJ110_0 H locs ls hw hl
      have hbj108 := i_bd j108
      refine lv_iload_n C.1 C.2.1 dX11_layAside_2 rfl (lv_at hl 0 rfl) ?_
      refine lv_bipush (v := 33) C.1 C.2.1 dX11_layAside_3 (by decide) ?_
      refine lv_icmp_ge (tgt := 29) C.1 C.2.1 dX11_layAside_5 (by decide) (fun c119 => ?_) (fun c119 => ?_)
      · skip
        have c119 : 33 ≤ j108.toInt := i_leT (X := 33) (Y := j108.toInt) rfl rfl c119
        exact x_retvQ hQ B hw ⟨j109, rfl⟩ (Nat.le_of_ble_eq_true rfl) (Nat.le_of_ble_eq_true rfl) dX11_layAside_29
      · skip
        have c119 : j108.toInt < 33 := i_leF (X := 33) (Y := j108.toInt) rfl rfl c119
        refine lv_aload_n C.1 C.2.1 dX11_layAside_8 rfl (lv_at hl 1 rfl) ?_
        refine x_get C hw iwX11 10 rfl 0 rfl 18 (by decide) kw1211 rfl dX11_layAside_9 ?_
        refine lv_iload_n C.1 C.2.1 dX11_layAside_12 rfl (lv_at hl 0 rfl) ?_
        refine lv_aload_n C.1 C.2.1 dX11_layAside_13 rfl (lv_at hl 1 rfl) ?_
        refine x_get C hw iwX11 10 rfl 0 rfl 14 (by decide) kw1207 rfl dX11_layAside_14 ?_
        refine lv_bipush (v := 64) C.1 C.2.1 dX11_layAside_17 (by decide) ?_
        refine lv_iload_n C.1 C.2.1 dX11_layAside_19 rfl (lv_at hl 0 rfl) ?_
        refine lv_iadd C.1 C.2.1 dX11_layAside_20 (x_genP (fun z : Int32 => z.toInt = 64 + j108.toInt) (i_add (X := 64) (Y := j108.toInt) rfl rfl (by omega) (by omega)) (fun v120 hv120 => ?_))
        refine x_iald (v := (qm_now_c v120.toNatClampNeg)) C hw 1 rfl (i_in (by omega) (by omega)) rfl dX11_layAside_21 (x_gen (fun v121 => ?_))
        obtain ⟨g122, eg122⟩ : ∃ z, upd j109 (j108.toNatClampNeg) v121 = z := ⟨_, rfl⟩
        refine x_iast (f' := g122) (w' := [(qm, .inr (10, [.int qm_thrown, .ref qm_tape, .int qm_taped, .int qm_size, .int qm_limit, .int qm_to, .int qm_from, .int qm_kind, .int qm_number, .int qm_sign, .int qm_fault, .int qm_place, .long qm_word, .int qm_told, .ref qm_now, .ref qm_read, .ref qm_kept, .ref qm_snaps, .ref qm_aside, .ref qm_name, .ref qm_readName, .ref qm_keptName, .ref qm_isKept, .ref qm_onces, .int qm_snapMany, .ref qm_order, .ref qm_ordered, .int qm_orderMany, .int qm_orderMost, .int qm_passing, .int qm_movedWho, .int qm_scratched, .ref qm_text, .int qm_texts, .int qm_seed, .ref qm_line, .ref qm_written, .int qm_lineMany, .int qm_hasWritten, .ref qm_node, .int qm_nodes, .int qm_onesMany, .int qm_within, .int qm_top])), (qm_now, eI G 339 qm_now_c), (qm_aside, eI G 33 g122)]) C hw 2 rfl (i_in (by omega) (by omega)) eg122 rfl dX11_layAside_22 (fun H locs hw => ?_)
        obtain ⟨v123, ev123⟩ : ∃ z : Int32, j108 + 1 = z := ⟨_, rfl⟩
        have hv123 : v123.toInt = j108.toInt + 1 := by rw [← ev123]; exact i_add rfl rfl (by omega) (by omega)
        refine lv_iinc (v := v123) (lv' := [(1, .int v123), (0, .ref qm)]) C.1 C.2.1 dX11_layAside_23 hl (k := 0) rfl ev123 (by decide) rfl (fun ls hl => ?_)
        refine lv_goto (tgt := 2) C.1 C.2.1 dX11_layAside_26 (by decide) ?_
        exact ihJ110 v123 g122 (by omega) (by omega) _ _ _ hw (lv_sub hl [0, 1] rfl)
  exact loopJ110 _ 0 qm_aside_c (Nat.lt_succ_self _) (by decide) _ _ _ hw (lv_sub hl [0, 1] rfl)
theorem dX11_takeBack_0 : decode cX11_takeBack 0 = .ok (.iconst 0, 1) := by decide +kernel
theorem dX11_takeBack_1 : decode cX11_takeBack 1 = .ok (.istore_n 1, 1) := by decide +kernel
theorem dX11_takeBack_2 : decode cX11_takeBack 2 = .ok (.iload_n 1, 1) := by decide +kernel
theorem dX11_takeBack_3 : decode cX11_takeBack 3 = .ok (.bipush 33, 2) := by decide +kernel
theorem dX11_takeBack_5 : decode cX11_takeBack 5 = .ok (.if_icmp .ge 24, 3) := by decide +kernel
theorem dX11_takeBack_8 : decode cX11_takeBack 8 = .ok (.aload_n 0, 1) := by decide +kernel
theorem dX11_takeBack_9 : decode cX11_takeBack 9 = .ok (.getfield 98, 3) := by decide +kernel
theorem dX11_takeBack_12 : decode cX11_takeBack 12 = .ok (.bipush 64, 2) := by decide +kernel
theorem dX11_takeBack_14 : decode cX11_takeBack 14 = .ok (.iload_n 1, 1) := by decide +kernel
theorem dX11_takeBack_15 : decode cX11_takeBack 15 = .ok (.iadd, 1) := by decide +kernel
theorem dX11_takeBack_16 : decode cX11_takeBack 16 = .ok (.aload_n 0, 1) := by decide +kernel
theorem dX11_takeBack_17 : decode cX11_takeBack 17 = .ok (.getfield 110, 3) := by decide +kernel
theorem dX11_takeBack_20 : decode cX11_takeBack 20 = .ok (.iload_n 1, 1) := by decide +kernel
theorem dX11_takeBack_21 : decode cX11_takeBack 21 = .ok (.iaload, 1) := by decide +kernel
theorem dX11_takeBack_22 : decode cX11_takeBack 22 = .ok (.iastore, 1) := by decide +kernel
theorem dX11_takeBack_23 : decode cX11_takeBack 23 = .ok (.iinc 1 1, 3) := by decide +kernel
theorem dX11_takeBack_26 : decode cX11_takeBack 26 = .ok (.goto (-24), 3) := by decide +kernel
theorem dX11_takeBack_29 : decode cX11_takeBack 29 = .ok (.return_, 1) := by decide +kernel
set_option maxHeartbeats 4000000 in
set_option maxRecDepth 100000 in
theorem s_X11_takeBack {l : Launch} {G : Gc} (qm : Nat) (qm_thrown : Int32) (qm_tape : Nat) (qm_taped : Int32) (qm_size : Int32) (qm_limit : Int32) (qm_to : Int32) (qm_from : Int32) (qm_kind : Int32) (qm_number : Int32) (qm_sign : Int32) (qm_fault : Int32) (qm_place : Int32) (qm_word : Int64) (qm_told : Int32) (qm_now : Nat) (qm_read : Nat) (qm_kept : Nat) (qm_snaps : Nat) (qm_aside : Nat) (qm_name : Nat) (qm_readName : Nat) (qm_keptName : Nat) (qm_isKept : Nat) (qm_onces : Nat) (qm_snapMany : Int32) (qm_order : Nat) (qm_ordered : Nat) (qm_orderMany : Int32) (qm_orderMost : Int32) (qm_passing : Int32) (qm_movedWho : Int32) (qm_scratched : Int32) (qm_text : Nat) (qm_texts : Int32) (qm_seed : Int32) (qm_line : Nat) (qm_written : Nat) (qm_lineMany : Int32) (qm_hasWritten : Int32) (qm_node : Nat) (qm_nodes : Int32) (qm_onesMany : Int32) (qm_within : Int32) (qm_top : Int32) (qm_now_c : Nat → Int32) (qm_aside_c : Nat → Int32) (hf_qm_now_c : slI qm_now_c) (hf1_qm_now_c : trI qm_now_c) : Cv l yX11_takeBack cX11_takeBack 2 0 0 0 G [.ref qm] [(qm, .inr (10, [.int qm_thrown, .ref qm_tape, .int qm_taped, .int qm_size, .int qm_limit, .int qm_to, .int qm_from, .int qm_kind, .int qm_number, .int qm_sign, .int qm_fault, .int qm_place, .long qm_word, .int qm_told, .ref qm_now, .ref qm_read, .ref qm_kept, .ref qm_snaps, .ref qm_aside, .ref qm_name, .ref qm_readName, .ref qm_keptName, .ref qm_isKept, .ref qm_onces, .int qm_snapMany, .ref qm_order, .ref qm_ordered, .int qm_orderMany, .int qm_orderMost, .int qm_passing, .int qm_movedWho, .int qm_scratched, .ref qm_text, .int qm_texts, .int qm_seed, .ref qm_line, .ref qm_written, .int qm_lineMany, .int qm_hasWritten, .ref qm_node, .int qm_nodes, .int qm_onesMany, .int qm_within, .int qm_top])), (qm_now, eI G 339 qm_now_c), (qm_aside, eI G 33 qm_aside_c)] (fun (u9 : va_W) => ∃ (x0_qm_now_c : Nat → Int32), u9 = [(qm, .inr (10, [.int qm_thrown, .ref qm_tape, .int qm_taped, .int qm_size, .int qm_limit, .int qm_to, .int qm_from, .int qm_kind, .int qm_number, .int qm_sign, .int qm_fault, .int qm_place, .long qm_word, .int qm_told, .ref qm_now, .ref qm_read, .ref qm_kept, .ref qm_snaps, .ref qm_aside, .ref qm_name, .ref qm_readName, .ref qm_keptName, .ref qm_isKept, .ref qm_onces, .int qm_snapMany, .ref qm_order, .ref qm_ordered, .int qm_orderMany, .int qm_orderMost, .int qm_passing, .int qm_movedWho, .int qm_scratched, .ref qm_text, .int qm_texts, .int qm_seed, .ref qm_line, .ref qm_written, .int qm_lineMany, .int qm_hasWritten, .ref qm_node, .int qm_nodes, .int qm_onesMany, .int qm_within, .int qm_top])), (qm_now, eI G 339 x0_qm_now_c), (qm_aside, eI G 33 qm_aside_c)] ∧ (slI x0_qm_now_c) ∧ (trI x0_qm_now_c) ∧ ((x0_qm_now_c 0).toInt = (qm_now_c 0).toInt)) := by
  refine Cv.ofQ (by decide) (Nat.le_of_ble_eq_true rfl) ?_
  intro p e s m below meth c ls A args Q hQ B hw hl
  have C : CallFix p m c cX11_takeBack 2 s args gw "LanternStateModel" := B.1
  have hl : lv_has ls 2 [(0, .ref qm)] := hl
  refine lv_iconst (v := 0) C.1 C.2.1 dX11_takeBack_0 (by decide) ?_
  refine lv_istore_n (lv' := [(1, .int 0), (0, .ref qm)]) C.1 C.2.1 dX11_takeBack_1 rfl hl (by decide) rfl (fun ls hl => ?_)
  have loopJ179 : ∀ (n9 : Nat) (j177 : Int32) (j178 : Nat → Int32), (2147483647 - j177.toInt).toNat < n9 → (slI j178) → (trI j178) → ((j178 0).toInt = (qm_now_c 0).toInt) → (0 ≤ j177.toInt ∧ j177.toInt ≤ 33) → ∀ (H : Heap) (locs : List Loc) (ls : Array Slot), Wd G s A [(qm, .inr (10, [.int qm_thrown, .ref qm_tape, .int qm_taped, .int qm_size, .int qm_limit, .int qm_to, .int qm_from, .int qm_kind, .int qm_number, .int qm_sign, .int qm_fault, .int qm_place, .long qm_word, .int qm_told, .ref qm_now, .ref qm_read, .ref qm_kept, .ref qm_snaps, .ref qm_aside, .ref qm_name, .ref qm_readName, .ref qm_keptName, .ref qm_isKept, .ref qm_onces, .int qm_snapMany, .ref qm_order, .ref qm_ordered, .int qm_orderMany, .int qm_orderMost, .int qm_passing, .int qm_movedWho, .int qm_scratched, .ref qm_text, .int qm_texts, .int qm_seed, .ref qm_line, .ref qm_written, .int qm_lineMany, .int qm_hasWritten, .ref qm_node, .int qm_nodes, .int qm_onesMany, .int qm_within, .int qm_top])), (qm_now, eI G 339 j178), (qm_aside, eI G 33 qm_aside_c)] H locs → lv_has ls 2 [(1, .int j177), (0, .ref qm)] → W p l e (rmD 0 0 0) s m args below meth c H locs 0 0 Q (F0 m 2 ls []) := by
    intro n9
    induction n9 with
    | zero => intro j177 j178 h9; exact absurd h9 (Nat.not_lt_zero _)
    | succ n9 ihJ179 =>
      intro j177 j178 h9J179 hJ179_0 hJ179_1 hJ179_2 hJ179_3 H locs ls hw hl
      have hbj177 := i_bd j177
      refine lv_iload_n C.1 C.2.1 dX11_takeBack_2 rfl (lv_at hl 0 rfl) ?_
      refine lv_bipush (v := 33) C.1 C.2.1 dX11_takeBack_3 (by decide) ?_
      refine lv_icmp_ge (tgt := 29) C.1 C.2.1 dX11_takeBack_5 (by decide) (fun c193 => ?_) (fun c193 => ?_)
      · skip
        have c193 : 33 ≤ j177.toInt := i_leT (X := 33) (Y := j177.toInt) rfl rfl c193
        exact x_retvQ hQ B hw ⟨j178, rfl, hJ179_0, hJ179_1, (by omega)⟩ (Nat.le_of_ble_eq_true rfl) (Nat.le_of_ble_eq_true rfl) dX11_takeBack_29
      · skip
        have c193 : j177.toInt < 33 := i_leF (X := 33) (Y := j177.toInt) rfl rfl c193
        refine lv_aload_n C.1 C.2.1 dX11_takeBack_8 rfl (lv_at hl 1 rfl) ?_
        refine x_get C hw iwX11 10 rfl 0 rfl 14 (by decide) kw1207 rfl dX11_takeBack_9 ?_
        refine lv_bipush (v := 64) C.1 C.2.1 dX11_takeBack_12 (by decide) ?_
        refine lv_iload_n C.1 C.2.1 dX11_takeBack_14 rfl (lv_at hl 0 rfl) ?_
        refine lv_iadd C.1 C.2.1 dX11_takeBack_15 (x_genP (fun z : Int32 => z.toInt = 64 + j177.toInt) (i_add (X := 64) (Y := j177.toInt) rfl rfl (by omega) (by omega)) (fun v194 hv194 => ?_))
        refine lv_aload_n C.1 C.2.1 dX11_takeBack_16 rfl (lv_at hl 1 rfl) ?_
        refine x_get C hw iwX11 10 rfl 0 rfl 18 (by decide) kw1211 rfl dX11_takeBack_17 ?_
        refine lv_iload_n C.1 C.2.1 dX11_takeBack_20 rfl (lv_at hl 0 rfl) ?_
        refine x_iald (v := (qm_aside_c j177.toNatClampNeg)) C hw 2 rfl (i_in (by omega) (by omega)) rfl dX11_takeBack_21 (x_gen (fun v195 => ?_))
        obtain ⟨g196, eg196⟩ : ∃ z, upd j178 (v194.toNatClampNeg) v195 = z := ⟨_, rfl⟩
        have mm197 := i_cn v194
        have fs198 : slI g196 := eg196 ▸ slI_upd hJ179_0 (by intro q; omega) (by intro q; omega) (by intro q; omega)
        have mm199 : (g196 0).toInt = (j178 0).toInt := by rw [← eg196, upd_lo (by omega)]
        have mm200 : (g196 1).toInt = (j178 1).toInt := by rw [← eg196, upd_lo (by omega)]
        have ft201 : trI g196 := eg196 ▸ trI_lo hJ179_1 (by omega)
        refine x_iast (f' := g196) (w' := [(qm, .inr (10, [.int qm_thrown, .ref qm_tape, .int qm_taped, .int qm_size, .int qm_limit, .int qm_to, .int qm_from, .int qm_kind, .int qm_number, .int qm_sign, .int qm_fault, .int qm_place, .long qm_word, .int qm_told, .ref qm_now, .ref qm_read, .ref qm_kept, .ref qm_snaps, .ref qm_aside, .ref qm_name, .ref qm_readName, .ref qm_keptName, .ref qm_isKept, .ref qm_onces, .int qm_snapMany, .ref qm_order, .ref qm_ordered, .int qm_orderMany, .int qm_orderMost, .int qm_passing, .int qm_movedWho, .int qm_scratched, .ref qm_text, .int qm_texts, .int qm_seed, .ref qm_line, .ref qm_written, .int qm_lineMany, .int qm_hasWritten, .ref qm_node, .int qm_nodes, .int qm_onesMany, .int qm_within, .int qm_top])), (qm_now, eI G 339 g196), (qm_aside, eI G 33 qm_aside_c)]) C hw 1 rfl (i_in (by omega) (by omega)) eg196 rfl dX11_takeBack_22 (fun H locs hw => ?_)
        obtain ⟨v202, ev202⟩ : ∃ z : Int32, j177 + 1 = z := ⟨_, rfl⟩
        have hv202 : v202.toInt = j177.toInt + 1 := by rw [← ev202]; exact i_add rfl rfl (by omega) (by omega)
        refine lv_iinc (v := v202) (lv' := [(1, .int v202), (0, .ref qm)]) C.1 C.2.1 dX11_takeBack_23 hl (k := 0) rfl ev202 (by decide) rfl (fun ls hl => ?_)
        refine lv_goto (tgt := 2) C.1 C.2.1 dX11_takeBack_26 (by decide) ?_
        exact ihJ179 v202 g196 (by omega) fs198 ft201 (by omega) (by omega) _ _ _ hw (lv_sub hl [0, 1] rfl)
  exact loopJ179 _ 0 qm_now_c (Nat.lt_succ_self _) hf_qm_now_c hf1_qm_now_c (by omega) (by decide) _ _ _ hw (lv_sub hl [0, 1] rfl)
theorem dX11_odds_0 : decode cX11_odds 0 = .ok (.aload_n 0, 1) := by decide +kernel
theorem dX11_odds_1 : decode cX11_odds 1 = .ok (.iconst 0, 1) := by decide +kernel
theorem dX11_odds_2 : decode cX11_odds 2 = .ok (.putfield 1, 3) := by decide +kernel
theorem dX11_odds_5 : decode cX11_odds 5 = .ok (.aload_n 0, 1) := by decide +kernel
theorem dX11_odds_6 : decode cX11_odds 6 = .ok (.iload_n 1, 1) := by decide +kernel
theorem dX11_odds_7 : decode cX11_odds 7 = .ok (.invokevirtual 237, 3) := by decide +kernel
theorem dX11_odds_10 : decode cX11_odds 10 = .ok (.ifCond .eq 13, 3) := by decide +kernel
theorem dX11_odds_23 : decode cX11_odds 23 = .ok (.iconst (-1), 1) := by decide +kernel
theorem dX11_odds_24 : decode cX11_odds 24 = .ok (.ireturn, 1) := by decide +kernel
theorem dX11_odds_13 : decode cX11_odds 13 = .ok (.iload_n 2, 1) := by decide +kernel
theorem dX11_odds_14 : decode cX11_odds 14 = .ok (.iconst 1, 1) := by decide +kernel
theorem dX11_odds_15 : decode cX11_odds 15 = .ok (.bipush 30, 2) := by decide +kernel
theorem dX11_odds_17 : decode cX11_odds 17 = .ok (.invokestatic 75, 3) := by decide +kernel
theorem dX11_odds_20 : decode cX11_odds 20 = .ok (.ifCond .ne 5, 3) := by decide +kernel
theorem dX11_odds_25 : decode cX11_odds 25 = .ok (.aload_n 0, 1) := by decide +kernel
theorem dX11_odds_26 : decode cX11_odds 26 = .ok (.invokevirtual 356, 3) := by decide +kernel
theorem mwX11_layAside : MwV yX11_layAside cX11_layAside 2 none 0 := ⟨⟨kw1707, kw15, by decide +kernel⟩, kw1706, kS97⟩
theorem dX11_odds_29 : decode cX11_odds 29 = .ok (.iconst 0, 1) := by decide +kernel
theorem dX11_odds_30 : decode cX11_odds 30 = .ok (.istore 4, 2) := by decide +kernel
theorem dX11_odds_32 : decode cX11_odds 32 = .ok (.iconst 0, 1) := by decide +kernel
theorem dX11_odds_33 : decode cX11_odds 33 = .ok (.istore 5, 2) := by decide +kernel
theorem dX11_odds_35 : decode cX11_odds 35 = .ok (.iload 5, 2) := by decide +kernel
theorem dX11_odds_37 : decode cX11_odds 37 = .ok (.iload_n 2, 1) := by decide +kernel
theorem dX11_odds_38 : decode cX11_odds 38 = .ok (.if_icmp .ge 35, 3) := by decide +kernel
theorem dX11_odds_41 : decode cX11_odds 41 = .ok (.aload_n 0, 1) := by decide +kernel
theorem dX11_odds_42 : decode cX11_odds 42 = .ok (.bipush 20, 2) := by decide +kernel
theorem dX11_odds_44 : decode cX11_odds 44 = .ok (.iload_n 3, 1) := by decide +kernel
theorem dX11_odds_45 : decode cX11_odds 45 = .ok (.iload 5, 2) := by decide +kernel
theorem dX11_odds_47 : decode cX11_odds 47 = .ok (.iadd, 1) := by decide +kernel
theorem dX11_odds_48 : decode cX11_odds 48 = .ok (.invokevirtual 353, 3) := by decide +kernel
theorem dX11_odds_51 : decode cX11_odds 51 = .ok (.pop, 1) := by decide +kernel
theorem dX11_odds_52 : decode cX11_odds 52 = .ok (.aload_n 0, 1) := by decide +kernel
theorem dX11_odds_53 : decode cX11_odds 53 = .ok (.iload_n 1, 1) := by decide +kernel
theorem dX11_odds_54 : decode cX11_odds 54 = .ok (.invokevirtual 246, 3) := by decide +kernel
theorem dX11_odds_57 : decode cX11_odds 57 = .ok (.ifCond .eq 6, 3) := by decide +kernel
theorem dX11_odds_60 : decode cX11_odds 60 = .ok (.iinc 4 1, 3) := by decide +kernel
theorem dX11_odds_63 : decode cX11_odds 63 = .ok (.aload_n 0, 1) := by decide +kernel
theorem dX11_odds_64 : decode cX11_odds 64 = .ok (.invokevirtual 359, 3) := by decide +kernel
theorem mwX11_takeBack : MwV yX11_takeBack cX11_takeBack 2 none 0 := ⟨⟨kw1711, kw15, by decide +kernel⟩, kw1710, kS98⟩
theorem dX11_odds_67 : decode cX11_odds 67 = .ok (.iinc 5 1, 3) := by decide +kernel
theorem dX11_odds_70 : decode cX11_odds 70 = .ok (.goto (-35), 3) := by decide +kernel
theorem dX11_odds_73 : decode cX11_odds 73 = .ok (.iload 4, 2) := by decide +kernel
theorem dX11_odds_75 : decode cX11_odds 75 = .ok (.ireturn, 1) := by decide +kernel
set_option maxHeartbeats 4000000 in
set_option maxRecDepth 100000 in
theorem s_X11_odds {l : Launch} {G : Gc} (qm : Nat) (a1 : Int32) (a2 : Int32) (a3 : Int32) (qm_thrown : Int32) (qm_tape : Nat) (qm_taped : Int32) (qm_size : Int32) (qm_limit : Int32) (qm_to : Int32) (qm_from : Int32) (qm_kind : Int32) (qm_number : Int32) (qm_sign : Int32) (qm_fault : Int32) (qm_place : Int32) (qm_word : Int64) (qm_told : Int32) (qm_now : Nat) (qm_read : Nat) (qm_kept : Nat) (qm_snaps : Nat) (qm_aside : Nat) (qm_name : Nat) (qm_readName : Nat) (qm_keptName : Nat) (qm_isKept : Nat) (qm_onces : Nat) (qm_snapMany : Int32) (qm_order : Nat) (qm_ordered : Nat) (qm_orderMany : Int32) (qm_orderMost : Int32) (qm_passing : Int32) (qm_movedWho : Int32) (qm_scratched : Int32) (qm_text : Nat) (qm_texts : Int32) (qm_seed : Int32) (qm_line : Nat) (qm_written : Nat) (qm_lineMany : Int32) (qm_hasWritten : Int32) (qm_node : Nat) (qm_nodes : Int32) (qm_onesMany : Int32) (qm_within : Int32) (qm_top : Int32) (qm_now_c : Nat → Int32) (qm_aside_c : Nat → Int32) (hf_qm_now_c : slI qm_now_c) (hf1_qm_now_c : trI qm_now_c) : Ci l yX11_odds cX11_odds 6 (some .int) 6 0 0 G [.ref qm, .int a1, .int a2, .int a3] [(qm, .inr (10, [.int qm_thrown, .ref qm_tape, .int qm_taped, .int qm_size, .int qm_limit, .int qm_to, .int qm_from, .int qm_kind, .int qm_number, .int qm_sign, .int qm_fault, .int qm_place, .long qm_word, .int qm_told, .ref qm_now, .ref qm_read, .ref qm_kept, .ref qm_snaps, .ref qm_aside, .ref qm_name, .ref qm_readName, .ref qm_keptName, .ref qm_isKept, .ref qm_onces, .int qm_snapMany, .ref qm_order, .ref qm_ordered, .int qm_orderMany, .int qm_orderMost, .int qm_passing, .int qm_movedWho, .int qm_scratched, .ref qm_text, .int qm_texts, .int qm_seed, .ref qm_line, .ref qm_written, .int qm_lineMany, .int qm_hasWritten, .ref qm_node, .int qm_nodes, .int qm_onesMany, .int qm_within, .int qm_top])), (qm_now, eI G 339 qm_now_c), (qm_aside, eI G 33 qm_aside_c)] (fun (r9 : Int32) (u9 : va_W) => ∃ (x0_qm_seed : Int32) (x1_qm_now_c : Nat → Int32) (x2_qm_aside_c : Nat → Int32) (r_x : Int32), r9 = r_x ∧ u9 = [(qm, .inr (10, [.int 0, .ref qm_tape, .int qm_taped, .int qm_size, .int qm_limit, .int qm_to, .int qm_from, .int qm_kind, .int qm_number, .int qm_sign, .int qm_fault, .int qm_place, .long qm_word, .int qm_told, .ref qm_now, .ref qm_read, .ref qm_kept, .ref qm_snaps, .ref qm_aside, .ref qm_name, .ref qm_readName, .ref qm_keptName, .ref qm_isKept, .ref qm_onces, .int qm_snapMany, .ref qm_order, .ref qm_ordered, .int qm_orderMany, .int qm_orderMost, .int qm_passing, .int qm_movedWho, .int qm_scratched, .ref qm_text, .int qm_texts, .int x0_qm_seed, .ref qm_line, .ref qm_written, .int qm_lineMany, .int qm_hasWritten, .ref qm_node, .int qm_nodes, .int qm_onesMany, .int qm_within, .int qm_top])), (qm_now, eI G 339 x1_qm_now_c), (qm_aside, eI G 33 x2_qm_aside_c)] ∧ (slI x1_qm_now_c) ∧ (trI x1_qm_now_c)) := by
  refine Ci.ofQ (by decide) (Nat.le_of_ble_eq_true rfl) ?_
  intro p e s m below meth c ls A args Q hQ B hw hl
  have C : CallFix p m c cX11_odds 6 s args gw "LanternStateModel" := B.1
  have hl : lv_has ls 6 [(0, .ref qm), (1, .int a1), (2, .int a2), (3, .int a3)] := hl
  refine lv_aload_n C.1 C.2.1 dX11_odds_0 rfl (lv_at hl 0 rfl) ?_
  refine lv_iconst (v := 0) C.1 C.2.1 dX11_odds_1 (by decide) ?_
  refine x_put (w' := [(qm, .inr (10, [.int 0, .ref qm_tape, .int qm_taped, .int qm_size, .int qm_limit, .int qm_to, .int qm_from, .int qm_kind, .int qm_number, .int qm_sign, .int qm_fault, .int qm_place, .long qm_word, .int qm_told, .ref qm_now, .ref qm_read, .ref qm_kept, .ref qm_snaps, .ref qm_aside, .ref qm_name, .ref qm_readName, .ref qm_keptName, .ref qm_isKept, .ref qm_onces, .int qm_snapMany, .ref qm_order, .ref qm_ordered, .int qm_orderMany, .int qm_orderMost, .int qm_passing, .int qm_movedWho, .int qm_scratched, .ref qm_text, .int qm_texts, .int qm_seed, .ref qm_line, .ref qm_written, .int qm_lineMany, .int qm_hasWritten, .ref qm_node, .int qm_nodes, .int qm_onesMany, .int qm_within, .int qm_top])), (qm_now, eI G 339 qm_now_c), (qm_aside, eI G 33 qm_aside_c)]) C hw iwX11 tyX11_ok nmX11 10 rfl 0 rfl 0 (by decide) kw1193 rfl rfl rfl (Nat.le_of_ble_eq_true rfl) rfl dX11_odds_2 (fun H locs hw => ?_)
  refine lv_aload_n C.1 C.2.1 dX11_odds_5 rfl (lv_at hl 0 rfl) ?_
  refine lv_iload_n C.1 C.2.1 dX11_odds_6 rfl (lv_at hl 1 rfl) ?_
  refine x_calliV (As := [.int a1]) (rest := []) (wr := [(qm_aside, eI G 33 qm_aside_c)]) C hw (s_X11_isSlide qm a1 0 qm_tape qm_taped qm_size qm_limit qm_to qm_from qm_kind qm_number qm_sign qm_fault qm_place qm_word qm_told qm_now qm_read qm_kept qm_snaps qm_aside qm_name qm_readName qm_keptName qm_isKept qm_onces qm_snapMany qm_order qm_ordered qm_orderMany qm_orderMost qm_passing qm_movedWho qm_scratched qm_text qm_texts qm_seed qm_line qm_written qm_lineMany qm_hasWritten qm_node qm_nodes qm_onesMany qm_within qm_top qm_now_c hf_qm_now_c hf1_qm_now_c) mwX11_isSlide kw1465 [0, 1] [2] rfl rfl rfl rfl (by decide) 0 rfl rfl rfl rfl hl.1 rfl (Nat.le_of_ble_eq_true rfl) ⟨(Nat.le_of_ble_eq_true rfl), (Nat.le_of_ble_eq_true rfl)⟩ ⟨(Nat.le_of_ble_eq_true rfl), (Nat.le_of_ble_eq_true rfl)⟩ dX11_odds_7 (fun r1 u9 H locs hp9 hw => ?_)
  rcases hp9 with ⟨rfl, rfl⟩ | ⟨rfl, rfl, hf2, hf3⟩
  · skip
    have hw : Wd G s A [(qm_aside, eI G 33 qm_aside_c), (qm, .inr (10, [.int 0, .ref qm_tape, .int qm_taped, .int qm_size, .int qm_limit, .int qm_to, .int qm_from, .int qm_kind, .int qm_number, .int qm_sign, .int qm_fault, .int qm_place, .long qm_word, .int qm_told, .ref qm_now, .ref qm_read, .ref qm_kept, .ref qm_snaps, .ref qm_aside, .ref qm_name, .ref qm_readName, .ref qm_keptName, .ref qm_isKept, .ref qm_onces, .int qm_snapMany, .ref qm_order, .ref qm_ordered, .int qm_orderMany, .int qm_orderMost, .int qm_passing, .int qm_movedWho, .int qm_scratched, .ref qm_text, .int qm_texts, .int qm_seed, .ref qm_line, .ref qm_written, .int qm_lineMany, .int qm_hasWritten, .ref qm_node, .int qm_nodes, .int qm_onesMany, .int qm_within, .int qm_top])), (qm_now, eI G 339 qm_now_c)] H _ := hw
    refine lv_if_eq (tgt := 23) C.1 C.2.1 dX11_odds_10 (by decide) (fun _ => ?_) (fun h9 => absurd (by decide) h9)
    refine lv_iconst (v := (-1)) C.1 C.2.1 dX11_odds_23 (by decide) ?_
    have hw := hw.sub (w' := [(qm, .inr (10, [.int 0, .ref qm_tape, .int qm_taped, .int qm_size, .int qm_limit, .int qm_to, .int qm_from, .int qm_kind, .int qm_number, .int qm_sign, .int qm_fault, .int qm_place, .long qm_word, .int qm_told, .ref qm_now, .ref qm_read, .ref qm_kept, .ref qm_snaps, .ref qm_aside, .ref qm_name, .ref qm_readName, .ref qm_keptName, .ref qm_isKept, .ref qm_onces, .int qm_snapMany, .ref qm_order, .ref qm_ordered, .int qm_orderMany, .int qm_orderMost, .int qm_passing, .int qm_movedWho, .int qm_scratched, .ref qm_text, .int qm_texts, .int qm_seed, .ref qm_line, .ref qm_written, .int qm_lineMany, .int qm_hasWritten, .ref qm_node, .int qm_nodes, .int qm_onesMany, .int qm_within, .int qm_top])), (qm_now, eI G 339 qm_now_c), (qm_aside, eI G 33 qm_aside_c)]) [1, 2, 0] rfl rfl
    exact x_retiQ hQ B hw ⟨qm_seed, qm_now_c, qm_aside_c, (-1), rfl, rfl, hf_qm_now_c, hf1_qm_now_c⟩ (Nat.le_of_ble_eq_true rfl) (Nat.le_of_ble_eq_true rfl) dX11_odds_24
  · skip
    have hw : Wd G s A [(qm_aside, eI G 33 qm_aside_c), (qm, .inr (10, [.int 0, .ref qm_tape, .int qm_taped, .int qm_size, .int qm_limit, .int qm_to, .int qm_from, .int qm_kind, .int qm_number, .int qm_sign, .int qm_fault, .int qm_place, .long qm_word, .int qm_told, .ref qm_now, .ref qm_read, .ref qm_kept, .ref qm_snaps, .ref qm_aside, .ref qm_name, .ref qm_readName, .ref qm_keptName, .ref qm_isKept, .ref qm_onces, .int qm_snapMany, .ref qm_order, .ref qm_ordered, .int qm_orderMany, .int qm_orderMost, .int qm_passing, .int qm_movedWho, .int qm_scratched, .ref qm_text, .int qm_texts, .int qm_seed, .ref qm_line, .ref qm_written, .int qm_lineMany, .int qm_hasWritten, .ref qm_node, .int qm_nodes, .int qm_onesMany, .int qm_within, .int qm_top])), (qm_now, eI G 339 qm_now_c)] H _ := hw
    refine lv_if_eq (tgt := 23) C.1 C.2.1 dX11_odds_10 (by decide) (fun h9 => absurd h9 (by decide)) (fun _ => ?_)
    refine lv_iload_n C.1 C.2.1 dX11_odds_13 rfl (lv_at hl 2 rfl) ?_
    refine lv_iconst (v := 1) C.1 C.2.1 dX11_odds_14 (by decide) ?_
    refine lv_bipush (v := 30) C.1 C.2.1 dX11_odds_15 (by decide) ?_
    refine x_calliS (As := [.int a2, .int 1, .int 30]) (rest := []) (wr := [(qm_aside, eI G 33 qm_aside_c), (qm, .inr (10, [.int 0, .ref qm_tape, .int qm_taped, .int qm_size, .int qm_limit, .int qm_to, .int qm_from, .int qm_kind, .int qm_number, .int qm_sign, .int qm_fault, .int qm_place, .long qm_word, .int qm_told, .ref qm_now, .ref qm_read, .ref qm_kept, .ref qm_snaps, .ref qm_aside, .ref qm_name, .ref qm_readName, .ref qm_keptName, .ref qm_isKept, .ref qm_onces, .int qm_snapMany, .ref qm_order, .ref qm_ordered, .int qm_orderMany, .int qm_orderMost, .int qm_passing, .int qm_movedWho, .int qm_scratched, .ref qm_text, .int qm_texts, .int qm_seed, .ref qm_line, .ref qm_written, .int qm_lineMany, .int qm_hasWritten, .ref qm_node, .int qm_nodes, .int qm_onesMany, .int qm_within, .int qm_top])), (qm_now, eI G 339 qm_now_c)]) C hw (s_X11_isIn a2 1 30) mwX11_isIn kw1396 [] [0, 1, 2] rfl rfl rfl rfl (by decide) rfl hl.1 rfl (Nat.le_of_ble_eq_true rfl) ⟨(Nat.le_of_ble_eq_true rfl), (Nat.le_of_ble_eq_true rfl)⟩ ⟨(Nat.le_of_ble_eq_true rfl), (Nat.le_of_ble_eq_true rfl)⟩ dX11_odds_17 (fun r4 u9 H locs hp9 hw => ?_)
    rcases hp9 with ⟨rfl, rfl, hf5⟩ | ⟨rfl, rfl, hf6, hf7⟩
    · skip
      have hw : Wd G s A [(qm_aside, eI G 33 qm_aside_c), (qm, .inr (10, [.int 0, .ref qm_tape, .int qm_taped, .int qm_size, .int qm_limit, .int qm_to, .int qm_from, .int qm_kind, .int qm_number, .int qm_sign, .int qm_fault, .int qm_place, .long qm_word, .int qm_told, .ref qm_now, .ref qm_read, .ref qm_kept, .ref qm_snaps, .ref qm_aside, .ref qm_name, .ref qm_readName, .ref qm_keptName, .ref qm_isKept, .ref qm_onces, .int qm_snapMany, .ref qm_order, .ref qm_ordered, .int qm_orderMany, .int qm_orderMost, .int qm_passing, .int qm_movedWho, .int qm_scratched, .ref qm_text, .int qm_texts, .int qm_seed, .ref qm_line, .ref qm_written, .int qm_lineMany, .int qm_hasWritten, .ref qm_node, .int qm_nodes, .int qm_onesMany, .int qm_within, .int qm_top])), (qm_now, eI G 339 qm_now_c)] H _ := hw
      have hf5 : a2.toInt < 1 ∨ 30 < a2.toInt := by first | exact hf5 | (have e0 : (1 : Int32).toInt = 1 := rfl; have e1 : (30 : Int32).toInt = 30 := rfl; omega)
      refine lv_if_ne (tgt := 25) C.1 C.2.1 dX11_odds_20 (by decide) (fun h9 => absurd (by decide) h9) (fun _ => ?_)
      refine lv_iconst (v := (-1)) C.1 C.2.1 dX11_odds_23 (by decide) ?_
      have hw := hw.sub (w' := [(qm, .inr (10, [.int 0, .ref qm_tape, .int qm_taped, .int qm_size, .int qm_limit, .int qm_to, .int qm_from, .int qm_kind, .int qm_number, .int qm_sign, .int qm_fault, .int qm_place, .long qm_word, .int qm_told, .ref qm_now, .ref qm_read, .ref qm_kept, .ref qm_snaps, .ref qm_aside, .ref qm_name, .ref qm_readName, .ref qm_keptName, .ref qm_isKept, .ref qm_onces, .int qm_snapMany, .ref qm_order, .ref qm_ordered, .int qm_orderMany, .int qm_orderMost, .int qm_passing, .int qm_movedWho, .int qm_scratched, .ref qm_text, .int qm_texts, .int qm_seed, .ref qm_line, .ref qm_written, .int qm_lineMany, .int qm_hasWritten, .ref qm_node, .int qm_nodes, .int qm_onesMany, .int qm_within, .int qm_top])), (qm_now, eI G 339 qm_now_c), (qm_aside, eI G 33 qm_aside_c)]) [1, 2, 0] rfl rfl
      exact x_retiQ hQ B hw ⟨qm_seed, qm_now_c, qm_aside_c, (-1), rfl, rfl, hf_qm_now_c, hf1_qm_now_c⟩ (Nat.le_of_ble_eq_true rfl) (Nat.le_of_ble_eq_true rfl) dX11_odds_24
    · skip
      have hw : Wd G s A [(qm_aside, eI G 33 qm_aside_c), (qm, .inr (10, [.int 0, .ref qm_tape, .int qm_taped, .int qm_size, .int qm_limit, .int qm_to, .int qm_from, .int qm_kind, .int qm_number, .int qm_sign, .int qm_fault, .int qm_place, .long qm_word, .int qm_told, .ref qm_now, .ref qm_read, .ref qm_kept, .ref qm_snaps, .ref qm_aside, .ref qm_name, .ref qm_readName, .ref qm_keptName, .ref qm_isKept, .ref qm_onces, .int qm_snapMany, .ref qm_order, .ref qm_ordered, .int qm_orderMany, .int qm_orderMost, .int qm_passing, .int qm_movedWho, .int qm_scratched, .ref qm_text, .int qm_texts, .int qm_seed, .ref qm_line, .ref qm_written, .int qm_lineMany, .int qm_hasWritten, .ref qm_node, .int qm_nodes, .int qm_onesMany, .int qm_within, .int qm_top])), (qm_now, eI G 339 qm_now_c)] H _ := hw
      have hf6 : 1 ≤ a2.toInt := by first | exact hf6 | (have e0 : (1 : Int32).toInt = 1 := rfl; omega)
      have hf7 : a2.toInt ≤ 30 := by first | exact hf7 | (have e0 : (30 : Int32).toInt = 30 := rfl; omega)
      refine lv_if_ne (tgt := 25) C.1 C.2.1 dX11_odds_20 (by decide) (fun _ => ?_) (fun h9 => absurd h9 (by decide))
      refine lv_aload_n C.1 C.2.1 dX11_odds_25 rfl (lv_at hl 0 rfl) ?_
      refine x_callvV (As := []) (rest := []) (wr := []) C hw (s_X11_layAside qm 0 qm_tape qm_taped qm_size qm_limit qm_to qm_from qm_kind qm_number qm_sign qm_fault qm_place qm_word qm_told qm_now qm_read qm_kept qm_snaps qm_aside qm_name qm_readName qm_keptName qm_isKept qm_onces qm_snapMany qm_order qm_ordered qm_orderMany qm_orderMost qm_passing qm_movedWho qm_scratched qm_text qm_texts qm_seed qm_line qm_written qm_lineMany qm_hasWritten qm_node qm_nodes qm_onesMany qm_within qm_top qm_now_c qm_aside_c hf_qm_now_c hf1_qm_now_c) mwX11_layAside kw1704 [1, 2, 0] [] rfl rfl rfl rfl (by decide) 0 rfl rfl rfl rfl hl.1 rfl (Nat.le_of_ble_eq_true rfl) ⟨(Nat.le_of_ble_eq_true rfl), (Nat.le_of_ble_eq_true rfl)⟩ ⟨(Nat.le_of_ble_eq_true rfl), (Nat.le_of_ble_eq_true rfl)⟩ dX11_odds_26 (fun  u9 H locs hp9 hw => ?_)
      obtain ⟨x8, rfl⟩ := hp9
      have hw : Wd G s A [(qm, .inr (10, [.int 0, .ref qm_tape, .int qm_taped, .int qm_size, .int qm_limit, .int qm_to, .int qm_from, .int qm_kind, .int qm_number, .int qm_sign, .int qm_fault, .int qm_place, .long qm_word, .int qm_told, .ref qm_now, .ref qm_read, .ref qm_kept, .ref qm_snaps, .ref qm_aside, .ref qm_name, .ref qm_readName, .ref qm_keptName, .ref qm_isKept, .ref qm_onces, .int qm_snapMany, .ref qm_order, .ref qm_ordered, .int qm_orderMany, .int qm_orderMost, .int qm_passing, .int qm_movedWho, .int qm_scratched, .ref qm_text, .int qm_texts, .int qm_seed, .ref qm_line, .ref qm_written, .int qm_lineMany, .int qm_hasWritten, .ref qm_node, .int qm_nodes, .int qm_onesMany, .int qm_within, .int qm_top])), (qm_now, eI G 339 qm_now_c), (qm_aside, eI G 33 x8)] H _ := hw
      refine lv_iconst (v := 0) C.1 C.2.1 dX11_odds_29 (by decide) ?_
      refine lv_istore (lv' := [(4, .int 0), (0, .ref qm), (1, .int a1), (2, .int a2), (3, .int a3)]) C.1 C.2.1 dX11_odds_30 hl (by decide) rfl (fun ls hl => ?_)
      refine lv_iconst (v := 0) C.1 C.2.1 dX11_odds_32 (by decide) ?_
      refine lv_istore (lv' := [(5, .int 0), (4, .int 0), (0, .ref qm), (1, .int a1), (2, .int a2), (3, .int a3)]) C.1 C.2.1 dX11_odds_33 hl (by decide) rfl (fun ls hl => ?_)
      have loopJ605 : ∀ (n9 : Nat) (j601 : Int32) (j602 : Int32) (j603 : Int32) (j604 : Nat → Int32), (2147483647 - j601.toInt).toNat < n9 → (0 ≤ j601.toInt ∧ j601.toInt ≤ 30) → (slI j604) → (trI j604) → ((j604 0).toInt = (qm_now_c 0).toInt) → ∀ (H : Heap) (locs : List Loc) (ls : Array Slot), Wd G s A [(qm, .inr (10, [.int 0, .ref qm_tape, .int qm_taped, .int qm_size, .int qm_limit, .int qm_to, .int qm_from, .int qm_kind, .int qm_number, .int qm_sign, .int qm_fault, .int qm_place, .long qm_word, .int qm_told, .ref qm_now, .ref qm_read, .ref qm_kept, .ref qm_snaps, .ref qm_aside, .ref qm_name, .ref qm_readName, .ref qm_keptName, .ref qm_isKept, .ref qm_onces, .int qm_snapMany, .ref qm_order, .ref qm_ordered, .int qm_orderMany, .int qm_orderMost, .int qm_passing, .int qm_movedWho, .int qm_scratched, .ref qm_text, .int qm_texts, .int j603, .ref qm_line, .ref qm_written, .int qm_lineMany, .int qm_hasWritten, .ref qm_node, .int qm_nodes, .int qm_onesMany, .int qm_within, .int qm_top])), (qm_now, eI G 339 j604), (qm_aside, eI G 33 x8)] H locs → lv_has ls 6 [(5, .int j601), (4, .int j602), (0, .ref qm), (1, .int a1), (2, .int a2), (3, .int a3)] → W p l e (rmD 6 0 0) s m args below meth c H locs 0 0 Q (F0 m 35 ls []) := by
        intro n9
        induction n9 with
        | zero => intro j601 j602 j603 j604 h9; exact absurd h9 (Nat.not_lt_zero _)
        | succ n9 ihJ605 =>
          intro j601 j602 j603 j604 h9J605 hJ605_0 hJ605_1 hJ605_2 hJ605_3 H locs ls hw hl
          have hbj601 := i_bd j601
          refine lv_iload C.1 C.2.1 dX11_odds_35 (lv_at hl 0 rfl) ?_
          refine lv_iload_n C.1 C.2.1 dX11_odds_37 rfl (lv_at hl 4 rfl) ?_
          refine lv_icmp_ge (tgt := 73) C.1 C.2.1 dX11_odds_38 (by decide) (fun c629 => ?_) (fun c629 => ?_)
          · skip
            have c629 : a2.toInt ≤ j601.toInt := i_leT (X := a2.toInt) (Y := j601.toInt) rfl rfl c629
            refine lv_iload C.1 C.2.1 dX11_odds_73 (lv_at hl 1 rfl) ?_
            exact x_retiQ hQ B hw ⟨j603, j604, x8, j602, rfl, rfl, hJ605_1, hJ605_2⟩ (Nat.le_of_ble_eq_true rfl) (Nat.le_of_ble_eq_true rfl) dX11_odds_75
          · skip
            have c629 : j601.toInt < a2.toInt := i_leF (X := a2.toInt) (Y := j601.toInt) rfl rfl c629
            refine lv_aload_n C.1 C.2.1 dX11_odds_41 rfl (lv_at hl 2 rfl) ?_
            refine lv_bipush (v := 20) C.1 C.2.1 dX11_odds_42 (by decide) ?_
            refine lv_iload_n C.1 C.2.1 dX11_odds_44 rfl (lv_at hl 5 rfl) ?_
            refine lv_iload C.1 C.2.1 dX11_odds_45 (lv_at hl 0 rfl) ?_
            refine lv_iadd C.1 C.2.1 dX11_odds_47 (x_gen (fun v630 => ?_))
            refine x_calliV (As := [.int 20, .int v630]) (rest := []) (wr := [(qm_aside, eI G 33 x8)]) C hw (s_X11_drawHours qm 20 v630 0 qm_tape qm_taped qm_size qm_limit qm_to qm_from qm_kind qm_number qm_sign qm_fault qm_place qm_word qm_told qm_now qm_read qm_kept qm_snaps qm_aside qm_name qm_readName qm_keptName qm_isKept qm_onces qm_snapMany qm_order qm_ordered qm_orderMany qm_orderMost qm_passing qm_movedWho qm_scratched qm_text qm_texts j603 qm_line qm_written qm_lineMany qm_hasWritten qm_node qm_nodes qm_onesMany qm_within qm_top j604 hJ605_1 hJ605_2 (by omega)) mwX11_drawHours kw1691 [0, 1] [2] rfl rfl rfl rfl (by decide) 0 rfl rfl rfl rfl hl.1 rfl (Nat.le_of_ble_eq_true rfl) ⟨(Nat.le_of_ble_eq_true rfl), (Nat.le_of_ble_eq_true rfl)⟩ ⟨(Nat.le_of_ble_eq_true rfl), (Nat.le_of_ble_eq_true rfl)⟩ dX11_odds_48 (fun r631 u9 H locs hp9 hw => ?_)
            obtain ⟨x632, x633, x634, rfl, rfl, hf635, hf636, hf637⟩ := hp9
            have hw : Wd G s A [(qm_aside, eI G 33 x8), (qm, .inr (10, [.int 0, .ref qm_tape, .int qm_taped, .int qm_size, .int qm_limit, .int qm_to, .int qm_from, .int qm_kind, .int qm_number, .int qm_sign, .int qm_fault, .int qm_place, .long qm_word, .int qm_told, .ref qm_now, .ref qm_read, .ref qm_kept, .ref qm_snaps, .ref qm_aside, .ref qm_name, .ref qm_readName, .ref qm_keptName, .ref qm_isKept, .ref qm_onces, .int qm_snapMany, .ref qm_order, .ref qm_ordered, .int qm_orderMany, .int qm_orderMost, .int qm_passing, .int qm_movedWho, .int qm_scratched, .ref qm_text, .int qm_texts, .int x632, .ref qm_line, .ref qm_written, .int qm_lineMany, .int qm_hasWritten, .ref qm_node, .int qm_nodes, .int qm_onesMany, .int qm_within, .int qm_top])), (qm_now, eI G 339 x633)] H _ := hw
            refine lv_pop C.1 C.2.1 dX11_odds_51 rfl ?_
            refine lv_aload_n C.1 C.2.1 dX11_odds_52 rfl (lv_at hl 2 rfl) ?_
            refine lv_iload_n C.1 C.2.1 dX11_odds_53 rfl (lv_at hl 3 rfl) ?_
            refine x_calliV (As := [.int a1]) (rest := []) (wr := [(qm_aside, eI G 33 x8)]) C hw (s_X11_isSo qm a1 0 qm_tape qm_taped qm_size qm_limit qm_to qm_from qm_kind qm_number qm_sign qm_fault qm_place qm_word qm_told qm_now qm_read qm_kept qm_snaps qm_aside qm_name qm_readName qm_keptName qm_isKept qm_onces qm_snapMany qm_order qm_ordered qm_orderMany qm_orderMost qm_passing qm_movedWho qm_scratched qm_text qm_texts x632 qm_line qm_written qm_lineMany qm_hasWritten qm_node qm_nodes qm_onesMany qm_within qm_top x633 hf635 hf636) mwX11_isSo kw1476 [1, 2] [0] rfl rfl rfl rfl (by decide) 0 rfl rfl rfl rfl hl.1 rfl (Nat.le_of_ble_eq_true rfl) ⟨(Nat.le_of_ble_eq_true rfl), (Nat.le_of_ble_eq_true rfl)⟩ ⟨(Nat.le_of_ble_eq_true rfl), (Nat.le_of_ble_eq_true rfl)⟩ dX11_odds_54 (fun r638 u9 H locs hp9 hw => ?_)
            have J641 : ∀ (j640 : Int32), ((x633 0).toInt = (qm_now_c 0).toInt) → ∀ (H : Heap) (locs : List Loc) (ls : Array Slot), Wd G s A [(qm_aside, eI G 33 x8), (qm, .inr (10, [.int 0, .ref qm_tape, .int qm_taped, .int qm_size, .int qm_limit, .int qm_to, .int qm_from, .int qm_kind, .int qm_number, .int qm_sign, .int qm_fault, .int qm_place, .long qm_word, .int qm_told, .ref qm_now, .ref qm_read, .ref qm_kept, .ref qm_snaps, .ref qm_aside, .ref qm_name, .ref qm_readName, .ref qm_keptName, .ref qm_isKept, .ref qm_onces, .int qm_snapMany, .ref qm_order, .ref qm_ordered, .int qm_orderMany, .int qm_orderMost, .int qm_passing, .int qm_movedWho, .int qm_scratched, .ref qm_text, .int qm_texts, .int x632, .ref qm_line, .ref qm_written, .int qm_lineMany, .int qm_hasWritten, .ref qm_node, .int qm_nodes, .int qm_onesMany, .int qm_within, .int qm_top])), (qm_now, eI G 339 x633)] H locs → lv_has ls 6 [(5, .int j601), (4, .int j640), (0, .ref qm), (1, .int a1), (2, .int a2), (3, .int a3)] → W p l e (rmD 6 0 0) s m args below meth c H locs 0 0 Q (F0 m 63 ls []) := by
              intro j640 hJ641_0 H locs ls hw hl
              refine lv_aload_n C.1 C.2.1 dX11_odds_63 rfl (lv_at hl 2 rfl) ?_
              refine x_callvV (As := []) (rest := []) (wr := []) C hw (s_X11_takeBack qm 0 qm_tape qm_taped qm_size qm_limit qm_to qm_from qm_kind qm_number qm_sign qm_fault qm_place qm_word qm_told qm_now qm_read qm_kept qm_snaps qm_aside qm_name qm_readName qm_keptName qm_isKept qm_onces qm_snapMany qm_order qm_ordered qm_orderMany qm_orderMost qm_passing qm_movedWho qm_scratched qm_text qm_texts x632 qm_line qm_written qm_lineMany qm_hasWritten qm_node qm_nodes qm_onesMany qm_within qm_top x633 x8 hf635 hf636) mwX11_takeBack kw1708 [1, 2, 0] [] rfl rfl rfl rfl (by decide) 0 rfl rfl rfl rfl hl.1 rfl (Nat.le_of_ble_eq_true rfl) ⟨(Nat.le_of_ble_eq_true rfl), (Nat.le_of_ble_eq_true rfl)⟩ ⟨(Nat.le_of_ble_eq_true rfl), (Nat.le_of_ble_eq_true rfl)⟩ dX11_odds_64 (fun  u9 H locs hp9 hw => ?_)
              obtain ⟨x647, rfl, hf648, hf649, hf650⟩ := hp9
              have hw : Wd G s A [(qm, .inr (10, [.int 0, .ref qm_tape, .int qm_taped, .int qm_size, .int qm_limit, .int qm_to, .int qm_from, .int qm_kind, .int qm_number, .int qm_sign, .int qm_fault, .int qm_place, .long qm_word, .int qm_told, .ref qm_now, .ref qm_read, .ref qm_kept, .ref qm_snaps, .ref qm_aside, .ref qm_name, .ref qm_readName, .ref qm_keptName, .ref qm_isKept, .ref qm_onces, .int qm_snapMany, .ref qm_order, .ref qm_ordered, .int qm_orderMany, .int qm_orderMost, .int qm_passing, .int qm_movedWho, .int qm_scratched, .ref qm_text, .int qm_texts, .int x632, .ref qm_line, .ref qm_written, .int qm_lineMany, .int qm_hasWritten, .ref qm_node, .int qm_nodes, .int qm_onesMany, .int qm_within, .int qm_top])), (qm_now, eI G 339 x647), (qm_aside, eI G 33 x8)] H _ := hw
              obtain ⟨v651, ev651⟩ : ∃ z : Int32, j601 + 1 = z := ⟨_, rfl⟩
              have hv651 : v651.toInt = j601.toInt + 1 := by rw [← ev651]; exact i_add rfl rfl (by omega) (by omega)
              refine lv_iinc (v := v651) (lv' := [(5, .int v651), (4, .int j640), (0, .ref qm), (1, .int a1), (2, .int a2), (3, .int a3)]) C.1 C.2.1 dX11_odds_67 hl (k := 0) rfl ev651 (by decide) rfl (fun ls hl => ?_)
              refine lv_goto (tgt := 35) C.1 C.2.1 dX11_odds_70 (by decide) ?_
              exact ihJ605 v651 j640 x632 x647 (by omega) (by omega) hf648 hf649 (by omega) _ _ _ hw (lv_sub hl [0, 1, 2, 3, 4, 5] rfl)
            rcases hp9 with ⟨rfl, rfl⟩ | ⟨rfl, rfl⟩
            · skip
              have hw : Wd G s A [(qm_aside, eI G 33 x8), (qm, .inr (10, [.int 0, .ref qm_tape, .int qm_taped, .int qm_size, .int qm_limit, .int qm_to, .int qm_from, .int qm_kind, .int qm_number, .int qm_sign, .int qm_fault, .int qm_place, .long qm_word, .int qm_told, .ref qm_now, .ref qm_read, .ref qm_kept, .ref qm_snaps, .ref qm_aside, .ref qm_name, .ref qm_readName, .ref qm_keptName, .ref qm_isKept, .ref qm_onces, .int qm_snapMany, .ref qm_order, .ref qm_ordered, .int qm_orderMany, .int qm_orderMost, .int qm_passing, .int qm_movedWho, .int qm_scratched, .ref qm_text, .int qm_texts, .int x632, .ref qm_line, .ref qm_written, .int qm_lineMany, .int qm_hasWritten, .ref qm_node, .int qm_nodes, .int qm_onesMany, .int qm_within, .int qm_top])), (qm_now, eI G 339 x633)] H _ := hw
              refine lv_if_eq (tgt := 63) C.1 C.2.1 dX11_odds_57 (by decide) (fun _ => ?_) (fun h9 => absurd (by decide) h9)
              exact J641 j602  (by omega) _ _ _ hw (lv_sub hl [0, 1, 2, 3, 4, 5] rfl)
            · skip
              have hw : Wd G s A [(qm_aside, eI G 33 x8), (qm, .inr (10, [.int 0, .ref qm_tape, .int qm_taped, .int qm_size, .int qm_limit, .int qm_to, .int qm_from, .int qm_kind, .int qm_number, .int qm_sign, .int qm_fault, .int qm_place, .long qm_word, .int qm_told, .ref qm_now, .ref qm_read, .ref qm_kept, .ref qm_snaps, .ref qm_aside, .ref qm_name, .ref qm_readName, .ref qm_keptName, .ref qm_isKept, .ref qm_onces, .int qm_snapMany, .ref qm_order, .ref qm_ordered, .int qm_orderMany, .int qm_orderMost, .int qm_passing, .int qm_movedWho, .int qm_scratched, .ref qm_text, .int qm_texts, .int x632, .ref qm_line, .ref qm_written, .int qm_lineMany, .int qm_hasWritten, .ref qm_node, .int qm_nodes, .int qm_onesMany, .int qm_within, .int qm_top])), (qm_now, eI G 339 x633)] H _ := hw
              refine lv_if_eq (tgt := 63) C.1 C.2.1 dX11_odds_57 (by decide) (fun h9 => absurd h9 (by decide)) (fun _ => ?_)
              obtain ⟨v652, ev652⟩ : ∃ z : Int32, j602 + 1 = z := ⟨_, rfl⟩
              refine lv_iinc (v := v652) (lv' := [(4, .int v652), (5, .int j601), (0, .ref qm), (1, .int a1), (2, .int a2), (3, .int a3)]) C.1 C.2.1 dX11_odds_60 hl (k := 1) rfl ev652 (by decide) rfl (fun ls hl => ?_)
              exact J641 v652  (by omega) _ _ _ hw (lv_sub hl [1, 0, 2, 3, 4, 5] rfl)
      exact loopJ605 _ 0 0 qm_seed qm_now_c (Nat.lt_succ_self _) (by decide) hf_qm_now_c hf1_qm_now_c (by omega) _ _ _ hw (lv_sub hl [0, 1, 2, 3, 4, 5] rfl)
