-- needs: 08 6 7 12 14 16 17 18 20 09 10
theorem dX11_image_0 : decode cX11_image 0 = .ok (.aload_n 0, 1) := by decide +kernel
theorem dX11_image_1 : decode cX11_image 1 = .ok (.iconst 0, 1) := by decide +kernel
theorem dX11_image_2 : decode cX11_image 2 = .ok (.putfield 1, 3) := by decide +kernel
theorem dX11_image_5 : decode cX11_image 5 = .ok (.iload_n 1, 1) := by decide +kernel
theorem dX11_image_6 : decode cX11_image 6 = .ok (.iconst 0, 1) := by decide +kernel
theorem dX11_image_7 : decode cX11_image 7 = .ok (.iconst 1, 1) := by decide +kernel
theorem dX11_image_8 : decode cX11_image 8 = .ok (.invokestatic 75, 3) := by decide +kernel
theorem dX11_image_11 : decode cX11_image 11 = .ok (.ifCond .ne 5, 3) := by decide +kernel
theorem dX11_image_16 : decode cX11_image 16 = .ok (.iconst 0, 1) := by decide +kernel
theorem dX11_image_17 : decode cX11_image 17 = .ok (.istore_n 2, 1) := by decide +kernel
theorem dX11_image_18 : decode cX11_image 18 = .ok (.iload_n 2, 1) := by decide +kernel
theorem dX11_image_19 : decode cX11_image 19 = .ok (.sipush 339, 3) := by decide +kernel
theorem dX11_image_22 : decode cX11_image 22 = .ok (.if_icmp .ge 27, 3) := by decide +kernel
theorem dX11_image_25 : decode cX11_image 25 = .ok (.aload_n 0, 1) := by decide +kernel
theorem dX11_image_26 : decode cX11_image 26 = .ok (.getfield 104, 3) := by decide +kernel
theorem dX11_image_29 : decode cX11_image 29 = .ok (.sipush 339, 3) := by decide +kernel
theorem dX11_image_32 : decode cX11_image 32 = .ok (.iload_n 1, 1) := by decide +kernel
theorem dX11_image_33 : decode cX11_image 33 = .ok (.imul, 1) := by decide +kernel
theorem dX11_image_34 : decode cX11_image 34 = .ok (.iload_n 2, 1) := by decide +kernel
theorem dX11_image_35 : decode cX11_image 35 = .ok (.iadd, 1) := by decide +kernel
theorem dX11_image_36 : decode cX11_image 36 = .ok (.aload_n 0, 1) := by decide +kernel
theorem dX11_image_37 : decode cX11_image 37 = .ok (.getfield 98, 3) := by decide +kernel
theorem dX11_image_40 : decode cX11_image 40 = .ok (.iload_n 2, 1) := by decide +kernel
theorem dX11_image_41 : decode cX11_image 41 = .ok (.iaload, 1) := by decide +kernel
theorem dX11_image_42 : decode cX11_image 42 = .ok (.iastore, 1) := by decide +kernel
theorem dX11_image_43 : decode cX11_image 43 = .ok (.iinc 2 1, 3) := by decide +kernel
theorem dX11_image_46 : decode cX11_image 46 = .ok (.goto (-28), 3) := by decide +kernel
theorem dX11_image_49 : decode cX11_image 49 = .ok (.iconst 0, 1) := by decide +kernel
theorem dX11_image_50 : decode cX11_image 50 = .ok (.istore_n 2, 1) := by decide +kernel
theorem dX11_image_51 : decode cX11_image 51 = .ok (.iload_n 2, 1) := by decide +kernel
theorem dX11_image_52 : decode cX11_image 52 = .ok (.bipush 14, 2) := by decide +kernel
theorem dX11_image_54 : decode cX11_image 54 = .ok (.if_icmp .ge 26, 3) := by decide +kernel
theorem dX11_image_57 : decode cX11_image 57 = .ok (.aload_n 0, 1) := by decide +kernel
theorem dX11_image_58 : decode cX11_image 58 = .ok (.getfield 120, 3) := by decide +kernel
theorem dX11_image_61 : decode cX11_image 61 = .ok (.bipush 14, 2) := by decide +kernel
theorem dX11_image_63 : decode cX11_image 63 = .ok (.iload_n 1, 1) := by decide +kernel
theorem dX11_image_64 : decode cX11_image 64 = .ok (.imul, 1) := by decide +kernel
theorem dX11_image_65 : decode cX11_image 65 = .ok (.iload_n 2, 1) := by decide +kernel
theorem dX11_image_66 : decode cX11_image 66 = .ok (.iadd, 1) := by decide +kernel
theorem dX11_image_67 : decode cX11_image 67 = .ok (.aload_n 0, 1) := by decide +kernel
theorem dX11_image_68 : decode cX11_image 68 = .ok (.getfield 113, 3) := by decide +kernel
theorem dX11_image_71 : decode cX11_image 71 = .ok (.iload_n 2, 1) := by decide +kernel
theorem dX11_image_72 : decode cX11_image 72 = .ok (.laload, 1) := by decide +kernel
theorem dX11_image_73 : decode cX11_image 73 = .ok (.lastore, 1) := by decide +kernel
theorem dX11_image_74 : decode cX11_image 74 = .ok (.iinc 2 1, 3) := by decide +kernel
theorem dX11_image_77 : decode cX11_image 77 = .ok (.goto (-26), 3) := by decide +kernel
theorem dX11_image_80 : decode cX11_image 80 = .ok (.aload_n 0, 1) := by decide +kernel
theorem dX11_image_81 : decode cX11_image 81 = .ok (.getfield 123, 3) := by decide +kernel
theorem dX11_image_84 : decode cX11_image 84 = .ok (.iload_n 1, 1) := by decide +kernel
theorem dX11_image_85 : decode cX11_image 85 = .ok (.iconst 1, 1) := by decide +kernel
theorem dX11_image_86 : decode cX11_image 86 = .ok (.bastore, 1) := by decide +kernel
theorem dX11_image_87 : decode cX11_image 87 = .ok (.iconst 1, 1) := by decide +kernel
theorem dX11_image_88 : decode cX11_image 88 = .ok (.ireturn, 1) := by decide +kernel
set_option maxHeartbeats 4000000 in
set_option maxRecDepth 100000 in
theorem s_X11_image_0 {l : Launch} {G : Gc} (qm : Nat) (qm_thrown : Int32) (qm_tape : Nat) (qm_taped : Int32) (qm_size : Int32) (qm_limit : Int32) (qm_to : Int32) (qm_from : Int32) (qm_kind : Int32) (qm_number : Int32) (qm_sign : Int32) (qm_fault : Int32) (qm_place : Int32) (qm_word : Int64) (qm_told : Int32) (qm_now : Nat) (qm_read : Nat) (qm_kept : Nat) (qm_snaps : Nat) (qm_aside : Nat) (qm_name : Nat) (qm_readName : Nat) (qm_keptName : Nat) (qm_isKept : Nat) (qm_onces : Nat) (qm_snapMany : Int32) (qm_order : Nat) (qm_ordered : Nat) (qm_orderMany : Int32) (qm_orderMost : Int32) (qm_passing : Int32) (qm_movedWho : Int32) (qm_scratched : Int32) (qm_text : Nat) (qm_texts : Int32) (qm_seed : Int32) (qm_line : Nat) (qm_written : Nat) (qm_lineMany : Int32) (qm_hasWritten : Int32) (qm_node : Nat) (qm_nodes : Int32) (qm_onesMany : Int32) (qm_within : Int32) (qm_top : Int32) (qm_now_c : Nat → Int32) (qm_kept_c : Nat → Int32) (qm_name_c : Nat → Int64) (qm_keptName_c : Nat → Int64) (qm_isKept_c : Nat → Int32) (hf_qm_now_c : slI qm_now_c) (hf1_qm_now_c : trI qm_now_c) (hf_qm_kept_c : kpI qm_kept_c) : Ci l yX11_image cX11_image 3 (some .boolean) 1 0 0 G [.ref qm, .int 0] [(qm, .inr (10, [.int qm_thrown, .ref qm_tape, .int qm_taped, .int qm_size, .int qm_limit, .int qm_to, .int qm_from, .int qm_kind, .int qm_number, .int qm_sign, .int qm_fault, .int qm_place, .long qm_word, .int qm_told, .ref qm_now, .ref qm_read, .ref qm_kept, .ref qm_snaps, .ref qm_aside, .ref qm_name, .ref qm_readName, .ref qm_keptName, .ref qm_isKept, .ref qm_onces, .int qm_snapMany, .ref qm_order, .ref qm_ordered, .int qm_orderMany, .int qm_orderMost, .int qm_passing, .int qm_movedWho, .int qm_scratched, .ref qm_text, .int qm_texts, .int qm_seed, .ref qm_line, .ref qm_written, .int qm_lineMany, .int qm_hasWritten, .ref qm_node, .int qm_nodes, .int qm_onesMany, .int qm_within, .int qm_top])), (qm_now, eI G 339 qm_now_c), (qm_kept, eI G 678 qm_kept_c), (qm_name, eJ G 14 qm_name_c), (qm_keptName, eJ G 28 qm_keptName_c), (qm_isKept, eZ G 2 qm_isKept_c)] (fun (r9 : Int32) (u9 : va_W) => ∃ (x0_qm_kept_c : Nat → Int32) (x1_qm_keptName_c : Nat → Int64) (x2_qm_isKept_c : Nat → Int32), r9 = 1 ∧ u9 = [(qm, .inr (10, [.int 0, .ref qm_tape, .int qm_taped, .int qm_size, .int qm_limit, .int qm_to, .int qm_from, .int qm_kind, .int qm_number, .int qm_sign, .int qm_fault, .int qm_place, .long qm_word, .int qm_told, .ref qm_now, .ref qm_read, .ref qm_kept, .ref qm_snaps, .ref qm_aside, .ref qm_name, .ref qm_readName, .ref qm_keptName, .ref qm_isKept, .ref qm_onces, .int qm_snapMany, .ref qm_order, .ref qm_ordered, .int qm_orderMany, .int qm_orderMost, .int qm_passing, .int qm_movedWho, .int qm_scratched, .ref qm_text, .int qm_texts, .int qm_seed, .ref qm_line, .ref qm_written, .int qm_lineMany, .int qm_hasWritten, .ref qm_node, .int qm_nodes, .int qm_onesMany, .int qm_within, .int qm_top])), (qm_now, eI G 339 qm_now_c), (qm_kept, eI G 678 x0_qm_kept_c), (qm_name, eJ G 14 qm_name_c), (qm_keptName, eJ G 28 x1_qm_keptName_c), (qm_isKept, eZ G 2 x2_qm_isKept_c)] ∧ (kpI x0_qm_kept_c) ∧ ((x2_qm_isKept_c 0).toInt = 1) ∧ ((x2_qm_isKept_c 1).toInt = (qm_isKept_c 1).toInt) ∧ (cpF 0 0 339 qm_now_c qm_kept_c x0_qm_kept_c)) := by
  refine Ci.ofQ (by decide) (Nat.le_of_ble_eq_true rfl) ?_
  intro p e s m below meth c ls A args Q hQ B hw hl
  have C : CallFix p m c cX11_image 3 s args gw "LanternStateModel" := B.1
  have hl : lv_has ls 3 [(0, .ref qm), (1, .int 0)] := hl
  refine lv_aload_n C.1 C.2.1 dX11_image_0 rfl (lv_at hl 0 rfl) ?_
  refine lv_iconst (v := 0) C.1 C.2.1 dX11_image_1 (by decide) ?_
  refine x_put (w' := [(qm, .inr (10, [.int 0, .ref qm_tape, .int qm_taped, .int qm_size, .int qm_limit, .int qm_to, .int qm_from, .int qm_kind, .int qm_number, .int qm_sign, .int qm_fault, .int qm_place, .long qm_word, .int qm_told, .ref qm_now, .ref qm_read, .ref qm_kept, .ref qm_snaps, .ref qm_aside, .ref qm_name, .ref qm_readName, .ref qm_keptName, .ref qm_isKept, .ref qm_onces, .int qm_snapMany, .ref qm_order, .ref qm_ordered, .int qm_orderMany, .int qm_orderMost, .int qm_passing, .int qm_movedWho, .int qm_scratched, .ref qm_text, .int qm_texts, .int qm_seed, .ref qm_line, .ref qm_written, .int qm_lineMany, .int qm_hasWritten, .ref qm_node, .int qm_nodes, .int qm_onesMany, .int qm_within, .int qm_top])), (qm_now, eI G 339 qm_now_c), (qm_kept, eI G 678 qm_kept_c), (qm_name, eJ G 14 qm_name_c), (qm_keptName, eJ G 28 qm_keptName_c), (qm_isKept, eZ G 2 qm_isKept_c)]) C hw iwX11 tyX11_ok nmX11 10 rfl 0 rfl 0 (by decide) kw1193 rfl rfl rfl (Nat.le_of_ble_eq_true rfl) rfl dX11_image_2 (fun H locs hw => ?_)
  refine lv_iload_n C.1 C.2.1 dX11_image_5 rfl (lv_at hl 1 rfl) ?_
  refine lv_iconst (v := 0) C.1 C.2.1 dX11_image_6 (by decide) ?_
  refine lv_iconst (v := 1) C.1 C.2.1 dX11_image_7 (by decide) ?_
  refine x_calliS (As := [.int 0, .int 0, .int 1]) (rest := []) (wr := [(qm, .inr (10, [.int 0, .ref qm_tape, .int qm_taped, .int qm_size, .int qm_limit, .int qm_to, .int qm_from, .int qm_kind, .int qm_number, .int qm_sign, .int qm_fault, .int qm_place, .long qm_word, .int qm_told, .ref qm_now, .ref qm_read, .ref qm_kept, .ref qm_snaps, .ref qm_aside, .ref qm_name, .ref qm_readName, .ref qm_keptName, .ref qm_isKept, .ref qm_onces, .int qm_snapMany, .ref qm_order, .ref qm_ordered, .int qm_orderMany, .int qm_orderMost, .int qm_passing, .int qm_movedWho, .int qm_scratched, .ref qm_text, .int qm_texts, .int qm_seed, .ref qm_line, .ref qm_written, .int qm_lineMany, .int qm_hasWritten, .ref qm_node, .int qm_nodes, .int qm_onesMany, .int qm_within, .int qm_top])), (qm_now, eI G 339 qm_now_c), (qm_kept, eI G 678 qm_kept_c), (qm_name, eJ G 14 qm_name_c), (qm_keptName, eJ G 28 qm_keptName_c), (qm_isKept, eZ G 2 qm_isKept_c)]) C hw (s_X11_isIn 0 0 1) mwX11_isIn kw1396 [] [0, 1, 2, 3, 4, 5] rfl rfl rfl rfl (by decide) rfl hl.1 rfl (Nat.le_of_ble_eq_true rfl) ⟨(Nat.le_of_ble_eq_true rfl), (Nat.le_of_ble_eq_true rfl)⟩ ⟨(Nat.le_of_ble_eq_true rfl), (Nat.le_of_ble_eq_true rfl)⟩ dX11_image_8 (fun r1 u9 H locs hp9 hw => ?_)
  rcases hp9 with ⟨rfl, rfl, hf2⟩ | ⟨rfl, rfl, hf3, hf4⟩
  · skip
    have hw : Wd G s A [(qm, .inr (10, [.int 0, .ref qm_tape, .int qm_taped, .int qm_size, .int qm_limit, .int qm_to, .int qm_from, .int qm_kind, .int qm_number, .int qm_sign, .int qm_fault, .int qm_place, .long qm_word, .int qm_told, .ref qm_now, .ref qm_read, .ref qm_kept, .ref qm_snaps, .ref qm_aside, .ref qm_name, .ref qm_readName, .ref qm_keptName, .ref qm_isKept, .ref qm_onces, .int qm_snapMany, .ref qm_order, .ref qm_ordered, .int qm_orderMany, .int qm_orderMost, .int qm_passing, .int qm_movedWho, .int qm_scratched, .ref qm_text, .int qm_texts, .int qm_seed, .ref qm_line, .ref qm_written, .int qm_lineMany, .int qm_hasWritten, .ref qm_node, .int qm_nodes, .int qm_onesMany, .int qm_within, .int qm_top])), (qm_now, eI G 339 qm_now_c), (qm_kept, eI G 678 qm_kept_c), (qm_name, eJ G 14 qm_name_c), (qm_keptName, eJ G 28 qm_keptName_c), (qm_isKept, eZ G 2 qm_isKept_c)] H _ := hw
    have hf2 : 0 < 0 ∨ 1 < 0 := by first | exact hf2 | (have e0 : (0 : Int32).toInt = 0 := rfl; have e1 : (1 : Int32).toInt = 1 := rfl; omega)
    refine lv_if_ne (tgt := 16) C.1 C.2.1 dX11_image_11 (by decide) (fun h9 => absurd (by decide) h9) (fun _ => ?_)
    exfalso; omega
  · skip
    have hw : Wd G s A [(qm, .inr (10, [.int 0, .ref qm_tape, .int qm_taped, .int qm_size, .int qm_limit, .int qm_to, .int qm_from, .int qm_kind, .int qm_number, .int qm_sign, .int qm_fault, .int qm_place, .long qm_word, .int qm_told, .ref qm_now, .ref qm_read, .ref qm_kept, .ref qm_snaps, .ref qm_aside, .ref qm_name, .ref qm_readName, .ref qm_keptName, .ref qm_isKept, .ref qm_onces, .int qm_snapMany, .ref qm_order, .ref qm_ordered, .int qm_orderMany, .int qm_orderMost, .int qm_passing, .int qm_movedWho, .int qm_scratched, .ref qm_text, .int qm_texts, .int qm_seed, .ref qm_line, .ref qm_written, .int qm_lineMany, .int qm_hasWritten, .ref qm_node, .int qm_nodes, .int qm_onesMany, .int qm_within, .int qm_top])), (qm_now, eI G 339 qm_now_c), (qm_kept, eI G 678 qm_kept_c), (qm_name, eJ G 14 qm_name_c), (qm_keptName, eJ G 28 qm_keptName_c), (qm_isKept, eZ G 2 qm_isKept_c)] H _ := hw
    have hf3 : 0 ≤ 0 := by first | exact hf3 | (have e0 : (0 : Int32).toInt = 0 := rfl; omega)
    have hf4 : 0 ≤ 1 := by first | exact hf4 | (have e0 : (0 : Int32).toInt = 0 := rfl; have e1 : (1 : Int32).toInt = 1 := rfl; omega)
    refine lv_if_ne (tgt := 16) C.1 C.2.1 dX11_image_11 (by decide) (fun _ => ?_) (fun h9 => absurd h9 (by decide))
    have fc5 : cpJ 0 0 qm_now_c qm_kept_c 0 qm_kept_c := cpI_0
    refine lv_iconst (v := 0) C.1 C.2.1 dX11_image_16 (by decide) ?_
    refine lv_istore_n (lv' := [(2, .int 0), (0, .ref qm), (1, .int 0)]) C.1 C.2.1 dX11_image_17 rfl hl (by decide) rfl (fun ls hl => ?_)
    have loopJ213 : ∀ (n9 : Nat) (j211 : Int32) (j212 : Nat → Int32), (2147483647 - j211.toInt).toNat < n9 → (0 ≤ j211.toInt ∧ j211.toInt ≤ 339) → (cpJ 0 0 qm_now_c qm_kept_c j211 j212) → ∀ (H : Heap) (locs : List Loc) (ls : Array Slot), Wd G s A [(qm, .inr (10, [.int 0, .ref qm_tape, .int qm_taped, .int qm_size, .int qm_limit, .int qm_to, .int qm_from, .int qm_kind, .int qm_number, .int qm_sign, .int qm_fault, .int qm_place, .long qm_word, .int qm_told, .ref qm_now, .ref qm_read, .ref qm_kept, .ref qm_snaps, .ref qm_aside, .ref qm_name, .ref qm_readName, .ref qm_keptName, .ref qm_isKept, .ref qm_onces, .int qm_snapMany, .ref qm_order, .ref qm_ordered, .int qm_orderMany, .int qm_orderMost, .int qm_passing, .int qm_movedWho, .int qm_scratched, .ref qm_text, .int qm_texts, .int qm_seed, .ref qm_line, .ref qm_written, .int qm_lineMany, .int qm_hasWritten, .ref qm_node, .int qm_nodes, .int qm_onesMany, .int qm_within, .int qm_top])), (qm_now, eI G 339 qm_now_c), (qm_kept, eI G 678 j212), (qm_name, eJ G 14 qm_name_c), (qm_keptName, eJ G 28 qm_keptName_c), (qm_isKept, eZ G 2 qm_isKept_c)] H locs → lv_has ls 3 [(2, .int j211), (0, .ref qm), (1, .int 0)] → W p l e (rmD 1 0 0) s m args below meth c H locs 0 0 Q (F0 m 18 ls []) := by
      intro n9
      induction n9 with
      | zero => intro j211 j212 h9; exact absurd h9 (Nat.not_lt_zero _)
      | succ n9 ihJ213 =>
        intro j211 j212 h9J213 hJ213_0 hJ213_1 H locs ls hw hl
        have hbj211 := i_bd j211
        refine lv_iload_n C.1 C.2.1 dX11_image_18 rfl (lv_at hl 0 rfl) ?_
        refine lv_sipush (v := 339) C.1 C.2.1 dX11_image_19 (by decide) ?_
        refine lv_icmp_ge (tgt := 49) C.1 C.2.1 dX11_image_22 (by decide) (fun c220 => ?_) (fun c220 => ?_)
        · skip
          have c220 : 339 ≤ j211.toInt := i_leT (X := 339) (Y := j211.toInt) rfl rfl c220
          have fk221 : kpI j212 := kpI_cp0 hJ213_1 (by omega) hf_qm_kept_c hf_qm_now_c hf1_qm_now_c
          refine lv_iconst (v := 0) C.1 C.2.1 dX11_image_49 (by decide) ?_
          refine lv_istore_n (lv' := [(2, .int 0), (0, .ref qm), (1, .int 0)]) C.1 C.2.1 dX11_image_50 rfl hl (by decide) rfl (fun ls hl => ?_)
          have loopJ318 : ∀ (n9 : Nat) (j316 : Int32) (j317 : Nat → Int64), (2147483647 - j316.toInt).toNat < n9 → (0 ≤ j316.toInt ∧ j316.toInt ≤ 14) → ∀ (H : Heap) (locs : List Loc) (ls : Array Slot), Wd G s A [(qm, .inr (10, [.int 0, .ref qm_tape, .int qm_taped, .int qm_size, .int qm_limit, .int qm_to, .int qm_from, .int qm_kind, .int qm_number, .int qm_sign, .int qm_fault, .int qm_place, .long qm_word, .int qm_told, .ref qm_now, .ref qm_read, .ref qm_kept, .ref qm_snaps, .ref qm_aside, .ref qm_name, .ref qm_readName, .ref qm_keptName, .ref qm_isKept, .ref qm_onces, .int qm_snapMany, .ref qm_order, .ref qm_ordered, .int qm_orderMany, .int qm_orderMost, .int qm_passing, .int qm_movedWho, .int qm_scratched, .ref qm_text, .int qm_texts, .int qm_seed, .ref qm_line, .ref qm_written, .int qm_lineMany, .int qm_hasWritten, .ref qm_node, .int qm_nodes, .int qm_onesMany, .int qm_within, .int qm_top])), (qm_now, eI G 339 qm_now_c), (qm_kept, eI G 678 j212), (qm_name, eJ G 14 qm_name_c), (qm_keptName, eJ G 28 j317), (qm_isKept, eZ G 2 qm_isKept_c)] H locs → lv_has ls 3 [(2, .int j316), (0, .ref qm), (1, .int 0)] → W p l e (rmD 1 0 0) s m args below meth c H locs 0 0 Q (F0 m 51 ls []) := by
            intro n9
            induction n9 with
            | zero => intro j316 j317 h9; exact absurd h9 (Nat.not_lt_zero _)
            | succ n9 ihJ318 =>
              intro j316 j317 h9J318 hJ318_0 H locs ls hw hl
              have hbj316 := i_bd j316
              refine lv_iload_n C.1 C.2.1 dX11_image_51 rfl (lv_at hl 0 rfl) ?_
              refine lv_bipush (v := 14) C.1 C.2.1 dX11_image_52 (by decide) ?_
              refine lv_icmp_ge (tgt := 80) C.1 C.2.1 dX11_image_54 (by decide) (fun c324 => ?_) (fun c324 => ?_)
              · skip
                have c324 : 14 ≤ j316.toInt := i_leT (X := 14) (Y := j316.toInt) rfl rfl c324
                refine lv_aload_n C.1 C.2.1 dX11_image_80 rfl (lv_at hl 1 rfl) ?_
                refine x_get C hw iwX11 10 rfl 0 rfl 22 (by decide) kw1215 rfl dX11_image_81 ?_
                refine lv_iload_n C.1 C.2.1 dX11_image_84 rfl (lv_at hl 2 rfl) ?_
                refine lv_iconst (v := 1) C.1 C.2.1 dX11_image_85 (by decide) ?_
                obtain ⟨g325, eg325⟩ : ∃ z, upd qm_isKept_c 0 (vp_nar .boolean 1) = z := ⟨_, rfl⟩
                have mk1 : (g325 0).toInt = 1 := by rw [← eg325, upd_at]; rfl
                have mk2 : (g325 1).toInt = (qm_isKept_c 1).toInt := by rw [← eg325, upd_ne (by omega)]
                refine x_zast (f' := g325) (w' := [(qm, .inr (10, [.int 0, .ref qm_tape, .int qm_taped, .int qm_size, .int qm_limit, .int qm_to, .int qm_from, .int qm_kind, .int qm_number, .int qm_sign, .int qm_fault, .int qm_place, .long qm_word, .int qm_told, .ref qm_now, .ref qm_read, .ref qm_kept, .ref qm_snaps, .ref qm_aside, .ref qm_name, .ref qm_readName, .ref qm_keptName, .ref qm_isKept, .ref qm_onces, .int qm_snapMany, .ref qm_order, .ref qm_ordered, .int qm_orderMany, .int qm_orderMost, .int qm_passing, .int qm_movedWho, .int qm_scratched, .ref qm_text, .int qm_texts, .int qm_seed, .ref qm_line, .ref qm_written, .int qm_lineMany, .int qm_hasWritten, .ref qm_node, .int qm_nodes, .int qm_onesMany, .int qm_within, .int qm_top])), (qm_now, eI G 339 qm_now_c), (qm_kept, eI G 678 j212), (qm_name, eJ G 14 qm_name_c), (qm_keptName, eJ G 28 j317), (qm_isKept, eZ G 2 g325)]) C hw 5 rfl (x_in rfl) eg325 rfl dX11_image_86 (fun H locs hw => ?_)
                refine lv_iconst (v := 1) C.1 C.2.1 dX11_image_87 (by decide) ?_
                exact x_retzQ hQ B hw rfl ⟨j212, j317, g325, rfl, rfl, fk221, (by omega), (by omega), ⟨j211, by omega, hJ213_1⟩⟩ (Nat.le_of_ble_eq_true rfl) (Nat.le_of_ble_eq_true rfl) dX11_image_88
              · skip
                have c324 : j316.toInt < 14 := i_leF (X := 14) (Y := j316.toInt) rfl rfl c324
                refine lv_aload_n C.1 C.2.1 dX11_image_57 rfl (lv_at hl 1 rfl) ?_
                refine x_get C hw iwX11 10 rfl 0 rfl 21 (by decide) kw1214 rfl dX11_image_58 ?_
                refine lv_bipush (v := 14) C.1 C.2.1 dX11_image_61 (by decide) ?_
                refine lv_iload_n C.1 C.2.1 dX11_image_63 rfl (lv_at hl 2 rfl) ?_
                refine lv_imul C.1 C.2.1 dX11_image_64 ?_
                refine x_topi (z := 0) (by decide) ?_
                refine lv_iload_n C.1 C.2.1 dX11_image_65 rfl (lv_at hl 0 rfl) ?_
                refine lv_iadd C.1 C.2.1 dX11_image_66 (x_genP (fun z : Int32 => z.toInt = 0 + j316.toInt) (i_add (X := 0) (Y := j316.toInt) rfl rfl (by omega) (by omega)) (fun v326 hv326 => ?_))
                refine lv_aload_n C.1 C.2.1 dX11_image_67 rfl (lv_at hl 1 rfl) ?_
                refine x_get C hw iwX11 10 rfl 0 rfl 19 (by decide) kw1212 rfl dX11_image_68 ?_
                refine lv_iload_n C.1 C.2.1 dX11_image_71 rfl (lv_at hl 0 rfl) ?_
                refine x_lald (v := (qm_name_c j316.toNatClampNeg)) C hw 3 rfl (i_in (by omega) (by omega)) rfl dX11_image_72 (x_genl (fun v327 => ?_))
                obtain ⟨g328, eg328⟩ : ∃ z, vp_updL j317 (v326.toNatClampNeg) v327 = z := ⟨_, rfl⟩
                refine x_last (f' := g328) (w' := [(qm, .inr (10, [.int 0, .ref qm_tape, .int qm_taped, .int qm_size, .int qm_limit, .int qm_to, .int qm_from, .int qm_kind, .int qm_number, .int qm_sign, .int qm_fault, .int qm_place, .long qm_word, .int qm_told, .ref qm_now, .ref qm_read, .ref qm_kept, .ref qm_snaps, .ref qm_aside, .ref qm_name, .ref qm_readName, .ref qm_keptName, .ref qm_isKept, .ref qm_onces, .int qm_snapMany, .ref qm_order, .ref qm_ordered, .int qm_orderMany, .int qm_orderMost, .int qm_passing, .int qm_movedWho, .int qm_scratched, .ref qm_text, .int qm_texts, .int qm_seed, .ref qm_line, .ref qm_written, .int qm_lineMany, .int qm_hasWritten, .ref qm_node, .int qm_nodes, .int qm_onesMany, .int qm_within, .int qm_top])), (qm_now, eI G 339 qm_now_c), (qm_kept, eI G 678 j212), (qm_name, eJ G 14 qm_name_c), (qm_keptName, eJ G 28 g328), (qm_isKept, eZ G 2 qm_isKept_c)]) C hw 4 rfl (i_in (by omega) (by omega)) eg328 rfl dX11_image_73 (fun H locs hw => ?_)
                obtain ⟨v329, ev329⟩ : ∃ z : Int32, j316 + 1 = z := ⟨_, rfl⟩
                have hv329 : v329.toInt = j316.toInt + 1 := by rw [← ev329]; exact i_add rfl rfl (by omega) (by omega)
                refine lv_iinc (v := v329) (lv' := [(2, .int v329), (0, .ref qm), (1, .int 0)]) C.1 C.2.1 dX11_image_74 hl (k := 0) rfl ev329 (by decide) rfl (fun ls hl => ?_)
                refine lv_goto (tgt := 51) C.1 C.2.1 dX11_image_77 (by decide) ?_
                exact ihJ318 v329 g328 (by omega) (by omega) _ _ _ hw (lv_sub hl [0, 1, 2] rfl)
          exact loopJ318 _ 0 qm_keptName_c (Nat.lt_succ_self _) (by decide) _ _ _ hw (lv_sub hl [0, 1, 2] rfl)
        · skip
          have c220 : j211.toInt < 339 := i_leF (X := 339) (Y := j211.toInt) rfl rfl c220
          refine lv_aload_n C.1 C.2.1 dX11_image_25 rfl (lv_at hl 1 rfl) ?_
          refine x_get C hw iwX11 10 rfl 0 rfl 16 (by decide) kw1209 rfl dX11_image_26 ?_
          refine lv_sipush (v := 339) C.1 C.2.1 dX11_image_29 (by decide) ?_
          refine lv_iload_n C.1 C.2.1 dX11_image_32 rfl (lv_at hl 2 rfl) ?_
          refine lv_imul C.1 C.2.1 dX11_image_33 ?_
          refine x_topi (z := 0) (by decide) ?_
          refine lv_iload_n C.1 C.2.1 dX11_image_34 rfl (lv_at hl 0 rfl) ?_
          refine lv_iadd C.1 C.2.1 dX11_image_35 (x_genP (fun z : Int32 => z.toInt = 0 + j211.toInt) (i_add (X := 0) (Y := j211.toInt) rfl rfl (by omega) (by omega)) (fun v330 hv330 => ?_))
          refine lv_aload_n C.1 C.2.1 dX11_image_36 rfl (lv_at hl 1 rfl) ?_
          refine x_get C hw iwX11 10 rfl 0 rfl 14 (by decide) kw1207 rfl dX11_image_37 ?_
          refine lv_iload_n C.1 C.2.1 dX11_image_40 rfl (lv_at hl 0 rfl) ?_
          refine x_iald (v := (qm_now_c j211.toNatClampNeg)) C hw 1 rfl (i_in (by omega) (by omega)) rfl dX11_image_41 (x_genP (fun z : Int32 => qm_now_c j211.toNatClampNeg = z) rfl (fun v331 hv331 => ?_))
          obtain ⟨g332, eg332⟩ : ∃ z, upd j212 (v330.toNatClampNeg) v331 = z := ⟨_, rfl⟩
          refine x_iast (f' := g332) (w' := [(qm, .inr (10, [.int 0, .ref qm_tape, .int qm_taped, .int qm_size, .int qm_limit, .int qm_to, .int qm_from, .int qm_kind, .int qm_number, .int qm_sign, .int qm_fault, .int qm_place, .long qm_word, .int qm_told, .ref qm_now, .ref qm_read, .ref qm_kept, .ref qm_snaps, .ref qm_aside, .ref qm_name, .ref qm_readName, .ref qm_keptName, .ref qm_isKept, .ref qm_onces, .int qm_snapMany, .ref qm_order, .ref qm_ordered, .int qm_orderMany, .int qm_orderMost, .int qm_passing, .int qm_movedWho, .int qm_scratched, .ref qm_text, .int qm_texts, .int qm_seed, .ref qm_line, .ref qm_written, .int qm_lineMany, .int qm_hasWritten, .ref qm_node, .int qm_nodes, .int qm_onesMany, .int qm_within, .int qm_top])), (qm_now, eI G 339 qm_now_c), (qm_kept, eI G 678 g332), (qm_name, eJ G 14 qm_name_c), (qm_keptName, eJ G 28 qm_keptName_c), (qm_isKept, eZ G 2 qm_isKept_c)]) C hw 2 rfl (i_in (by omega) (by omega)) eg332 rfl dX11_image_42 (fun H locs hw => ?_)
          obtain ⟨v333, ev333⟩ : ∃ z : Int32, j211 + 1 = z := ⟨_, rfl⟩
          have hv333 : v333.toInt = j211.toInt + 1 := by rw [← ev333]; exact i_add rfl rfl (by omega) (by omega)
          refine lv_iinc (v := v333) (lv' := [(2, .int v333), (0, .ref qm), (1, .int 0)]) C.1 C.2.1 dX11_image_43 hl (k := 0) rfl ev333 (by decide) rfl (fun ls hl => ?_)
          refine lv_goto (tgt := 18) C.1 C.2.1 dX11_image_46 (by decide) ?_
          have fc334 : cpJ 0 0 qm_now_c qm_kept_c v333 g332 := by rw [← eg332]; exact cpI_s hJ213_1 (by omega) (by omega) (by have q := i_cn j211; omega) (by have q := i_cn v330; omega) hv331
          exact ihJ213 v333 g332 (by omega) (by omega) fc334 _ _ _ hw (lv_sub hl [0, 1, 2] rfl)
    exact loopJ213 _ 0 qm_kept_c (Nat.lt_succ_self _) (by decide) fc5 _ _ _ hw (lv_sub hl [0, 1, 2] rfl)
theorem dX11_restore_0 : decode cX11_restore 0 = .ok (.aload_n 0, 1) := by decide +kernel
theorem dX11_restore_1 : decode cX11_restore 1 = .ok (.iconst 0, 1) := by decide +kernel
theorem dX11_restore_2 : decode cX11_restore 2 = .ok (.putfield 1, 3) := by decide +kernel
theorem dX11_restore_5 : decode cX11_restore 5 = .ok (.iload_n 1, 1) := by decide +kernel
theorem dX11_restore_6 : decode cX11_restore 6 = .ok (.iconst 0, 1) := by decide +kernel
theorem dX11_restore_7 : decode cX11_restore 7 = .ok (.iconst 1, 1) := by decide +kernel
theorem dX11_restore_8 : decode cX11_restore 8 = .ok (.invokestatic 75, 3) := by decide +kernel
theorem dX11_restore_11 : decode cX11_restore 11 = .ok (.ifCond .eq 12, 3) := by decide +kernel
theorem dX11_restore_23 : decode cX11_restore 23 = .ok (.iconst 0, 1) := by decide +kernel
theorem dX11_restore_24 : decode cX11_restore 24 = .ok (.ireturn, 1) := by decide +kernel
theorem dX11_restore_14 : decode cX11_restore 14 = .ok (.aload_n 0, 1) := by decide +kernel
theorem dX11_restore_15 : decode cX11_restore 15 = .ok (.getfield 123, 3) := by decide +kernel
theorem dX11_restore_18 : decode cX11_restore 18 = .ok (.iload_n 1, 1) := by decide +kernel
theorem dX11_restore_19 : decode cX11_restore 19 = .ok (.baload, 1) := by decide +kernel
theorem dX11_restore_20 : decode cX11_restore 20 = .ok (.ifCond .ne 5, 3) := by decide +kernel
theorem dX11_restore_25 : decode cX11_restore 25 = .ok (.iconst 0, 1) := by decide +kernel
theorem dX11_restore_26 : decode cX11_restore 26 = .ok (.istore_n 2, 1) := by decide +kernel
theorem dX11_restore_27 : decode cX11_restore 27 = .ok (.iload_n 2, 1) := by decide +kernel
theorem dX11_restore_28 : decode cX11_restore 28 = .ok (.sipush 339, 3) := by decide +kernel
theorem dX11_restore_31 : decode cX11_restore 31 = .ok (.if_icmp .ge 27, 3) := by decide +kernel
theorem dX11_restore_34 : decode cX11_restore 34 = .ok (.aload_n 0, 1) := by decide +kernel
theorem dX11_restore_35 : decode cX11_restore 35 = .ok (.getfield 98, 3) := by decide +kernel
theorem dX11_restore_38 : decode cX11_restore 38 = .ok (.iload_n 2, 1) := by decide +kernel
theorem dX11_restore_39 : decode cX11_restore 39 = .ok (.aload_n 0, 1) := by decide +kernel
theorem dX11_restore_40 : decode cX11_restore 40 = .ok (.getfield 104, 3) := by decide +kernel
theorem dX11_restore_43 : decode cX11_restore 43 = .ok (.sipush 339, 3) := by decide +kernel
theorem dX11_restore_46 : decode cX11_restore 46 = .ok (.iload_n 1, 1) := by decide +kernel
theorem dX11_restore_47 : decode cX11_restore 47 = .ok (.imul, 1) := by decide +kernel
theorem dX11_restore_48 : decode cX11_restore 48 = .ok (.iload_n 2, 1) := by decide +kernel
theorem dX11_restore_49 : decode cX11_restore 49 = .ok (.iadd, 1) := by decide +kernel
theorem dX11_restore_50 : decode cX11_restore 50 = .ok (.iaload, 1) := by decide +kernel
theorem dX11_restore_51 : decode cX11_restore 51 = .ok (.iastore, 1) := by decide +kernel
theorem dX11_restore_52 : decode cX11_restore 52 = .ok (.iinc 2 1, 3) := by decide +kernel
theorem dX11_restore_55 : decode cX11_restore 55 = .ok (.goto (-28), 3) := by decide +kernel
theorem dX11_restore_58 : decode cX11_restore 58 = .ok (.iconst 0, 1) := by decide +kernel
theorem dX11_restore_59 : decode cX11_restore 59 = .ok (.istore_n 2, 1) := by decide +kernel
theorem dX11_restore_60 : decode cX11_restore 60 = .ok (.iload_n 2, 1) := by decide +kernel
theorem dX11_restore_61 : decode cX11_restore 61 = .ok (.bipush 14, 2) := by decide +kernel
theorem dX11_restore_63 : decode cX11_restore 63 = .ok (.if_icmp .ge 26, 3) := by decide +kernel
theorem dX11_restore_66 : decode cX11_restore 66 = .ok (.aload_n 0, 1) := by decide +kernel
theorem dX11_restore_67 : decode cX11_restore 67 = .ok (.getfield 113, 3) := by decide +kernel
theorem dX11_restore_70 : decode cX11_restore 70 = .ok (.iload_n 2, 1) := by decide +kernel
theorem dX11_restore_71 : decode cX11_restore 71 = .ok (.aload_n 0, 1) := by decide +kernel
theorem dX11_restore_72 : decode cX11_restore 72 = .ok (.getfield 120, 3) := by decide +kernel
theorem dX11_restore_75 : decode cX11_restore 75 = .ok (.bipush 14, 2) := by decide +kernel
theorem dX11_restore_77 : decode cX11_restore 77 = .ok (.iload_n 1, 1) := by decide +kernel
theorem dX11_restore_78 : decode cX11_restore 78 = .ok (.imul, 1) := by decide +kernel
theorem dX11_restore_79 : decode cX11_restore 79 = .ok (.iload_n 2, 1) := by decide +kernel
theorem dX11_restore_80 : decode cX11_restore 80 = .ok (.iadd, 1) := by decide +kernel
theorem dX11_restore_81 : decode cX11_restore 81 = .ok (.laload, 1) := by decide +kernel
theorem dX11_restore_82 : decode cX11_restore 82 = .ok (.lastore, 1) := by decide +kernel
theorem dX11_restore_83 : decode cX11_restore 83 = .ok (.iinc 2 1, 3) := by decide +kernel
theorem dX11_restore_86 : decode cX11_restore 86 = .ok (.goto (-26), 3) := by decide +kernel
theorem dX11_restore_89 : decode cX11_restore 89 = .ok (.aload_n 0, 1) := by decide +kernel
theorem dX11_restore_90 : decode cX11_restore 90 = .ok (.iconst 0, 1) := by decide +kernel
theorem dX11_restore_91 : decode cX11_restore 91 = .ok (.putfield 231, 3) := by decide +kernel
theorem dX11_restore_94 : decode cX11_restore 94 = .ok (.iconst 1, 1) := by decide +kernel
theorem dX11_restore_95 : decode cX11_restore 95 = .ok (.ireturn, 1) := by decide +kernel
set_option maxHeartbeats 4000000 in
set_option maxRecDepth 100000 in
theorem s_X11_restore_0 {l : Launch} {G : Gc} (qm : Nat) (qm_thrown : Int32) (qm_tape : Nat) (qm_taped : Int32) (qm_size : Int32) (qm_limit : Int32) (qm_to : Int32) (qm_from : Int32) (qm_kind : Int32) (qm_number : Int32) (qm_sign : Int32) (qm_fault : Int32) (qm_place : Int32) (qm_word : Int64) (qm_told : Int32) (qm_now : Nat) (qm_read : Nat) (qm_kept : Nat) (qm_snaps : Nat) (qm_aside : Nat) (qm_name : Nat) (qm_readName : Nat) (qm_keptName : Nat) (qm_isKept : Nat) (qm_onces : Nat) (qm_snapMany : Int32) (qm_order : Nat) (qm_ordered : Nat) (qm_orderMany : Int32) (qm_orderMost : Int32) (qm_passing : Int32) (qm_movedWho : Int32) (qm_scratched : Int32) (qm_text : Nat) (qm_texts : Int32) (qm_seed : Int32) (qm_line : Nat) (qm_written : Nat) (qm_lineMany : Int32) (qm_hasWritten : Int32) (qm_node : Nat) (qm_nodes : Int32) (qm_onesMany : Int32) (qm_within : Int32) (qm_top : Int32) (qm_now_c : Nat → Int32) (qm_kept_c : Nat → Int32) (qm_name_c : Nat → Int64) (qm_keptName_c : Nat → Int64) (qm_isKept_c : Nat → Int32) (hf_qm_now_c : slI qm_now_c) (hf1_qm_now_c : trI qm_now_c) (hf_qm_kept_c : kpI qm_kept_c) : Ci l yX11_restore cX11_restore 3 (some .boolean) 1 0 0 G [.ref qm, .int 0] [(qm, .inr (10, [.int qm_thrown, .ref qm_tape, .int qm_taped, .int qm_size, .int qm_limit, .int qm_to, .int qm_from, .int qm_kind, .int qm_number, .int qm_sign, .int qm_fault, .int qm_place, .long qm_word, .int qm_told, .ref qm_now, .ref qm_read, .ref qm_kept, .ref qm_snaps, .ref qm_aside, .ref qm_name, .ref qm_readName, .ref qm_keptName, .ref qm_isKept, .ref qm_onces, .int qm_snapMany, .ref qm_order, .ref qm_ordered, .int qm_orderMany, .int qm_orderMost, .int qm_passing, .int qm_movedWho, .int qm_scratched, .ref qm_text, .int qm_texts, .int qm_seed, .ref qm_line, .ref qm_written, .int qm_lineMany, .int qm_hasWritten, .ref qm_node, .int qm_nodes, .int qm_onesMany, .int qm_within, .int qm_top])), (qm_now, eI G 339 qm_now_c), (qm_kept, eI G 678 qm_kept_c), (qm_name, eJ G 14 qm_name_c), (qm_keptName, eJ G 28 qm_keptName_c), (qm_isKept, eZ G 2 qm_isKept_c)] (fun (r9 : Int32) (u9 : va_W) => (r9 = 0 ∧ u9 = [(qm, .inr (10, [.int 0, .ref qm_tape, .int qm_taped, .int qm_size, .int qm_limit, .int qm_to, .int qm_from, .int qm_kind, .int qm_number, .int qm_sign, .int qm_fault, .int qm_place, .long qm_word, .int qm_told, .ref qm_now, .ref qm_read, .ref qm_kept, .ref qm_snaps, .ref qm_aside, .ref qm_name, .ref qm_readName, .ref qm_keptName, .ref qm_isKept, .ref qm_onces, .int qm_snapMany, .ref qm_order, .ref qm_ordered, .int qm_orderMany, .int qm_orderMost, .int qm_passing, .int qm_movedWho, .int qm_scratched, .ref qm_text, .int qm_texts, .int qm_seed, .ref qm_line, .ref qm_written, .int qm_lineMany, .int qm_hasWritten, .ref qm_node, .int qm_nodes, .int qm_onesMany, .int qm_within, .int qm_top])), (qm_now, eI G 339 qm_now_c), (qm_kept, eI G 678 qm_kept_c), (qm_name, eJ G 14 qm_name_c), (qm_keptName, eJ G 28 qm_keptName_c), (qm_isKept, eZ G 2 qm_isKept_c)] ∧ ((qm_isKept_c 0).toInt = 0)) ∨ (∃ (x0_qm_now_c : Nat → Int32) (x1_qm_name_c : Nat → Int64), r9 = 1 ∧ u9 = [(qm, .inr (10, [.int 0, .ref qm_tape, .int qm_taped, .int qm_size, .int qm_limit, .int qm_to, .int qm_from, .int qm_kind, .int qm_number, .int qm_sign, .int qm_fault, .int qm_place, .long qm_word, .int qm_told, .ref qm_now, .ref qm_read, .ref qm_kept, .ref qm_snaps, .ref qm_aside, .ref qm_name, .ref qm_readName, .ref qm_keptName, .ref qm_isKept, .ref qm_onces, .int 0, .ref qm_order, .ref qm_ordered, .int qm_orderMany, .int qm_orderMost, .int qm_passing, .int qm_movedWho, .int qm_scratched, .ref qm_text, .int qm_texts, .int qm_seed, .ref qm_line, .ref qm_written, .int qm_lineMany, .int qm_hasWritten, .ref qm_node, .int qm_nodes, .int qm_onesMany, .int qm_within, .int qm_top])), (qm_now, eI G 339 x0_qm_now_c), (qm_kept, eI G 678 qm_kept_c), (qm_name, eJ G 14 x1_qm_name_c), (qm_keptName, eJ G 28 qm_keptName_c), (qm_isKept, eZ G 2 qm_isKept_c)] ∧ (slI x0_qm_now_c) ∧ (trI x0_qm_now_c) ∧ ((qm_isKept_c 0).toInt ≠ 0) ∧ (cpF 0 0 339 qm_kept_c qm_now_c x0_qm_now_c))) := by
  refine Ci.ofQ (by decide) (Nat.le_of_ble_eq_true rfl) ?_
  intro p e s m below meth c ls A args Q hQ B hw hl
  have C : CallFix p m c cX11_restore 3 s args gw "LanternStateModel" := B.1
  have hl : lv_has ls 3 [(0, .ref qm), (1, .int 0)] := hl
  refine lv_aload_n C.1 C.2.1 dX11_restore_0 rfl (lv_at hl 0 rfl) ?_
  refine lv_iconst (v := 0) C.1 C.2.1 dX11_restore_1 (by decide) ?_
  refine x_put (w' := [(qm, .inr (10, [.int 0, .ref qm_tape, .int qm_taped, .int qm_size, .int qm_limit, .int qm_to, .int qm_from, .int qm_kind, .int qm_number, .int qm_sign, .int qm_fault, .int qm_place, .long qm_word, .int qm_told, .ref qm_now, .ref qm_read, .ref qm_kept, .ref qm_snaps, .ref qm_aside, .ref qm_name, .ref qm_readName, .ref qm_keptName, .ref qm_isKept, .ref qm_onces, .int qm_snapMany, .ref qm_order, .ref qm_ordered, .int qm_orderMany, .int qm_orderMost, .int qm_passing, .int qm_movedWho, .int qm_scratched, .ref qm_text, .int qm_texts, .int qm_seed, .ref qm_line, .ref qm_written, .int qm_lineMany, .int qm_hasWritten, .ref qm_node, .int qm_nodes, .int qm_onesMany, .int qm_within, .int qm_top])), (qm_now, eI G 339 qm_now_c), (qm_kept, eI G 678 qm_kept_c), (qm_name, eJ G 14 qm_name_c), (qm_keptName, eJ G 28 qm_keptName_c), (qm_isKept, eZ G 2 qm_isKept_c)]) C hw iwX11 tyX11_ok nmX11 10 rfl 0 rfl 0 (by decide) kw1193 rfl rfl rfl (Nat.le_of_ble_eq_true rfl) rfl dX11_restore_2 (fun H locs hw => ?_)
  refine lv_iload_n C.1 C.2.1 dX11_restore_5 rfl (lv_at hl 1 rfl) ?_
  refine lv_iconst (v := 0) C.1 C.2.1 dX11_restore_6 (by decide) ?_
  refine lv_iconst (v := 1) C.1 C.2.1 dX11_restore_7 (by decide) ?_
  refine x_calliS (As := [.int 0, .int 0, .int 1]) (rest := []) (wr := [(qm, .inr (10, [.int 0, .ref qm_tape, .int qm_taped, .int qm_size, .int qm_limit, .int qm_to, .int qm_from, .int qm_kind, .int qm_number, .int qm_sign, .int qm_fault, .int qm_place, .long qm_word, .int qm_told, .ref qm_now, .ref qm_read, .ref qm_kept, .ref qm_snaps, .ref qm_aside, .ref qm_name, .ref qm_readName, .ref qm_keptName, .ref qm_isKept, .ref qm_onces, .int qm_snapMany, .ref qm_order, .ref qm_ordered, .int qm_orderMany, .int qm_orderMost, .int qm_passing, .int qm_movedWho, .int qm_scratched, .ref qm_text, .int qm_texts, .int qm_seed, .ref qm_line, .ref qm_written, .int qm_lineMany, .int qm_hasWritten, .ref qm_node, .int qm_nodes, .int qm_onesMany, .int qm_within, .int qm_top])), (qm_now, eI G 339 qm_now_c), (qm_kept, eI G 678 qm_kept_c), (qm_name, eJ G 14 qm_name_c), (qm_keptName, eJ G 28 qm_keptName_c), (qm_isKept, eZ G 2 qm_isKept_c)]) C hw (s_X11_isIn 0 0 1) mwX11_isIn kw1396 [] [0, 1, 2, 3, 4, 5] rfl rfl rfl rfl (by decide) rfl hl.1 rfl (Nat.le_of_ble_eq_true rfl) ⟨(Nat.le_of_ble_eq_true rfl), (Nat.le_of_ble_eq_true rfl)⟩ ⟨(Nat.le_of_ble_eq_true rfl), (Nat.le_of_ble_eq_true rfl)⟩ dX11_restore_8 (fun r1 u9 H locs hp9 hw => ?_)
  rcases hp9 with ⟨rfl, rfl, hf2⟩ | ⟨rfl, rfl, hf3, hf4⟩
  · skip
    have hw : Wd G s A [(qm, .inr (10, [.int 0, .ref qm_tape, .int qm_taped, .int qm_size, .int qm_limit, .int qm_to, .int qm_from, .int qm_kind, .int qm_number, .int qm_sign, .int qm_fault, .int qm_place, .long qm_word, .int qm_told, .ref qm_now, .ref qm_read, .ref qm_kept, .ref qm_snaps, .ref qm_aside, .ref qm_name, .ref qm_readName, .ref qm_keptName, .ref qm_isKept, .ref qm_onces, .int qm_snapMany, .ref qm_order, .ref qm_ordered, .int qm_orderMany, .int qm_orderMost, .int qm_passing, .int qm_movedWho, .int qm_scratched, .ref qm_text, .int qm_texts, .int qm_seed, .ref qm_line, .ref qm_written, .int qm_lineMany, .int qm_hasWritten, .ref qm_node, .int qm_nodes, .int qm_onesMany, .int qm_within, .int qm_top])), (qm_now, eI G 339 qm_now_c), (qm_kept, eI G 678 qm_kept_c), (qm_name, eJ G 14 qm_name_c), (qm_keptName, eJ G 28 qm_keptName_c), (qm_isKept, eZ G 2 qm_isKept_c)] H _ := hw
    have hf2 : 0 < 0 ∨ 1 < 0 := by first | exact hf2 | (have e0 : (0 : Int32).toInt = 0 := rfl; have e1 : (1 : Int32).toInt = 1 := rfl; omega)
    refine lv_if_eq (tgt := 23) C.1 C.2.1 dX11_restore_11 (by decide) (fun _ => ?_) (fun h9 => absurd (by decide) h9)
    refine lv_iconst (v := 0) C.1 C.2.1 dX11_restore_23 (by decide) ?_
    exact x_retzQ hQ B hw rfl (Or.inl ⟨rfl, rfl, (by omega)⟩) (Nat.le_of_ble_eq_true rfl) (Nat.le_of_ble_eq_true rfl) dX11_restore_24
  · skip
    have hw : Wd G s A [(qm, .inr (10, [.int 0, .ref qm_tape, .int qm_taped, .int qm_size, .int qm_limit, .int qm_to, .int qm_from, .int qm_kind, .int qm_number, .int qm_sign, .int qm_fault, .int qm_place, .long qm_word, .int qm_told, .ref qm_now, .ref qm_read, .ref qm_kept, .ref qm_snaps, .ref qm_aside, .ref qm_name, .ref qm_readName, .ref qm_keptName, .ref qm_isKept, .ref qm_onces, .int qm_snapMany, .ref qm_order, .ref qm_ordered, .int qm_orderMany, .int qm_orderMost, .int qm_passing, .int qm_movedWho, .int qm_scratched, .ref qm_text, .int qm_texts, .int qm_seed, .ref qm_line, .ref qm_written, .int qm_lineMany, .int qm_hasWritten, .ref qm_node, .int qm_nodes, .int qm_onesMany, .int qm_within, .int qm_top])), (qm_now, eI G 339 qm_now_c), (qm_kept, eI G 678 qm_kept_c), (qm_name, eJ G 14 qm_name_c), (qm_keptName, eJ G 28 qm_keptName_c), (qm_isKept, eZ G 2 qm_isKept_c)] H _ := hw
    have hf3 : 0 ≤ 0 := by first | exact hf3 | (have e0 : (0 : Int32).toInt = 0 := rfl; omega)
    have hf4 : 0 ≤ 1 := by first | exact hf4 | (have e0 : (0 : Int32).toInt = 0 := rfl; have e1 : (1 : Int32).toInt = 1 := rfl; omega)
    refine lv_if_eq (tgt := 23) C.1 C.2.1 dX11_restore_11 (by decide) (fun h9 => absurd h9 (by decide)) (fun _ => ?_)
    refine lv_aload_n C.1 C.2.1 dX11_restore_14 rfl (lv_at hl 0 rfl) ?_
    refine x_get C hw iwX11 10 rfl 0 rfl 22 (by decide) kw1215 rfl dX11_restore_15 ?_
    refine lv_iload_n C.1 C.2.1 dX11_restore_18 rfl (lv_at hl 1 rfl) ?_
    refine x_zald (v := (qm_isKept_c 0)) C hw 5 rfl (x_in rfl) rfl dX11_restore_19 (x_genP (fun z : Int32 => z.toInt = (qm_isKept_c 0).toInt) rfl (fun v5 hv5 => ?_))
    refine lv_if_ne (tgt := 25) C.1 C.2.1 dX11_restore_20 (by decide) (fun c6 => ?_) (fun c6 => ?_)
    · skip
      have c6 : v5.toInt ≠ 0 := i_eqF (X := v5.toInt) (Y := 0) rfl rfl c6
      have bc6_v5 := i_bd v5
      have fc7 : cpJ 0 0 qm_kept_c qm_now_c 0 qm_now_c := cpI_0
      refine lv_iconst (v := 0) C.1 C.2.1 dX11_restore_25 (by decide) ?_
      refine lv_istore_n (lv' := [(2, .int 0), (0, .ref qm), (1, .int 0)]) C.1 C.2.1 dX11_restore_26 rfl hl (by decide) rfl (fun ls hl => ?_)
      have loopJ215 : ∀ (n9 : Nat) (j213 : Int32) (j214 : Nat → Int32), (2147483647 - j213.toInt).toNat < n9 → (0 ≤ j213.toInt ∧ j213.toInt ≤ 339) → (cpJ 0 0 qm_kept_c qm_now_c j213 j214) → ∀ (H : Heap) (locs : List Loc) (ls : Array Slot), Wd G s A [(qm, .inr (10, [.int 0, .ref qm_tape, .int qm_taped, .int qm_size, .int qm_limit, .int qm_to, .int qm_from, .int qm_kind, .int qm_number, .int qm_sign, .int qm_fault, .int qm_place, .long qm_word, .int qm_told, .ref qm_now, .ref qm_read, .ref qm_kept, .ref qm_snaps, .ref qm_aside, .ref qm_name, .ref qm_readName, .ref qm_keptName, .ref qm_isKept, .ref qm_onces, .int qm_snapMany, .ref qm_order, .ref qm_ordered, .int qm_orderMany, .int qm_orderMost, .int qm_passing, .int qm_movedWho, .int qm_scratched, .ref qm_text, .int qm_texts, .int qm_seed, .ref qm_line, .ref qm_written, .int qm_lineMany, .int qm_hasWritten, .ref qm_node, .int qm_nodes, .int qm_onesMany, .int qm_within, .int qm_top])), (qm_now, eI G 339 j214), (qm_kept, eI G 678 qm_kept_c), (qm_name, eJ G 14 qm_name_c), (qm_keptName, eJ G 28 qm_keptName_c), (qm_isKept, eZ G 2 qm_isKept_c)] H locs → lv_has ls 3 [(2, .int j213), (0, .ref qm), (1, .int 0)] → W p l e (rmD 1 0 0) s m args below meth c H locs 0 0 Q (F0 m 27 ls []) := by
        intro n9
        induction n9 with
        | zero => intro j213 j214 h9; exact absurd h9 (Nat.not_lt_zero _)
        | succ n9 ihJ215 =>
          intro j213 j214 h9J215 hJ215_0 hJ215_1 H locs ls hw hl
          have hbj213 := i_bd j213
          refine lv_iload_n C.1 C.2.1 dX11_restore_27 rfl (lv_at hl 0 rfl) ?_
          refine lv_sipush (v := 339) C.1 C.2.1 dX11_restore_28 (by decide) ?_
          refine lv_icmp_ge (tgt := 58) C.1 C.2.1 dX11_restore_31 (by decide) (fun c222 => ?_) (fun c222 => ?_)
          · skip
            have c222 : 339 ≤ j213.toInt := i_leT (X := 339) (Y := j213.toInt) rfl rfl c222
            have fk223 := slI_rs0 hJ215_1 (by omega) hf_qm_kept_c
            refine lv_iconst (v := 0) C.1 C.2.1 dX11_restore_58 (by decide) ?_
            refine lv_istore_n (lv' := [(2, .int 0), (0, .ref qm), (1, .int 0)]) C.1 C.2.1 dX11_restore_59 rfl hl (by decide) rfl (fun ls hl => ?_)
            have loopJ320 : ∀ (n9 : Nat) (j318 : Int32) (j319 : Nat → Int64), (2147483647 - j318.toInt).toNat < n9 → (0 ≤ j318.toInt ∧ j318.toInt ≤ 14) → ∀ (H : Heap) (locs : List Loc) (ls : Array Slot), Wd G s A [(qm, .inr (10, [.int 0, .ref qm_tape, .int qm_taped, .int qm_size, .int qm_limit, .int qm_to, .int qm_from, .int qm_kind, .int qm_number, .int qm_sign, .int qm_fault, .int qm_place, .long qm_word, .int qm_told, .ref qm_now, .ref qm_read, .ref qm_kept, .ref qm_snaps, .ref qm_aside, .ref qm_name, .ref qm_readName, .ref qm_keptName, .ref qm_isKept, .ref qm_onces, .int qm_snapMany, .ref qm_order, .ref qm_ordered, .int qm_orderMany, .int qm_orderMost, .int qm_passing, .int qm_movedWho, .int qm_scratched, .ref qm_text, .int qm_texts, .int qm_seed, .ref qm_line, .ref qm_written, .int qm_lineMany, .int qm_hasWritten, .ref qm_node, .int qm_nodes, .int qm_onesMany, .int qm_within, .int qm_top])), (qm_now, eI G 339 j214), (qm_kept, eI G 678 qm_kept_c), (qm_name, eJ G 14 j319), (qm_keptName, eJ G 28 qm_keptName_c), (qm_isKept, eZ G 2 qm_isKept_c)] H locs → lv_has ls 3 [(2, .int j318), (0, .ref qm), (1, .int 0)] → W p l e (rmD 1 0 0) s m args below meth c H locs 0 0 Q (F0 m 60 ls []) := by
              intro n9
              induction n9 with
              | zero => intro j318 j319 h9; exact absurd h9 (Nat.not_lt_zero _)
              | succ n9 ihJ320 =>
                intro j318 j319 h9J320 hJ320_0 H locs ls hw hl
                have hbj318 := i_bd j318
                refine lv_iload_n C.1 C.2.1 dX11_restore_60 rfl (lv_at hl 0 rfl) ?_
                refine lv_bipush (v := 14) C.1 C.2.1 dX11_restore_61 (by decide) ?_
                refine lv_icmp_ge (tgt := 89) C.1 C.2.1 dX11_restore_63 (by decide) (fun c326 => ?_) (fun c326 => ?_)
                · skip
                  have c326 : 14 ≤ j318.toInt := i_leT (X := 14) (Y := j318.toInt) rfl rfl c326
                  refine lv_aload_n C.1 C.2.1 dX11_restore_89 rfl (lv_at hl 1 rfl) ?_
                  refine lv_iconst (v := 0) C.1 C.2.1 dX11_restore_90 (by decide) ?_
                  refine x_put (w' := [(qm, .inr (10, [.int 0, .ref qm_tape, .int qm_taped, .int qm_size, .int qm_limit, .int qm_to, .int qm_from, .int qm_kind, .int qm_number, .int qm_sign, .int qm_fault, .int qm_place, .long qm_word, .int qm_told, .ref qm_now, .ref qm_read, .ref qm_kept, .ref qm_snaps, .ref qm_aside, .ref qm_name, .ref qm_readName, .ref qm_keptName, .ref qm_isKept, .ref qm_onces, .int 0, .ref qm_order, .ref qm_ordered, .int qm_orderMany, .int qm_orderMost, .int qm_passing, .int qm_movedWho, .int qm_scratched, .ref qm_text, .int qm_texts, .int qm_seed, .ref qm_line, .ref qm_written, .int qm_lineMany, .int qm_hasWritten, .ref qm_node, .int qm_nodes, .int qm_onesMany, .int qm_within, .int qm_top])), (qm_now, eI G 339 j214), (qm_kept, eI G 678 qm_kept_c), (qm_name, eJ G 14 j319), (qm_keptName, eJ G 28 qm_keptName_c), (qm_isKept, eZ G 2 qm_isKept_c)]) C hw iwX11 tyX11_ok nmX11 10 rfl 0 rfl 24 (by decide) kw1217 rfl rfl rfl (Nat.le_of_ble_eq_true rfl) rfl dX11_restore_91 (fun H locs hw => ?_)
                  refine lv_iconst (v := 1) C.1 C.2.1 dX11_restore_94 (by decide) ?_
                  exact x_retzQ hQ B hw rfl (Or.inr ⟨j214, j319, rfl, rfl, fk223.1, fk223.2, (by omega), ⟨j213, by omega, hJ215_1⟩⟩) (Nat.le_of_ble_eq_true rfl) (Nat.le_of_ble_eq_true rfl) dX11_restore_95
                · skip
                  have c326 : j318.toInt < 14 := i_leF (X := 14) (Y := j318.toInt) rfl rfl c326
                  refine lv_aload_n C.1 C.2.1 dX11_restore_66 rfl (lv_at hl 1 rfl) ?_
                  refine x_get C hw iwX11 10 rfl 0 rfl 19 (by decide) kw1212 rfl dX11_restore_67 ?_
                  refine lv_iload_n C.1 C.2.1 dX11_restore_70 rfl (lv_at hl 0 rfl) ?_
                  refine lv_aload_n C.1 C.2.1 dX11_restore_71 rfl (lv_at hl 1 rfl) ?_
                  refine x_get C hw iwX11 10 rfl 0 rfl 21 (by decide) kw1214 rfl dX11_restore_72 ?_
                  refine lv_bipush (v := 14) C.1 C.2.1 dX11_restore_75 (by decide) ?_
                  refine lv_iload_n C.1 C.2.1 dX11_restore_77 rfl (lv_at hl 2 rfl) ?_
                  refine lv_imul C.1 C.2.1 dX11_restore_78 ?_
                  refine x_topi (z := 0) (by decide) ?_
                  refine lv_iload_n C.1 C.2.1 dX11_restore_79 rfl (lv_at hl 0 rfl) ?_
                  refine lv_iadd C.1 C.2.1 dX11_restore_80 (x_genP (fun z : Int32 => z.toInt = 0 + j318.toInt) (i_add (X := 0) (Y := j318.toInt) rfl rfl (by omega) (by omega)) (fun v327 hv327 => ?_))
                  refine x_lald (v := (qm_keptName_c v327.toNatClampNeg)) C hw 4 rfl (i_in (by omega) (by omega)) rfl dX11_restore_81 (x_genl (fun v328 => ?_))
                  obtain ⟨g329, eg329⟩ : ∃ z, vp_updL j319 (j318.toNatClampNeg) v328 = z := ⟨_, rfl⟩
                  refine x_last (f' := g329) (w' := [(qm, .inr (10, [.int 0, .ref qm_tape, .int qm_taped, .int qm_size, .int qm_limit, .int qm_to, .int qm_from, .int qm_kind, .int qm_number, .int qm_sign, .int qm_fault, .int qm_place, .long qm_word, .int qm_told, .ref qm_now, .ref qm_read, .ref qm_kept, .ref qm_snaps, .ref qm_aside, .ref qm_name, .ref qm_readName, .ref qm_keptName, .ref qm_isKept, .ref qm_onces, .int qm_snapMany, .ref qm_order, .ref qm_ordered, .int qm_orderMany, .int qm_orderMost, .int qm_passing, .int qm_movedWho, .int qm_scratched, .ref qm_text, .int qm_texts, .int qm_seed, .ref qm_line, .ref qm_written, .int qm_lineMany, .int qm_hasWritten, .ref qm_node, .int qm_nodes, .int qm_onesMany, .int qm_within, .int qm_top])), (qm_now, eI G 339 j214), (qm_kept, eI G 678 qm_kept_c), (qm_name, eJ G 14 g329), (qm_keptName, eJ G 28 qm_keptName_c), (qm_isKept, eZ G 2 qm_isKept_c)]) C hw 3 rfl (i_in (by omega) (by omega)) eg329 rfl dX11_restore_82 (fun H locs hw => ?_)
                  obtain ⟨v330, ev330⟩ : ∃ z : Int32, j318 + 1 = z := ⟨_, rfl⟩
                  have hv330 : v330.toInt = j318.toInt + 1 := by rw [← ev330]; exact i_add rfl rfl (by omega) (by omega)
                  refine lv_iinc (v := v330) (lv' := [(2, .int v330), (0, .ref qm), (1, .int 0)]) C.1 C.2.1 dX11_restore_83 hl (k := 0) rfl ev330 (by decide) rfl (fun ls hl => ?_)
                  refine lv_goto (tgt := 60) C.1 C.2.1 dX11_restore_86 (by decide) ?_
                  exact ihJ320 v330 g329 (by omega) (by omega) _ _ _ hw (lv_sub hl [0, 1, 2] rfl)
            exact loopJ320 _ 0 qm_name_c (Nat.lt_succ_self _) (by decide) _ _ _ hw (lv_sub hl [0, 1, 2] rfl)
          · skip
            have c222 : j213.toInt < 339 := i_leF (X := 339) (Y := j213.toInt) rfl rfl c222
            refine lv_aload_n C.1 C.2.1 dX11_restore_34 rfl (lv_at hl 1 rfl) ?_
            refine x_get C hw iwX11 10 rfl 0 rfl 14 (by decide) kw1207 rfl dX11_restore_35 ?_
            refine lv_iload_n C.1 C.2.1 dX11_restore_38 rfl (lv_at hl 0 rfl) ?_
            refine lv_aload_n C.1 C.2.1 dX11_restore_39 rfl (lv_at hl 1 rfl) ?_
            refine x_get C hw iwX11 10 rfl 0 rfl 16 (by decide) kw1209 rfl dX11_restore_40 ?_
            refine lv_sipush (v := 339) C.1 C.2.1 dX11_restore_43 (by decide) ?_
            refine lv_iload_n C.1 C.2.1 dX11_restore_46 rfl (lv_at hl 2 rfl) ?_
            refine lv_imul C.1 C.2.1 dX11_restore_47 ?_
            refine x_topi (z := 0) (by decide) ?_
            refine lv_iload_n C.1 C.2.1 dX11_restore_48 rfl (lv_at hl 0 rfl) ?_
            refine lv_iadd C.1 C.2.1 dX11_restore_49 (x_genP (fun z : Int32 => z.toInt = 0 + j213.toInt) (i_add (X := 0) (Y := j213.toInt) rfl rfl (by omega) (by omega)) (fun v331 hv331 => ?_))
            refine x_iald (v := (qm_kept_c v331.toNatClampNeg)) C hw 2 rfl (i_in (by omega) (by omega)) rfl dX11_restore_50 (x_genP (fun z : Int32 => qm_kept_c v331.toNatClampNeg = z) rfl (fun v332 hv332 => ?_))
            obtain ⟨g333, eg333⟩ : ∃ z, upd j214 (j213.toNatClampNeg) v332 = z := ⟨_, rfl⟩
            refine x_iast (f' := g333) (w' := [(qm, .inr (10, [.int 0, .ref qm_tape, .int qm_taped, .int qm_size, .int qm_limit, .int qm_to, .int qm_from, .int qm_kind, .int qm_number, .int qm_sign, .int qm_fault, .int qm_place, .long qm_word, .int qm_told, .ref qm_now, .ref qm_read, .ref qm_kept, .ref qm_snaps, .ref qm_aside, .ref qm_name, .ref qm_readName, .ref qm_keptName, .ref qm_isKept, .ref qm_onces, .int qm_snapMany, .ref qm_order, .ref qm_ordered, .int qm_orderMany, .int qm_orderMost, .int qm_passing, .int qm_movedWho, .int qm_scratched, .ref qm_text, .int qm_texts, .int qm_seed, .ref qm_line, .ref qm_written, .int qm_lineMany, .int qm_hasWritten, .ref qm_node, .int qm_nodes, .int qm_onesMany, .int qm_within, .int qm_top])), (qm_now, eI G 339 g333), (qm_kept, eI G 678 qm_kept_c), (qm_name, eJ G 14 qm_name_c), (qm_keptName, eJ G 28 qm_keptName_c), (qm_isKept, eZ G 2 qm_isKept_c)]) C hw 1 rfl (i_in (by omega) (by omega)) eg333 rfl dX11_restore_51 (fun H locs hw => ?_)
            obtain ⟨v334, ev334⟩ : ∃ z : Int32, j213 + 1 = z := ⟨_, rfl⟩
            have hv334 : v334.toInt = j213.toInt + 1 := by rw [← ev334]; exact i_add rfl rfl (by omega) (by omega)
            refine lv_iinc (v := v334) (lv' := [(2, .int v334), (0, .ref qm), (1, .int 0)]) C.1 C.2.1 dX11_restore_52 hl (k := 0) rfl ev334 (by decide) rfl (fun ls hl => ?_)
            refine lv_goto (tgt := 27) C.1 C.2.1 dX11_restore_55 (by decide) ?_
            have fc335 : cpJ 0 0 qm_kept_c qm_now_c v334 g333 := by rw [← eg333]; exact cpI_s hJ215_1 (by omega) (by omega) (by have q := i_cn v331; omega) (by have q := i_cn j213; omega) hv332
            exact ihJ215 v334 g333 (by omega) (by omega) fc335 _ _ _ hw (lv_sub hl [0, 1, 2] rfl)
      exact loopJ215 _ 0 qm_now_c (Nat.lt_succ_self _) (by decide) fc7 _ _ _ hw (lv_sub hl [0, 1, 2] rfl)
    · skip
      have c6 : v5.toInt = 0 := i_eqT (X := v5.toInt) (Y := 0) rfl rfl c6
      have bc6_v5 := i_bd v5
      refine lv_iconst (v := 0) C.1 C.2.1 dX11_restore_23 (by decide) ?_
      exact x_retzQ hQ B hw rfl (Or.inl ⟨rfl, rfl, (by omega)⟩) (Nat.le_of_ble_eq_true rfl) (Nat.le_of_ble_eq_true rfl) dX11_restore_24
set_option maxHeartbeats 4000000 in
set_option maxRecDepth 100000 in
theorem s_X11_image_1 {l : Launch} {G : Gc} (qm : Nat) (qm_thrown : Int32) (qm_tape : Nat) (qm_taped : Int32) (qm_size : Int32) (qm_limit : Int32) (qm_to : Int32) (qm_from : Int32) (qm_kind : Int32) (qm_number : Int32) (qm_sign : Int32) (qm_fault : Int32) (qm_place : Int32) (qm_word : Int64) (qm_told : Int32) (qm_now : Nat) (qm_read : Nat) (qm_kept : Nat) (qm_snaps : Nat) (qm_aside : Nat) (qm_name : Nat) (qm_readName : Nat) (qm_keptName : Nat) (qm_isKept : Nat) (qm_onces : Nat) (qm_snapMany : Int32) (qm_order : Nat) (qm_ordered : Nat) (qm_orderMany : Int32) (qm_orderMost : Int32) (qm_passing : Int32) (qm_movedWho : Int32) (qm_scratched : Int32) (qm_text : Nat) (qm_texts : Int32) (qm_seed : Int32) (qm_line : Nat) (qm_written : Nat) (qm_lineMany : Int32) (qm_hasWritten : Int32) (qm_node : Nat) (qm_nodes : Int32) (qm_onesMany : Int32) (qm_within : Int32) (qm_top : Int32) (qm_now_c : Nat → Int32) (qm_kept_c : Nat → Int32) (qm_name_c : Nat → Int64) (qm_keptName_c : Nat → Int64) (qm_isKept_c : Nat → Int32) (hf_qm_now_c : slI qm_now_c) (hf1_qm_now_c : trI qm_now_c) (hf_qm_kept_c : kpI qm_kept_c) : Ci l yX11_image cX11_image 3 (some .boolean) 1 0 0 G [.ref qm, .int 1] [(qm, .inr (10, [.int qm_thrown, .ref qm_tape, .int qm_taped, .int qm_size, .int qm_limit, .int qm_to, .int qm_from, .int qm_kind, .int qm_number, .int qm_sign, .int qm_fault, .int qm_place, .long qm_word, .int qm_told, .ref qm_now, .ref qm_read, .ref qm_kept, .ref qm_snaps, .ref qm_aside, .ref qm_name, .ref qm_readName, .ref qm_keptName, .ref qm_isKept, .ref qm_onces, .int qm_snapMany, .ref qm_order, .ref qm_ordered, .int qm_orderMany, .int qm_orderMost, .int qm_passing, .int qm_movedWho, .int qm_scratched, .ref qm_text, .int qm_texts, .int qm_seed, .ref qm_line, .ref qm_written, .int qm_lineMany, .int qm_hasWritten, .ref qm_node, .int qm_nodes, .int qm_onesMany, .int qm_within, .int qm_top])), (qm_now, eI G 339 qm_now_c), (qm_kept, eI G 678 qm_kept_c), (qm_name, eJ G 14 qm_name_c), (qm_keptName, eJ G 28 qm_keptName_c), (qm_isKept, eZ G 2 qm_isKept_c)] (fun (r9 : Int32) (u9 : va_W) => ∃ (x0_qm_kept_c : Nat → Int32) (x1_qm_keptName_c : Nat → Int64) (x2_qm_isKept_c : Nat → Int32), r9 = 1 ∧ u9 = [(qm, .inr (10, [.int 0, .ref qm_tape, .int qm_taped, .int qm_size, .int qm_limit, .int qm_to, .int qm_from, .int qm_kind, .int qm_number, .int qm_sign, .int qm_fault, .int qm_place, .long qm_word, .int qm_told, .ref qm_now, .ref qm_read, .ref qm_kept, .ref qm_snaps, .ref qm_aside, .ref qm_name, .ref qm_readName, .ref qm_keptName, .ref qm_isKept, .ref qm_onces, .int qm_snapMany, .ref qm_order, .ref qm_ordered, .int qm_orderMany, .int qm_orderMost, .int qm_passing, .int qm_movedWho, .int qm_scratched, .ref qm_text, .int qm_texts, .int qm_seed, .ref qm_line, .ref qm_written, .int qm_lineMany, .int qm_hasWritten, .ref qm_node, .int qm_nodes, .int qm_onesMany, .int qm_within, .int qm_top])), (qm_now, eI G 339 qm_now_c), (qm_kept, eI G 678 x0_qm_kept_c), (qm_name, eJ G 14 qm_name_c), (qm_keptName, eJ G 28 x1_qm_keptName_c), (qm_isKept, eZ G 2 x2_qm_isKept_c)] ∧ (kpI x0_qm_kept_c) ∧ ((x2_qm_isKept_c 1).toInt = 1) ∧ ((x2_qm_isKept_c 0).toInt = (qm_isKept_c 0).toInt) ∧ (cpF 0 339 339 qm_now_c qm_kept_c x0_qm_kept_c)) := by
  refine Ci.ofQ (by decide) (Nat.le_of_ble_eq_true rfl) ?_
  intro p e s m below meth c ls A args Q hQ B hw hl
  have C : CallFix p m c cX11_image 3 s args gw "LanternStateModel" := B.1
  have hl : lv_has ls 3 [(0, .ref qm), (1, .int 1)] := hl
  refine lv_aload_n C.1 C.2.1 dX11_image_0 rfl (lv_at hl 0 rfl) ?_
  refine lv_iconst (v := 0) C.1 C.2.1 dX11_image_1 (by decide) ?_
  refine x_put (w' := [(qm, .inr (10, [.int 0, .ref qm_tape, .int qm_taped, .int qm_size, .int qm_limit, .int qm_to, .int qm_from, .int qm_kind, .int qm_number, .int qm_sign, .int qm_fault, .int qm_place, .long qm_word, .int qm_told, .ref qm_now, .ref qm_read, .ref qm_kept, .ref qm_snaps, .ref qm_aside, .ref qm_name, .ref qm_readName, .ref qm_keptName, .ref qm_isKept, .ref qm_onces, .int qm_snapMany, .ref qm_order, .ref qm_ordered, .int qm_orderMany, .int qm_orderMost, .int qm_passing, .int qm_movedWho, .int qm_scratched, .ref qm_text, .int qm_texts, .int qm_seed, .ref qm_line, .ref qm_written, .int qm_lineMany, .int qm_hasWritten, .ref qm_node, .int qm_nodes, .int qm_onesMany, .int qm_within, .int qm_top])), (qm_now, eI G 339 qm_now_c), (qm_kept, eI G 678 qm_kept_c), (qm_name, eJ G 14 qm_name_c), (qm_keptName, eJ G 28 qm_keptName_c), (qm_isKept, eZ G 2 qm_isKept_c)]) C hw iwX11 tyX11_ok nmX11 10 rfl 0 rfl 0 (by decide) kw1193 rfl rfl rfl (Nat.le_of_ble_eq_true rfl) rfl dX11_image_2 (fun H locs hw => ?_)
  refine lv_iload_n C.1 C.2.1 dX11_image_5 rfl (lv_at hl 1 rfl) ?_
  refine lv_iconst (v := 0) C.1 C.2.1 dX11_image_6 (by decide) ?_
  refine lv_iconst (v := 1) C.1 C.2.1 dX11_image_7 (by decide) ?_
  refine x_calliS (As := [.int 1, .int 0, .int 1]) (rest := []) (wr := [(qm, .inr (10, [.int 0, .ref qm_tape, .int qm_taped, .int qm_size, .int qm_limit, .int qm_to, .int qm_from, .int qm_kind, .int qm_number, .int qm_sign, .int qm_fault, .int qm_place, .long qm_word, .int qm_told, .ref qm_now, .ref qm_read, .ref qm_kept, .ref qm_snaps, .ref qm_aside, .ref qm_name, .ref qm_readName, .ref qm_keptName, .ref qm_isKept, .ref qm_onces, .int qm_snapMany, .ref qm_order, .ref qm_ordered, .int qm_orderMany, .int qm_orderMost, .int qm_passing, .int qm_movedWho, .int qm_scratched, .ref qm_text, .int qm_texts, .int qm_seed, .ref qm_line, .ref qm_written, .int qm_lineMany, .int qm_hasWritten, .ref qm_node, .int qm_nodes, .int qm_onesMany, .int qm_within, .int qm_top])), (qm_now, eI G 339 qm_now_c), (qm_kept, eI G 678 qm_kept_c), (qm_name, eJ G 14 qm_name_c), (qm_keptName, eJ G 28 qm_keptName_c), (qm_isKept, eZ G 2 qm_isKept_c)]) C hw (s_X11_isIn 1 0 1) mwX11_isIn kw1396 [] [0, 1, 2, 3, 4, 5] rfl rfl rfl rfl (by decide) rfl hl.1 rfl (Nat.le_of_ble_eq_true rfl) ⟨(Nat.le_of_ble_eq_true rfl), (Nat.le_of_ble_eq_true rfl)⟩ ⟨(Nat.le_of_ble_eq_true rfl), (Nat.le_of_ble_eq_true rfl)⟩ dX11_image_8 (fun r1 u9 H locs hp9 hw => ?_)
  rcases hp9 with ⟨rfl, rfl, hf2⟩ | ⟨rfl, rfl, hf3, hf4⟩
  · skip
    have hw : Wd G s A [(qm, .inr (10, [.int 0, .ref qm_tape, .int qm_taped, .int qm_size, .int qm_limit, .int qm_to, .int qm_from, .int qm_kind, .int qm_number, .int qm_sign, .int qm_fault, .int qm_place, .long qm_word, .int qm_told, .ref qm_now, .ref qm_read, .ref qm_kept, .ref qm_snaps, .ref qm_aside, .ref qm_name, .ref qm_readName, .ref qm_keptName, .ref qm_isKept, .ref qm_onces, .int qm_snapMany, .ref qm_order, .ref qm_ordered, .int qm_orderMany, .int qm_orderMost, .int qm_passing, .int qm_movedWho, .int qm_scratched, .ref qm_text, .int qm_texts, .int qm_seed, .ref qm_line, .ref qm_written, .int qm_lineMany, .int qm_hasWritten, .ref qm_node, .int qm_nodes, .int qm_onesMany, .int qm_within, .int qm_top])), (qm_now, eI G 339 qm_now_c), (qm_kept, eI G 678 qm_kept_c), (qm_name, eJ G 14 qm_name_c), (qm_keptName, eJ G 28 qm_keptName_c), (qm_isKept, eZ G 2 qm_isKept_c)] H _ := hw
    have hf2 : 1 < 0 ∨ 1 < 1 := by first | exact hf2 | (have e0 : (0 : Int32).toInt = 0 := rfl; have e1 : (1 : Int32).toInt = 1 := rfl; omega)
    refine lv_if_ne (tgt := 16) C.1 C.2.1 dX11_image_11 (by decide) (fun h9 => absurd (by decide) h9) (fun _ => ?_)
    exfalso; omega
  · skip
    have hw : Wd G s A [(qm, .inr (10, [.int 0, .ref qm_tape, .int qm_taped, .int qm_size, .int qm_limit, .int qm_to, .int qm_from, .int qm_kind, .int qm_number, .int qm_sign, .int qm_fault, .int qm_place, .long qm_word, .int qm_told, .ref qm_now, .ref qm_read, .ref qm_kept, .ref qm_snaps, .ref qm_aside, .ref qm_name, .ref qm_readName, .ref qm_keptName, .ref qm_isKept, .ref qm_onces, .int qm_snapMany, .ref qm_order, .ref qm_ordered, .int qm_orderMany, .int qm_orderMost, .int qm_passing, .int qm_movedWho, .int qm_scratched, .ref qm_text, .int qm_texts, .int qm_seed, .ref qm_line, .ref qm_written, .int qm_lineMany, .int qm_hasWritten, .ref qm_node, .int qm_nodes, .int qm_onesMany, .int qm_within, .int qm_top])), (qm_now, eI G 339 qm_now_c), (qm_kept, eI G 678 qm_kept_c), (qm_name, eJ G 14 qm_name_c), (qm_keptName, eJ G 28 qm_keptName_c), (qm_isKept, eZ G 2 qm_isKept_c)] H _ := hw
    have hf3 : 0 ≤ 1 := by first | exact hf3 | (have e0 : (0 : Int32).toInt = 0 := rfl; have e1 : (1 : Int32).toInt = 1 := rfl; omega)
    have hf4 : 1 ≤ 1 := by first | exact hf4 | (have e0 : (1 : Int32).toInt = 1 := rfl; omega)
    refine lv_if_ne (tgt := 16) C.1 C.2.1 dX11_image_11 (by decide) (fun _ => ?_) (fun h9 => absurd h9 (by decide))
    have fc5 : cpJ 0 339 qm_now_c qm_kept_c 0 qm_kept_c := cpI_0
    refine lv_iconst (v := 0) C.1 C.2.1 dX11_image_16 (by decide) ?_
    refine lv_istore_n (lv' := [(2, .int 0), (0, .ref qm), (1, .int 1)]) C.1 C.2.1 dX11_image_17 rfl hl (by decide) rfl (fun ls hl => ?_)
    have loopJ213 : ∀ (n9 : Nat) (j211 : Int32) (j212 : Nat → Int32), (2147483647 - j211.toInt).toNat < n9 → (0 ≤ j211.toInt ∧ j211.toInt ≤ 339) → (cpJ 0 339 qm_now_c qm_kept_c j211 j212) → ∀ (H : Heap) (locs : List Loc) (ls : Array Slot), Wd G s A [(qm, .inr (10, [.int 0, .ref qm_tape, .int qm_taped, .int qm_size, .int qm_limit, .int qm_to, .int qm_from, .int qm_kind, .int qm_number, .int qm_sign, .int qm_fault, .int qm_place, .long qm_word, .int qm_told, .ref qm_now, .ref qm_read, .ref qm_kept, .ref qm_snaps, .ref qm_aside, .ref qm_name, .ref qm_readName, .ref qm_keptName, .ref qm_isKept, .ref qm_onces, .int qm_snapMany, .ref qm_order, .ref qm_ordered, .int qm_orderMany, .int qm_orderMost, .int qm_passing, .int qm_movedWho, .int qm_scratched, .ref qm_text, .int qm_texts, .int qm_seed, .ref qm_line, .ref qm_written, .int qm_lineMany, .int qm_hasWritten, .ref qm_node, .int qm_nodes, .int qm_onesMany, .int qm_within, .int qm_top])), (qm_now, eI G 339 qm_now_c), (qm_kept, eI G 678 j212), (qm_name, eJ G 14 qm_name_c), (qm_keptName, eJ G 28 qm_keptName_c), (qm_isKept, eZ G 2 qm_isKept_c)] H locs → lv_has ls 3 [(2, .int j211), (0, .ref qm), (1, .int 1)] → W p l e (rmD 1 0 0) s m args below meth c H locs 0 0 Q (F0 m 18 ls []) := by
      intro n9
      induction n9 with
      | zero => intro j211 j212 h9; exact absurd h9 (Nat.not_lt_zero _)
      | succ n9 ihJ213 =>
        intro j211 j212 h9J213 hJ213_0 hJ213_1 H locs ls hw hl
        have hbj211 := i_bd j211
        refine lv_iload_n C.1 C.2.1 dX11_image_18 rfl (lv_at hl 0 rfl) ?_
        refine lv_sipush (v := 339) C.1 C.2.1 dX11_image_19 (by decide) ?_
        refine lv_icmp_ge (tgt := 49) C.1 C.2.1 dX11_image_22 (by decide) (fun c220 => ?_) (fun c220 => ?_)
        · skip
          have c220 : 339 ≤ j211.toInt := i_leT (X := 339) (Y := j211.toInt) rfl rfl c220
          have fk221 : kpI j212 := kpI_cp1 hJ213_1 (by omega) hf_qm_kept_c hf_qm_now_c hf1_qm_now_c
          refine lv_iconst (v := 0) C.1 C.2.1 dX11_image_49 (by decide) ?_
          refine lv_istore_n (lv' := [(2, .int 0), (0, .ref qm), (1, .int 1)]) C.1 C.2.1 dX11_image_50 rfl hl (by decide) rfl (fun ls hl => ?_)
          have loopJ318 : ∀ (n9 : Nat) (j316 : Int32) (j317 : Nat → Int64), (2147483647 - j316.toInt).toNat < n9 → (0 ≤ j316.toInt ∧ j316.toInt ≤ 14) → ∀ (H : Heap) (locs : List Loc) (ls : Array Slot), Wd G s A [(qm, .inr (10, [.int 0, .ref qm_tape, .int qm_taped, .int qm_size, .int qm_limit, .int qm_to, .int qm_from, .int qm_kind, .int qm_number, .int qm_sign, .int qm_fault, .int qm_place, .long qm_word, .int qm_told, .ref qm_now, .ref qm_read, .ref qm_kept, .ref qm_snaps, .ref qm_aside, .ref qm_name, .ref qm_readName, .ref qm_keptName, .ref qm_isKept, .ref qm_onces, .int qm_snapMany, .ref qm_order, .ref qm_ordered, .int qm_orderMany, .int qm_orderMost, .int qm_passing, .int qm_movedWho, .int qm_scratched, .ref qm_text, .int qm_texts, .int qm_seed, .ref qm_line, .ref qm_written, .int qm_lineMany, .int qm_hasWritten, .ref qm_node, .int qm_nodes, .int qm_onesMany, .int qm_within, .int qm_top])), (qm_now, eI G 339 qm_now_c), (qm_kept, eI G 678 j212), (qm_name, eJ G 14 qm_name_c), (qm_keptName, eJ G 28 j317), (qm_isKept, eZ G 2 qm_isKept_c)] H locs → lv_has ls 3 [(2, .int j316), (0, .ref qm), (1, .int 1)] → W p l e (rmD 1 0 0) s m args below meth c H locs 0 0 Q (F0 m 51 ls []) := by
            intro n9
            induction n9 with
            | zero => intro j316 j317 h9; exact absurd h9 (Nat.not_lt_zero _)
            | succ n9 ihJ318 =>
              intro j316 j317 h9J318 hJ318_0 H locs ls hw hl
              have hbj316 := i_bd j316
              refine lv_iload_n C.1 C.2.1 dX11_image_51 rfl (lv_at hl 0 rfl) ?_
              refine lv_bipush (v := 14) C.1 C.2.1 dX11_image_52 (by decide) ?_
              refine lv_icmp_ge (tgt := 80) C.1 C.2.1 dX11_image_54 (by decide) (fun c324 => ?_) (fun c324 => ?_)
              · skip
                have c324 : 14 ≤ j316.toInt := i_leT (X := 14) (Y := j316.toInt) rfl rfl c324
                refine lv_aload_n C.1 C.2.1 dX11_image_80 rfl (lv_at hl 1 rfl) ?_
                refine x_get C hw iwX11 10 rfl 0 rfl 22 (by decide) kw1215 rfl dX11_image_81 ?_
                refine lv_iload_n C.1 C.2.1 dX11_image_84 rfl (lv_at hl 2 rfl) ?_
                refine lv_iconst (v := 1) C.1 C.2.1 dX11_image_85 (by decide) ?_
                obtain ⟨g325, eg325⟩ : ∃ z, upd qm_isKept_c 1 (vp_nar .boolean 1) = z := ⟨_, rfl⟩
                have mk1 : (g325 1).toInt = 1 := by rw [← eg325, upd_at]; rfl
                have mk2 : (g325 0).toInt = (qm_isKept_c 0).toInt := by rw [← eg325, upd_ne (by omega)]
                refine x_zast (f' := g325) (w' := [(qm, .inr (10, [.int 0, .ref qm_tape, .int qm_taped, .int qm_size, .int qm_limit, .int qm_to, .int qm_from, .int qm_kind, .int qm_number, .int qm_sign, .int qm_fault, .int qm_place, .long qm_word, .int qm_told, .ref qm_now, .ref qm_read, .ref qm_kept, .ref qm_snaps, .ref qm_aside, .ref qm_name, .ref qm_readName, .ref qm_keptName, .ref qm_isKept, .ref qm_onces, .int qm_snapMany, .ref qm_order, .ref qm_ordered, .int qm_orderMany, .int qm_orderMost, .int qm_passing, .int qm_movedWho, .int qm_scratched, .ref qm_text, .int qm_texts, .int qm_seed, .ref qm_line, .ref qm_written, .int qm_lineMany, .int qm_hasWritten, .ref qm_node, .int qm_nodes, .int qm_onesMany, .int qm_within, .int qm_top])), (qm_now, eI G 339 qm_now_c), (qm_kept, eI G 678 j212), (qm_name, eJ G 14 qm_name_c), (qm_keptName, eJ G 28 j317), (qm_isKept, eZ G 2 g325)]) C hw 5 rfl (x_in rfl) eg325 rfl dX11_image_86 (fun H locs hw => ?_)
                refine lv_iconst (v := 1) C.1 C.2.1 dX11_image_87 (by decide) ?_
                exact x_retzQ hQ B hw rfl ⟨j212, j317, g325, rfl, rfl, fk221, (by omega), (by omega), ⟨j211, by omega, hJ213_1⟩⟩ (Nat.le_of_ble_eq_true rfl) (Nat.le_of_ble_eq_true rfl) dX11_image_88
              · skip
                have c324 : j316.toInt < 14 := i_leF (X := 14) (Y := j316.toInt) rfl rfl c324
                refine lv_aload_n C.1 C.2.1 dX11_image_57 rfl (lv_at hl 1 rfl) ?_
                refine x_get C hw iwX11 10 rfl 0 rfl 21 (by decide) kw1214 rfl dX11_image_58 ?_
                refine lv_bipush (v := 14) C.1 C.2.1 dX11_image_61 (by decide) ?_
                refine lv_iload_n C.1 C.2.1 dX11_image_63 rfl (lv_at hl 2 rfl) ?_
                refine lv_imul C.1 C.2.1 dX11_image_64 ?_
                refine x_topi (z := 14) (by decide) ?_
                refine lv_iload_n C.1 C.2.1 dX11_image_65 rfl (lv_at hl 0 rfl) ?_
                refine lv_iadd C.1 C.2.1 dX11_image_66 (x_genP (fun z : Int32 => z.toInt = 14 + j316.toInt) (i_add (X := 14) (Y := j316.toInt) rfl rfl (by omega) (by omega)) (fun v326 hv326 => ?_))
                refine lv_aload_n C.1 C.2.1 dX11_image_67 rfl (lv_at hl 1 rfl) ?_
                refine x_get C hw iwX11 10 rfl 0 rfl 19 (by decide) kw1212 rfl dX11_image_68 ?_
                refine lv_iload_n C.1 C.2.1 dX11_image_71 rfl (lv_at hl 0 rfl) ?_
                refine x_lald (v := (qm_name_c j316.toNatClampNeg)) C hw 3 rfl (i_in (by omega) (by omega)) rfl dX11_image_72 (x_genl (fun v327 => ?_))
                obtain ⟨g328, eg328⟩ : ∃ z, vp_updL j317 (v326.toNatClampNeg) v327 = z := ⟨_, rfl⟩
                refine x_last (f' := g328) (w' := [(qm, .inr (10, [.int 0, .ref qm_tape, .int qm_taped, .int qm_size, .int qm_limit, .int qm_to, .int qm_from, .int qm_kind, .int qm_number, .int qm_sign, .int qm_fault, .int qm_place, .long qm_word, .int qm_told, .ref qm_now, .ref qm_read, .ref qm_kept, .ref qm_snaps, .ref qm_aside, .ref qm_name, .ref qm_readName, .ref qm_keptName, .ref qm_isKept, .ref qm_onces, .int qm_snapMany, .ref qm_order, .ref qm_ordered, .int qm_orderMany, .int qm_orderMost, .int qm_passing, .int qm_movedWho, .int qm_scratched, .ref qm_text, .int qm_texts, .int qm_seed, .ref qm_line, .ref qm_written, .int qm_lineMany, .int qm_hasWritten, .ref qm_node, .int qm_nodes, .int qm_onesMany, .int qm_within, .int qm_top])), (qm_now, eI G 339 qm_now_c), (qm_kept, eI G 678 j212), (qm_name, eJ G 14 qm_name_c), (qm_keptName, eJ G 28 g328), (qm_isKept, eZ G 2 qm_isKept_c)]) C hw 4 rfl (i_in (by omega) (by omega)) eg328 rfl dX11_image_73 (fun H locs hw => ?_)
                obtain ⟨v329, ev329⟩ : ∃ z : Int32, j316 + 1 = z := ⟨_, rfl⟩
                have hv329 : v329.toInt = j316.toInt + 1 := by rw [← ev329]; exact i_add rfl rfl (by omega) (by omega)
                refine lv_iinc (v := v329) (lv' := [(2, .int v329), (0, .ref qm), (1, .int 1)]) C.1 C.2.1 dX11_image_74 hl (k := 0) rfl ev329 (by decide) rfl (fun ls hl => ?_)
                refine lv_goto (tgt := 51) C.1 C.2.1 dX11_image_77 (by decide) ?_
                exact ihJ318 v329 g328 (by omega) (by omega) _ _ _ hw (lv_sub hl [0, 1, 2] rfl)
          exact loopJ318 _ 0 qm_keptName_c (Nat.lt_succ_self _) (by decide) _ _ _ hw (lv_sub hl [0, 1, 2] rfl)
        · skip
          have c220 : j211.toInt < 339 := i_leF (X := 339) (Y := j211.toInt) rfl rfl c220
          refine lv_aload_n C.1 C.2.1 dX11_image_25 rfl (lv_at hl 1 rfl) ?_
          refine x_get C hw iwX11 10 rfl 0 rfl 16 (by decide) kw1209 rfl dX11_image_26 ?_
          refine lv_sipush (v := 339) C.1 C.2.1 dX11_image_29 (by decide) ?_
          refine lv_iload_n C.1 C.2.1 dX11_image_32 rfl (lv_at hl 2 rfl) ?_
          refine lv_imul C.1 C.2.1 dX11_image_33 ?_
          refine x_topi (z := 339) (by decide) ?_
          refine lv_iload_n C.1 C.2.1 dX11_image_34 rfl (lv_at hl 0 rfl) ?_
          refine lv_iadd C.1 C.2.1 dX11_image_35 (x_genP (fun z : Int32 => z.toInt = 339 + j211.toInt) (i_add (X := 339) (Y := j211.toInt) rfl rfl (by omega) (by omega)) (fun v330 hv330 => ?_))
          refine lv_aload_n C.1 C.2.1 dX11_image_36 rfl (lv_at hl 1 rfl) ?_
          refine x_get C hw iwX11 10 rfl 0 rfl 14 (by decide) kw1207 rfl dX11_image_37 ?_
          refine lv_iload_n C.1 C.2.1 dX11_image_40 rfl (lv_at hl 0 rfl) ?_
          refine x_iald (v := (qm_now_c j211.toNatClampNeg)) C hw 1 rfl (i_in (by omega) (by omega)) rfl dX11_image_41 (x_genP (fun z : Int32 => qm_now_c j211.toNatClampNeg = z) rfl (fun v331 hv331 => ?_))
          obtain ⟨g332, eg332⟩ : ∃ z, upd j212 (v330.toNatClampNeg) v331 = z := ⟨_, rfl⟩
          refine x_iast (f' := g332) (w' := [(qm, .inr (10, [.int 0, .ref qm_tape, .int qm_taped, .int qm_size, .int qm_limit, .int qm_to, .int qm_from, .int qm_kind, .int qm_number, .int qm_sign, .int qm_fault, .int qm_place, .long qm_word, .int qm_told, .ref qm_now, .ref qm_read, .ref qm_kept, .ref qm_snaps, .ref qm_aside, .ref qm_name, .ref qm_readName, .ref qm_keptName, .ref qm_isKept, .ref qm_onces, .int qm_snapMany, .ref qm_order, .ref qm_ordered, .int qm_orderMany, .int qm_orderMost, .int qm_passing, .int qm_movedWho, .int qm_scratched, .ref qm_text, .int qm_texts, .int qm_seed, .ref qm_line, .ref qm_written, .int qm_lineMany, .int qm_hasWritten, .ref qm_node, .int qm_nodes, .int qm_onesMany, .int qm_within, .int qm_top])), (qm_now, eI G 339 qm_now_c), (qm_kept, eI G 678 g332), (qm_name, eJ G 14 qm_name_c), (qm_keptName, eJ G 28 qm_keptName_c), (qm_isKept, eZ G 2 qm_isKept_c)]) C hw 2 rfl (i_in (by omega) (by omega)) eg332 rfl dX11_image_42 (fun H locs hw => ?_)
          obtain ⟨v333, ev333⟩ : ∃ z : Int32, j211 + 1 = z := ⟨_, rfl⟩
          have hv333 : v333.toInt = j211.toInt + 1 := by rw [← ev333]; exact i_add rfl rfl (by omega) (by omega)
          refine lv_iinc (v := v333) (lv' := [(2, .int v333), (0, .ref qm), (1, .int 1)]) C.1 C.2.1 dX11_image_43 hl (k := 0) rfl ev333 (by decide) rfl (fun ls hl => ?_)
          refine lv_goto (tgt := 18) C.1 C.2.1 dX11_image_46 (by decide) ?_
          have fc334 : cpJ 0 339 qm_now_c qm_kept_c v333 g332 := by rw [← eg332]; exact cpI_s hJ213_1 (by omega) (by omega) (by have q := i_cn j211; omega) (by have q := i_cn v330; omega) hv331
          exact ihJ213 v333 g332 (by omega) (by omega) fc334 _ _ _ hw (lv_sub hl [0, 1, 2] rfl)
    exact loopJ213 _ 0 qm_kept_c (Nat.lt_succ_self _) (by decide) fc5 _ _ _ hw (lv_sub hl [0, 1, 2] rfl)
set_option maxHeartbeats 4000000 in
set_option maxRecDepth 100000 in
theorem s_X11_restore_1 {l : Launch} {G : Gc} (qm : Nat) (qm_thrown : Int32) (qm_tape : Nat) (qm_taped : Int32) (qm_size : Int32) (qm_limit : Int32) (qm_to : Int32) (qm_from : Int32) (qm_kind : Int32) (qm_number : Int32) (qm_sign : Int32) (qm_fault : Int32) (qm_place : Int32) (qm_word : Int64) (qm_told : Int32) (qm_now : Nat) (qm_read : Nat) (qm_kept : Nat) (qm_snaps : Nat) (qm_aside : Nat) (qm_name : Nat) (qm_readName : Nat) (qm_keptName : Nat) (qm_isKept : Nat) (qm_onces : Nat) (qm_snapMany : Int32) (qm_order : Nat) (qm_ordered : Nat) (qm_orderMany : Int32) (qm_orderMost : Int32) (qm_passing : Int32) (qm_movedWho : Int32) (qm_scratched : Int32) (qm_text : Nat) (qm_texts : Int32) (qm_seed : Int32) (qm_line : Nat) (qm_written : Nat) (qm_lineMany : Int32) (qm_hasWritten : Int32) (qm_node : Nat) (qm_nodes : Int32) (qm_onesMany : Int32) (qm_within : Int32) (qm_top : Int32) (qm_now_c : Nat → Int32) (qm_kept_c : Nat → Int32) (qm_name_c : Nat → Int64) (qm_keptName_c : Nat → Int64) (qm_isKept_c : Nat → Int32) (hf_qm_now_c : slI qm_now_c) (hf1_qm_now_c : trI qm_now_c) (hf_qm_kept_c : kpI qm_kept_c) : Ci l yX11_restore cX11_restore 3 (some .boolean) 1 0 0 G [.ref qm, .int 1] [(qm, .inr (10, [.int qm_thrown, .ref qm_tape, .int qm_taped, .int qm_size, .int qm_limit, .int qm_to, .int qm_from, .int qm_kind, .int qm_number, .int qm_sign, .int qm_fault, .int qm_place, .long qm_word, .int qm_told, .ref qm_now, .ref qm_read, .ref qm_kept, .ref qm_snaps, .ref qm_aside, .ref qm_name, .ref qm_readName, .ref qm_keptName, .ref qm_isKept, .ref qm_onces, .int qm_snapMany, .ref qm_order, .ref qm_ordered, .int qm_orderMany, .int qm_orderMost, .int qm_passing, .int qm_movedWho, .int qm_scratched, .ref qm_text, .int qm_texts, .int qm_seed, .ref qm_line, .ref qm_written, .int qm_lineMany, .int qm_hasWritten, .ref qm_node, .int qm_nodes, .int qm_onesMany, .int qm_within, .int qm_top])), (qm_now, eI G 339 qm_now_c), (qm_kept, eI G 678 qm_kept_c), (qm_name, eJ G 14 qm_name_c), (qm_keptName, eJ G 28 qm_keptName_c), (qm_isKept, eZ G 2 qm_isKept_c)] (fun (r9 : Int32) (u9 : va_W) => (r9 = 0 ∧ u9 = [(qm, .inr (10, [.int 0, .ref qm_tape, .int qm_taped, .int qm_size, .int qm_limit, .int qm_to, .int qm_from, .int qm_kind, .int qm_number, .int qm_sign, .int qm_fault, .int qm_place, .long qm_word, .int qm_told, .ref qm_now, .ref qm_read, .ref qm_kept, .ref qm_snaps, .ref qm_aside, .ref qm_name, .ref qm_readName, .ref qm_keptName, .ref qm_isKept, .ref qm_onces, .int qm_snapMany, .ref qm_order, .ref qm_ordered, .int qm_orderMany, .int qm_orderMost, .int qm_passing, .int qm_movedWho, .int qm_scratched, .ref qm_text, .int qm_texts, .int qm_seed, .ref qm_line, .ref qm_written, .int qm_lineMany, .int qm_hasWritten, .ref qm_node, .int qm_nodes, .int qm_onesMany, .int qm_within, .int qm_top])), (qm_now, eI G 339 qm_now_c), (qm_kept, eI G 678 qm_kept_c), (qm_name, eJ G 14 qm_name_c), (qm_keptName, eJ G 28 qm_keptName_c), (qm_isKept, eZ G 2 qm_isKept_c)] ∧ ((qm_isKept_c 1).toInt = 0)) ∨ (∃ (x0_qm_now_c : Nat → Int32) (x1_qm_name_c : Nat → Int64), r9 = 1 ∧ u9 = [(qm, .inr (10, [.int 0, .ref qm_tape, .int qm_taped, .int qm_size, .int qm_limit, .int qm_to, .int qm_from, .int qm_kind, .int qm_number, .int qm_sign, .int qm_fault, .int qm_place, .long qm_word, .int qm_told, .ref qm_now, .ref qm_read, .ref qm_kept, .ref qm_snaps, .ref qm_aside, .ref qm_name, .ref qm_readName, .ref qm_keptName, .ref qm_isKept, .ref qm_onces, .int 0, .ref qm_order, .ref qm_ordered, .int qm_orderMany, .int qm_orderMost, .int qm_passing, .int qm_movedWho, .int qm_scratched, .ref qm_text, .int qm_texts, .int qm_seed, .ref qm_line, .ref qm_written, .int qm_lineMany, .int qm_hasWritten, .ref qm_node, .int qm_nodes, .int qm_onesMany, .int qm_within, .int qm_top])), (qm_now, eI G 339 x0_qm_now_c), (qm_kept, eI G 678 qm_kept_c), (qm_name, eJ G 14 x1_qm_name_c), (qm_keptName, eJ G 28 qm_keptName_c), (qm_isKept, eZ G 2 qm_isKept_c)] ∧ (slI x0_qm_now_c) ∧ (trI x0_qm_now_c) ∧ ((qm_isKept_c 1).toInt ≠ 0) ∧ (cpF 339 0 339 qm_kept_c qm_now_c x0_qm_now_c))) := by
  refine Ci.ofQ (by decide) (Nat.le_of_ble_eq_true rfl) ?_
  intro p e s m below meth c ls A args Q hQ B hw hl
  have C : CallFix p m c cX11_restore 3 s args gw "LanternStateModel" := B.1
  have hl : lv_has ls 3 [(0, .ref qm), (1, .int 1)] := hl
  refine lv_aload_n C.1 C.2.1 dX11_restore_0 rfl (lv_at hl 0 rfl) ?_
  refine lv_iconst (v := 0) C.1 C.2.1 dX11_restore_1 (by decide) ?_
  refine x_put (w' := [(qm, .inr (10, [.int 0, .ref qm_tape, .int qm_taped, .int qm_size, .int qm_limit, .int qm_to, .int qm_from, .int qm_kind, .int qm_number, .int qm_sign, .int qm_fault, .int qm_place, .long qm_word, .int qm_told, .ref qm_now, .ref qm_read, .ref qm_kept, .ref qm_snaps, .ref qm_aside, .ref qm_name, .ref qm_readName, .ref qm_keptName, .ref qm_isKept, .ref qm_onces, .int qm_snapMany, .ref qm_order, .ref qm_ordered, .int qm_orderMany, .int qm_orderMost, .int qm_passing, .int qm_movedWho, .int qm_scratched, .ref qm_text, .int qm_texts, .int qm_seed, .ref qm_line, .ref qm_written, .int qm_lineMany, .int qm_hasWritten, .ref qm_node, .int qm_nodes, .int qm_onesMany, .int qm_within, .int qm_top])), (qm_now, eI G 339 qm_now_c), (qm_kept, eI G 678 qm_kept_c), (qm_name, eJ G 14 qm_name_c), (qm_keptName, eJ G 28 qm_keptName_c), (qm_isKept, eZ G 2 qm_isKept_c)]) C hw iwX11 tyX11_ok nmX11 10 rfl 0 rfl 0 (by decide) kw1193 rfl rfl rfl (Nat.le_of_ble_eq_true rfl) rfl dX11_restore_2 (fun H locs hw => ?_)
  refine lv_iload_n C.1 C.2.1 dX11_restore_5 rfl (lv_at hl 1 rfl) ?_
  refine lv_iconst (v := 0) C.1 C.2.1 dX11_restore_6 (by decide) ?_
  refine lv_iconst (v := 1) C.1 C.2.1 dX11_restore_7 (by decide) ?_
  refine x_calliS (As := [.int 1, .int 0, .int 1]) (rest := []) (wr := [(qm, .inr (10, [.int 0, .ref qm_tape, .int qm_taped, .int qm_size, .int qm_limit, .int qm_to, .int qm_from, .int qm_kind, .int qm_number, .int qm_sign, .int qm_fault, .int qm_place, .long qm_word, .int qm_told, .ref qm_now, .ref qm_read, .ref qm_kept, .ref qm_snaps, .ref qm_aside, .ref qm_name, .ref qm_readName, .ref qm_keptName, .ref qm_isKept, .ref qm_onces, .int qm_snapMany, .ref qm_order, .ref qm_ordered, .int qm_orderMany, .int qm_orderMost, .int qm_passing, .int qm_movedWho, .int qm_scratched, .ref qm_text, .int qm_texts, .int qm_seed, .ref qm_line, .ref qm_written, .int qm_lineMany, .int qm_hasWritten, .ref qm_node, .int qm_nodes, .int qm_onesMany, .int qm_within, .int qm_top])), (qm_now, eI G 339 qm_now_c), (qm_kept, eI G 678 qm_kept_c), (qm_name, eJ G 14 qm_name_c), (qm_keptName, eJ G 28 qm_keptName_c), (qm_isKept, eZ G 2 qm_isKept_c)]) C hw (s_X11_isIn 1 0 1) mwX11_isIn kw1396 [] [0, 1, 2, 3, 4, 5] rfl rfl rfl rfl (by decide) rfl hl.1 rfl (Nat.le_of_ble_eq_true rfl) ⟨(Nat.le_of_ble_eq_true rfl), (Nat.le_of_ble_eq_true rfl)⟩ ⟨(Nat.le_of_ble_eq_true rfl), (Nat.le_of_ble_eq_true rfl)⟩ dX11_restore_8 (fun r1 u9 H locs hp9 hw => ?_)
  rcases hp9 with ⟨rfl, rfl, hf2⟩ | ⟨rfl, rfl, hf3, hf4⟩
  · skip
    have hw : Wd G s A [(qm, .inr (10, [.int 0, .ref qm_tape, .int qm_taped, .int qm_size, .int qm_limit, .int qm_to, .int qm_from, .int qm_kind, .int qm_number, .int qm_sign, .int qm_fault, .int qm_place, .long qm_word, .int qm_told, .ref qm_now, .ref qm_read, .ref qm_kept, .ref qm_snaps, .ref qm_aside, .ref qm_name, .ref qm_readName, .ref qm_keptName, .ref qm_isKept, .ref qm_onces, .int qm_snapMany, .ref qm_order, .ref qm_ordered, .int qm_orderMany, .int qm_orderMost, .int qm_passing, .int qm_movedWho, .int qm_scratched, .ref qm_text, .int qm_texts, .int qm_seed, .ref qm_line, .ref qm_written, .int qm_lineMany, .int qm_hasWritten, .ref qm_node, .int qm_nodes, .int qm_onesMany, .int qm_within, .int qm_top])), (qm_now, eI G 339 qm_now_c), (qm_kept, eI G 678 qm_kept_c), (qm_name, eJ G 14 qm_name_c), (qm_keptName, eJ G 28 qm_keptName_c), (qm_isKept, eZ G 2 qm_isKept_c)] H _ := hw
    have hf2 : 1 < 0 ∨ 1 < 1 := by first | exact hf2 | (have e0 : (0 : Int32).toInt = 0 := rfl; have e1 : (1 : Int32).toInt = 1 := rfl; omega)
    refine lv_if_eq (tgt := 23) C.1 C.2.1 dX11_restore_11 (by decide) (fun _ => ?_) (fun h9 => absurd (by decide) h9)
    refine lv_iconst (v := 0) C.1 C.2.1 dX11_restore_23 (by decide) ?_
    exact x_retzQ hQ B hw rfl (Or.inl ⟨rfl, rfl, (by omega)⟩) (Nat.le_of_ble_eq_true rfl) (Nat.le_of_ble_eq_true rfl) dX11_restore_24
  · skip
    have hw : Wd G s A [(qm, .inr (10, [.int 0, .ref qm_tape, .int qm_taped, .int qm_size, .int qm_limit, .int qm_to, .int qm_from, .int qm_kind, .int qm_number, .int qm_sign, .int qm_fault, .int qm_place, .long qm_word, .int qm_told, .ref qm_now, .ref qm_read, .ref qm_kept, .ref qm_snaps, .ref qm_aside, .ref qm_name, .ref qm_readName, .ref qm_keptName, .ref qm_isKept, .ref qm_onces, .int qm_snapMany, .ref qm_order, .ref qm_ordered, .int qm_orderMany, .int qm_orderMost, .int qm_passing, .int qm_movedWho, .int qm_scratched, .ref qm_text, .int qm_texts, .int qm_seed, .ref qm_line, .ref qm_written, .int qm_lineMany, .int qm_hasWritten, .ref qm_node, .int qm_nodes, .int qm_onesMany, .int qm_within, .int qm_top])), (qm_now, eI G 339 qm_now_c), (qm_kept, eI G 678 qm_kept_c), (qm_name, eJ G 14 qm_name_c), (qm_keptName, eJ G 28 qm_keptName_c), (qm_isKept, eZ G 2 qm_isKept_c)] H _ := hw
    have hf3 : 0 ≤ 1 := by first | exact hf3 | (have e0 : (0 : Int32).toInt = 0 := rfl; have e1 : (1 : Int32).toInt = 1 := rfl; omega)
    have hf4 : 1 ≤ 1 := by first | exact hf4 | (have e0 : (1 : Int32).toInt = 1 := rfl; omega)
    refine lv_if_eq (tgt := 23) C.1 C.2.1 dX11_restore_11 (by decide) (fun h9 => absurd h9 (by decide)) (fun _ => ?_)
    refine lv_aload_n C.1 C.2.1 dX11_restore_14 rfl (lv_at hl 0 rfl) ?_
    refine x_get C hw iwX11 10 rfl 0 rfl 22 (by decide) kw1215 rfl dX11_restore_15 ?_
    refine lv_iload_n C.1 C.2.1 dX11_restore_18 rfl (lv_at hl 1 rfl) ?_
    refine x_zald (v := (qm_isKept_c 1)) C hw 5 rfl (x_in rfl) rfl dX11_restore_19 (x_genP (fun z : Int32 => z.toInt = (qm_isKept_c 1).toInt) rfl (fun v5 hv5 => ?_))
    refine lv_if_ne (tgt := 25) C.1 C.2.1 dX11_restore_20 (by decide) (fun c6 => ?_) (fun c6 => ?_)
    · skip
      have c6 : v5.toInt ≠ 0 := i_eqF (X := v5.toInt) (Y := 0) rfl rfl c6
      have bc6_v5 := i_bd v5
      have fc7 : cpJ 339 0 qm_kept_c qm_now_c 0 qm_now_c := cpI_0
      refine lv_iconst (v := 0) C.1 C.2.1 dX11_restore_25 (by decide) ?_
      refine lv_istore_n (lv' := [(2, .int 0), (0, .ref qm), (1, .int 1)]) C.1 C.2.1 dX11_restore_26 rfl hl (by decide) rfl (fun ls hl => ?_)
      have loopJ215 : ∀ (n9 : Nat) (j213 : Int32) (j214 : Nat → Int32), (2147483647 - j213.toInt).toNat < n9 → (0 ≤ j213.toInt ∧ j213.toInt ≤ 339) → (cpJ 339 0 qm_kept_c qm_now_c j213 j214) → ∀ (H : Heap) (locs : List Loc) (ls : Array Slot), Wd G s A [(qm, .inr (10, [.int 0, .ref qm_tape, .int qm_taped, .int qm_size, .int qm_limit, .int qm_to, .int qm_from, .int qm_kind, .int qm_number, .int qm_sign, .int qm_fault, .int qm_place, .long qm_word, .int qm_told, .ref qm_now, .ref qm_read, .ref qm_kept, .ref qm_snaps, .ref qm_aside, .ref qm_name, .ref qm_readName, .ref qm_keptName, .ref qm_isKept, .ref qm_onces, .int qm_snapMany, .ref qm_order, .ref qm_ordered, .int qm_orderMany, .int qm_orderMost, .int qm_passing, .int qm_movedWho, .int qm_scratched, .ref qm_text, .int qm_texts, .int qm_seed, .ref qm_line, .ref qm_written, .int qm_lineMany, .int qm_hasWritten, .ref qm_node, .int qm_nodes, .int qm_onesMany, .int qm_within, .int qm_top])), (qm_now, eI G 339 j214), (qm_kept, eI G 678 qm_kept_c), (qm_name, eJ G 14 qm_name_c), (qm_keptName, eJ G 28 qm_keptName_c), (qm_isKept, eZ G 2 qm_isKept_c)] H locs → lv_has ls 3 [(2, .int j213), (0, .ref qm), (1, .int 1)] → W p l e (rmD 1 0 0) s m args below meth c H locs 0 0 Q (F0 m 27 ls []) := by
        intro n9
        induction n9 with
        | zero => intro j213 j214 h9; exact absurd h9 (Nat.not_lt_zero _)
        | succ n9 ihJ215 =>
          intro j213 j214 h9J215 hJ215_0 hJ215_1 H locs ls hw hl
          have hbj213 := i_bd j213
          refine lv_iload_n C.1 C.2.1 dX11_restore_27 rfl (lv_at hl 0 rfl) ?_
          refine lv_sipush (v := 339) C.1 C.2.1 dX11_restore_28 (by decide) ?_
          refine lv_icmp_ge (tgt := 58) C.1 C.2.1 dX11_restore_31 (by decide) (fun c222 => ?_) (fun c222 => ?_)
          · skip
            have c222 : 339 ≤ j213.toInt := i_leT (X := 339) (Y := j213.toInt) rfl rfl c222
            have fk223 := slI_rs1 hJ215_1 (by omega) hf_qm_kept_c
            refine lv_iconst (v := 0) C.1 C.2.1 dX11_restore_58 (by decide) ?_
            refine lv_istore_n (lv' := [(2, .int 0), (0, .ref qm), (1, .int 1)]) C.1 C.2.1 dX11_restore_59 rfl hl (by decide) rfl (fun ls hl => ?_)
            have loopJ320 : ∀ (n9 : Nat) (j318 : Int32) (j319 : Nat → Int64), (2147483647 - j318.toInt).toNat < n9 → (0 ≤ j318.toInt ∧ j318.toInt ≤ 14) → ∀ (H : Heap) (locs : List Loc) (ls : Array Slot), Wd G s A [(qm, .inr (10, [.int 0, .ref qm_tape, .int qm_taped, .int qm_size, .int qm_limit, .int qm_to, .int qm_from, .int qm_kind, .int qm_number, .int qm_sign, .int qm_fault, .int qm_place, .long qm_word, .int qm_told, .ref qm_now, .ref qm_read, .ref qm_kept, .ref qm_snaps, .ref qm_aside, .ref qm_name, .ref qm_readName, .ref qm_keptName, .ref qm_isKept, .ref qm_onces, .int qm_snapMany, .ref qm_order, .ref qm_ordered, .int qm_orderMany, .int qm_orderMost, .int qm_passing, .int qm_movedWho, .int qm_scratched, .ref qm_text, .int qm_texts, .int qm_seed, .ref qm_line, .ref qm_written, .int qm_lineMany, .int qm_hasWritten, .ref qm_node, .int qm_nodes, .int qm_onesMany, .int qm_within, .int qm_top])), (qm_now, eI G 339 j214), (qm_kept, eI G 678 qm_kept_c), (qm_name, eJ G 14 j319), (qm_keptName, eJ G 28 qm_keptName_c), (qm_isKept, eZ G 2 qm_isKept_c)] H locs → lv_has ls 3 [(2, .int j318), (0, .ref qm), (1, .int 1)] → W p l e (rmD 1 0 0) s m args below meth c H locs 0 0 Q (F0 m 60 ls []) := by
              intro n9
              induction n9 with
              | zero => intro j318 j319 h9; exact absurd h9 (Nat.not_lt_zero _)
              | succ n9 ihJ320 =>
                intro j318 j319 h9J320 hJ320_0 H locs ls hw hl
                have hbj318 := i_bd j318
                refine lv_iload_n C.1 C.2.1 dX11_restore_60 rfl (lv_at hl 0 rfl) ?_
                refine lv_bipush (v := 14) C.1 C.2.1 dX11_restore_61 (by decide) ?_
                refine lv_icmp_ge (tgt := 89) C.1 C.2.1 dX11_restore_63 (by decide) (fun c326 => ?_) (fun c326 => ?_)
                · skip
                  have c326 : 14 ≤ j318.toInt := i_leT (X := 14) (Y := j318.toInt) rfl rfl c326
                  refine lv_aload_n C.1 C.2.1 dX11_restore_89 rfl (lv_at hl 1 rfl) ?_
                  refine lv_iconst (v := 0) C.1 C.2.1 dX11_restore_90 (by decide) ?_
                  refine x_put (w' := [(qm, .inr (10, [.int 0, .ref qm_tape, .int qm_taped, .int qm_size, .int qm_limit, .int qm_to, .int qm_from, .int qm_kind, .int qm_number, .int qm_sign, .int qm_fault, .int qm_place, .long qm_word, .int qm_told, .ref qm_now, .ref qm_read, .ref qm_kept, .ref qm_snaps, .ref qm_aside, .ref qm_name, .ref qm_readName, .ref qm_keptName, .ref qm_isKept, .ref qm_onces, .int 0, .ref qm_order, .ref qm_ordered, .int qm_orderMany, .int qm_orderMost, .int qm_passing, .int qm_movedWho, .int qm_scratched, .ref qm_text, .int qm_texts, .int qm_seed, .ref qm_line, .ref qm_written, .int qm_lineMany, .int qm_hasWritten, .ref qm_node, .int qm_nodes, .int qm_onesMany, .int qm_within, .int qm_top])), (qm_now, eI G 339 j214), (qm_kept, eI G 678 qm_kept_c), (qm_name, eJ G 14 j319), (qm_keptName, eJ G 28 qm_keptName_c), (qm_isKept, eZ G 2 qm_isKept_c)]) C hw iwX11 tyX11_ok nmX11 10 rfl 0 rfl 24 (by decide) kw1217 rfl rfl rfl (Nat.le_of_ble_eq_true rfl) rfl dX11_restore_91 (fun H locs hw => ?_)
                  refine lv_iconst (v := 1) C.1 C.2.1 dX11_restore_94 (by decide) ?_
                  exact x_retzQ hQ B hw rfl (Or.inr ⟨j214, j319, rfl, rfl, fk223.1, fk223.2, (by omega), ⟨j213, by omega, hJ215_1⟩⟩) (Nat.le_of_ble_eq_true rfl) (Nat.le_of_ble_eq_true rfl) dX11_restore_95
                · skip
                  have c326 : j318.toInt < 14 := i_leF (X := 14) (Y := j318.toInt) rfl rfl c326
                  refine lv_aload_n C.1 C.2.1 dX11_restore_66 rfl (lv_at hl 1 rfl) ?_
                  refine x_get C hw iwX11 10 rfl 0 rfl 19 (by decide) kw1212 rfl dX11_restore_67 ?_
                  refine lv_iload_n C.1 C.2.1 dX11_restore_70 rfl (lv_at hl 0 rfl) ?_
                  refine lv_aload_n C.1 C.2.1 dX11_restore_71 rfl (lv_at hl 1 rfl) ?_
                  refine x_get C hw iwX11 10 rfl 0 rfl 21 (by decide) kw1214 rfl dX11_restore_72 ?_
                  refine lv_bipush (v := 14) C.1 C.2.1 dX11_restore_75 (by decide) ?_
                  refine lv_iload_n C.1 C.2.1 dX11_restore_77 rfl (lv_at hl 2 rfl) ?_
                  refine lv_imul C.1 C.2.1 dX11_restore_78 ?_
                  refine x_topi (z := 14) (by decide) ?_
                  refine lv_iload_n C.1 C.2.1 dX11_restore_79 rfl (lv_at hl 0 rfl) ?_
                  refine lv_iadd C.1 C.2.1 dX11_restore_80 (x_genP (fun z : Int32 => z.toInt = 14 + j318.toInt) (i_add (X := 14) (Y := j318.toInt) rfl rfl (by omega) (by omega)) (fun v327 hv327 => ?_))
                  refine x_lald (v := (qm_keptName_c v327.toNatClampNeg)) C hw 4 rfl (i_in (by omega) (by omega)) rfl dX11_restore_81 (x_genl (fun v328 => ?_))
                  obtain ⟨g329, eg329⟩ : ∃ z, vp_updL j319 (j318.toNatClampNeg) v328 = z := ⟨_, rfl⟩
                  refine x_last (f' := g329) (w' := [(qm, .inr (10, [.int 0, .ref qm_tape, .int qm_taped, .int qm_size, .int qm_limit, .int qm_to, .int qm_from, .int qm_kind, .int qm_number, .int qm_sign, .int qm_fault, .int qm_place, .long qm_word, .int qm_told, .ref qm_now, .ref qm_read, .ref qm_kept, .ref qm_snaps, .ref qm_aside, .ref qm_name, .ref qm_readName, .ref qm_keptName, .ref qm_isKept, .ref qm_onces, .int qm_snapMany, .ref qm_order, .ref qm_ordered, .int qm_orderMany, .int qm_orderMost, .int qm_passing, .int qm_movedWho, .int qm_scratched, .ref qm_text, .int qm_texts, .int qm_seed, .ref qm_line, .ref qm_written, .int qm_lineMany, .int qm_hasWritten, .ref qm_node, .int qm_nodes, .int qm_onesMany, .int qm_within, .int qm_top])), (qm_now, eI G 339 j214), (qm_kept, eI G 678 qm_kept_c), (qm_name, eJ G 14 g329), (qm_keptName, eJ G 28 qm_keptName_c), (qm_isKept, eZ G 2 qm_isKept_c)]) C hw 3 rfl (i_in (by omega) (by omega)) eg329 rfl dX11_restore_82 (fun H locs hw => ?_)
                  obtain ⟨v330, ev330⟩ : ∃ z : Int32, j318 + 1 = z := ⟨_, rfl⟩
                  have hv330 : v330.toInt = j318.toInt + 1 := by rw [← ev330]; exact i_add rfl rfl (by omega) (by omega)
                  refine lv_iinc (v := v330) (lv' := [(2, .int v330), (0, .ref qm), (1, .int 1)]) C.1 C.2.1 dX11_restore_83 hl (k := 0) rfl ev330 (by decide) rfl (fun ls hl => ?_)
                  refine lv_goto (tgt := 60) C.1 C.2.1 dX11_restore_86 (by decide) ?_
                  exact ihJ320 v330 g329 (by omega) (by omega) _ _ _ hw (lv_sub hl [0, 1, 2] rfl)
            exact loopJ320 _ 0 qm_name_c (Nat.lt_succ_self _) (by decide) _ _ _ hw (lv_sub hl [0, 1, 2] rfl)
          · skip
            have c222 : j213.toInt < 339 := i_leF (X := 339) (Y := j213.toInt) rfl rfl c222
            refine lv_aload_n C.1 C.2.1 dX11_restore_34 rfl (lv_at hl 1 rfl) ?_
            refine x_get C hw iwX11 10 rfl 0 rfl 14 (by decide) kw1207 rfl dX11_restore_35 ?_
            refine lv_iload_n C.1 C.2.1 dX11_restore_38 rfl (lv_at hl 0 rfl) ?_
            refine lv_aload_n C.1 C.2.1 dX11_restore_39 rfl (lv_at hl 1 rfl) ?_
            refine x_get C hw iwX11 10 rfl 0 rfl 16 (by decide) kw1209 rfl dX11_restore_40 ?_
            refine lv_sipush (v := 339) C.1 C.2.1 dX11_restore_43 (by decide) ?_
            refine lv_iload_n C.1 C.2.1 dX11_restore_46 rfl (lv_at hl 2 rfl) ?_
            refine lv_imul C.1 C.2.1 dX11_restore_47 ?_
            refine x_topi (z := 339) (by decide) ?_
            refine lv_iload_n C.1 C.2.1 dX11_restore_48 rfl (lv_at hl 0 rfl) ?_
            refine lv_iadd C.1 C.2.1 dX11_restore_49 (x_genP (fun z : Int32 => z.toInt = 339 + j213.toInt) (i_add (X := 339) (Y := j213.toInt) rfl rfl (by omega) (by omega)) (fun v331 hv331 => ?_))
            refine x_iald (v := (qm_kept_c v331.toNatClampNeg)) C hw 2 rfl (i_in (by omega) (by omega)) rfl dX11_restore_50 (x_genP (fun z : Int32 => qm_kept_c v331.toNatClampNeg = z) rfl (fun v332 hv332 => ?_))
            obtain ⟨g333, eg333⟩ : ∃ z, upd j214 (j213.toNatClampNeg) v332 = z := ⟨_, rfl⟩
            refine x_iast (f' := g333) (w' := [(qm, .inr (10, [.int 0, .ref qm_tape, .int qm_taped, .int qm_size, .int qm_limit, .int qm_to, .int qm_from, .int qm_kind, .int qm_number, .int qm_sign, .int qm_fault, .int qm_place, .long qm_word, .int qm_told, .ref qm_now, .ref qm_read, .ref qm_kept, .ref qm_snaps, .ref qm_aside, .ref qm_name, .ref qm_readName, .ref qm_keptName, .ref qm_isKept, .ref qm_onces, .int qm_snapMany, .ref qm_order, .ref qm_ordered, .int qm_orderMany, .int qm_orderMost, .int qm_passing, .int qm_movedWho, .int qm_scratched, .ref qm_text, .int qm_texts, .int qm_seed, .ref qm_line, .ref qm_written, .int qm_lineMany, .int qm_hasWritten, .ref qm_node, .int qm_nodes, .int qm_onesMany, .int qm_within, .int qm_top])), (qm_now, eI G 339 g333), (qm_kept, eI G 678 qm_kept_c), (qm_name, eJ G 14 qm_name_c), (qm_keptName, eJ G 28 qm_keptName_c), (qm_isKept, eZ G 2 qm_isKept_c)]) C hw 1 rfl (i_in (by omega) (by omega)) eg333 rfl dX11_restore_51 (fun H locs hw => ?_)
            obtain ⟨v334, ev334⟩ : ∃ z : Int32, j213 + 1 = z := ⟨_, rfl⟩
            have hv334 : v334.toInt = j213.toInt + 1 := by rw [← ev334]; exact i_add rfl rfl (by omega) (by omega)
            refine lv_iinc (v := v334) (lv' := [(2, .int v334), (0, .ref qm), (1, .int 1)]) C.1 C.2.1 dX11_restore_52 hl (k := 0) rfl ev334 (by decide) rfl (fun ls hl => ?_)
            refine lv_goto (tgt := 27) C.1 C.2.1 dX11_restore_55 (by decide) ?_
            have fc335 : cpJ 339 0 qm_kept_c qm_now_c v334 g333 := by rw [← eg333]; exact cpI_s hJ215_1 (by omega) (by omega) (by have q := i_cn v331; omega) (by have q := i_cn j213; omega) hv332
            exact ihJ215 v334 g333 (by omega) (by omega) fc335 _ _ _ hw (lv_sub hl [0, 1, 2] rfl)
      exact loopJ215 _ 0 qm_now_c (Nat.lt_succ_self _) (by decide) fc7 _ _ _ hw (lv_sub hl [0, 1, 2] rfl)
    · skip
      have c6 : v5.toInt = 0 := i_eqT (X := v5.toInt) (Y := 0) rfl rfl c6
      have bc6_v5 := i_bd v5
      refine lv_iconst (v := 0) C.1 C.2.1 dX11_restore_23 (by decide) ?_
      exact x_retzQ hQ B hw rfl (Or.inl ⟨rfl, rfl, (by omega)⟩) (Nat.le_of_ble_eq_true rfl) (Nat.le_of_ble_eq_true rfl) dX11_restore_24
theorem dX11_image_14 : decode cX11_image 14 = .ok (.iconst 0, 1) := by decide +kernel
theorem dX11_image_15 : decode cX11_image 15 = .ok (.ireturn, 1) := by decide +kernel
set_option maxHeartbeats 4000000 in
set_option maxRecDepth 100000 in
theorem s_X11_image_N {l : Launch} {G : Gc} (qm : Nat) (a1 : Int32) (qm_thrown : Int32) (qm_tape : Nat) (qm_taped : Int32) (qm_size : Int32) (qm_limit : Int32) (qm_to : Int32) (qm_from : Int32) (qm_kind : Int32) (qm_number : Int32) (qm_sign : Int32) (qm_fault : Int32) (qm_place : Int32) (qm_word : Int64) (qm_told : Int32) (qm_now : Nat) (qm_read : Nat) (qm_kept : Nat) (qm_snaps : Nat) (qm_aside : Nat) (qm_name : Nat) (qm_readName : Nat) (qm_keptName : Nat) (qm_isKept : Nat) (qm_onces : Nat) (qm_snapMany : Int32) (qm_order : Nat) (qm_ordered : Nat) (qm_orderMany : Int32) (qm_orderMost : Int32) (qm_passing : Int32) (qm_movedWho : Int32) (qm_scratched : Int32) (qm_text : Nat) (qm_texts : Int32) (qm_seed : Int32) (qm_line : Nat) (qm_written : Nat) (qm_lineMany : Int32) (qm_hasWritten : Int32) (qm_node : Nat) (qm_nodes : Int32) (qm_onesMany : Int32) (qm_within : Int32) (qm_top : Int32) (hr_0 : a1.toInt < 0 ∨ 1 < a1.toInt) : Ci l yX11_image cX11_image 3 (some .boolean) 1 0 0 G [.ref qm, .int a1] [(qm, .inr (10, [.int qm_thrown, .ref qm_tape, .int qm_taped, .int qm_size, .int qm_limit, .int qm_to, .int qm_from, .int qm_kind, .int qm_number, .int qm_sign, .int qm_fault, .int qm_place, .long qm_word, .int qm_told, .ref qm_now, .ref qm_read, .ref qm_kept, .ref qm_snaps, .ref qm_aside, .ref qm_name, .ref qm_readName, .ref qm_keptName, .ref qm_isKept, .ref qm_onces, .int qm_snapMany, .ref qm_order, .ref qm_ordered, .int qm_orderMany, .int qm_orderMost, .int qm_passing, .int qm_movedWho, .int qm_scratched, .ref qm_text, .int qm_texts, .int qm_seed, .ref qm_line, .ref qm_written, .int qm_lineMany, .int qm_hasWritten, .ref qm_node, .int qm_nodes, .int qm_onesMany, .int qm_within, .int qm_top]))] (fun (r9 : Int32) (u9 : va_W) => r9 = 0 ∧ u9 = [(qm, .inr (10, [.int 0, .ref qm_tape, .int qm_taped, .int qm_size, .int qm_limit, .int qm_to, .int qm_from, .int qm_kind, .int qm_number, .int qm_sign, .int qm_fault, .int qm_place, .long qm_word, .int qm_told, .ref qm_now, .ref qm_read, .ref qm_kept, .ref qm_snaps, .ref qm_aside, .ref qm_name, .ref qm_readName, .ref qm_keptName, .ref qm_isKept, .ref qm_onces, .int qm_snapMany, .ref qm_order, .ref qm_ordered, .int qm_orderMany, .int qm_orderMost, .int qm_passing, .int qm_movedWho, .int qm_scratched, .ref qm_text, .int qm_texts, .int qm_seed, .ref qm_line, .ref qm_written, .int qm_lineMany, .int qm_hasWritten, .ref qm_node, .int qm_nodes, .int qm_onesMany, .int qm_within, .int qm_top]))]) := by
  refine Ci.ofQ (by decide) (Nat.le_of_ble_eq_true rfl) ?_
  intro p e s m below meth c ls A args Q hQ B hw hl
  have C : CallFix p m c cX11_image 3 s args gw "LanternStateModel" := B.1
  have hl : lv_has ls 3 [(0, .ref qm), (1, .int a1)] := hl
  refine lv_aload_n C.1 C.2.1 dX11_image_0 rfl (lv_at hl 0 rfl) ?_
  refine lv_iconst (v := 0) C.1 C.2.1 dX11_image_1 (by decide) ?_
  refine x_put (w' := [(qm, .inr (10, [.int 0, .ref qm_tape, .int qm_taped, .int qm_size, .int qm_limit, .int qm_to, .int qm_from, .int qm_kind, .int qm_number, .int qm_sign, .int qm_fault, .int qm_place, .long qm_word, .int qm_told, .ref qm_now, .ref qm_read, .ref qm_kept, .ref qm_snaps, .ref qm_aside, .ref qm_name, .ref qm_readName, .ref qm_keptName, .ref qm_isKept, .ref qm_onces, .int qm_snapMany, .ref qm_order, .ref qm_ordered, .int qm_orderMany, .int qm_orderMost, .int qm_passing, .int qm_movedWho, .int qm_scratched, .ref qm_text, .int qm_texts, .int qm_seed, .ref qm_line, .ref qm_written, .int qm_lineMany, .int qm_hasWritten, .ref qm_node, .int qm_nodes, .int qm_onesMany, .int qm_within, .int qm_top]))]) C hw iwX11 tyX11_ok nmX11 10 rfl 0 rfl 0 (by decide) kw1193 rfl rfl rfl (Nat.le_of_ble_eq_true rfl) rfl dX11_image_2 (fun H locs hw => ?_)
  refine lv_iload_n C.1 C.2.1 dX11_image_5 rfl (lv_at hl 1 rfl) ?_
  refine lv_iconst (v := 0) C.1 C.2.1 dX11_image_6 (by decide) ?_
  refine lv_iconst (v := 1) C.1 C.2.1 dX11_image_7 (by decide) ?_
  refine x_calliS (As := [.int a1, .int 0, .int 1]) (rest := []) (wr := [(qm, .inr (10, [.int 0, .ref qm_tape, .int qm_taped, .int qm_size, .int qm_limit, .int qm_to, .int qm_from, .int qm_kind, .int qm_number, .int qm_sign, .int qm_fault, .int qm_place, .long qm_word, .int qm_told, .ref qm_now, .ref qm_read, .ref qm_kept, .ref qm_snaps, .ref qm_aside, .ref qm_name, .ref qm_readName, .ref qm_keptName, .ref qm_isKept, .ref qm_onces, .int qm_snapMany, .ref qm_order, .ref qm_ordered, .int qm_orderMany, .int qm_orderMost, .int qm_passing, .int qm_movedWho, .int qm_scratched, .ref qm_text, .int qm_texts, .int qm_seed, .ref qm_line, .ref qm_written, .int qm_lineMany, .int qm_hasWritten, .ref qm_node, .int qm_nodes, .int qm_onesMany, .int qm_within, .int qm_top]))]) C hw (s_X11_isIn a1 0 1) mwX11_isIn kw1396 [] [0] rfl rfl rfl rfl (by decide) rfl hl.1 rfl (Nat.le_of_ble_eq_true rfl) ⟨(Nat.le_of_ble_eq_true rfl), (Nat.le_of_ble_eq_true rfl)⟩ ⟨(Nat.le_of_ble_eq_true rfl), (Nat.le_of_ble_eq_true rfl)⟩ dX11_image_8 (fun r1 u9 H locs hp9 hw => ?_)
  rcases hp9 with ⟨rfl, rfl, hf2⟩ | ⟨rfl, rfl, hf3, hf4⟩
  · skip
    have hw : Wd G s A [(qm, .inr (10, [.int 0, .ref qm_tape, .int qm_taped, .int qm_size, .int qm_limit, .int qm_to, .int qm_from, .int qm_kind, .int qm_number, .int qm_sign, .int qm_fault, .int qm_place, .long qm_word, .int qm_told, .ref qm_now, .ref qm_read, .ref qm_kept, .ref qm_snaps, .ref qm_aside, .ref qm_name, .ref qm_readName, .ref qm_keptName, .ref qm_isKept, .ref qm_onces, .int qm_snapMany, .ref qm_order, .ref qm_ordered, .int qm_orderMany, .int qm_orderMost, .int qm_passing, .int qm_movedWho, .int qm_scratched, .ref qm_text, .int qm_texts, .int qm_seed, .ref qm_line, .ref qm_written, .int qm_lineMany, .int qm_hasWritten, .ref qm_node, .int qm_nodes, .int qm_onesMany, .int qm_within, .int qm_top]))] H _ := hw
    have hf2 : a1.toInt < 0 ∨ 1 < a1.toInt := by first | exact hf2 | (have e0 : (0 : Int32).toInt = 0 := rfl; have e1 : (1 : Int32).toInt = 1 := rfl; omega)
    refine lv_if_ne (tgt := 16) C.1 C.2.1 dX11_image_11 (by decide) (fun h9 => absurd (by decide) h9) (fun _ => ?_)
    refine lv_iconst (v := 0) C.1 C.2.1 dX11_image_14 (by decide) ?_
    exact x_retzQ hQ B hw rfl ⟨rfl, rfl⟩ (Nat.le_of_ble_eq_true rfl) (Nat.le_of_ble_eq_true rfl) dX11_image_15
  · skip
    have hw : Wd G s A [(qm, .inr (10, [.int 0, .ref qm_tape, .int qm_taped, .int qm_size, .int qm_limit, .int qm_to, .int qm_from, .int qm_kind, .int qm_number, .int qm_sign, .int qm_fault, .int qm_place, .long qm_word, .int qm_told, .ref qm_now, .ref qm_read, .ref qm_kept, .ref qm_snaps, .ref qm_aside, .ref qm_name, .ref qm_readName, .ref qm_keptName, .ref qm_isKept, .ref qm_onces, .int qm_snapMany, .ref qm_order, .ref qm_ordered, .int qm_orderMany, .int qm_orderMost, .int qm_passing, .int qm_movedWho, .int qm_scratched, .ref qm_text, .int qm_texts, .int qm_seed, .ref qm_line, .ref qm_written, .int qm_lineMany, .int qm_hasWritten, .ref qm_node, .int qm_nodes, .int qm_onesMany, .int qm_within, .int qm_top]))] H _ := hw
    have hf3 : 0 ≤ a1.toInt := by first | exact hf3 | (have e0 : (0 : Int32).toInt = 0 := rfl; omega)
    have hf4 : a1.toInt ≤ 1 := by first | exact hf4 | (have e0 : (1 : Int32).toInt = 1 := rfl; omega)
    refine lv_if_ne (tgt := 16) C.1 C.2.1 dX11_image_11 (by decide) (fun _ => ?_) (fun h9 => absurd h9 (by decide))
    exfalso; omega
set_option maxHeartbeats 4000000 in
set_option maxRecDepth 100000 in
theorem s_X11_restore_N {l : Launch} {G : Gc} (qm : Nat) (a1 : Int32) (qm_thrown : Int32) (qm_tape : Nat) (qm_taped : Int32) (qm_size : Int32) (qm_limit : Int32) (qm_to : Int32) (qm_from : Int32) (qm_kind : Int32) (qm_number : Int32) (qm_sign : Int32) (qm_fault : Int32) (qm_place : Int32) (qm_word : Int64) (qm_told : Int32) (qm_now : Nat) (qm_read : Nat) (qm_kept : Nat) (qm_snaps : Nat) (qm_aside : Nat) (qm_name : Nat) (qm_readName : Nat) (qm_keptName : Nat) (qm_isKept : Nat) (qm_onces : Nat) (qm_snapMany : Int32) (qm_order : Nat) (qm_ordered : Nat) (qm_orderMany : Int32) (qm_orderMost : Int32) (qm_passing : Int32) (qm_movedWho : Int32) (qm_scratched : Int32) (qm_text : Nat) (qm_texts : Int32) (qm_seed : Int32) (qm_line : Nat) (qm_written : Nat) (qm_lineMany : Int32) (qm_hasWritten : Int32) (qm_node : Nat) (qm_nodes : Int32) (qm_onesMany : Int32) (qm_within : Int32) (qm_top : Int32) (hr_0 : a1.toInt < 0 ∨ 1 < a1.toInt) : Ci l yX11_restore cX11_restore 3 (some .boolean) 1 0 0 G [.ref qm, .int a1] [(qm, .inr (10, [.int qm_thrown, .ref qm_tape, .int qm_taped, .int qm_size, .int qm_limit, .int qm_to, .int qm_from, .int qm_kind, .int qm_number, .int qm_sign, .int qm_fault, .int qm_place, .long qm_word, .int qm_told, .ref qm_now, .ref qm_read, .ref qm_kept, .ref qm_snaps, .ref qm_aside, .ref qm_name, .ref qm_readName, .ref qm_keptName, .ref qm_isKept, .ref qm_onces, .int qm_snapMany, .ref qm_order, .ref qm_ordered, .int qm_orderMany, .int qm_orderMost, .int qm_passing, .int qm_movedWho, .int qm_scratched, .ref qm_text, .int qm_texts, .int qm_seed, .ref qm_line, .ref qm_written, .int qm_lineMany, .int qm_hasWritten, .ref qm_node, .int qm_nodes, .int qm_onesMany, .int qm_within, .int qm_top]))] (fun (r9 : Int32) (u9 : va_W) => r9 = 0 ∧ u9 = [(qm, .inr (10, [.int 0, .ref qm_tape, .int qm_taped, .int qm_size, .int qm_limit, .int qm_to, .int qm_from, .int qm_kind, .int qm_number, .int qm_sign, .int qm_fault, .int qm_place, .long qm_word, .int qm_told, .ref qm_now, .ref qm_read, .ref qm_kept, .ref qm_snaps, .ref qm_aside, .ref qm_name, .ref qm_readName, .ref qm_keptName, .ref qm_isKept, .ref qm_onces, .int qm_snapMany, .ref qm_order, .ref qm_ordered, .int qm_orderMany, .int qm_orderMost, .int qm_passing, .int qm_movedWho, .int qm_scratched, .ref qm_text, .int qm_texts, .int qm_seed, .ref qm_line, .ref qm_written, .int qm_lineMany, .int qm_hasWritten, .ref qm_node, .int qm_nodes, .int qm_onesMany, .int qm_within, .int qm_top]))]) := by
  refine Ci.ofQ (by decide) (Nat.le_of_ble_eq_true rfl) ?_
  intro p e s m below meth c ls A args Q hQ B hw hl
  have C : CallFix p m c cX11_restore 3 s args gw "LanternStateModel" := B.1
  have hl : lv_has ls 3 [(0, .ref qm), (1, .int a1)] := hl
  refine lv_aload_n C.1 C.2.1 dX11_restore_0 rfl (lv_at hl 0 rfl) ?_
  refine lv_iconst (v := 0) C.1 C.2.1 dX11_restore_1 (by decide) ?_
  refine x_put (w' := [(qm, .inr (10, [.int 0, .ref qm_tape, .int qm_taped, .int qm_size, .int qm_limit, .int qm_to, .int qm_from, .int qm_kind, .int qm_number, .int qm_sign, .int qm_fault, .int qm_place, .long qm_word, .int qm_told, .ref qm_now, .ref qm_read, .ref qm_kept, .ref qm_snaps, .ref qm_aside, .ref qm_name, .ref qm_readName, .ref qm_keptName, .ref qm_isKept, .ref qm_onces, .int qm_snapMany, .ref qm_order, .ref qm_ordered, .int qm_orderMany, .int qm_orderMost, .int qm_passing, .int qm_movedWho, .int qm_scratched, .ref qm_text, .int qm_texts, .int qm_seed, .ref qm_line, .ref qm_written, .int qm_lineMany, .int qm_hasWritten, .ref qm_node, .int qm_nodes, .int qm_onesMany, .int qm_within, .int qm_top]))]) C hw iwX11 tyX11_ok nmX11 10 rfl 0 rfl 0 (by decide) kw1193 rfl rfl rfl (Nat.le_of_ble_eq_true rfl) rfl dX11_restore_2 (fun H locs hw => ?_)
  refine lv_iload_n C.1 C.2.1 dX11_restore_5 rfl (lv_at hl 1 rfl) ?_
  refine lv_iconst (v := 0) C.1 C.2.1 dX11_restore_6 (by decide) ?_
  refine lv_iconst (v := 1) C.1 C.2.1 dX11_restore_7 (by decide) ?_
  refine x_calliS (As := [.int a1, .int 0, .int 1]) (rest := []) (wr := [(qm, .inr (10, [.int 0, .ref qm_tape, .int qm_taped, .int qm_size, .int qm_limit, .int qm_to, .int qm_from, .int qm_kind, .int qm_number, .int qm_sign, .int qm_fault, .int qm_place, .long qm_word, .int qm_told, .ref qm_now, .ref qm_read, .ref qm_kept, .ref qm_snaps, .ref qm_aside, .ref qm_name, .ref qm_readName, .ref qm_keptName, .ref qm_isKept, .ref qm_onces, .int qm_snapMany, .ref qm_order, .ref qm_ordered, .int qm_orderMany, .int qm_orderMost, .int qm_passing, .int qm_movedWho, .int qm_scratched, .ref qm_text, .int qm_texts, .int qm_seed, .ref qm_line, .ref qm_written, .int qm_lineMany, .int qm_hasWritten, .ref qm_node, .int qm_nodes, .int qm_onesMany, .int qm_within, .int qm_top]))]) C hw (s_X11_isIn a1 0 1) mwX11_isIn kw1396 [] [0] rfl rfl rfl rfl (by decide) rfl hl.1 rfl (Nat.le_of_ble_eq_true rfl) ⟨(Nat.le_of_ble_eq_true rfl), (Nat.le_of_ble_eq_true rfl)⟩ ⟨(Nat.le_of_ble_eq_true rfl), (Nat.le_of_ble_eq_true rfl)⟩ dX11_restore_8 (fun r1 u9 H locs hp9 hw => ?_)
  rcases hp9 with ⟨rfl, rfl, hf2⟩ | ⟨rfl, rfl, hf3, hf4⟩
  · skip
    have hw : Wd G s A [(qm, .inr (10, [.int 0, .ref qm_tape, .int qm_taped, .int qm_size, .int qm_limit, .int qm_to, .int qm_from, .int qm_kind, .int qm_number, .int qm_sign, .int qm_fault, .int qm_place, .long qm_word, .int qm_told, .ref qm_now, .ref qm_read, .ref qm_kept, .ref qm_snaps, .ref qm_aside, .ref qm_name, .ref qm_readName, .ref qm_keptName, .ref qm_isKept, .ref qm_onces, .int qm_snapMany, .ref qm_order, .ref qm_ordered, .int qm_orderMany, .int qm_orderMost, .int qm_passing, .int qm_movedWho, .int qm_scratched, .ref qm_text, .int qm_texts, .int qm_seed, .ref qm_line, .ref qm_written, .int qm_lineMany, .int qm_hasWritten, .ref qm_node, .int qm_nodes, .int qm_onesMany, .int qm_within, .int qm_top]))] H _ := hw
    have hf2 : a1.toInt < 0 ∨ 1 < a1.toInt := by first | exact hf2 | (have e0 : (0 : Int32).toInt = 0 := rfl; have e1 : (1 : Int32).toInt = 1 := rfl; omega)
    refine lv_if_eq (tgt := 23) C.1 C.2.1 dX11_restore_11 (by decide) (fun _ => ?_) (fun h9 => absurd (by decide) h9)
    refine lv_iconst (v := 0) C.1 C.2.1 dX11_restore_23 (by decide) ?_
    exact x_retzQ hQ B hw rfl ⟨rfl, rfl⟩ (Nat.le_of_ble_eq_true rfl) (Nat.le_of_ble_eq_true rfl) dX11_restore_24
  · skip
    have hw : Wd G s A [(qm, .inr (10, [.int 0, .ref qm_tape, .int qm_taped, .int qm_size, .int qm_limit, .int qm_to, .int qm_from, .int qm_kind, .int qm_number, .int qm_sign, .int qm_fault, .int qm_place, .long qm_word, .int qm_told, .ref qm_now, .ref qm_read, .ref qm_kept, .ref qm_snaps, .ref qm_aside, .ref qm_name, .ref qm_readName, .ref qm_keptName, .ref qm_isKept, .ref qm_onces, .int qm_snapMany, .ref qm_order, .ref qm_ordered, .int qm_orderMany, .int qm_orderMost, .int qm_passing, .int qm_movedWho, .int qm_scratched, .ref qm_text, .int qm_texts, .int qm_seed, .ref qm_line, .ref qm_written, .int qm_lineMany, .int qm_hasWritten, .ref qm_node, .int qm_nodes, .int qm_onesMany, .int qm_within, .int qm_top]))] H _ := hw
    have hf3 : 0 ≤ a1.toInt := by first | exact hf3 | (have e0 : (0 : Int32).toInt = 0 := rfl; omega)
    have hf4 : a1.toInt ≤ 1 := by first | exact hf4 | (have e0 : (1 : Int32).toInt = 1 := rfl; omega)
    refine lv_if_eq (tgt := 23) C.1 C.2.1 dX11_restore_11 (by decide) (fun h9 => absurd h9 (by decide)) (fun _ => ?_)
    exfalso; omega
theorem dX11_come_0 : decode cX11_come 0 = .ok (.bipush 24, 2) := by decide +kernel
theorem dX11_come_2 : decode cX11_come 2 = .ok (.istore_n 2, 1) := by decide +kernel
theorem dX11_come_3 : decode cX11_come 3 = .ok (.iload_n 2, 1) := by decide +kernel
theorem dX11_come_4 : decode cX11_come 4 = .ok (.ifCond .lt 35, 3) := by decide +kernel
theorem dX11_come_7 : decode cX11_come 7 = .ok (.aload_n 0, 1) := by decide +kernel
theorem dX11_come_8 : decode cX11_come 8 = .ok (.getfield 7, 3) := by decide +kernel
theorem dX11_come_11 : decode cX11_come 11 = .ok (.aload_n 0, 1) := by decide +kernel
theorem dX11_come_12 : decode cX11_come 12 = .ok (.getfield 11, 3) := by decide +kernel
theorem dX11_come_15 : decode cX11_come 15 = .ok (.iload_n 1, 1) := by decide +kernel
theorem dX11_come_16 : decode cX11_come 16 = .ok (.iload_n 2, 1) := by decide +kernel
theorem dX11_come_17 : decode cX11_come 17 = .ok (.iushr, 1) := by decide +kernel
theorem dX11_come_18 : decode cX11_come 18 = .ok (.sipush 255, 3) := by decide +kernel
theorem dX11_come_21 : decode cX11_come 21 = .ok (.iand, 1) := by decide +kernel
theorem dX11_come_22 : decode cX11_come 22 = .ok (.iastore, 1) := by decide +kernel
theorem dX11_come_23 : decode cX11_come 23 = .ok (.aload_n 0, 1) := by decide +kernel
theorem dX11_come_24 : decode cX11_come 24 = .ok (.dup, 1) := by decide +kernel
theorem dX11_come_25 : decode cX11_come 25 = .ok (.getfield 11, 3) := by decide +kernel
theorem dX11_come_28 : decode cX11_come 28 = .ok (.iconst 1, 1) := by decide +kernel
theorem dX11_come_29 : decode cX11_come 29 = .ok (.iadd, 1) := by decide +kernel
theorem dX11_come_30 : decode cX11_come 30 = .ok (.putfield 11, 3) := by decide +kernel
theorem dX11_come_33 : decode cX11_come 33 = .ok (.iinc 2 (-8), 3) := by decide +kernel
theorem dX11_come_36 : decode cX11_come 36 = .ok (.goto (-33), 3) := by decide +kernel
theorem dX11_come_39 : decode cX11_come 39 = .ok (.return_, 1) := by decide +kernel
set_option maxHeartbeats 4000000 in
set_option maxRecDepth 100000 in
theorem s_X11_come {l : Launch} {G : Gc} (qm : Nat) (a1 : Int32) (qm_thrown : Int32) (qm_tape : Nat) (qm_taped : Int32) (qm_size : Int32) (qm_limit : Int32) (qm_to : Int32) (qm_from : Int32) (qm_kind : Int32) (qm_number : Int32) (qm_sign : Int32) (qm_fault : Int32) (qm_place : Int32) (qm_word : Int64) (qm_told : Int32) (qm_now : Nat) (qm_read : Nat) (qm_kept : Nat) (qm_snaps : Nat) (qm_aside : Nat) (qm_name : Nat) (qm_readName : Nat) (qm_keptName : Nat) (qm_isKept : Nat) (qm_onces : Nat) (qm_snapMany : Int32) (qm_order : Nat) (qm_ordered : Nat) (qm_orderMany : Int32) (qm_orderMost : Int32) (qm_passing : Int32) (qm_movedWho : Int32) (qm_scratched : Int32) (qm_text : Nat) (qm_texts : Int32) (qm_seed : Int32) (qm_line : Nat) (qm_written : Nat) (qm_lineMany : Int32) (qm_hasWritten : Int32) (qm_node : Nat) (qm_nodes : Int32) (qm_onesMany : Int32) (qm_within : Int32) (qm_top : Int32) (qm_tape_c : Nat → Int32) (hi_qm_taped : 0 ≤ qm_taped.toInt ∧ qm_taped.toInt ≤ 940) (hr_0 : qm_taped.toInt ≤ 936) : Cv l yX11_come cX11_come 3 0 0 0 G [.ref qm, .int a1] [(qm, .inr (10, [.int qm_thrown, .ref qm_tape, .int qm_taped, .int qm_size, .int qm_limit, .int qm_to, .int qm_from, .int qm_kind, .int qm_number, .int qm_sign, .int qm_fault, .int qm_place, .long qm_word, .int qm_told, .ref qm_now, .ref qm_read, .ref qm_kept, .ref qm_snaps, .ref qm_aside, .ref qm_name, .ref qm_readName, .ref qm_keptName, .ref qm_isKept, .ref qm_onces, .int qm_snapMany, .ref qm_order, .ref qm_ordered, .int qm_orderMany, .int qm_orderMost, .int qm_passing, .int qm_movedWho, .int qm_scratched, .ref qm_text, .int qm_texts, .int qm_seed, .ref qm_line, .ref qm_written, .int qm_lineMany, .int qm_hasWritten, .ref qm_node, .int qm_nodes, .int qm_onesMany, .int qm_within, .int qm_top])), (qm_tape, eI G 940 qm_tape_c)] (fun (u9 : va_W) => ∃ (x0_qm_taped : Int32) (x1_qm_tape_c : Nat → Int32), u9 = [(qm, .inr (10, [.int qm_thrown, .ref qm_tape, .int x0_qm_taped, .int qm_size, .int qm_limit, .int qm_to, .int qm_from, .int qm_kind, .int qm_number, .int qm_sign, .int qm_fault, .int qm_place, .long qm_word, .int qm_told, .ref qm_now, .ref qm_read, .ref qm_kept, .ref qm_snaps, .ref qm_aside, .ref qm_name, .ref qm_readName, .ref qm_keptName, .ref qm_isKept, .ref qm_onces, .int qm_snapMany, .ref qm_order, .ref qm_ordered, .int qm_orderMany, .int qm_orderMost, .int qm_passing, .int qm_movedWho, .int qm_scratched, .ref qm_text, .int qm_texts, .int qm_seed, .ref qm_line, .ref qm_written, .int qm_lineMany, .int qm_hasWritten, .ref qm_node, .int qm_nodes, .int qm_onesMany, .int qm_within, .int qm_top])), (qm_tape, eI G 940 x1_qm_tape_c)] ∧ (0 ≤ x0_qm_taped.toInt ∧ x0_qm_taped.toInt ≤ 940) ∧ (x0_qm_taped.toInt = qm_taped.toInt + 4)) := by
  refine Cv.ofQ (by decide) (Nat.le_of_ble_eq_true rfl) ?_
  intro p e s m below meth c ls A args Q hQ B hw hl
  have C : CallFix p m c cX11_come 3 s args gw "LanternStateModel" := B.1
  have hl : lv_has ls 3 [(0, .ref qm), (1, .int a1)] := hl
  refine lv_bipush (v := 24) C.1 C.2.1 dX11_come_0 (by decide) ?_
  refine lv_istore_n (lv' := [(2, .int 24), (0, .ref qm), (1, .int a1)]) C.1 C.2.1 dX11_come_2 rfl hl (by decide) rfl (fun ls hl => ?_)
  have loopJ53 : ∀ (n9 : Nat) (j50 : Int32) (j51 : Int32) (j52 : Nat → Int32), (j50.toInt + 2147483648).toNat < n9 → ((-8) ≤ j50.toInt ∧ j50.toInt ≤ 24) → (0 ≤ j51.toInt ∧ j51.toInt ≤ 940) → (8 * j51.toInt = 8 * qm_taped.toInt + 24 - j50.toInt) → ∀ (H : Heap) (locs : List Loc) (ls : Array Slot), Wd G s A [(qm, .inr (10, [.int qm_thrown, .ref qm_tape, .int j51, .int qm_size, .int qm_limit, .int qm_to, .int qm_from, .int qm_kind, .int qm_number, .int qm_sign, .int qm_fault, .int qm_place, .long qm_word, .int qm_told, .ref qm_now, .ref qm_read, .ref qm_kept, .ref qm_snaps, .ref qm_aside, .ref qm_name, .ref qm_readName, .ref qm_keptName, .ref qm_isKept, .ref qm_onces, .int qm_snapMany, .ref qm_order, .ref qm_ordered, .int qm_orderMany, .int qm_orderMost, .int qm_passing, .int qm_movedWho, .int qm_scratched, .ref qm_text, .int qm_texts, .int qm_seed, .ref qm_line, .ref qm_written, .int qm_lineMany, .int qm_hasWritten, .ref qm_node, .int qm_nodes, .int qm_onesMany, .int qm_within, .int qm_top])), (qm_tape, eI G 940 j52)] H locs → lv_has ls 3 [(2, .int j50), (0, .ref qm), (1, .int a1)] → W p l e (rmD 0 0 0) s m args below meth c H locs 0 0 Q (F0 m 3 ls []) := by
    intro n9
    induction n9 with
    | zero => intro j50 j51 j52 h9; exact absurd h9 (Nat.not_lt_zero _)
    | succ n9 ihJ53 =>
      intro j50 j51 j52 h9J53 hJ53_0 hJ53_1 hJ53_2 H locs ls hw hl
      have hbj50 := i_bd j50
      refine lv_iload_n C.1 C.2.1 dX11_come_3 rfl (lv_at hl 0 rfl) ?_
      refine lv_if_lt (tgt := 39) C.1 C.2.1 dX11_come_4 (by decide) (fun c60 => ?_) (fun c60 => ?_)
      · skip
        have c60 : j50.toInt < 0 := i_ltT (X := j50.toInt) (Y := 0) rfl rfl c60
        exact x_retvQ hQ B hw ⟨j51, j52, rfl, (by omega), (by omega)⟩ (Nat.le_of_ble_eq_true rfl) (Nat.le_of_ble_eq_true rfl) dX11_come_39
      · skip
        have c60 : 0 ≤ j50.toInt := i_ltF (X := j50.toInt) (Y := 0) rfl rfl c60
        refine lv_aload_n C.1 C.2.1 dX11_come_7 rfl (lv_at hl 1 rfl) ?_
        refine x_get C hw iwX11 10 rfl 0 rfl 1 (by decide) kw1194 rfl dX11_come_8 ?_
        refine lv_aload_n C.1 C.2.1 dX11_come_11 rfl (lv_at hl 1 rfl) ?_
        refine x_get C hw iwX11 10 rfl 0 rfl 2 (by decide) kw1195 rfl dX11_come_12 ?_
        refine lv_iload_n C.1 C.2.1 dX11_come_15 rfl (lv_at hl 2 rfl) ?_
        refine lv_iload_n C.1 C.2.1 dX11_come_16 rfl (lv_at hl 0 rfl) ?_
        refine lv_iushr (v := ((a1.toUInt32 >>> (j50.toUInt32 &&& Int32.toUInt32 31)).toInt32)) C.1 C.2.1 dX11_come_17 rfl (x_gen (fun v61 => ?_))
        refine lv_sipush (v := 255) C.1 C.2.1 dX11_come_18 (by decide) ?_
        refine lv_iand C.1 C.2.1 dX11_come_21 (x_genP (fun z : Int32 => 0 ≤ z.toInt ∧ z.toInt ≤ 255) (i_andR 8 rfl (by decide) rfl) (fun v62 hv62 => ?_))
        obtain ⟨g63, eg63⟩ : ∃ z, upd j52 (j51.toNatClampNeg) v62 = z := ⟨_, rfl⟩
        refine x_iast (f' := g63) (w' := [(qm, .inr (10, [.int qm_thrown, .ref qm_tape, .int j51, .int qm_size, .int qm_limit, .int qm_to, .int qm_from, .int qm_kind, .int qm_number, .int qm_sign, .int qm_fault, .int qm_place, .long qm_word, .int qm_told, .ref qm_now, .ref qm_read, .ref qm_kept, .ref qm_snaps, .ref qm_aside, .ref qm_name, .ref qm_readName, .ref qm_keptName, .ref qm_isKept, .ref qm_onces, .int qm_snapMany, .ref qm_order, .ref qm_ordered, .int qm_orderMany, .int qm_orderMost, .int qm_passing, .int qm_movedWho, .int qm_scratched, .ref qm_text, .int qm_texts, .int qm_seed, .ref qm_line, .ref qm_written, .int qm_lineMany, .int qm_hasWritten, .ref qm_node, .int qm_nodes, .int qm_onesMany, .int qm_within, .int qm_top])), (qm_tape, eI G 940 g63)]) C hw 1 rfl (i_in (by omega) (by omega)) eg63 rfl dX11_come_22 (fun H locs hw => ?_)
        refine lv_aload_n C.1 C.2.1 dX11_come_23 rfl (lv_at hl 1 rfl) ?_
        refine lv_dup C.1 C.2.1 dX11_come_24 rfl ?_
        refine x_get C hw iwX11 10 rfl 0 rfl 2 (by decide) kw1195 rfl dX11_come_25 ?_
        refine lv_iconst (v := 1) C.1 C.2.1 dX11_come_28 (by decide) ?_
        refine lv_iadd C.1 C.2.1 dX11_come_29 (x_genP (fun z : Int32 => z.toInt = j51.toInt + 1) (i_add (X := j51.toInt) (Y := 1) rfl rfl (by omega) (by omega)) (fun v64 hv64 => ?_))
        refine x_put (w' := [(qm, .inr (10, [.int qm_thrown, .ref qm_tape, .int v64, .int qm_size, .int qm_limit, .int qm_to, .int qm_from, .int qm_kind, .int qm_number, .int qm_sign, .int qm_fault, .int qm_place, .long qm_word, .int qm_told, .ref qm_now, .ref qm_read, .ref qm_kept, .ref qm_snaps, .ref qm_aside, .ref qm_name, .ref qm_readName, .ref qm_keptName, .ref qm_isKept, .ref qm_onces, .int qm_snapMany, .ref qm_order, .ref qm_ordered, .int qm_orderMany, .int qm_orderMost, .int qm_passing, .int qm_movedWho, .int qm_scratched, .ref qm_text, .int qm_texts, .int qm_seed, .ref qm_line, .ref qm_written, .int qm_lineMany, .int qm_hasWritten, .ref qm_node, .int qm_nodes, .int qm_onesMany, .int qm_within, .int qm_top])), (qm_tape, eI G 940 g63)]) C hw iwX11 tyX11_ok nmX11 10 rfl 0 rfl 2 (by decide) kw1195 rfl rfl rfl (Nat.le_of_ble_eq_true rfl) rfl dX11_come_30 (fun H locs hw => ?_)
        obtain ⟨v65, ev65⟩ : ∃ z : Int32, j50 + (-8) = z := ⟨_, rfl⟩
        have hv65 : v65.toInt = j50.toInt + (-8) := by rw [← ev65]; exact i_add rfl rfl (by omega) (by omega)
        refine lv_iinc (v := v65) (lv' := [(2, .int v65), (0, .ref qm), (1, .int a1)]) C.1 C.2.1 dX11_come_33 hl (k := 0) rfl ev65 (by decide) rfl (fun ls hl => ?_)
        refine lv_goto (tgt := 3) C.1 C.2.1 dX11_come_36 (by decide) ?_
        exact ihJ53 v65 v64 g63 (by omega) (by omega) (by omega) (by omega) _ _ _ hw (lv_sub hl [0, 1, 2] rfl)
  exact loopJ53 _ 24 qm_taped qm_tape_c (Nat.lt_succ_self _) (by decide) (by omega) (by have e0 : (24 : Int32).toInt = 24 := rfl; omega) _ _ _ hw (lv_sub hl [0, 1, 2] rfl)
theorem dX11_feed_0 : decode cX11_feed 0 = .ok (.aload_n 0, 1) := by decide +kernel
theorem dX11_feed_1 : decode cX11_feed 1 = .ok (.iconst 0, 1) := by decide +kernel
theorem dX11_feed_2 : decode cX11_feed 2 = .ok (.putfield 1, 3) := by decide +kernel
theorem dX11_feed_5 : decode cX11_feed 5 = .ok (.aload_n 0, 1) := by decide +kernel
theorem dX11_feed_6 : decode cX11_feed 6 = .ok (.getfield 11, 3) := by decide +kernel
theorem dX11_feed_9 : decode cX11_feed 9 = .ok (.bipush 20, 2) := by decide +kernel
theorem dX11_feed_11 : decode cX11_feed 11 = .ok (.iadd, 1) := by decide +kernel
theorem dX11_feed_12 : decode cX11_feed 12 = .ok (.sipush 940, 3) := by decide +kernel
theorem dX11_feed_15 : decode cX11_feed 15 = .ok (.if_icmp .le 5, 3) := by decide +kernel
theorem dX11_feed_20 : decode cX11_feed 20 = .ok (.aload_n 0, 1) := by decide +kernel
theorem dX11_feed_21 : decode cX11_feed 21 = .ok (.iload_n 1, 1) := by decide +kernel
theorem dX11_feed_22 : decode cX11_feed 22 = .ok (.invokevirtual 14, 3) := by decide +kernel
theorem mwX11_come : MwV yX11_come cX11_come 3 none 1 := ⟨⟨kw1179, kw15, by decide +kernel⟩, kw1177, kS43⟩
theorem dX11_feed_25 : decode cX11_feed 25 = .ok (.aload_n 0, 1) := by decide +kernel
theorem dX11_feed_26 : decode cX11_feed 26 = .ok (.iload_n 2, 1) := by decide +kernel
theorem dX11_feed_27 : decode cX11_feed 27 = .ok (.invokevirtual 14, 3) := by decide +kernel
theorem dX11_feed_30 : decode cX11_feed 30 = .ok (.aload_n 0, 1) := by decide +kernel
theorem dX11_feed_31 : decode cX11_feed 31 = .ok (.iload_n 3, 1) := by decide +kernel
theorem dX11_feed_32 : decode cX11_feed 32 = .ok (.invokevirtual 14, 3) := by decide +kernel
theorem dX11_feed_35 : decode cX11_feed 35 = .ok (.aload_n 0, 1) := by decide +kernel
theorem dX11_feed_36 : decode cX11_feed 36 = .ok (.iload 4, 2) := by decide +kernel
theorem dX11_feed_38 : decode cX11_feed 38 = .ok (.invokevirtual 14, 3) := by decide +kernel
theorem dX11_feed_41 : decode cX11_feed 41 = .ok (.aload_n 0, 1) := by decide +kernel
theorem dX11_feed_42 : decode cX11_feed 42 = .ok (.iload 5, 2) := by decide +kernel
theorem dX11_feed_44 : decode cX11_feed 44 = .ok (.invokevirtual 14, 3) := by decide +kernel
theorem dX11_feed_47 : decode cX11_feed 47 = .ok (.aload_n 0, 1) := by decide +kernel
theorem dX11_feed_48 : decode cX11_feed 48 = .ok (.getfield 11, 3) := by decide +kernel
theorem dX11_feed_51 : decode cX11_feed 51 = .ok (.ireturn, 1) := by decide +kernel
theorem dX11_feed_18 : decode cX11_feed 18 = .ok (.iconst (-1), 1) := by decide +kernel
theorem dX11_feed_19 : decode cX11_feed 19 = .ok (.ireturn, 1) := by decide +kernel
set_option maxHeartbeats 4000000 in
set_option maxRecDepth 100000 in
theorem s_X11_feed {l : Launch} {G : Gc} (qm : Nat) (a1 : Int32) (a2 : Int32) (a3 : Int32) (a4 : Int32) (a5 : Int32) (qm_thrown : Int32) (qm_tape : Nat) (qm_taped : Int32) (qm_size : Int32) (qm_limit : Int32) (qm_to : Int32) (qm_from : Int32) (qm_kind : Int32) (qm_number : Int32) (qm_sign : Int32) (qm_fault : Int32) (qm_place : Int32) (qm_word : Int64) (qm_told : Int32) (qm_now : Nat) (qm_read : Nat) (qm_kept : Nat) (qm_snaps : Nat) (qm_aside : Nat) (qm_name : Nat) (qm_readName : Nat) (qm_keptName : Nat) (qm_isKept : Nat) (qm_onces : Nat) (qm_snapMany : Int32) (qm_order : Nat) (qm_ordered : Nat) (qm_orderMany : Int32) (qm_orderMost : Int32) (qm_passing : Int32) (qm_movedWho : Int32) (qm_scratched : Int32) (qm_text : Nat) (qm_texts : Int32) (qm_seed : Int32) (qm_line : Nat) (qm_written : Nat) (qm_lineMany : Int32) (qm_hasWritten : Int32) (qm_node : Nat) (qm_nodes : Int32) (qm_onesMany : Int32) (qm_within : Int32) (qm_top : Int32) (qm_tape_c : Nat → Int32) (hi_qm_taped : 0 ≤ qm_taped.toInt ∧ qm_taped.toInt ≤ 940) : Ci l yX11_feed cX11_feed 6 (some .int) 1 0 0 G [.ref qm, .int a1, .int a2, .int a3, .int a4, .int a5] [(qm, .inr (10, [.int qm_thrown, .ref qm_tape, .int qm_taped, .int qm_size, .int qm_limit, .int qm_to, .int qm_from, .int qm_kind, .int qm_number, .int qm_sign, .int qm_fault, .int qm_place, .long qm_word, .int qm_told, .ref qm_now, .ref qm_read, .ref qm_kept, .ref qm_snaps, .ref qm_aside, .ref qm_name, .ref qm_readName, .ref qm_keptName, .ref qm_isKept, .ref qm_onces, .int qm_snapMany, .ref qm_order, .ref qm_ordered, .int qm_orderMany, .int qm_orderMost, .int qm_passing, .int qm_movedWho, .int qm_scratched, .ref qm_text, .int qm_texts, .int qm_seed, .ref qm_line, .ref qm_written, .int qm_lineMany, .int qm_hasWritten, .ref qm_node, .int qm_nodes, .int qm_onesMany, .int qm_within, .int qm_top])), (qm_tape, eI G 940 qm_tape_c)] (fun (r9 : Int32) (u9 : va_W) => ∃ (x0_qm_taped : Int32) (x1_qm_tape_c : Nat → Int32) (r_x : Int32), r9 = r_x ∧ u9 = [(qm, .inr (10, [.int 0, .ref qm_tape, .int x0_qm_taped, .int qm_size, .int qm_limit, .int qm_to, .int qm_from, .int qm_kind, .int qm_number, .int qm_sign, .int qm_fault, .int qm_place, .long qm_word, .int qm_told, .ref qm_now, .ref qm_read, .ref qm_kept, .ref qm_snaps, .ref qm_aside, .ref qm_name, .ref qm_readName, .ref qm_keptName, .ref qm_isKept, .ref qm_onces, .int qm_snapMany, .ref qm_order, .ref qm_ordered, .int qm_orderMany, .int qm_orderMost, .int qm_passing, .int qm_movedWho, .int qm_scratched, .ref qm_text, .int qm_texts, .int qm_seed, .ref qm_line, .ref qm_written, .int qm_lineMany, .int qm_hasWritten, .ref qm_node, .int qm_nodes, .int qm_onesMany, .int qm_within, .int qm_top])), (qm_tape, eI G 940 x1_qm_tape_c)] ∧ (0 ≤ x0_qm_taped.toInt ∧ x0_qm_taped.toInt ≤ 940) ∧ ((-1) ≤ r_x.toInt ∧ r_x.toInt ≤ 940) ∧ (qm_taped.toInt ≤ 920 → r_x.toInt = qm_taped.toInt + 20 ∧ x0_qm_taped.toInt = qm_taped.toInt + 20) ∧ (920 < qm_taped.toInt → r_x.toInt = -1 ∧ x0_qm_taped.toInt = qm_taped.toInt)) := by
  refine Ci.ofQ (by decide) (Nat.le_of_ble_eq_true rfl) ?_
  intro p e s m below meth c ls A args Q hQ B hw hl
  have C : CallFix p m c cX11_feed 6 s args gw "LanternStateModel" := B.1
  have hl : lv_has ls 6 [(0, .ref qm), (1, .int a1), (2, .int a2), (3, .int a3), (4, .int a4), (5, .int a5)] := hl
  refine lv_aload_n C.1 C.2.1 dX11_feed_0 rfl (lv_at hl 0 rfl) ?_
  refine lv_iconst (v := 0) C.1 C.2.1 dX11_feed_1 (by decide) ?_
  refine x_put (w' := [(qm, .inr (10, [.int 0, .ref qm_tape, .int qm_taped, .int qm_size, .int qm_limit, .int qm_to, .int qm_from, .int qm_kind, .int qm_number, .int qm_sign, .int qm_fault, .int qm_place, .long qm_word, .int qm_told, .ref qm_now, .ref qm_read, .ref qm_kept, .ref qm_snaps, .ref qm_aside, .ref qm_name, .ref qm_readName, .ref qm_keptName, .ref qm_isKept, .ref qm_onces, .int qm_snapMany, .ref qm_order, .ref qm_ordered, .int qm_orderMany, .int qm_orderMost, .int qm_passing, .int qm_movedWho, .int qm_scratched, .ref qm_text, .int qm_texts, .int qm_seed, .ref qm_line, .ref qm_written, .int qm_lineMany, .int qm_hasWritten, .ref qm_node, .int qm_nodes, .int qm_onesMany, .int qm_within, .int qm_top])), (qm_tape, eI G 940 qm_tape_c)]) C hw iwX11 tyX11_ok nmX11 10 rfl 0 rfl 0 (by decide) kw1193 rfl rfl rfl (Nat.le_of_ble_eq_true rfl) rfl dX11_feed_2 (fun H locs hw => ?_)
  refine lv_aload_n C.1 C.2.1 dX11_feed_5 rfl (lv_at hl 0 rfl) ?_
  refine x_get C hw iwX11 10 rfl 0 rfl 2 (by decide) kw1195 rfl dX11_feed_6 ?_
  refine lv_bipush (v := 20) C.1 C.2.1 dX11_feed_9 (by decide) ?_
  refine lv_iadd C.1 C.2.1 dX11_feed_11 (x_genP (fun z : Int32 => z.toInt = qm_taped.toInt + 20) (i_add (X := qm_taped.toInt) (Y := 20) rfl rfl (by omega) (by omega)) (fun v1 hv1 => ?_))
  refine lv_sipush (v := 940) C.1 C.2.1 dX11_feed_12 (by decide) ?_
  refine lv_icmp_le (tgt := 20) C.1 C.2.1 dX11_feed_15 (by decide) (fun c2 => ?_) (fun c2 => ?_)
  · skip
    have c2 : v1.toInt ≤ 940 := i_leT (X := v1.toInt) (Y := 940) rfl rfl c2
    refine lv_aload_n C.1 C.2.1 dX11_feed_20 rfl (lv_at hl 0 rfl) ?_
    refine lv_iload_n C.1 C.2.1 dX11_feed_21 rfl (lv_at hl 1 rfl) ?_
    refine x_callvV (As := [.int a1]) (rest := []) (wr := []) C hw (s_X11_come qm a1 0 qm_tape qm_taped qm_size qm_limit qm_to qm_from qm_kind qm_number qm_sign qm_fault qm_place qm_word qm_told qm_now qm_read qm_kept qm_snaps qm_aside qm_name qm_readName qm_keptName qm_isKept qm_onces qm_snapMany qm_order qm_ordered qm_orderMany qm_orderMost qm_passing qm_movedWho qm_scratched qm_text qm_texts qm_seed qm_line qm_written qm_lineMany qm_hasWritten qm_node qm_nodes qm_onesMany qm_within qm_top qm_tape_c (by omega) (by omega)) mwX11_come kw1175 [0, 1] [] rfl rfl rfl rfl (by decide) 0 rfl rfl rfl rfl hl.1 rfl (Nat.le_of_ble_eq_true rfl) ⟨(Nat.le_of_ble_eq_true rfl), (Nat.le_of_ble_eq_true rfl)⟩ ⟨(Nat.le_of_ble_eq_true rfl), (Nat.le_of_ble_eq_true rfl)⟩ dX11_feed_22 (fun  u9 H locs hp9 hw => ?_)
    obtain ⟨x3, x4, rfl, hf5, hf6⟩ := hp9
    have hw : Wd G s A [(qm, .inr (10, [.int 0, .ref qm_tape, .int x3, .int qm_size, .int qm_limit, .int qm_to, .int qm_from, .int qm_kind, .int qm_number, .int qm_sign, .int qm_fault, .int qm_place, .long qm_word, .int qm_told, .ref qm_now, .ref qm_read, .ref qm_kept, .ref qm_snaps, .ref qm_aside, .ref qm_name, .ref qm_readName, .ref qm_keptName, .ref qm_isKept, .ref qm_onces, .int qm_snapMany, .ref qm_order, .ref qm_ordered, .int qm_orderMany, .int qm_orderMost, .int qm_passing, .int qm_movedWho, .int qm_scratched, .ref qm_text, .int qm_texts, .int qm_seed, .ref qm_line, .ref qm_written, .int qm_lineMany, .int qm_hasWritten, .ref qm_node, .int qm_nodes, .int qm_onesMany, .int qm_within, .int qm_top])), (qm_tape, eI G 940 x4)] H _ := hw
    refine lv_aload_n C.1 C.2.1 dX11_feed_25 rfl (lv_at hl 0 rfl) ?_
    refine lv_iload_n C.1 C.2.1 dX11_feed_26 rfl (lv_at hl 2 rfl) ?_
    refine x_callvV (As := [.int a2]) (rest := []) (wr := []) C hw (s_X11_come qm a2 0 qm_tape x3 qm_size qm_limit qm_to qm_from qm_kind qm_number qm_sign qm_fault qm_place qm_word qm_told qm_now qm_read qm_kept qm_snaps qm_aside qm_name qm_readName qm_keptName qm_isKept qm_onces qm_snapMany qm_order qm_ordered qm_orderMany qm_orderMost qm_passing qm_movedWho qm_scratched qm_text qm_texts qm_seed qm_line qm_written qm_lineMany qm_hasWritten qm_node qm_nodes qm_onesMany qm_within qm_top x4 (by omega) (by omega)) mwX11_come kw1175 [0, 1] [] rfl rfl rfl rfl (by decide) 0 rfl rfl rfl rfl hl.1 rfl (Nat.le_of_ble_eq_true rfl) ⟨(Nat.le_of_ble_eq_true rfl), (Nat.le_of_ble_eq_true rfl)⟩ ⟨(Nat.le_of_ble_eq_true rfl), (Nat.le_of_ble_eq_true rfl)⟩ dX11_feed_27 (fun  u9 H locs hp9 hw => ?_)
    obtain ⟨x7, x8, rfl, hf9, hf10⟩ := hp9
    have hw : Wd G s A [(qm, .inr (10, [.int 0, .ref qm_tape, .int x7, .int qm_size, .int qm_limit, .int qm_to, .int qm_from, .int qm_kind, .int qm_number, .int qm_sign, .int qm_fault, .int qm_place, .long qm_word, .int qm_told, .ref qm_now, .ref qm_read, .ref qm_kept, .ref qm_snaps, .ref qm_aside, .ref qm_name, .ref qm_readName, .ref qm_keptName, .ref qm_isKept, .ref qm_onces, .int qm_snapMany, .ref qm_order, .ref qm_ordered, .int qm_orderMany, .int qm_orderMost, .int qm_passing, .int qm_movedWho, .int qm_scratched, .ref qm_text, .int qm_texts, .int qm_seed, .ref qm_line, .ref qm_written, .int qm_lineMany, .int qm_hasWritten, .ref qm_node, .int qm_nodes, .int qm_onesMany, .int qm_within, .int qm_top])), (qm_tape, eI G 940 x8)] H _ := hw
    refine lv_aload_n C.1 C.2.1 dX11_feed_30 rfl (lv_at hl 0 rfl) ?_
    refine lv_iload_n C.1 C.2.1 dX11_feed_31 rfl (lv_at hl 3 rfl) ?_
    refine x_callvV (As := [.int a3]) (rest := []) (wr := []) C hw (s_X11_come qm a3 0 qm_tape x7 qm_size qm_limit qm_to qm_from qm_kind qm_number qm_sign qm_fault qm_place qm_word qm_told qm_now qm_read qm_kept qm_snaps qm_aside qm_name qm_readName qm_keptName qm_isKept qm_onces qm_snapMany qm_order qm_ordered qm_orderMany qm_orderMost qm_passing qm_movedWho qm_scratched qm_text qm_texts qm_seed qm_line qm_written qm_lineMany qm_hasWritten qm_node qm_nodes qm_onesMany qm_within qm_top x8 (by omega) (by omega)) mwX11_come kw1175 [0, 1] [] rfl rfl rfl rfl (by decide) 0 rfl rfl rfl rfl hl.1 rfl (Nat.le_of_ble_eq_true rfl) ⟨(Nat.le_of_ble_eq_true rfl), (Nat.le_of_ble_eq_true rfl)⟩ ⟨(Nat.le_of_ble_eq_true rfl), (Nat.le_of_ble_eq_true rfl)⟩ dX11_feed_32 (fun  u9 H locs hp9 hw => ?_)
    obtain ⟨x11, x12, rfl, hf13, hf14⟩ := hp9
    have hw : Wd G s A [(qm, .inr (10, [.int 0, .ref qm_tape, .int x11, .int qm_size, .int qm_limit, .int qm_to, .int qm_from, .int qm_kind, .int qm_number, .int qm_sign, .int qm_fault, .int qm_place, .long qm_word, .int qm_told, .ref qm_now, .ref qm_read, .ref qm_kept, .ref qm_snaps, .ref qm_aside, .ref qm_name, .ref qm_readName, .ref qm_keptName, .ref qm_isKept, .ref qm_onces, .int qm_snapMany, .ref qm_order, .ref qm_ordered, .int qm_orderMany, .int qm_orderMost, .int qm_passing, .int qm_movedWho, .int qm_scratched, .ref qm_text, .int qm_texts, .int qm_seed, .ref qm_line, .ref qm_written, .int qm_lineMany, .int qm_hasWritten, .ref qm_node, .int qm_nodes, .int qm_onesMany, .int qm_within, .int qm_top])), (qm_tape, eI G 940 x12)] H _ := hw
    refine lv_aload_n C.1 C.2.1 dX11_feed_35 rfl (lv_at hl 0 rfl) ?_
    refine lv_iload C.1 C.2.1 dX11_feed_36 (lv_at hl 4 rfl) ?_
    refine x_callvV (As := [.int a4]) (rest := []) (wr := []) C hw (s_X11_come qm a4 0 qm_tape x11 qm_size qm_limit qm_to qm_from qm_kind qm_number qm_sign qm_fault qm_place qm_word qm_told qm_now qm_read qm_kept qm_snaps qm_aside qm_name qm_readName qm_keptName qm_isKept qm_onces qm_snapMany qm_order qm_ordered qm_orderMany qm_orderMost qm_passing qm_movedWho qm_scratched qm_text qm_texts qm_seed qm_line qm_written qm_lineMany qm_hasWritten qm_node qm_nodes qm_onesMany qm_within qm_top x12 (by omega) (by omega)) mwX11_come kw1175 [0, 1] [] rfl rfl rfl rfl (by decide) 0 rfl rfl rfl rfl hl.1 rfl (Nat.le_of_ble_eq_true rfl) ⟨(Nat.le_of_ble_eq_true rfl), (Nat.le_of_ble_eq_true rfl)⟩ ⟨(Nat.le_of_ble_eq_true rfl), (Nat.le_of_ble_eq_true rfl)⟩ dX11_feed_38 (fun  u9 H locs hp9 hw => ?_)
    obtain ⟨x15, x16, rfl, hf17, hf18⟩ := hp9
    have hw : Wd G s A [(qm, .inr (10, [.int 0, .ref qm_tape, .int x15, .int qm_size, .int qm_limit, .int qm_to, .int qm_from, .int qm_kind, .int qm_number, .int qm_sign, .int qm_fault, .int qm_place, .long qm_word, .int qm_told, .ref qm_now, .ref qm_read, .ref qm_kept, .ref qm_snaps, .ref qm_aside, .ref qm_name, .ref qm_readName, .ref qm_keptName, .ref qm_isKept, .ref qm_onces, .int qm_snapMany, .ref qm_order, .ref qm_ordered, .int qm_orderMany, .int qm_orderMost, .int qm_passing, .int qm_movedWho, .int qm_scratched, .ref qm_text, .int qm_texts, .int qm_seed, .ref qm_line, .ref qm_written, .int qm_lineMany, .int qm_hasWritten, .ref qm_node, .int qm_nodes, .int qm_onesMany, .int qm_within, .int qm_top])), (qm_tape, eI G 940 x16)] H _ := hw
    refine lv_aload_n C.1 C.2.1 dX11_feed_41 rfl (lv_at hl 0 rfl) ?_
    refine lv_iload C.1 C.2.1 dX11_feed_42 (lv_at hl 5 rfl) ?_
    refine x_callvV (As := [.int a5]) (rest := []) (wr := []) C hw (s_X11_come qm a5 0 qm_tape x15 qm_size qm_limit qm_to qm_from qm_kind qm_number qm_sign qm_fault qm_place qm_word qm_told qm_now qm_read qm_kept qm_snaps qm_aside qm_name qm_readName qm_keptName qm_isKept qm_onces qm_snapMany qm_order qm_ordered qm_orderMany qm_orderMost qm_passing qm_movedWho qm_scratched qm_text qm_texts qm_seed qm_line qm_written qm_lineMany qm_hasWritten qm_node qm_nodes qm_onesMany qm_within qm_top x16 (by omega) (by omega)) mwX11_come kw1175 [0, 1] [] rfl rfl rfl rfl (by decide) 0 rfl rfl rfl rfl hl.1 rfl (Nat.le_of_ble_eq_true rfl) ⟨(Nat.le_of_ble_eq_true rfl), (Nat.le_of_ble_eq_true rfl)⟩ ⟨(Nat.le_of_ble_eq_true rfl), (Nat.le_of_ble_eq_true rfl)⟩ dX11_feed_44 (fun  u9 H locs hp9 hw => ?_)
    obtain ⟨x19, x20, rfl, hf21, hf22⟩ := hp9
    have hw : Wd G s A [(qm, .inr (10, [.int 0, .ref qm_tape, .int x19, .int qm_size, .int qm_limit, .int qm_to, .int qm_from, .int qm_kind, .int qm_number, .int qm_sign, .int qm_fault, .int qm_place, .long qm_word, .int qm_told, .ref qm_now, .ref qm_read, .ref qm_kept, .ref qm_snaps, .ref qm_aside, .ref qm_name, .ref qm_readName, .ref qm_keptName, .ref qm_isKept, .ref qm_onces, .int qm_snapMany, .ref qm_order, .ref qm_ordered, .int qm_orderMany, .int qm_orderMost, .int qm_passing, .int qm_movedWho, .int qm_scratched, .ref qm_text, .int qm_texts, .int qm_seed, .ref qm_line, .ref qm_written, .int qm_lineMany, .int qm_hasWritten, .ref qm_node, .int qm_nodes, .int qm_onesMany, .int qm_within, .int qm_top])), (qm_tape, eI G 940 x20)] H _ := hw
    refine lv_aload_n C.1 C.2.1 dX11_feed_47 rfl (lv_at hl 0 rfl) ?_
    refine x_get C hw iwX11 10 rfl 0 rfl 2 (by decide) kw1195 rfl dX11_feed_48 ?_
    exact x_retiQ hQ B hw ⟨x19, x20, x19, rfl, rfl, (by omega), (by omega), (by omega), (by omega)⟩ (Nat.le_of_ble_eq_true rfl) (Nat.le_of_ble_eq_true rfl) dX11_feed_51
  · skip
    have c2 : 940 < v1.toInt := i_leF (X := v1.toInt) (Y := 940) rfl rfl c2
    refine lv_iconst (v := (-1)) C.1 C.2.1 dX11_feed_18 (by decide) ?_
    exact x_retiQ hQ B hw ⟨qm_taped, qm_tape_c, (-1), rfl, rfl, (by omega), (by decide), (by have e0 : ((-1) : Int32).toInt = (-1) := rfl; omega), (by have e0 : ((-1) : Int32).toInt = (-1) := rfl; omega)⟩ (Nat.le_of_ble_eq_true rfl) (Nat.le_of_ble_eq_true rfl) dX11_feed_19
theorem dX11_end_0 : decode cX11_end 0 = .ok (.aload_n 0, 1) := by decide +kernel
theorem dX11_end_1 : decode cX11_end 1 = .ok (.iconst 0, 1) := by decide +kernel
theorem dX11_end_2 : decode cX11_end 2 = .ok (.putfield 1, 3) := by decide +kernel
theorem dX11_end_5 : decode cX11_end 5 = .ok (.iload_n 1, 1) := by decide +kernel
theorem dX11_end_6 : decode cX11_end 6 = .ok (.ifCond .lt 11, 3) := by decide +kernel
theorem dX11_end_17 : decode cX11_end 17 = .ok (.iconst 0, 1) := by decide +kernel
theorem dX11_end_18 : decode cX11_end 18 = .ok (.ireturn, 1) := by decide +kernel
theorem dX11_end_9 : decode cX11_end 9 = .ok (.iload_n 1, 1) := by decide +kernel
theorem dX11_end_10 : decode cX11_end 10 = .ok (.aload_n 0, 1) := by decide +kernel
theorem dX11_end_11 : decode cX11_end 11 = .ok (.getfield 11, 3) := by decide +kernel
theorem dX11_end_14 : decode cX11_end 14 = .ok (.if_icmp .le 5, 3) := by decide +kernel
theorem dX11_end_19 : decode cX11_end 19 = .ok (.aload_n 0, 1) := by decide +kernel
theorem dX11_end_20 : decode cX11_end 20 = .ok (.iload_n 1, 1) := by decide +kernel
theorem dX11_end_21 : decode cX11_end 21 = .ok (.putfield 11, 3) := by decide +kernel
theorem dX11_end_24 : decode cX11_end 24 = .ok (.iconst 1, 1) := by decide +kernel
theorem dX11_end_25 : decode cX11_end 25 = .ok (.ireturn, 1) := by decide +kernel
set_option maxHeartbeats 4000000 in
set_option maxRecDepth 100000 in
theorem s_X11_end {l : Launch} {G : Gc} (qm : Nat) (a1 : Int32) (qm_thrown : Int32) (qm_tape : Nat) (qm_taped : Int32) (qm_size : Int32) (qm_limit : Int32) (qm_to : Int32) (qm_from : Int32) (qm_kind : Int32) (qm_number : Int32) (qm_sign : Int32) (qm_fault : Int32) (qm_place : Int32) (qm_word : Int64) (qm_told : Int32) (qm_now : Nat) (qm_read : Nat) (qm_kept : Nat) (qm_snaps : Nat) (qm_aside : Nat) (qm_name : Nat) (qm_readName : Nat) (qm_keptName : Nat) (qm_isKept : Nat) (qm_onces : Nat) (qm_snapMany : Int32) (qm_order : Nat) (qm_ordered : Nat) (qm_orderMany : Int32) (qm_orderMost : Int32) (qm_passing : Int32) (qm_movedWho : Int32) (qm_scratched : Int32) (qm_text : Nat) (qm_texts : Int32) (qm_seed : Int32) (qm_line : Nat) (qm_written : Nat) (qm_lineMany : Int32) (qm_hasWritten : Int32) (qm_node : Nat) (qm_nodes : Int32) (qm_onesMany : Int32) (qm_within : Int32) (qm_top : Int32) (hi_qm_taped : 0 ≤ qm_taped.toInt ∧ qm_taped.toInt ≤ 940) : Ci l yX11_end cX11_end 2 (some .boolean) 0 0 0 G [.ref qm, .int a1] [(qm, .inr (10, [.int qm_thrown, .ref qm_tape, .int qm_taped, .int qm_size, .int qm_limit, .int qm_to, .int qm_from, .int qm_kind, .int qm_number, .int qm_sign, .int qm_fault, .int qm_place, .long qm_word, .int qm_told, .ref qm_now, .ref qm_read, .ref qm_kept, .ref qm_snaps, .ref qm_aside, .ref qm_name, .ref qm_readName, .ref qm_keptName, .ref qm_isKept, .ref qm_onces, .int qm_snapMany, .ref qm_order, .ref qm_ordered, .int qm_orderMany, .int qm_orderMost, .int qm_passing, .int qm_movedWho, .int qm_scratched, .ref qm_text, .int qm_texts, .int qm_seed, .ref qm_line, .ref qm_written, .int qm_lineMany, .int qm_hasWritten, .ref qm_node, .int qm_nodes, .int qm_onesMany, .int qm_within, .int qm_top]))] (fun (r9 : Int32) (u9 : va_W) => (r9 = 0 ∧ u9 = [(qm, .inr (10, [.int 0, .ref qm_tape, .int qm_taped, .int qm_size, .int qm_limit, .int qm_to, .int qm_from, .int qm_kind, .int qm_number, .int qm_sign, .int qm_fault, .int qm_place, .long qm_word, .int qm_told, .ref qm_now, .ref qm_read, .ref qm_kept, .ref qm_snaps, .ref qm_aside, .ref qm_name, .ref qm_readName, .ref qm_keptName, .ref qm_isKept, .ref qm_onces, .int qm_snapMany, .ref qm_order, .ref qm_ordered, .int qm_orderMany, .int qm_orderMost, .int qm_passing, .int qm_movedWho, .int qm_scratched, .ref qm_text, .int qm_texts, .int qm_seed, .ref qm_line, .ref qm_written, .int qm_lineMany, .int qm_hasWritten, .ref qm_node, .int qm_nodes, .int qm_onesMany, .int qm_within, .int qm_top]))] ∧ (a1.toInt < 0 ∨ qm_taped.toInt < a1.toInt)) ∨ (r9 = 1 ∧ u9 = [(qm, .inr (10, [.int 0, .ref qm_tape, .int a1, .int qm_size, .int qm_limit, .int qm_to, .int qm_from, .int qm_kind, .int qm_number, .int qm_sign, .int qm_fault, .int qm_place, .long qm_word, .int qm_told, .ref qm_now, .ref qm_read, .ref qm_kept, .ref qm_snaps, .ref qm_aside, .ref qm_name, .ref qm_readName, .ref qm_keptName, .ref qm_isKept, .ref qm_onces, .int qm_snapMany, .ref qm_order, .ref qm_ordered, .int qm_orderMany, .int qm_orderMost, .int qm_passing, .int qm_movedWho, .int qm_scratched, .ref qm_text, .int qm_texts, .int qm_seed, .ref qm_line, .ref qm_written, .int qm_lineMany, .int qm_hasWritten, .ref qm_node, .int qm_nodes, .int qm_onesMany, .int qm_within, .int qm_top]))] ∧ (0 ≤ a1.toInt ∧ a1.toInt ≤ qm_taped.toInt))) := by
  refine Ci.ofQ (by decide) (Nat.le_of_ble_eq_true rfl) ?_
  intro p e s m below meth c ls A args Q hQ B hw hl
  have C : CallFix p m c cX11_end 2 s args gw "LanternStateModel" := B.1
  have hl : lv_has ls 2 [(0, .ref qm), (1, .int a1)] := hl
  refine lv_aload_n C.1 C.2.1 dX11_end_0 rfl (lv_at hl 0 rfl) ?_
  refine lv_iconst (v := 0) C.1 C.2.1 dX11_end_1 (by decide) ?_
  refine x_put (w' := [(qm, .inr (10, [.int 0, .ref qm_tape, .int qm_taped, .int qm_size, .int qm_limit, .int qm_to, .int qm_from, .int qm_kind, .int qm_number, .int qm_sign, .int qm_fault, .int qm_place, .long qm_word, .int qm_told, .ref qm_now, .ref qm_read, .ref qm_kept, .ref qm_snaps, .ref qm_aside, .ref qm_name, .ref qm_readName, .ref qm_keptName, .ref qm_isKept, .ref qm_onces, .int qm_snapMany, .ref qm_order, .ref qm_ordered, .int qm_orderMany, .int qm_orderMost, .int qm_passing, .int qm_movedWho, .int qm_scratched, .ref qm_text, .int qm_texts, .int qm_seed, .ref qm_line, .ref qm_written, .int qm_lineMany, .int qm_hasWritten, .ref qm_node, .int qm_nodes, .int qm_onesMany, .int qm_within, .int qm_top]))]) C hw iwX11 tyX11_ok nmX11 10 rfl 0 rfl 0 (by decide) kw1193 rfl rfl rfl (Nat.le_of_ble_eq_true rfl) rfl dX11_end_2 (fun H locs hw => ?_)
  refine lv_iload_n C.1 C.2.1 dX11_end_5 rfl (lv_at hl 1 rfl) ?_
  refine lv_if_lt (tgt := 17) C.1 C.2.1 dX11_end_6 (by decide) (fun c1 => ?_) (fun c1 => ?_)
  · skip
    have c1 : a1.toInt < 0 := i_ltT (X := a1.toInt) (Y := 0) rfl rfl c1
    have bc1_a1 := i_bd a1
    refine lv_iconst (v := 0) C.1 C.2.1 dX11_end_17 (by decide) ?_
    exact x_retzQ hQ B hw rfl (Or.inl ⟨rfl, rfl, (by omega)⟩) (Nat.le_of_ble_eq_true rfl) (Nat.le_of_ble_eq_true rfl) dX11_end_18
  · skip
    have c1 : 0 ≤ a1.toInt := i_ltF (X := a1.toInt) (Y := 0) rfl rfl c1
    have bc1_a1 := i_bd a1
    refine lv_iload_n C.1 C.2.1 dX11_end_9 rfl (lv_at hl 1 rfl) ?_
    refine lv_aload_n C.1 C.2.1 dX11_end_10 rfl (lv_at hl 0 rfl) ?_
    refine x_get C hw iwX11 10 rfl 0 rfl 2 (by decide) kw1195 rfl dX11_end_11 ?_
    refine lv_icmp_le (tgt := 19) C.1 C.2.1 dX11_end_14 (by decide) (fun c2 => ?_) (fun c2 => ?_)
    · skip
      have c2 : a1.toInt ≤ qm_taped.toInt := i_leT (X := a1.toInt) (Y := qm_taped.toInt) rfl rfl c2
      have bc2_a1 := i_bd a1
      refine lv_aload_n C.1 C.2.1 dX11_end_19 rfl (lv_at hl 0 rfl) ?_
      refine lv_iload_n C.1 C.2.1 dX11_end_20 rfl (lv_at hl 1 rfl) ?_
      refine x_put (w' := [(qm, .inr (10, [.int 0, .ref qm_tape, .int a1, .int qm_size, .int qm_limit, .int qm_to, .int qm_from, .int qm_kind, .int qm_number, .int qm_sign, .int qm_fault, .int qm_place, .long qm_word, .int qm_told, .ref qm_now, .ref qm_read, .ref qm_kept, .ref qm_snaps, .ref qm_aside, .ref qm_name, .ref qm_readName, .ref qm_keptName, .ref qm_isKept, .ref qm_onces, .int qm_snapMany, .ref qm_order, .ref qm_ordered, .int qm_orderMany, .int qm_orderMost, .int qm_passing, .int qm_movedWho, .int qm_scratched, .ref qm_text, .int qm_texts, .int qm_seed, .ref qm_line, .ref qm_written, .int qm_lineMany, .int qm_hasWritten, .ref qm_node, .int qm_nodes, .int qm_onesMany, .int qm_within, .int qm_top]))]) C hw iwX11 tyX11_ok nmX11 10 rfl 0 rfl 2 (by decide) kw1195 rfl rfl rfl (Nat.le_of_ble_eq_true rfl) rfl dX11_end_21 (fun H locs hw => ?_)
      refine lv_iconst (v := 1) C.1 C.2.1 dX11_end_24 (by decide) ?_
      exact x_retzQ hQ B hw rfl (Or.inr ⟨rfl, rfl, (by omega)⟩) (Nat.le_of_ble_eq_true rfl) (Nat.le_of_ble_eq_true rfl) dX11_end_25
    · skip
      have c2 : qm_taped.toInt < a1.toInt := i_leF (X := a1.toInt) (Y := qm_taped.toInt) rfl rfl c2
      have bc2_a1 := i_bd a1
      refine lv_iconst (v := 0) C.1 C.2.1 dX11_end_17 (by decide) ?_
      exact x_retzQ hQ B hw rfl (Or.inl ⟨rfl, rfl, (by omega)⟩) (Nat.le_of_ble_eq_true rfl) (Nat.le_of_ble_eq_true rfl) dX11_end_18
theorem dX11_count_0 : decode cX11_count 0 = .ok (.aload_n 0, 1) := by decide +kernel
theorem dX11_count_1 : decode cX11_count 1 = .ok (.iconst 0, 1) := by decide +kernel
theorem dX11_count_2 : decode cX11_count 2 = .ok (.putfield 1, 3) := by decide +kernel
theorem dX11_count_5 : decode cX11_count 5 = .ok (.iload_n 1, 1) := by decide +kernel
theorem dX11_count_6 : decode cX11_count 6 = .ok (.tableswitch 89 0 6 #[42, 49, 56, 63, 70, 77, 84], 42) := by decide +kernel
theorem dX11_count_48 : decode cX11_count 48 = .ok (.aload_n 0, 1) := by decide +kernel
theorem dX11_count_49 : decode cX11_count 49 = .ok (.getfield 98, 3) := by decide +kernel
theorem dX11_count_52 : decode cX11_count 52 = .ok (.iconst 0, 1) := by decide +kernel
theorem dX11_count_53 : decode cX11_count 53 = .ok (.iaload, 1) := by decide +kernel
theorem dX11_count_54 : decode cX11_count 54 = .ok (.ireturn, 1) := by decide +kernel
theorem dX11_count_55 : decode cX11_count 55 = .ok (.aload_n 0, 1) := by decide +kernel
theorem dX11_count_56 : decode cX11_count 56 = .ok (.getfield 98, 3) := by decide +kernel
theorem dX11_count_59 : decode cX11_count 59 = .ok (.iconst 1, 1) := by decide +kernel
theorem dX11_count_60 : decode cX11_count 60 = .ok (.iaload, 1) := by decide +kernel
theorem dX11_count_61 : decode cX11_count 61 = .ok (.ireturn, 1) := by decide +kernel
theorem dX11_count_62 : decode cX11_count 62 = .ok (.aload_n 0, 1) := by decide +kernel
theorem dX11_count_63 : decode cX11_count 63 = .ok (.getfield 98, 3) := by decide +kernel
theorem dX11_count_66 : decode cX11_count 66 = .ok (.iconst 2, 1) := by decide +kernel
theorem dX11_count_67 : decode cX11_count 67 = .ok (.iaload, 1) := by decide +kernel
theorem dX11_count_68 : decode cX11_count 68 = .ok (.ireturn, 1) := by decide +kernel
theorem dX11_count_69 : decode cX11_count 69 = .ok (.aload_n 0, 1) := by decide +kernel
theorem dX11_count_70 : decode cX11_count 70 = .ok (.getfield 98, 3) := by decide +kernel
theorem dX11_count_73 : decode cX11_count 73 = .ok (.iconst 3, 1) := by decide +kernel
theorem dX11_count_74 : decode cX11_count 74 = .ok (.iaload, 1) := by decide +kernel
theorem dX11_count_75 : decode cX11_count 75 = .ok (.ireturn, 1) := by decide +kernel
theorem dX11_count_76 : decode cX11_count 76 = .ok (.aload_n 0, 1) := by decide +kernel
theorem dX11_count_77 : decode cX11_count 77 = .ok (.getfield 98, 3) := by decide +kernel
theorem dX11_count_80 : decode cX11_count 80 = .ok (.iconst 4, 1) := by decide +kernel
theorem dX11_count_81 : decode cX11_count 81 = .ok (.iaload, 1) := by decide +kernel
theorem dX11_count_82 : decode cX11_count 82 = .ok (.ireturn, 1) := by decide +kernel
theorem dX11_count_83 : decode cX11_count 83 = .ok (.aload_n 0, 1) := by decide +kernel
theorem dX11_count_84 : decode cX11_count 84 = .ok (.getfield 98, 3) := by decide +kernel
theorem dX11_count_87 : decode cX11_count 87 = .ok (.iconst 5, 1) := by decide +kernel
theorem dX11_count_88 : decode cX11_count 88 = .ok (.iaload, 1) := by decide +kernel
theorem dX11_count_89 : decode cX11_count 89 = .ok (.ireturn, 1) := by decide +kernel
theorem dX11_count_90 : decode cX11_count 90 = .ok (.aload_n 0, 1) := by decide +kernel
theorem dX11_count_91 : decode cX11_count 91 = .ok (.getfield 11, 3) := by decide +kernel
theorem dX11_count_94 : decode cX11_count 94 = .ok (.ireturn, 1) := by decide +kernel
theorem dX11_count_95 : decode cX11_count 95 = .ok (.iconst (-1), 1) := by decide +kernel
theorem dX11_count_96 : decode cX11_count 96 = .ok (.ireturn, 1) := by decide +kernel
set_option maxHeartbeats 4000000 in
set_option maxRecDepth 100000 in
theorem s_X11_count {l : Launch} {G : Gc} (qm : Nat) (a1 : Int32) (qm_thrown : Int32) (qm_tape : Nat) (qm_taped : Int32) (qm_size : Int32) (qm_limit : Int32) (qm_to : Int32) (qm_from : Int32) (qm_kind : Int32) (qm_number : Int32) (qm_sign : Int32) (qm_fault : Int32) (qm_place : Int32) (qm_word : Int64) (qm_told : Int32) (qm_now : Nat) (qm_read : Nat) (qm_kept : Nat) (qm_snaps : Nat) (qm_aside : Nat) (qm_name : Nat) (qm_readName : Nat) (qm_keptName : Nat) (qm_isKept : Nat) (qm_onces : Nat) (qm_snapMany : Int32) (qm_order : Nat) (qm_ordered : Nat) (qm_orderMany : Int32) (qm_orderMost : Int32) (qm_passing : Int32) (qm_movedWho : Int32) (qm_scratched : Int32) (qm_text : Nat) (qm_texts : Int32) (qm_seed : Int32) (qm_line : Nat) (qm_written : Nat) (qm_lineMany : Int32) (qm_hasWritten : Int32) (qm_node : Nat) (qm_nodes : Int32) (qm_onesMany : Int32) (qm_within : Int32) (qm_top : Int32) (qm_now_c : Nat → Int32) (hi_qm_taped : 0 ≤ qm_taped.toInt ∧ qm_taped.toInt ≤ 940) (hf_qm_now_c : slI qm_now_c) (hf1_qm_now_c : trI qm_now_c) : Ci l yX11_count cX11_count 2 (some .int) 0 0 0 G [.ref qm, .int a1] [(qm, .inr (10, [.int qm_thrown, .ref qm_tape, .int qm_taped, .int qm_size, .int qm_limit, .int qm_to, .int qm_from, .int qm_kind, .int qm_number, .int qm_sign, .int qm_fault, .int qm_place, .long qm_word, .int qm_told, .ref qm_now, .ref qm_read, .ref qm_kept, .ref qm_snaps, .ref qm_aside, .ref qm_name, .ref qm_readName, .ref qm_keptName, .ref qm_isKept, .ref qm_onces, .int qm_snapMany, .ref qm_order, .ref qm_ordered, .int qm_orderMany, .int qm_orderMost, .int qm_passing, .int qm_movedWho, .int qm_scratched, .ref qm_text, .int qm_texts, .int qm_seed, .ref qm_line, .ref qm_written, .int qm_lineMany, .int qm_hasWritten, .ref qm_node, .int qm_nodes, .int qm_onesMany, .int qm_within, .int qm_top])), (qm_now, eI G 339 qm_now_c)] (fun (r9 : Int32) (u9 : va_W) => ∃ (r_x : Int32), r9 = r_x ∧ u9 = [(qm, .inr (10, [.int 0, .ref qm_tape, .int qm_taped, .int qm_size, .int qm_limit, .int qm_to, .int qm_from, .int qm_kind, .int qm_number, .int qm_sign, .int qm_fault, .int qm_place, .long qm_word, .int qm_told, .ref qm_now, .ref qm_read, .ref qm_kept, .ref qm_snaps, .ref qm_aside, .ref qm_name, .ref qm_readName, .ref qm_keptName, .ref qm_isKept, .ref qm_onces, .int qm_snapMany, .ref qm_order, .ref qm_ordered, .int qm_orderMany, .int qm_orderMost, .int qm_passing, .int qm_movedWho, .int qm_scratched, .ref qm_text, .int qm_texts, .int qm_seed, .ref qm_line, .ref qm_written, .int qm_lineMany, .int qm_hasWritten, .ref qm_node, .int qm_nodes, .int qm_onesMany, .int qm_within, .int qm_top])), (qm_now, eI G 339 qm_now_c)]) := by
  refine Ci.ofQ (by decide) (Nat.le_of_ble_eq_true rfl) ?_
  intro p e s m below meth c ls A args Q hQ B hw hl
  have C : CallFix p m c cX11_count 2 s args gw "LanternStateModel" := B.1
  have hl : lv_has ls 2 [(0, .ref qm), (1, .int a1)] := hl
  refine lv_aload_n C.1 C.2.1 dX11_count_0 rfl (lv_at hl 0 rfl) ?_
  refine lv_iconst (v := 0) C.1 C.2.1 dX11_count_1 (by decide) ?_
  refine x_put (w' := [(qm, .inr (10, [.int 0, .ref qm_tape, .int qm_taped, .int qm_size, .int qm_limit, .int qm_to, .int qm_from, .int qm_kind, .int qm_number, .int qm_sign, .int qm_fault, .int qm_place, .long qm_word, .int qm_told, .ref qm_now, .ref qm_read, .ref qm_kept, .ref qm_snaps, .ref qm_aside, .ref qm_name, .ref qm_readName, .ref qm_keptName, .ref qm_isKept, .ref qm_onces, .int qm_snapMany, .ref qm_order, .ref qm_ordered, .int qm_orderMany, .int qm_orderMost, .int qm_passing, .int qm_movedWho, .int qm_scratched, .ref qm_text, .int qm_texts, .int qm_seed, .ref qm_line, .ref qm_written, .int qm_lineMany, .int qm_hasWritten, .ref qm_node, .int qm_nodes, .int qm_onesMany, .int qm_within, .int qm_top])), (qm_now, eI G 339 qm_now_c)]) C hw iwX11 tyX11_ok nmX11 10 rfl 0 rfl 0 (by decide) kw1193 rfl rfl rfl (Nat.le_of_ble_eq_true rfl) rfl dX11_count_2 (fun H locs hw => ?_)
  refine lv_iload_n C.1 C.2.1 dX11_count_5 rfl (lv_at hl 1 rfl) ?_
  have k1 : a1.toInt = 0 ∨ a1.toInt = 1 ∨ a1.toInt = 2 ∨ a1.toInt = 3 ∨ a1.toInt = 4 ∨ a1.toInt = 5 ∨ a1.toInt = 6 ∨ (a1.toInt ≠ 0 ∧ a1.toInt ≠ 1 ∧ a1.toInt ≠ 2 ∧ a1.toInt ≠ 3 ∧ a1.toInt ≠ 4 ∧ a1.toInt ≠ 5 ∧ a1.toInt ≠ 6) := by omega
  rcases k1 with k1 | k1 | k1 | k1 | k1 | k1 | k1 | k1
  · skip
    have k1 : a1 = 0 := Int32.toInt_inj.mp (by rw [k1]; rfl)
    refine x_topi (z := 0) k1 ?_
    refine lv_tableIn (off := 42) (tgt := 48) C.1 C.2.1 dX11_count_6 (by decide) (by decide) rfl (by decide) ?_
    have ha1_ := congrArg Int32.toInt k1
    have ha1_ : a1.toInt = 0 := ha1_
    refine lv_aload_n C.1 C.2.1 dX11_count_48 rfl (lv_at hl 0 rfl) ?_
    refine x_get C hw iwX11 10 rfl 0 rfl 14 (by decide) kw1207 rfl dX11_count_49 ?_
    refine lv_iconst (v := 0) C.1 C.2.1 dX11_count_52 (by decide) ?_
    have mm2 := hf_qm_now_c 0
    refine x_iald (v := (qm_now_c 0)) C hw 1 rfl (x_in rfl) rfl dX11_count_53 (x_genP (fun z : Int32 => z.toInt = (qm_now_c 0).toInt ∧ 0 ≤ z.toInt ∧ z.toInt ≤ 6) ⟨rfl, by omega⟩ (fun v3 hv3 => ?_))
    exact x_retiQ hQ B hw ⟨v3, rfl, rfl⟩ (Nat.le_of_ble_eq_true rfl) (Nat.le_of_ble_eq_true rfl) dX11_count_54
  · skip
    have k1 : a1 = 1 := Int32.toInt_inj.mp (by rw [k1]; rfl)
    refine x_topi (z := 1) k1 ?_
    refine lv_tableIn (off := 49) (tgt := 55) C.1 C.2.1 dX11_count_6 (by decide) (by decide) rfl (by decide) ?_
    have ha1_ := congrArg Int32.toInt k1
    have ha1_ : a1.toInt = 1 := ha1_
    refine lv_aload_n C.1 C.2.1 dX11_count_55 rfl (lv_at hl 0 rfl) ?_
    refine x_get C hw iwX11 10 rfl 0 rfl 14 (by decide) kw1207 rfl dX11_count_56 ?_
    refine lv_iconst (v := 1) C.1 C.2.1 dX11_count_59 (by decide) ?_
    have mm4 := hf_qm_now_c 1
    refine x_iald (v := (qm_now_c 1)) C hw 1 rfl (x_in rfl) rfl dX11_count_60 (x_genP (fun z : Int32 => z.toInt = (qm_now_c 1).toInt ∧ 0 ≤ z.toInt ∧ z.toInt ≤ 8) ⟨rfl, by omega⟩ (fun v5 hv5 => ?_))
    exact x_retiQ hQ B hw ⟨v5, rfl, rfl⟩ (Nat.le_of_ble_eq_true rfl) (Nat.le_of_ble_eq_true rfl) dX11_count_61
  · skip
    have k1 : a1 = 2 := Int32.toInt_inj.mp (by rw [k1]; rfl)
    refine x_topi (z := 2) k1 ?_
    refine lv_tableIn (off := 56) (tgt := 62) C.1 C.2.1 dX11_count_6 (by decide) (by decide) rfl (by decide) ?_
    have ha1_ := congrArg Int32.toInt k1
    have ha1_ : a1.toInt = 2 := ha1_
    refine lv_aload_n C.1 C.2.1 dX11_count_62 rfl (lv_at hl 0 rfl) ?_
    refine x_get C hw iwX11 10 rfl 0 rfl 14 (by decide) kw1207 rfl dX11_count_63 ?_
    refine lv_iconst (v := 2) C.1 C.2.1 dX11_count_66 (by decide) ?_
    refine x_iald (v := (qm_now_c 2)) C hw 1 rfl (x_in rfl) rfl dX11_count_67 (x_gen (fun v6 => ?_))
    exact x_retiQ hQ B hw ⟨v6, rfl, rfl⟩ (Nat.le_of_ble_eq_true rfl) (Nat.le_of_ble_eq_true rfl) dX11_count_68
  · skip
    have k1 : a1 = 3 := Int32.toInt_inj.mp (by rw [k1]; rfl)
    refine x_topi (z := 3) k1 ?_
    refine lv_tableIn (off := 63) (tgt := 69) C.1 C.2.1 dX11_count_6 (by decide) (by decide) rfl (by decide) ?_
    have ha1_ := congrArg Int32.toInt k1
    have ha1_ : a1.toInt = 3 := ha1_
    refine lv_aload_n C.1 C.2.1 dX11_count_69 rfl (lv_at hl 0 rfl) ?_
    refine x_get C hw iwX11 10 rfl 0 rfl 14 (by decide) kw1207 rfl dX11_count_70 ?_
    refine lv_iconst (v := 3) C.1 C.2.1 dX11_count_73 (by decide) ?_
    refine x_iald (v := (qm_now_c 3)) C hw 1 rfl (x_in rfl) rfl dX11_count_74 (x_gen (fun v7 => ?_))
    exact x_retiQ hQ B hw ⟨v7, rfl, rfl⟩ (Nat.le_of_ble_eq_true rfl) (Nat.le_of_ble_eq_true rfl) dX11_count_75
  · skip
    have k1 : a1 = 4 := Int32.toInt_inj.mp (by rw [k1]; rfl)
    refine x_topi (z := 4) k1 ?_
    refine lv_tableIn (off := 70) (tgt := 76) C.1 C.2.1 dX11_count_6 (by decide) (by decide) rfl (by decide) ?_
    have ha1_ := congrArg Int32.toInt k1
    have ha1_ : a1.toInt = 4 := ha1_
    refine lv_aload_n C.1 C.2.1 dX11_count_76 rfl (lv_at hl 0 rfl) ?_
    refine x_get C hw iwX11 10 rfl 0 rfl 14 (by decide) kw1207 rfl dX11_count_77 ?_
    refine lv_iconst (v := 4) C.1 C.2.1 dX11_count_80 (by decide) ?_
    refine x_iald (v := (qm_now_c 4)) C hw 1 rfl (x_in rfl) rfl dX11_count_81 (x_gen (fun v8 => ?_))
    exact x_retiQ hQ B hw ⟨v8, rfl, rfl⟩ (Nat.le_of_ble_eq_true rfl) (Nat.le_of_ble_eq_true rfl) dX11_count_82
  · skip
    have k1 : a1 = 5 := Int32.toInt_inj.mp (by rw [k1]; rfl)
    refine x_topi (z := 5) k1 ?_
    refine lv_tableIn (off := 77) (tgt := 83) C.1 C.2.1 dX11_count_6 (by decide) (by decide) rfl (by decide) ?_
    have ha1_ := congrArg Int32.toInt k1
    have ha1_ : a1.toInt = 5 := ha1_
    refine lv_aload_n C.1 C.2.1 dX11_count_83 rfl (lv_at hl 0 rfl) ?_
    refine x_get C hw iwX11 10 rfl 0 rfl 14 (by decide) kw1207 rfl dX11_count_84 ?_
    refine lv_iconst (v := 5) C.1 C.2.1 dX11_count_87 (by decide) ?_
    refine x_iald (v := (qm_now_c 5)) C hw 1 rfl (x_in rfl) rfl dX11_count_88 (x_gen (fun v9 => ?_))
    exact x_retiQ hQ B hw ⟨v9, rfl, rfl⟩ (Nat.le_of_ble_eq_true rfl) (Nat.le_of_ble_eq_true rfl) dX11_count_89
  · skip
    have k1 : a1 = 6 := Int32.toInt_inj.mp (by rw [k1]; rfl)
    refine x_topi (z := 6) k1 ?_
    refine lv_tableIn (off := 84) (tgt := 90) C.1 C.2.1 dX11_count_6 (by decide) (by decide) rfl (by decide) ?_
    have ha1_ := congrArg Int32.toInt k1
    have ha1_ : a1.toInt = 6 := ha1_
    refine lv_aload_n C.1 C.2.1 dX11_count_90 rfl (lv_at hl 0 rfl) ?_
    refine x_get C hw iwX11 10 rfl 0 rfl 2 (by decide) kw1195 rfl dX11_count_91 ?_
    exact x_retiQ hQ B hw ⟨qm_taped, rfl, rfl⟩ (Nat.le_of_ble_eq_true rfl) (Nat.le_of_ble_eq_true rfl) dX11_count_94
  · skip
    refine lv_tableOut (tgt := 95) C.1 C.2.1 dX11_count_6 (by omega) (by decide) ?_
    refine lv_iconst (v := (-1)) C.1 C.2.1 dX11_count_95 (by decide) ?_
    exact x_retiQ hQ B hw ⟨(-1), rfl, rfl⟩ (Nat.le_of_ble_eq_true rfl) (Nat.le_of_ble_eq_true rfl) dX11_count_96
