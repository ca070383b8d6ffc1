-- needs: 08 6 7 12 14 16 17 18 20
theorem dX11_snap_0 : decode cX11_snap 0 = .ok (.aload_n 0, 1) := by decide +kernel
theorem dX11_snap_1 : decode cX11_snap 1 = .ok (.getfield 231, 3) := by decide +kernel
theorem dX11_snap_4 : decode cX11_snap 4 = .ok (.bipush 8, 2) := by decide +kernel
theorem dX11_snap_6 : decode cX11_snap 6 = .ok (.if_icmp .ne 43, 3) := by decide +kernel
theorem dX11_snap_9 : decode cX11_snap 9 = .ok (.iconst 0, 1) := by decide +kernel
theorem dX11_snap_10 : decode cX11_snap 10 = .ok (.istore_n 1, 1) := by decide +kernel
theorem dX11_snap_11 : decode cX11_snap 11 = .ok (.iload_n 1, 1) := by decide +kernel
theorem dX11_snap_12 : decode cX11_snap 12 = .ok (.sipush 231, 3) := by decide +kernel
theorem dX11_snap_15 : decode cX11_snap 15 = .ok (.if_icmp .ge 24, 3) := by decide +kernel
theorem dX11_snap_18 : decode cX11_snap 18 = .ok (.aload_n 0, 1) := by decide +kernel
theorem dX11_snap_19 : decode cX11_snap 19 = .ok (.getfield 107, 3) := by decide +kernel
theorem dX11_snap_22 : decode cX11_snap 22 = .ok (.iload_n 1, 1) := by decide +kernel
theorem dX11_snap_23 : decode cX11_snap 23 = .ok (.aload_n 0, 1) := by decide +kernel
theorem dX11_snap_24 : decode cX11_snap 24 = .ok (.getfield 107, 3) := by decide +kernel
theorem dX11_snap_27 : decode cX11_snap 27 = .ok (.iload_n 1, 1) := by decide +kernel
theorem dX11_snap_28 : decode cX11_snap 28 = .ok (.bipush 33, 2) := by decide +kernel
theorem dX11_snap_30 : decode cX11_snap 30 = .ok (.iadd, 1) := by decide +kernel
theorem dX11_snap_31 : decode cX11_snap 31 = .ok (.iaload, 1) := by decide +kernel
theorem dX11_snap_32 : decode cX11_snap 32 = .ok (.iastore, 1) := by decide +kernel
theorem dX11_snap_33 : decode cX11_snap 33 = .ok (.iinc 1 1, 3) := by decide +kernel
theorem dX11_snap_36 : decode cX11_snap 36 = .ok (.goto (-25), 3) := by decide +kernel
theorem dX11_snap_39 : decode cX11_snap 39 = .ok (.aload_n 0, 1) := by decide +kernel
theorem dX11_snap_40 : decode cX11_snap 40 = .ok (.dup, 1) := by decide +kernel
theorem dX11_snap_41 : decode cX11_snap 41 = .ok (.getfield 231, 3) := by decide +kernel
theorem dX11_snap_44 : decode cX11_snap 44 = .ok (.iconst 1, 1) := by decide +kernel
theorem dX11_snap_45 : decode cX11_snap 45 = .ok (.isub, 1) := by decide +kernel
theorem dX11_snap_46 : decode cX11_snap 46 = .ok (.putfield 231, 3) := by decide +kernel
theorem dX11_snap_49 : decode cX11_snap 49 = .ok (.iconst 0, 1) := by decide +kernel
theorem dX11_snap_50 : decode cX11_snap 50 = .ok (.istore_n 1, 1) := by decide +kernel
theorem dX11_snap_51 : decode cX11_snap 51 = .ok (.iload_n 1, 1) := by decide +kernel
theorem dX11_snap_52 : decode cX11_snap 52 = .ok (.bipush 33, 2) := by decide +kernel
theorem dX11_snap_54 : decode cX11_snap 54 = .ok (.if_icmp .ge 32, 3) := by decide +kernel
theorem dX11_snap_57 : decode cX11_snap 57 = .ok (.aload_n 0, 1) := by decide +kernel
theorem dX11_snap_58 : decode cX11_snap 58 = .ok (.getfield 107, 3) := by decide +kernel
theorem dX11_snap_61 : decode cX11_snap 61 = .ok (.bipush 33, 2) := by decide +kernel
theorem dX11_snap_63 : decode cX11_snap 63 = .ok (.aload_n 0, 1) := by decide +kernel
theorem dX11_snap_64 : decode cX11_snap 64 = .ok (.getfield 231, 3) := by decide +kernel
theorem dX11_snap_67 : decode cX11_snap 67 = .ok (.imul, 1) := by decide +kernel
theorem dX11_snap_68 : decode cX11_snap 68 = .ok (.iload_n 1, 1) := by decide +kernel
theorem dX11_snap_69 : decode cX11_snap 69 = .ok (.iadd, 1) := by decide +kernel
theorem dX11_snap_70 : decode cX11_snap 70 = .ok (.aload_n 0, 1) := by decide +kernel
theorem dX11_snap_71 : decode cX11_snap 71 = .ok (.getfield 98, 3) := by decide +kernel
theorem dX11_snap_74 : decode cX11_snap 74 = .ok (.bipush 64, 2) := by decide +kernel
theorem dX11_snap_76 : decode cX11_snap 76 = .ok (.iload_n 1, 1) := by decide +kernel
theorem dX11_snap_77 : decode cX11_snap 77 = .ok (.iadd, 1) := by decide +kernel
theorem dX11_snap_78 : decode cX11_snap 78 = .ok (.iaload, 1) := by decide +kernel
theorem dX11_snap_79 : decode cX11_snap 79 = .ok (.iastore, 1) := by decide +kernel
theorem dX11_snap_80 : decode cX11_snap 80 = .ok (.iinc 1 1, 3) := by decide +kernel
theorem dX11_snap_83 : decode cX11_snap 83 = .ok (.goto (-32), 3) := by decide +kernel
theorem dX11_snap_86 : decode cX11_snap 86 = .ok (.aload_n 0, 1) := by decide +kernel
theorem dX11_snap_87 : decode cX11_snap 87 = .ok (.dup, 1) := by decide +kernel
theorem dX11_snap_88 : decode cX11_snap 88 = .ok (.getfield 231, 3) := by decide +kernel
theorem dX11_snap_91 : decode cX11_snap 91 = .ok (.iconst 1, 1) := by decide +kernel
theorem dX11_snap_92 : decode cX11_snap 92 = .ok (.iadd, 1) := by decide +kernel
theorem dX11_snap_93 : decode cX11_snap 93 = .ok (.putfield 231, 3) := by decide +kernel
theorem dX11_snap_96 : decode cX11_snap 96 = .ok (.return_, 1) := by decide +kernel
set_option maxHeartbeats 4000000 in
set_option maxRecDepth 100000 in
theorem s_X11_snap {l : Launch} {G : Gc} (qm : Nat) (qm_thrown : Int32) (qm_tape : Nat) (qm_taped : Int32) (qm_size : Int32) (qm_limit : Int32) (qm_to : Int32) (qm_from : Int32) (qm_kind : Int32) (qm_number : Int32) (qm_sign : Int32) (qm_fault : Int32) (qm_place : Int32) (qm_word : Int64) (qm_told : Int32) (qm_now : Nat) (qm_read : Nat) (qm_kept : Nat) (qm_snaps : Nat) (qm_aside : Nat) (qm_name : Nat) (qm_readName : Nat) (qm_keptName : Nat) (qm_isKept : Nat) (qm_onces : Nat) (qm_snapMany : Int32) (qm_order : Nat) (qm_ordered : Nat) (qm_orderMany : Int32) (qm_orderMost : Int32) (qm_passing : Int32) (qm_movedWho : Int32) (qm_scratched : Int32) (qm_text : Nat) (qm_texts : Int32) (qm_seed : Int32) (qm_line : Nat) (qm_written : Nat) (qm_lineMany : Int32) (qm_hasWritten : Int32) (qm_node : Nat) (qm_nodes : Int32) (qm_onesMany : Int32) (qm_within : Int32) (qm_top : Int32) (qm_now_c : Nat → Int32) (qm_snaps_c : Nat → Int32) (hf_qm_now_c : slI qm_now_c) (hf1_qm_now_c : trI qm_now_c) (hi_qm_snapMany : 0 ≤ qm_snapMany.toInt ∧ qm_snapMany.toInt ≤ 8) : Cv l yX11_snap cX11_snap 2 0 0 0 G [.ref qm] [(qm, .inr (10, [.int qm_thrown, .ref qm_tape, .int qm_taped, .int qm_size, .int qm_limit, .int qm_to, .int qm_from, .int qm_kind, .int qm_number, .int qm_sign, .int qm_fault, .int qm_place, .long qm_word, .int qm_told, .ref qm_now, .ref qm_read, .ref qm_kept, .ref qm_snaps, .ref qm_aside, .ref qm_name, .ref qm_readName, .ref qm_keptName, .ref qm_isKept, .ref qm_onces, .int qm_snapMany, .ref qm_order, .ref qm_ordered, .int qm_orderMany, .int qm_orderMost, .int qm_passing, .int qm_movedWho, .int qm_scratched, .ref qm_text, .int qm_texts, .int qm_seed, .ref qm_line, .ref qm_written, .int qm_lineMany, .int qm_hasWritten, .ref qm_node, .int qm_nodes, .int qm_onesMany, .int qm_within, .int qm_top])), (qm_now, eI G 339 qm_now_c), (qm_snaps, eI G 264 qm_snaps_c)] (fun (u9 : va_W) => ∃ (x0_qm_snapMany : Int32) (x1_qm_snaps_c : Nat → Int32), u9 = [(qm, .inr (10, [.int qm_thrown, .ref qm_tape, .int qm_taped, .int qm_size, .int qm_limit, .int qm_to, .int qm_from, .int qm_kind, .int qm_number, .int qm_sign, .int qm_fault, .int qm_place, .long qm_word, .int qm_told, .ref qm_now, .ref qm_read, .ref qm_kept, .ref qm_snaps, .ref qm_aside, .ref qm_name, .ref qm_readName, .ref qm_keptName, .ref qm_isKept, .ref qm_onces, .int x0_qm_snapMany, .ref qm_order, .ref qm_ordered, .int qm_orderMany, .int qm_orderMost, .int qm_passing, .int qm_movedWho, .int qm_scratched, .ref qm_text, .int qm_texts, .int qm_seed, .ref qm_line, .ref qm_written, .int qm_lineMany, .int qm_hasWritten, .ref qm_node, .int qm_nodes, .int qm_onesMany, .int qm_within, .int qm_top])), (qm_now, eI G 339 qm_now_c), (qm_snaps, eI G 264 x1_qm_snaps_c)] ∧ (1 ≤ x0_qm_snapMany.toInt ∧ x0_qm_snapMany.toInt ≤ 8)) := by
  refine Cv.ofQ (by decide) (Nat.le_of_ble_eq_true rfl) ?_
  intro p e s m below meth c ls A args Q hQ B hw hl
  have C : CallFix p m c cX11_snap 2 s args gw "LanternStateModel" := B.1
  have hl : lv_has ls 2 [(0, .ref qm)] := hl
  refine lv_aload_n C.1 C.2.1 dX11_snap_0 rfl (lv_at hl 0 rfl) ?_
  refine x_get C hw iwX11 10 rfl 0 rfl 24 (by decide) kw1217 rfl dX11_snap_1 ?_
  refine lv_bipush (v := 8) C.1 C.2.1 dX11_snap_4 (by decide) ?_
  have J184 : ∀ (j182 : Int32) (j183 : Nat → Int32), (0 ≤ j182.toInt ∧ j182.toInt ≤ 7) → ∀ (H : Heap) (locs : List Loc) (ls : Array Slot), Wd G s A [(qm, .inr (10, [.int qm_thrown, .ref qm_tape, .int qm_taped, .int qm_size, .int qm_limit, .int qm_to, .int qm_from, .int qm_kind, .int qm_number, .int qm_sign, .int qm_fault, .int qm_place, .long qm_word, .int qm_told, .ref qm_now, .ref qm_read, .ref qm_kept, .ref qm_snaps, .ref qm_aside, .ref qm_name, .ref qm_readName, .ref qm_keptName, .ref qm_isKept, .ref qm_onces, .int j182, .ref qm_order, .ref qm_ordered, .int qm_orderMany, .int qm_orderMost, .int qm_passing, .int qm_movedWho, .int qm_scratched, .ref qm_text, .int qm_texts, .int qm_seed, .ref qm_line, .ref qm_written, .int qm_lineMany, .int qm_hasWritten, .ref qm_node, .int qm_nodes, .int qm_onesMany, .int qm_within, .int qm_top])), (qm_now, eI G 339 qm_now_c), (qm_snaps, eI G 264 j183)] H locs → lv_has ls 2 [(0, .ref qm)] → W p l e (rmD 0 0 0) s m args below meth c H locs 0 0 Q (F0 m 49 ls []) := by
    intro j182 j183 hJ184_0 H locs ls hw hl
    refine lv_iconst (v := 0) C.1 C.2.1 dX11_snap_49 (by decide) ?_
    refine lv_istore_n (lv' := [(1, .int 0), (0, .ref qm)]) C.1 C.2.1 dX11_snap_50 rfl hl (by decide) rfl (fun ls hl => ?_)
    have loopJ478 : ∀ (n9 : Nat) (j476 : Int32) (j477 : Nat → Int32), (2147483647 - j476.toInt).toNat < n9 → (0 ≤ j476.toInt ∧ j476.toInt ≤ 33) → ∀ (H : Heap) (locs : List Loc) (ls : Array Slot), Wd G s A [(qm, .inr (10, [.int qm_thrown, .ref qm_tape, .int qm_taped, .int qm_size, .int qm_limit, .int qm_to, .int qm_from, .int qm_kind, .int qm_number, .int qm_sign, .int qm_fault, .int qm_place, .long qm_word, .int qm_told, .ref qm_now, .ref qm_read, .ref qm_kept, .ref qm_snaps, .ref qm_aside, .ref qm_name, .ref qm_readName, .ref qm_keptName, .ref qm_isKept, .ref qm_onces, .int j182, .ref qm_order, .ref qm_ordered, .int qm_orderMany, .int qm_orderMost, .int qm_passing, .int qm_movedWho, .int qm_scratched, .ref qm_text, .int qm_texts, .int qm_seed, .ref qm_line, .ref qm_written, .int qm_lineMany, .int qm_hasWritten, .ref qm_node, .int qm_nodes, .int qm_onesMany, .int qm_within, .int qm_top])), (qm_now, eI G 339 qm_now_c), (qm_snaps, eI G 264 j477)] H locs → lv_has ls 2 [(1, .int j476), (0, .ref qm)] → W p l e (rmD 0 0 0) s m args below meth c H locs 0 0 Q (F0 m 51 ls []) := by
      intro n9
      induction n9 with
      | zero => intro j476 j477 h9; exact absurd h9 (Nat.not_lt_zero _)
      | succ n9 ihJ478 =>
        intro j476 j477 h9J478 hJ478_0 H locs ls hw hl
        have hbj476 := i_bd j476
        refine lv_iload_n C.1 C.2.1 dX11_snap_51 rfl (lv_at hl 0 rfl) ?_
        refine lv_bipush (v := 33) C.1 C.2.1 dX11_snap_52 (by decide) ?_
        refine lv_icmp_ge (tgt := 86) C.1 C.2.1 dX11_snap_54 (by decide) (fun c489 => ?_) (fun c489 => ?_)
        · skip
          have c489 : 33 ≤ j476.toInt := i_leT (X := 33) (Y := j476.toInt) rfl rfl c489
          refine lv_aload_n C.1 C.2.1 dX11_snap_86 rfl (lv_at hl 1 rfl) ?_
          refine lv_dup C.1 C.2.1 dX11_snap_87 rfl ?_
          refine x_get C hw iwX11 10 rfl 0 rfl 24 (by decide) kw1217 rfl dX11_snap_88 ?_
          refine lv_iconst (v := 1) C.1 C.2.1 dX11_snap_91 (by decide) ?_
          refine lv_iadd C.1 C.2.1 dX11_snap_92 (x_genP (fun z : Int32 => z.toInt = j182.toInt + 1) (i_add (X := j182.toInt) (Y := 1) rfl rfl (by omega) (by omega)) (fun v490 hv490 => ?_))
          refine x_put (w' := [(qm, .inr (10, [.int qm_thrown, .ref qm_tape, .int qm_taped, .int qm_size, .int qm_limit, .int qm_to, .int qm_from, .int qm_kind, .int qm_number, .int qm_sign, .int qm_fault, .int qm_place, .long qm_word, .int qm_told, .ref qm_now, .ref qm_read, .ref qm_kept, .ref qm_snaps, .ref qm_aside, .ref qm_name, .ref qm_readName, .ref qm_keptName, .ref qm_isKept, .ref qm_onces, .int v490, .ref qm_order, .ref qm_ordered, .int qm_orderMany, .int qm_orderMost, .int qm_passing, .int qm_movedWho, .int qm_scratched, .ref qm_text, .int qm_texts, .int qm_seed, .ref qm_line, .ref qm_written, .int qm_lineMany, .int qm_hasWritten, .ref qm_node, .int qm_nodes, .int qm_onesMany, .int qm_within, .int qm_top])), (qm_now, eI G 339 qm_now_c), (qm_snaps, eI G 264 j477)]) C hw iwX11 tyX11_ok nmX11 10 rfl 0 rfl 24 (by decide) kw1217 rfl rfl rfl (Nat.le_of_ble_eq_true rfl) rfl dX11_snap_93 (fun H locs hw => ?_)
          exact x_retvQ hQ B hw ⟨v490, j477, rfl, (by omega)⟩ (Nat.le_of_ble_eq_true rfl) (Nat.le_of_ble_eq_true rfl) dX11_snap_96
        · skip
          have c489 : j476.toInt < 33 := i_leF (X := 33) (Y := j476.toInt) rfl rfl c489
          refine lv_aload_n C.1 C.2.1 dX11_snap_57 rfl (lv_at hl 1 rfl) ?_
          refine x_get C hw iwX11 10 rfl 0 rfl 17 (by decide) kw1210 rfl dX11_snap_58 ?_
          refine lv_bipush (v := 33) C.1 C.2.1 dX11_snap_61 (by decide) ?_
          refine lv_aload_n C.1 C.2.1 dX11_snap_63 rfl (lv_at hl 1 rfl) ?_
          refine x_get C hw iwX11 10 rfl 0 rfl 24 (by decide) kw1217 rfl dX11_snap_64 ?_
          refine lv_imul C.1 C.2.1 dX11_snap_67 (x_genP (fun z : Int32 => z.toInt = 33 * j182.toInt) (i_mul (X := 33) (Y := j182.toInt) rfl rfl (by omega) (by omega)) (fun v491 hv491 => ?_))
          refine lv_iload_n C.1 C.2.1 dX11_snap_68 rfl (lv_at hl 0 rfl) ?_
          refine lv_iadd C.1 C.2.1 dX11_snap_69 (x_genP (fun z : Int32 => z.toInt = v491.toInt + j476.toInt) (i_add (X := v491.toInt) (Y := j476.toInt) rfl rfl (by omega) (by omega)) (fun v492 hv492 => ?_))
          refine lv_aload_n C.1 C.2.1 dX11_snap_70 rfl (lv_at hl 1 rfl) ?_
          refine x_get C hw iwX11 10 rfl 0 rfl 14 (by decide) kw1207 rfl dX11_snap_71 ?_
          refine lv_bipush (v := 64) C.1 C.2.1 dX11_snap_74 (by decide) ?_
          refine lv_iload_n C.1 C.2.1 dX11_snap_76 rfl (lv_at hl 0 rfl) ?_
          refine lv_iadd C.1 C.2.1 dX11_snap_77 (x_genP (fun z : Int32 => z.toInt = 64 + j476.toInt) (i_add (X := 64) (Y := j476.toInt) rfl rfl (by omega) (by omega)) (fun v493 hv493 => ?_))
          refine x_iald (v := (qm_now_c v493.toNatClampNeg)) C hw 1 rfl (i_in (by omega) (by omega)) rfl dX11_snap_78 (x_gen (fun v494 => ?_))
          obtain ⟨g495, eg495⟩ : ∃ z, upd j477 (v492.toNatClampNeg) v494 = z := ⟨_, rfl⟩
          refine x_iast (f' := g495) (w' := [(qm, .inr (10, [.int qm_thrown, .ref qm_tape, .int qm_taped, .int qm_size, .int qm_limit, .int qm_to, .int qm_from, .int qm_kind, .int qm_number, .int qm_sign, .int qm_fault, .int qm_place, .long qm_word, .int qm_told, .ref qm_now, .ref qm_read, .ref qm_kept, .ref qm_snaps, .ref qm_aside, .ref qm_name, .ref qm_readName, .ref qm_keptName, .ref qm_isKept, .ref qm_onces, .int j182, .ref qm_order, .ref qm_ordered, .int qm_orderMany, .int qm_orderMost, .int qm_passing, .int qm_movedWho, .int qm_scratched, .ref qm_text, .int qm_texts, .int qm_seed, .ref qm_line, .ref qm_written, .int qm_lineMany, .int qm_hasWritten, .ref qm_node, .int qm_nodes, .int qm_onesMany, .int qm_within, .int qm_top])), (qm_now, eI G 339 qm_now_c), (qm_snaps, eI G 264 g495)]) C hw 2 rfl (i_in (by omega) (by omega)) eg495 rfl dX11_snap_79 (fun H locs hw => ?_)
          obtain ⟨v496, ev496⟩ : ∃ z : Int32, j476 + 1 = z := ⟨_, rfl⟩
          have hv496 : v496.toInt = j476.toInt + 1 := by rw [← ev496]; exact i_add rfl rfl (by omega) (by omega)
          refine lv_iinc (v := v496) (lv' := [(1, .int v496), (0, .ref qm)]) C.1 C.2.1 dX11_snap_80 hl (k := 0) rfl ev496 (by decide) rfl (fun ls hl => ?_)
          refine lv_goto (tgt := 51) C.1 C.2.1 dX11_snap_83 (by decide) ?_
          exact ihJ478 v496 g495 (by omega) (by omega) _ _ _ hw (lv_sub hl [0, 1] rfl)
    exact loopJ478 _ 0 j183 (Nat.lt_succ_self _) (by decide) _ _ _ hw (lv_sub hl [0, 1] rfl)
  refine lv_icmp_ne (tgt := 49) C.1 C.2.1 dX11_snap_6 (by decide) (fun c1 => ?_) (fun c1 => ?_)
  · skip
    have c1 : qm_snapMany.toInt ≠ 8 := i_eqF (X := qm_snapMany.toInt) (Y := 8) rfl rfl c1
    exact J184 qm_snapMany qm_snaps_c  (by omega) _ _ _ hw (lv_sub hl [0] rfl)
  · skip
    have c1 : qm_snapMany.toInt = 8 := i_eqT (X := qm_snapMany.toInt) (Y := 8) rfl rfl c1
    refine lv_iconst (v := 0) C.1 C.2.1 dX11_snap_9 (by decide) ?_
    refine lv_istore_n (lv' := [(1, .int 0), (0, .ref qm)]) C.1 C.2.1 dX11_snap_10 rfl hl (by decide) rfl (fun ls hl => ?_)
    have loopJ665 : ∀ (n9 : Nat) (j663 : Int32) (j664 : Nat → Int32), (2147483647 - j663.toInt).toNat < n9 → (0 ≤ j663.toInt ∧ j663.toInt ≤ 231) → ∀ (H : Heap) (locs : List Loc) (ls : Array Slot), Wd G s A [(qm, .inr (10, [.int qm_thrown, .ref qm_tape, .int qm_taped, .int qm_size, .int qm_limit, .int qm_to, .int qm_from, .int qm_kind, .int qm_number, .int qm_sign, .int qm_fault, .int qm_place, .long qm_word, .int qm_told, .ref qm_now, .ref qm_read, .ref qm_kept, .ref qm_snaps, .ref qm_aside, .ref qm_name, .ref qm_readName, .ref qm_keptName, .ref qm_isKept, .ref qm_onces, .int qm_snapMany, .ref qm_order, .ref qm_ordered, .int qm_orderMany, .int qm_orderMost, .int qm_passing, .int qm_movedWho, .int qm_scratched, .ref qm_text, .int qm_texts, .int qm_seed, .ref qm_line, .ref qm_written, .int qm_lineMany, .int qm_hasWritten, .ref qm_node, .int qm_nodes, .int qm_onesMany, .int qm_within, .int qm_top])), (qm_now, eI G 339 qm_now_c), (qm_snaps, eI G 264 j664)] H locs → lv_has ls 2 [(1, .int j663), (0, .ref qm)] → W p l e (rmD 0 0 0) s m args below meth c H locs 0 0 Q (F0 m 11 ls []) := by
      intro n9
      induction n9 with
      | zero => intro j663 j664 h9; exact absurd h9 (Nat.not_lt_zero _)
      | succ n9 ihJ665 =>
        intro j663 j664 h9J665 hJ665_0 H locs ls hw hl
        have hbj663 := i_bd j663
        refine lv_iload_n C.1 C.2.1 dX11_snap_11 rfl (lv_at hl 0 rfl) ?_
        refine lv_sipush (v := 231) C.1 C.2.1 dX11_snap_12 (by decide) ?_
        refine lv_icmp_ge (tgt := 39) C.1 C.2.1 dX11_snap_15 (by decide) (fun c671 => ?_) (fun c671 => ?_)
        · skip
          have c671 : 231 ≤ j663.toInt := i_leT (X := 231) (Y := j663.toInt) rfl rfl c671
          refine lv_aload_n C.1 C.2.1 dX11_snap_39 rfl (lv_at hl 1 rfl) ?_
          refine lv_dup C.1 C.2.1 dX11_snap_40 rfl ?_
          refine x_get C hw iwX11 10 rfl 0 rfl 24 (by decide) kw1217 rfl dX11_snap_41 ?_
          refine lv_iconst (v := 1) C.1 C.2.1 dX11_snap_44 (by decide) ?_
          refine lv_isub C.1 C.2.1 dX11_snap_45 (x_genP (fun z : Int32 => z.toInt = qm_snapMany.toInt - 1) (i_sub (X := qm_snapMany.toInt) (Y := 1) rfl rfl (by omega) (by omega)) (fun v672 hv672 => ?_))
          refine x_put (w' := [(qm, .inr (10, [.int qm_thrown, .ref qm_tape, .int qm_taped, .int qm_size, .int qm_limit, .int qm_to, .int qm_from, .int qm_kind, .int qm_number, .int qm_sign, .int qm_fault, .int qm_place, .long qm_word, .int qm_told, .ref qm_now, .ref qm_read, .ref qm_kept, .ref qm_snaps, .ref qm_aside, .ref qm_name, .ref qm_readName, .ref qm_keptName, .ref qm_isKept, .ref qm_onces, .int v672, .ref qm_order, .ref qm_ordered, .int qm_orderMany, .int qm_orderMost, .int qm_passing, .int qm_movedWho, .int qm_scratched, .ref qm_text, .int qm_texts, .int qm_seed, .ref qm_line, .ref qm_written, .int qm_lineMany, .int qm_hasWritten, .ref qm_node, .int qm_nodes, .int qm_onesMany, .int qm_within, .int qm_top])), (qm_now, eI G 339 qm_now_c), (qm_snaps, eI G 264 j664)]) C hw iwX11 tyX11_ok nmX11 10 rfl 0 rfl 24 (by decide) kw1217 rfl rfl rfl (Nat.le_of_ble_eq_true rfl) rfl dX11_snap_46 (fun H locs hw => ?_)
          exact J184 v672 j664  (by omega) _ _ _ hw (lv_sub hl [1] rfl)
        · skip
          have c671 : j663.toInt < 231 := i_leF (X := 231) (Y := j663.toInt) rfl rfl c671
          refine lv_aload_n C.1 C.2.1 dX11_snap_18 rfl (lv_at hl 1 rfl) ?_
          refine x_get C hw iwX11 10 rfl 0 rfl 17 (by decide) kw1210 rfl dX11_snap_19 ?_
          refine lv_iload_n C.1 C.2.1 dX11_snap_22 rfl (lv_at hl 0 rfl) ?_
          refine lv_aload_n C.1 C.2.1 dX11_snap_23 rfl (lv_at hl 1 rfl) ?_
          refine x_get C hw iwX11 10 rfl 0 rfl 17 (by decide) kw1210 rfl dX11_snap_24 ?_
          refine lv_iload_n C.1 C.2.1 dX11_snap_27 rfl (lv_at hl 0 rfl) ?_
          refine lv_bipush (v := 33) C.1 C.2.1 dX11_snap_28 (by decide) ?_
          refine lv_iadd C.1 C.2.1 dX11_snap_30 (x_genP (fun z : Int32 => z.toInt = j663.toInt + 33) (i_add (X := j663.toInt) (Y := 33) rfl rfl (by omega) (by omega)) (fun v673 hv673 => ?_))
          refine x_iald (v := (j664 v673.toNatClampNeg)) C hw 2 rfl (i_in (by omega) (by omega)) rfl dX11_snap_31 (x_gen (fun v674 => ?_))
          obtain ⟨g675, eg675⟩ : ∃ z, upd j664 (j663.toNatClampNeg) v674 = z := ⟨_, rfl⟩
          refine x_iast (f' := g675) (w' := [(qm, .inr (10, [.int qm_thrown, .ref qm_tape, .int qm_taped, .int qm_size, .int qm_limit, .int qm_to, .int qm_from, .int qm_kind, .int qm_number, .int qm_sign, .int qm_fault, .int qm_place, .long qm_word, .int qm_told, .ref qm_now, .ref qm_read, .ref qm_kept, .ref qm_snaps, .ref qm_aside, .ref qm_name, .ref qm_readName, .ref qm_keptName, .ref qm_isKept, .ref qm_onces, .int qm_snapMany, .ref qm_order, .ref qm_ordered, .int qm_orderMany, .int qm_orderMost, .int qm_passing, .int qm_movedWho, .int qm_scratched, .ref qm_text, .int qm_texts, .int qm_seed, .ref qm_line, .ref qm_written, .int qm_lineMany, .int qm_hasWritten, .ref qm_node, .int qm_nodes, .int qm_onesMany, .int qm_within, .int qm_top])), (qm_now, eI G 339 qm_now_c), (qm_snaps, eI G 264 g675)]) C hw 2 rfl (i_in (by omega) (by omega)) eg675 rfl dX11_snap_32 (fun H locs hw => ?_)
          obtain ⟨v676, ev676⟩ : ∃ z : Int32, j663 + 1 = z := ⟨_, rfl⟩
          have hv676 : v676.toInt = j663.toInt + 1 := by rw [← ev676]; exact i_add rfl rfl (by omega) (by omega)
          refine lv_iinc (v := v676) (lv' := [(1, .int v676), (0, .ref qm)]) C.1 C.2.1 dX11_snap_33 hl (k := 0) rfl ev676 (by decide) rfl (fun ls hl => ?_)
          refine lv_goto (tgt := 11) C.1 C.2.1 dX11_snap_36 (by decide) ?_
          exact ihJ665 v676 g675 (by omega) (by omega) _ _ _ hw (lv_sub hl [0, 1] rfl)
    exact loopJ665 _ 0 qm_snaps_c (Nat.lt_succ_self _) (by decide) _ _ _ hw (lv_sub hl [0, 1] rfl)
theorem dX11_waits_0 : decode cX11_waits 0 = .ok (.aload_n 0, 1) := by decide +kernel
theorem dX11_waits_1 : decode cX11_waits 1 = .ok (.getfield 98, 3) := by decide +kernel
theorem dX11_waits_4 : decode cX11_waits 4 = .ok (.bipush 18, 2) := by decide +kernel
theorem dX11_waits_6 : decode cX11_waits 6 = .ok (.iload_n 1, 1) := by decide +kernel
theorem dX11_waits_7 : decode cX11_waits 7 = .ok (.iadd, 1) := by decide +kernel
theorem dX11_waits_8 : decode cX11_waits 8 = .ok (.iaload, 1) := by decide +kernel
theorem dX11_waits_9 : decode cX11_waits 9 = .ok (.iconst (-1), 1) := by decide +kernel
theorem dX11_waits_10 : decode cX11_waits 10 = .ok (.if_icmp .eq 23, 3) := by decide +kernel
theorem dX11_waits_33 : decode cX11_waits 33 = .ok (.iconst 0, 1) := by decide +kernel
theorem dX11_waits_34 : decode cX11_waits 34 = .ok (.ireturn, 1) := by decide +kernel
theorem dX11_waits_13 : decode cX11_waits 13 = .ok (.aload_n 0, 1) := by decide +kernel
theorem dX11_waits_14 : decode cX11_waits 14 = .ok (.aload_n 0, 1) := by decide +kernel
theorem dX11_waits_15 : decode cX11_waits 15 = .ok (.getfield 98, 3) := by decide +kernel
theorem dX11_waits_18 : decode cX11_waits 18 = .ok (.bipush 18, 2) := by decide +kernel
theorem dX11_waits_20 : decode cX11_waits 20 = .ok (.iload_n 1, 1) := by decide +kernel
theorem dX11_waits_21 : decode cX11_waits 21 = .ok (.iadd, 1) := by decide +kernel
theorem dX11_waits_22 : decode cX11_waits 22 = .ok (.iaload, 1) := by decide +kernel
theorem dX11_waits_23 : decode cX11_waits 23 = .ok (.invokevirtual 246, 3) := by decide +kernel
theorem dX11_waits_26 : decode cX11_waits 26 = .ok (.ifCond .ne 7, 3) := by decide +kernel
theorem dX11_waits_29 : decode cX11_waits 29 = .ok (.iconst 1, 1) := by decide +kernel
theorem dX11_waits_30 : decode cX11_waits 30 = .ok (.goto 4, 3) := by decide +kernel
set_option maxHeartbeats 4000000 in
set_option maxRecDepth 100000 in
theorem s_X11_waits {l : Launch} {G : Gc} (qm : Nat) (a1 : Int32) (qm_thrown : Int32) (qm_tape : Nat) (qm_taped : Int32) (qm_size : Int32) (qm_limit : Int32) (qm_to : Int32) (qm_from : Int32) (qm_kind : Int32) (qm_number : Int32) (qm_sign : Int32) (qm_fault : Int32) (qm_place : Int32) (qm_word : Int64) (qm_told : Int32) (qm_now : Nat) (qm_read : Nat) (qm_kept : Nat) (qm_snaps : Nat) (qm_aside : Nat) (qm_name : Nat) (qm_readName : Nat) (qm_keptName : Nat) (qm_isKept : Nat) (qm_onces : Nat) (qm_snapMany : Int32) (qm_order : Nat) (qm_ordered : Nat) (qm_orderMany : Int32) (qm_orderMost : Int32) (qm_passing : Int32) (qm_movedWho : Int32) (qm_scratched : Int32) (qm_text : Nat) (qm_texts : Int32) (qm_seed : Int32) (qm_line : Nat) (qm_written : Nat) (qm_lineMany : Int32) (qm_hasWritten : Int32) (qm_node : Nat) (qm_nodes : Int32) (qm_onesMany : Int32) (qm_within : Int32) (qm_top : Int32) (qm_now_c : Nat → Int32) (hi_a1 : (-1) ≤ a1.toInt ∧ a1.toInt ≤ 24) (hf_qm_now_c : slI qm_now_c) (hf1_qm_now_c : trI qm_now_c) : Ci l yX11_waits cX11_waits 2 (some .boolean) 2 0 0 G [.ref qm, .int a1] [(qm, .inr (10, [.int qm_thrown, .ref qm_tape, .int qm_taped, .int qm_size, .int qm_limit, .int qm_to, .int qm_from, .int qm_kind, .int qm_number, .int qm_sign, .int qm_fault, .int qm_place, .long qm_word, .int qm_told, .ref qm_now, .ref qm_read, .ref qm_kept, .ref qm_snaps, .ref qm_aside, .ref qm_name, .ref qm_readName, .ref qm_keptName, .ref qm_isKept, .ref qm_onces, .int qm_snapMany, .ref qm_order, .ref qm_ordered, .int qm_orderMany, .int qm_orderMost, .int qm_passing, .int qm_movedWho, .int qm_scratched, .ref qm_text, .int qm_texts, .int qm_seed, .ref qm_line, .ref qm_written, .int qm_lineMany, .int qm_hasWritten, .ref qm_node, .int qm_nodes, .int qm_onesMany, .int qm_within, .int qm_top])), (qm_now, eI G 339 qm_now_c)] (fun (r9 : Int32) (u9 : va_W) => (r9 = 0 ∧ u9 = [(qm, .inr (10, [.int qm_thrown, .ref qm_tape, .int qm_taped, .int qm_size, .int qm_limit, .int qm_to, .int qm_from, .int qm_kind, .int qm_number, .int qm_sign, .int qm_fault, .int qm_place, .long qm_word, .int qm_told, .ref qm_now, .ref qm_read, .ref qm_kept, .ref qm_snaps, .ref qm_aside, .ref qm_name, .ref qm_readName, .ref qm_keptName, .ref qm_isKept, .ref qm_onces, .int qm_snapMany, .ref qm_order, .ref qm_ordered, .int qm_orderMany, .int qm_orderMost, .int qm_passing, .int qm_movedWho, .int qm_scratched, .ref qm_text, .int qm_texts, .int qm_seed, .ref qm_line, .ref qm_written, .int qm_lineMany, .int qm_hasWritten, .ref qm_node, .int qm_nodes, .int qm_onesMany, .int qm_within, .int qm_top])), (qm_now, eI G 339 qm_now_c)]) ∨ (r9 = 1 ∧ u9 = [(qm, .inr (10, [.int qm_thrown, .ref qm_tape, .int qm_taped, .int qm_size, .int qm_limit, .int qm_to, .int qm_from, .int qm_kind, .int qm_number, .int qm_sign, .int qm_fault, .int qm_place, .long qm_word, .int qm_told, .ref qm_now, .ref qm_read, .ref qm_kept, .ref qm_snaps, .ref qm_aside, .ref qm_name, .ref qm_readName, .ref qm_keptName, .ref qm_isKept, .ref qm_onces, .int qm_snapMany, .ref qm_order, .ref qm_ordered, .int qm_orderMany, .int qm_orderMost, .int qm_passing, .int qm_movedWho, .int qm_scratched, .ref qm_text, .int qm_texts, .int qm_seed, .ref qm_line, .ref qm_written, .int qm_lineMany, .int qm_hasWritten, .ref qm_node, .int qm_nodes, .int qm_onesMany, .int qm_within, .int qm_top])), (qm_now, eI G 339 qm_now_c)])) := by
  refine Ci.ofQ (by decide) (Nat.le_of_ble_eq_true rfl) ?_
  intro p e s m below meth c ls A args Q hQ B hw hl
  have C : CallFix p m c cX11_waits 2 s args gw "LanternStateModel" := B.1
  have hl : lv_has ls 2 [(0, .ref qm), (1, .int a1)] := hl
  refine lv_aload_n C.1 C.2.1 dX11_waits_0 rfl (lv_at hl 0 rfl) ?_
  refine x_get C hw iwX11 10 rfl 0 rfl 14 (by decide) kw1207 rfl dX11_waits_1 ?_
  refine lv_bipush (v := 18) C.1 C.2.1 dX11_waits_4 (by decide) ?_
  refine lv_iload_n C.1 C.2.1 dX11_waits_6 rfl (lv_at hl 1 rfl) ?_
  refine lv_iadd C.1 C.2.1 dX11_waits_7 (x_genP (fun z : Int32 => z.toInt = 18 + a1.toInt) (i_add (X := 18) (Y := a1.toInt) rfl rfl (by omega) (by omega)) (fun v1 hv1 => ?_))
  have mm2 := hf_qm_now_c v1.toNatClampNeg
  have mm3 := i_cn v1
  refine x_iald (v := (qm_now_c v1.toNatClampNeg)) C hw 1 rfl (i_in (by omega) (by omega)) rfl dX11_waits_8 (x_genP (fun z : Int32 => z.toInt = (qm_now_c v1.toNatClampNeg).toInt) rfl (fun v4 hv4 => ?_))
  refine lv_iconst (v := (-1)) C.1 C.2.1 dX11_waits_9 (by decide) ?_
  refine lv_icmp_eq (tgt := 33) C.1 C.2.1 dX11_waits_10 (by decide) (fun c5 => ?_) (fun c5 => ?_)
  · skip
    have c5 : v4.toInt = (-1) := i_eqT (X := v4.toInt) (Y := (-1)) rfl rfl c5
    have bc5_v4 := i_bd v4
    refine lv_iconst (v := 0) C.1 C.2.1 dX11_waits_33 (by decide) ?_
    exact x_retzQ hQ B hw rfl (Or.inl ⟨rfl, rfl⟩) (Nat.le_of_ble_eq_true rfl) (Nat.le_of_ble_eq_true rfl) dX11_waits_34
  · skip
    have c5 : v4.toInt ≠ (-1) := i_eqF (X := v4.toInt) (Y := (-1)) rfl rfl c5
    have bc5_v4 := i_bd v4
    refine lv_aload_n C.1 C.2.1 dX11_waits_13 rfl (lv_at hl 0 rfl) ?_
    refine lv_aload_n C.1 C.2.1 dX11_waits_14 rfl (lv_at hl 0 rfl) ?_
    refine x_get C hw iwX11 10 rfl 0 rfl 14 (by decide) kw1207 rfl dX11_waits_15 ?_
    refine lv_bipush (v := 18) C.1 C.2.1 dX11_waits_18 (by decide) ?_
    refine lv_iload_n C.1 C.2.1 dX11_waits_20 rfl (lv_at hl 1 rfl) ?_
    refine lv_iadd C.1 C.2.1 dX11_waits_21 (x_genP (fun z : Int32 => z.toInt = 18 + a1.toInt) (i_add (X := 18) (Y := a1.toInt) rfl rfl (by omega) (by omega)) (fun v6 hv6 => ?_))
    have mm7 := hf_qm_now_c v6.toNatClampNeg
    have mm8 := i_cn v6
    refine x_iald (v := (qm_now_c v6.toNatClampNeg)) C hw 1 rfl (i_in (by omega) (by omega)) rfl dX11_waits_22 (x_genP (fun z : Int32 => z.toInt = (qm_now_c v6.toNatClampNeg).toInt) rfl (fun v9 hv9 => ?_))
    refine x_calliV (As := [.int v9]) (rest := []) (wr := []) C hw (s_X11_isSo qm v9 qm_thrown qm_tape qm_taped qm_size qm_limit qm_to qm_from qm_kind qm_number qm_sign qm_fault qm_place qm_word qm_told qm_now qm_read qm_kept qm_snaps qm_aside qm_name qm_readName qm_keptName qm_isKept qm_onces qm_snapMany qm_order qm_ordered qm_orderMany qm_orderMost qm_passing qm_movedWho qm_scratched qm_text qm_texts qm_seed qm_line qm_written qm_lineMany qm_hasWritten qm_node qm_nodes qm_onesMany qm_within qm_top qm_now_c hf_qm_now_c hf1_qm_now_c) mwX11_isSo kw1476 [0, 1] [] rfl rfl rfl rfl (by decide) 0 rfl rfl rfl rfl hl.1 rfl (Nat.le_of_ble_eq_true rfl) ⟨(Nat.le_of_ble_eq_true rfl), (Nat.le_of_ble_eq_true rfl)⟩ ⟨(Nat.le_of_ble_eq_true rfl), (Nat.le_of_ble_eq_true rfl)⟩ dX11_waits_23 (fun r10 u9 H locs hp9 hw => ?_)
    rcases hp9 with ⟨rfl, rfl⟩ | ⟨rfl, rfl⟩
    · skip
      have hw : Wd G s A [(qm, .inr (10, [.int qm_thrown, .ref qm_tape, .int qm_taped, .int qm_size, .int qm_limit, .int qm_to, .int qm_from, .int qm_kind, .int qm_number, .int qm_sign, .int qm_fault, .int qm_place, .long qm_word, .int qm_told, .ref qm_now, .ref qm_read, .ref qm_kept, .ref qm_snaps, .ref qm_aside, .ref qm_name, .ref qm_readName, .ref qm_keptName, .ref qm_isKept, .ref qm_onces, .int qm_snapMany, .ref qm_order, .ref qm_ordered, .int qm_orderMany, .int qm_orderMost, .int qm_passing, .int qm_movedWho, .int qm_scratched, .ref qm_text, .int qm_texts, .int qm_seed, .ref qm_line, .ref qm_written, .int qm_lineMany, .int qm_hasWritten, .ref qm_node, .int qm_nodes, .int qm_onesMany, .int qm_within, .int qm_top])), (qm_now, eI G 339 qm_now_c)] H _ := hw
      refine lv_if_ne (tgt := 33) C.1 C.2.1 dX11_waits_26 (by decide) (fun h9 => absurd (by decide) h9) (fun _ => ?_)
      refine lv_iconst (v := 1) C.1 C.2.1 dX11_waits_29 (by decide) ?_
      refine lv_goto (tgt := 34) C.1 C.2.1 dX11_waits_30 (by decide) ?_
      exact x_retzQ hQ B hw rfl (Or.inr ⟨rfl, rfl⟩) (Nat.le_of_ble_eq_true rfl) (Nat.le_of_ble_eq_true rfl) dX11_waits_34
    · skip
      have hw : Wd G s A [(qm, .inr (10, [.int qm_thrown, .ref qm_tape, .int qm_taped, .int qm_size, .int qm_limit, .int qm_to, .int qm_from, .int qm_kind, .int qm_number, .int qm_sign, .int qm_fault, .int qm_place, .long qm_word, .int qm_told, .ref qm_now, .ref qm_read, .ref qm_kept, .ref qm_snaps, .ref qm_aside, .ref qm_name, .ref qm_readName, .ref qm_keptName, .ref qm_isKept, .ref qm_onces, .int qm_snapMany, .ref qm_order, .ref qm_ordered, .int qm_orderMany, .int qm_orderMost, .int qm_passing, .int qm_movedWho, .int qm_scratched, .ref qm_text, .int qm_texts, .int qm_seed, .ref qm_line, .ref qm_written, .int qm_lineMany, .int qm_hasWritten, .ref qm_node, .int qm_nodes, .int qm_onesMany, .int qm_within, .int qm_top])), (qm_now, eI G 339 qm_now_c)] H _ := hw
      refine lv_if_ne (tgt := 33) C.1 C.2.1 dX11_waits_26 (by decide) (fun _ => ?_) (fun h9 => absurd h9 (by decide))
      refine lv_iconst (v := 0) C.1 C.2.1 dX11_waits_33 (by decide) ?_
      exact x_retzQ hQ B hw rfl (Or.inl ⟨rfl, rfl⟩) (Nat.le_of_ble_eq_true rfl) (Nat.le_of_ble_eq_true rfl) dX11_waits_34
theorem dX11_why_0 : decode cX11_why 0 = .ok (.iload_n 1, 1) := by decide +kernel
theorem dX11_why_1 : decode cX11_why 1 = .ok (.tableswitch 144 0 2 #[27, 68, 130], 27) := by decide +kernel
theorem dX11_why_28 : decode cX11_why 28 = .ok (.aload_n 0, 1) := by decide +kernel
theorem dX11_why_29 : decode cX11_why 29 = .ok (.iload_n 2, 1) := by decide +kernel
theorem dX11_why_30 : decode cX11_why 30 = .ok (.invokevirtual 249, 3) := by decide +kernel
theorem dX11_why_33 : decode cX11_why 33 = .ok (.ifCond .eq 7, 3) := by decide +kernel
theorem dX11_why_40 : decode cX11_why 40 = .ok (.aload_n 0, 1) := by decide +kernel
theorem dX11_why_41 : decode cX11_why 41 = .ok (.iload_n 2, 1) := by decide +kernel
theorem dX11_why_42 : decode cX11_why 42 = .ok (.invokevirtual 279, 3) := by decide +kernel
theorem mwX11_waits : MwV yX11_waits cX11_waits 2 (some .boolean) 1 := ⟨⟨kw1560, kw15, by decide +kernel⟩, kw1559, kS82⟩
theorem dX11_why_45 : decode cX11_why 45 = .ok (.ifCond .eq 7, 3) := by decide +kernel
theorem dX11_why_52 : decode cX11_why 52 = .ok (.aload_n 0, 1) := by decide +kernel
theorem dX11_why_53 : decode cX11_why 53 = .ok (.getfield 98, 3) := by decide +kernel
theorem dX11_why_56 : decode cX11_why 56 = .ok (.bipush 66, 2) := by decide +kernel
theorem dX11_why_58 : decode cX11_why 58 = .ok (.iaload, 1) := by decide +kernel
theorem dX11_why_59 : decode cX11_why 59 = .ok (.iconst 1, 1) := by decide +kernel
theorem dX11_why_60 : decode cX11_why 60 = .ok (.if_icmp .ne 7, 3) := by decide +kernel
theorem dX11_why_67 : decode cX11_why 67 = .ok (.iconst 0, 1) := by decide +kernel
theorem dX11_why_68 : decode cX11_why 68 = .ok (.ireturn, 1) := by decide +kernel
theorem dX11_why_63 : decode cX11_why 63 = .ok (.iconst 3, 1) := by decide +kernel
theorem dX11_why_64 : decode cX11_why 64 = .ok (.goto 4, 3) := by decide +kernel
theorem dX11_why_48 : decode cX11_why 48 = .ok (.iconst 2, 1) := by decide +kernel
theorem dX11_why_49 : decode cX11_why 49 = .ok (.goto 19, 3) := by decide +kernel
theorem dX11_why_36 : decode cX11_why 36 = .ok (.iconst 1, 1) := by decide +kernel
theorem dX11_why_37 : decode cX11_why 37 = .ok (.goto 31, 3) := by decide +kernel
theorem dX11_why_69 : decode cX11_why 69 = .ok (.iload_n 2, 1) := by decide +kernel
theorem dX11_why_70 : decode cX11_why 70 = .ok (.iload_n 3, 1) := by decide +kernel
theorem dX11_why_71 : decode cX11_why 71 = .ok (.if_icmp .eq 19, 3) := by decide +kernel
theorem dX11_why_90 : decode cX11_why 90 = .ok (.iconst 1, 1) := by decide +kernel
theorem dX11_why_91 : decode cX11_why 91 = .ok (.goto 39, 3) := by decide +kernel
theorem dX11_why_130 : decode cX11_why 130 = .ok (.ireturn, 1) := by decide +kernel
theorem dX11_why_74 : decode cX11_why 74 = .ok (.aload_n 0, 1) := by decide +kernel
theorem dX11_why_75 : decode cX11_why 75 = .ok (.iload_n 2, 1) := by decide +kernel
theorem dX11_why_76 : decode cX11_why 76 = .ok (.invokevirtual 249, 3) := by decide +kernel
theorem dX11_why_79 : decode cX11_why 79 = .ok (.ifCond .ne 11, 3) := by decide +kernel
theorem dX11_why_82 : decode cX11_why 82 = .ok (.aload_n 0, 1) := by decide +kernel
theorem dX11_why_83 : decode cX11_why 83 = .ok (.iload_n 3, 1) := by decide +kernel
theorem dX11_why_84 : decode cX11_why 84 = .ok (.invokevirtual 249, 3) := by decide +kernel
theorem dX11_why_87 : decode cX11_why 87 = .ok (.ifCond .eq 7, 3) := by decide +kernel
theorem dX11_why_94 : decode cX11_why 94 = .ok (.aload_n 0, 1) := by decide +kernel
theorem dX11_why_95 : decode cX11_why 95 = .ok (.iload_n 2, 1) := by decide +kernel
theorem dX11_why_96 : decode cX11_why 96 = .ok (.invokevirtual 279, 3) := by decide +kernel
theorem dX11_why_99 : decode cX11_why 99 = .ok (.ifCond .ne 11, 3) := by decide +kernel
theorem dX11_why_102 : decode cX11_why 102 = .ok (.aload_n 0, 1) := by decide +kernel
theorem dX11_why_103 : decode cX11_why 103 = .ok (.iload_n 3, 1) := by decide +kernel
theorem dX11_why_104 : decode cX11_why 104 = .ok (.invokevirtual 279, 3) := by decide +kernel
theorem dX11_why_107 : decode cX11_why 107 = .ok (.ifCond .eq 7, 3) := by decide +kernel
theorem dX11_why_114 : decode cX11_why 114 = .ok (.aload_n 0, 1) := by decide +kernel
theorem dX11_why_115 : decode cX11_why 115 = .ok (.getfield 98, 3) := by decide +kernel
theorem dX11_why_118 : decode cX11_why 118 = .ok (.bipush 66, 2) := by decide +kernel
theorem dX11_why_120 : decode cX11_why 120 = .ok (.iaload, 1) := by decide +kernel
theorem dX11_why_121 : decode cX11_why 121 = .ok (.iconst 1, 1) := by decide +kernel
theorem dX11_why_122 : decode cX11_why 122 = .ok (.if_icmp .ne 7, 3) := by decide +kernel
theorem dX11_why_129 : decode cX11_why 129 = .ok (.iconst 0, 1) := by decide +kernel
theorem dX11_why_125 : decode cX11_why 125 = .ok (.iconst 3, 1) := by decide +kernel
theorem dX11_why_126 : decode cX11_why 126 = .ok (.goto 4, 3) := by decide +kernel
theorem dX11_why_110 : decode cX11_why 110 = .ok (.iconst 2, 1) := by decide +kernel
theorem dX11_why_111 : decode cX11_why 111 = .ok (.goto 19, 3) := by decide +kernel
theorem dX11_why_131 : decode cX11_why 131 = .ok (.aload_n 0, 1) := by decide +kernel
theorem dX11_why_132 : decode cX11_why 132 = .ok (.iload_n 2, 1) := by decide +kernel
theorem dX11_why_133 : decode cX11_why 133 = .ok (.invokevirtual 249, 3) := by decide +kernel
theorem dX11_why_136 : decode cX11_why 136 = .ok (.ifCond .eq 7, 3) := by decide +kernel
theorem dX11_why_143 : decode cX11_why 143 = .ok (.iconst 0, 1) := by decide +kernel
theorem dX11_why_144 : decode cX11_why 144 = .ok (.ireturn, 1) := by decide +kernel
theorem dX11_why_139 : decode cX11_why 139 = .ok (.iconst 1, 1) := by decide +kernel
theorem dX11_why_140 : decode cX11_why 140 = .ok (.goto 4, 3) := by decide +kernel
theorem dX11_why_145 : decode cX11_why 145 = .ok (.aload_n 0, 1) := by decide +kernel
theorem dX11_why_146 : decode cX11_why 146 = .ok (.getfield 98, 3) := by decide +kernel
theorem dX11_why_149 : decode cX11_why 149 = .ok (.bipush 81, 2) := by decide +kernel
theorem dX11_why_151 : decode cX11_why 151 = .ok (.iload_n 2, 1) := by decide +kernel
theorem dX11_why_152 : decode cX11_why 152 = .ok (.iadd, 1) := by decide +kernel
theorem dX11_why_153 : decode cX11_why 153 = .ok (.iaload, 1) := by decide +kernel
theorem dX11_why_154 : decode cX11_why 154 = .ok (.iload_n 3, 1) := by decide +kernel
theorem dX11_why_155 : decode cX11_why 155 = .ok (.if_icmp .ne 7, 3) := by decide +kernel
theorem dX11_why_162 : decode cX11_why 162 = .ok (.iconst 0, 1) := by decide +kernel
theorem dX11_why_163 : decode cX11_why 163 = .ok (.ireturn, 1) := by decide +kernel
theorem dX11_why_158 : decode cX11_why 158 = .ok (.iconst 1, 1) := by decide +kernel
theorem dX11_why_159 : decode cX11_why 159 = .ok (.goto 4, 3) := by decide +kernel
set_option maxHeartbeats 4000000 in
set_option maxRecDepth 100000 in
theorem s_X11_why {l : Launch} {G : Gc} (qm : Nat) (a1 : Int32) (a2 : Int32) (a3 : Int32) (qm_thrown : Int32) (qm_tape : Nat) (qm_taped : Int32) (qm_size : Int32) (qm_limit : Int32) (qm_to : Int32) (qm_from : Int32) (qm_kind : Int32) (qm_number : Int32) (qm_sign : Int32) (qm_fault : Int32) (qm_place : Int32) (qm_word : Int64) (qm_told : Int32) (qm_now : Nat) (qm_read : Nat) (qm_kept : Nat) (qm_snaps : Nat) (qm_aside : Nat) (qm_name : Nat) (qm_readName : Nat) (qm_keptName : Nat) (qm_isKept : Nat) (qm_onces : Nat) (qm_snapMany : Int32) (qm_order : Nat) (qm_ordered : Nat) (qm_orderMany : Int32) (qm_orderMost : Int32) (qm_passing : Int32) (qm_movedWho : Int32) (qm_scratched : Int32) (qm_text : Nat) (qm_texts : Int32) (qm_seed : Int32) (qm_line : Nat) (qm_written : Nat) (qm_lineMany : Int32) (qm_hasWritten : Int32) (qm_node : Nat) (qm_nodes : Int32) (qm_onesMany : Int32) (qm_within : Int32) (qm_top : Int32) (qm_now_c : Nat → Int32) (hi_a2 : (-1) ≤ a2.toInt ∧ a2.toInt ≤ 7) (hi_a3 : (-1) ≤ a3.toInt ∧ a3.toInt ≤ 24) (hf_qm_now_c : slI qm_now_c) (hf1_qm_now_c : trI qm_now_c) : Ci l yX11_why cX11_why 4 (some .int) 3 0 0 G [.ref qm, .int a1, .int a2, .int a3] [(qm, .inr (10, [.int qm_thrown, .ref qm_tape, .int qm_taped, .int qm_size, .int qm_limit, .int qm_to, .int qm_from, .int qm_kind, .int qm_number, .int qm_sign, .int qm_fault, .int qm_place, .long qm_word, .int qm_told, .ref qm_now, .ref qm_read, .ref qm_kept, .ref qm_snaps, .ref qm_aside, .ref qm_name, .ref qm_readName, .ref qm_keptName, .ref qm_isKept, .ref qm_onces, .int qm_snapMany, .ref qm_order, .ref qm_ordered, .int qm_orderMany, .int qm_orderMost, .int qm_passing, .int qm_movedWho, .int qm_scratched, .ref qm_text, .int qm_texts, .int qm_seed, .ref qm_line, .ref qm_written, .int qm_lineMany, .int qm_hasWritten, .ref qm_node, .int qm_nodes, .int qm_onesMany, .int qm_within, .int qm_top])), (qm_now, eI G 339 qm_now_c)] (fun (r9 : Int32) (u9 : va_W) => ∃ (r_x : Int32), r9 = r_x ∧ u9 = [(qm, .inr (10, [.int qm_thrown, .ref qm_tape, .int qm_taped, .int qm_size, .int qm_limit, .int qm_to, .int qm_from, .int qm_kind, .int qm_number, .int qm_sign, .int qm_fault, .int qm_place, .long qm_word, .int qm_told, .ref qm_now, .ref qm_read, .ref qm_kept, .ref qm_snaps, .ref qm_aside, .ref qm_name, .ref qm_readName, .ref qm_keptName, .ref qm_isKept, .ref qm_onces, .int qm_snapMany, .ref qm_order, .ref qm_ordered, .int qm_orderMany, .int qm_orderMost, .int qm_passing, .int qm_movedWho, .int qm_scratched, .ref qm_text, .int qm_texts, .int qm_seed, .ref qm_line, .ref qm_written, .int qm_lineMany, .int qm_hasWritten, .ref qm_node, .int qm_nodes, .int qm_onesMany, .int qm_within, .int qm_top])), (qm_now, eI G 339 qm_now_c)] ∧ (0 ≤ r_x.toInt ∧ r_x.toInt ≤ 3)) := by
  refine Ci.ofQ (by decide) (Nat.le_of_ble_eq_true rfl) ?_
  intro p e s m below meth c ls A args Q hQ B hw hl
  have C : CallFix p m c cX11_why 4 s args gw "LanternStateModel" := B.1
  have hl : lv_has ls 4 [(0, .ref qm), (1, .int a1), (2, .int a2), (3, .int a3)] := hl
  refine lv_iload_n C.1 C.2.1 dX11_why_0 rfl (lv_at hl 1 rfl) ?_
  have k1 : a1.toInt = 0 ∨ a1.toInt = 1 ∨ a1.toInt = 2 ∨ (a1.toInt ≠ 0 ∧ a1.toInt ≠ 1 ∧ a1.toInt ≠ 2) := by omega
  rcases k1 with k1 | k1 | k1 | k1
  · skip
    have k1 : a1 = 0 := Int32.toInt_inj.mp (by rw [k1]; rfl)
    refine x_topi (z := 0) k1 ?_
    refine lv_tableIn (off := 27) (tgt := 28) C.1 C.2.1 dX11_why_1 (by decide) (by decide) rfl (by decide) ?_
    have ha1_ := congrArg Int32.toInt k1
    have ha1_ : a1.toInt = 0 := ha1_
    refine lv_aload_n C.1 C.2.1 dX11_why_28 rfl (lv_at hl 0 rfl) ?_
    refine lv_iload_n C.1 C.2.1 dX11_why_29 rfl (lv_at hl 2 rfl) ?_
    refine x_calliV (As := [.int a2]) (rest := []) (wr := []) C hw (s_X11_isCracked qm a2 qm_thrown qm_tape qm_taped qm_size qm_limit qm_to qm_from qm_kind qm_number qm_sign qm_fault qm_place qm_word qm_told qm_now qm_read qm_kept qm_snaps qm_aside qm_name qm_readName qm_keptName qm_isKept qm_onces qm_snapMany qm_order qm_ordered qm_orderMany qm_orderMost qm_passing qm_movedWho qm_scratched qm_text qm_texts qm_seed qm_line qm_written qm_lineMany qm_hasWritten qm_node qm_nodes qm_onesMany qm_within qm_top qm_now_c hf_qm_now_c hf1_qm_now_c) mwX11_isCracked kw1480 [0, 1] [] rfl rfl rfl rfl (by decide) 0 rfl rfl rfl rfl hl.1 rfl (Nat.le_of_ble_eq_true rfl) ⟨(Nat.le_of_ble_eq_true rfl), (Nat.le_of_ble_eq_true rfl)⟩ ⟨(Nat.le_of_ble_eq_true rfl), (Nat.le_of_ble_eq_true rfl)⟩ dX11_why_30 (fun r2 u9 H locs hp9 hw => ?_)
    rcases hp9 with ⟨rfl, rfl⟩ | ⟨rfl, rfl⟩
    · skip
      have hw : Wd G s A [(qm, .inr (10, [.int qm_thrown, .ref qm_tape, .int qm_taped, .int qm_size, .int qm_limit, .int qm_to, .int qm_from, .int qm_kind, .int qm_number, .int qm_sign, .int qm_fault, .int qm_place, .long qm_word, .int qm_told, .ref qm_now, .ref qm_read, .ref qm_kept, .ref qm_snaps, .ref qm_aside, .ref qm_name, .ref qm_readName, .ref qm_keptName, .ref qm_isKept, .ref qm_onces, .int qm_snapMany, .ref qm_order, .ref qm_ordered, .int qm_orderMany, .int qm_orderMost, .int qm_passing, .int qm_movedWho, .int qm_scratched, .ref qm_text, .int qm_texts, .int qm_seed, .ref qm_line, .ref qm_written, .int qm_lineMany, .int qm_hasWritten, .ref qm_node, .int qm_nodes, .int qm_onesMany, .int qm_within, .int qm_top])), (qm_now, eI G 339 qm_now_c)] H _ := hw
      refine lv_if_eq (tgt := 40) C.1 C.2.1 dX11_why_33 (by decide) (fun _ => ?_) (fun h9 => absurd (by decide) h9)
      refine lv_aload_n C.1 C.2.1 dX11_why_40 rfl (lv_at hl 0 rfl) ?_
      refine lv_iload_n C.1 C.2.1 dX11_why_41 rfl (lv_at hl 2 rfl) ?_
      refine x_calliV (As := [.int a2]) (rest := []) (wr := []) C hw (s_X11_waits qm a2 qm_thrown qm_tape qm_taped qm_size qm_limit qm_to qm_from qm_kind qm_number qm_sign qm_fault qm_place qm_word qm_told qm_now qm_read qm_kept qm_snaps qm_aside qm_name qm_readName qm_keptName qm_isKept qm_onces qm_snapMany qm_order qm_ordered qm_orderMany qm_orderMost qm_passing qm_movedWho qm_scratched qm_text qm_texts qm_seed qm_line qm_written qm_lineMany qm_hasWritten qm_node qm_nodes qm_onesMany qm_within qm_top qm_now_c (by omega) hf_qm_now_c hf1_qm_now_c) mwX11_waits kw1557 [0, 1] [] rfl rfl rfl rfl (by decide) 0 rfl rfl rfl rfl hl.1 rfl (Nat.le_of_ble_eq_true rfl) ⟨(Nat.le_of_ble_eq_true rfl), (Nat.le_of_ble_eq_true rfl)⟩ ⟨(Nat.le_of_ble_eq_true rfl), (Nat.le_of_ble_eq_true rfl)⟩ dX11_why_42 (fun r3 u9 H locs hp9 hw => ?_)
      rcases hp9 with ⟨rfl, rfl⟩ | ⟨rfl, rfl⟩
      · skip
        have hw : Wd G s A [(qm, .inr (10, [.int qm_thrown, .ref qm_tape, .int qm_taped, .int qm_size, .int qm_limit, .int qm_to, .int qm_from, .int qm_kind, .int qm_number, .int qm_sign, .int qm_fault, .int qm_place, .long qm_word, .int qm_told, .ref qm_now, .ref qm_read, .ref qm_kept, .ref qm_snaps, .ref qm_aside, .ref qm_name, .ref qm_readName, .ref qm_keptName, .ref qm_isKept, .ref qm_onces, .int qm_snapMany, .ref qm_order, .ref qm_ordered, .int qm_orderMany, .int qm_orderMost, .int qm_passing, .int qm_movedWho, .int qm_scratched, .ref qm_text, .int qm_texts, .int qm_seed, .ref qm_line, .ref qm_written, .int qm_lineMany, .int qm_hasWritten, .ref qm_node, .int qm_nodes, .int qm_onesMany, .int qm_within, .int qm_top])), (qm_now, eI G 339 qm_now_c)] H _ := hw
        refine lv_if_eq (tgt := 52) C.1 C.2.1 dX11_why_45 (by decide) (fun _ => ?_) (fun h9 => absurd (by decide) h9)
        refine lv_aload_n C.1 C.2.1 dX11_why_52 rfl (lv_at hl 0 rfl) ?_
        refine x_get C hw iwX11 10 rfl 0 rfl 14 (by decide) kw1207 rfl dX11_why_53 ?_
        refine lv_bipush (v := 66) C.1 C.2.1 dX11_why_56 (by decide) ?_
        refine x_iald (v := (qm_now_c 66)) C hw 1 rfl (x_in rfl) rfl dX11_why_58 (x_gen (fun v4 => ?_))
        refine lv_iconst (v := 1) C.1 C.2.1 dX11_why_59 (by decide) ?_
        refine lv_icmp_ne (tgt := 67) C.1 C.2.1 dX11_why_60 (by decide) (fun c5 => ?_) (fun c5 => ?_)
        · skip
          have c5 : v4.toInt ≠ 1 := i_eqF (X := v4.toInt) (Y := 1) rfl rfl c5
          have bc5_v4 := i_bd v4
          refine lv_iconst (v := 0) C.1 C.2.1 dX11_why_67 (by decide) ?_
          exact x_retiQ hQ B hw ⟨0, rfl, rfl, (by decide)⟩ (Nat.le_of_ble_eq_true rfl) (Nat.le_of_ble_eq_true rfl) dX11_why_68
        · skip
          have c5 : v4.toInt = 1 := i_eqT (X := v4.toInt) (Y := 1) rfl rfl c5
          have bc5_v4 := i_bd v4
          refine lv_iconst (v := 3) C.1 C.2.1 dX11_why_63 (by decide) ?_
          refine lv_goto (tgt := 68) C.1 C.2.1 dX11_why_64 (by decide) ?_
          exact x_retiQ hQ B hw ⟨3, rfl, rfl, (by decide)⟩ (Nat.le_of_ble_eq_true rfl) (Nat.le_of_ble_eq_true rfl) dX11_why_68
      · skip
        have hw : Wd G s A [(qm, .inr (10, [.int qm_thrown, .ref qm_tape, .int qm_taped, .int qm_size, .int qm_limit, .int qm_to, .int qm_from, .int qm_kind, .int qm_number, .int qm_sign, .int qm_fault, .int qm_place, .long qm_word, .int qm_told, .ref qm_now, .ref qm_read, .ref qm_kept, .ref qm_snaps, .ref qm_aside, .ref qm_name, .ref qm_readName, .ref qm_keptName, .ref qm_isKept, .ref qm_onces, .int qm_snapMany, .ref qm_order, .ref qm_ordered, .int qm_orderMany, .int qm_orderMost, .int qm_passing, .int qm_movedWho, .int qm_scratched, .ref qm_text, .int qm_texts, .int qm_seed, .ref qm_line, .ref qm_written, .int qm_lineMany, .int qm_hasWritten, .ref qm_node, .int qm_nodes, .int qm_onesMany, .int qm_within, .int qm_top])), (qm_now, eI G 339 qm_now_c)] H _ := hw
        refine lv_if_eq (tgt := 52) C.1 C.2.1 dX11_why_45 (by decide) (fun h9 => absurd h9 (by decide)) (fun _ => ?_)
        refine lv_iconst (v := 2) C.1 C.2.1 dX11_why_48 (by decide) ?_
        refine lv_goto (tgt := 68) C.1 C.2.1 dX11_why_49 (by decide) ?_
        exact x_retiQ hQ B hw ⟨2, rfl, rfl, (by decide)⟩ (Nat.le_of_ble_eq_true rfl) (Nat.le_of_ble_eq_true rfl) dX11_why_68
    · skip
      have hw : Wd G s A [(qm, .inr (10, [.int qm_thrown, .ref qm_tape, .int qm_taped, .int qm_size, .int qm_limit, .int qm_to, .int qm_from, .int qm_kind, .int qm_number, .int qm_sign, .int qm_fault, .int qm_place, .long qm_word, .int qm_told, .ref qm_now, .ref qm_read, .ref qm_kept, .ref qm_snaps, .ref qm_aside, .ref qm_name, .ref qm_readName, .ref qm_keptName, .ref qm_isKept, .ref qm_onces, .int qm_snapMany, .ref qm_order, .ref qm_ordered, .int qm_orderMany, .int qm_orderMost, .int qm_passing, .int qm_movedWho, .int qm_scratched, .ref qm_text, .int qm_texts, .int qm_seed, .ref qm_line, .ref qm_written, .int qm_lineMany, .int qm_hasWritten, .ref qm_node, .int qm_nodes, .int qm_onesMany, .int qm_within, .int qm_top])), (qm_now, eI G 339 qm_now_c)] H _ := hw
      refine lv_if_eq (tgt := 40) C.1 C.2.1 dX11_why_33 (by decide) (fun h9 => absurd h9 (by decide)) (fun _ => ?_)
      refine lv_iconst (v := 1) C.1 C.2.1 dX11_why_36 (by decide) ?_
      refine lv_goto (tgt := 68) C.1 C.2.1 dX11_why_37 (by decide) ?_
      exact x_retiQ hQ B hw ⟨1, rfl, rfl, (by decide)⟩ (Nat.le_of_ble_eq_true rfl) (Nat.le_of_ble_eq_true rfl) dX11_why_68
  · skip
    have k1 : a1 = 1 := Int32.toInt_inj.mp (by rw [k1]; rfl)
    refine x_topi (z := 1) k1 ?_
    refine lv_tableIn (off := 68) (tgt := 69) C.1 C.2.1 dX11_why_1 (by decide) (by decide) rfl (by decide) ?_
    have ha1_ := congrArg Int32.toInt k1
    have ha1_ : a1.toInt = 1 := ha1_
    refine lv_iload_n C.1 C.2.1 dX11_why_69 rfl (lv_at hl 2 rfl) ?_
    refine lv_iload_n C.1 C.2.1 dX11_why_70 rfl (lv_at hl 3 rfl) ?_
    refine lv_icmp_eq (tgt := 90) C.1 C.2.1 dX11_why_71 (by decide) (fun c6 => ?_) (fun c6 => ?_)
    · skip
      have c6 : a2.toInt = a3.toInt := i_eqT (X := a2.toInt) (Y := a3.toInt) rfl rfl c6
      refine lv_iconst (v := 1) C.1 C.2.1 dX11_why_90 (by decide) ?_
      refine lv_goto (tgt := 130) C.1 C.2.1 dX11_why_91 (by decide) ?_
      exact x_retiQ hQ B hw ⟨1, rfl, rfl, (by decide)⟩ (Nat.le_of_ble_eq_true rfl) (Nat.le_of_ble_eq_true rfl) dX11_why_130
    · skip
      have c6 : a2.toInt ≠ a3.toInt := i_eqF (X := a2.toInt) (Y := a3.toInt) rfl rfl c6
      refine lv_aload_n C.1 C.2.1 dX11_why_74 rfl (lv_at hl 0 rfl) ?_
      refine lv_iload_n C.1 C.2.1 dX11_why_75 rfl (lv_at hl 2 rfl) ?_
      refine x_calliV (As := [.int a2]) (rest := []) (wr := []) C hw (s_X11_isCracked qm a2 qm_thrown qm_tape qm_taped qm_size qm_limit qm_to qm_from qm_kind qm_number qm_sign qm_fault qm_place qm_word qm_told qm_now qm_read qm_kept qm_snaps qm_aside qm_name qm_readName qm_keptName qm_isKept qm_onces qm_snapMany qm_order qm_ordered qm_orderMany qm_orderMost qm_passing qm_movedWho qm_scratched qm_text qm_texts qm_seed qm_line qm_written qm_lineMany qm_hasWritten qm_node qm_nodes qm_onesMany qm_within qm_top qm_now_c hf_qm_now_c hf1_qm_now_c) mwX11_isCracked kw1480 [0, 1] [] rfl rfl rfl rfl (by decide) 0 rfl rfl rfl rfl hl.1 rfl (Nat.le_of_ble_eq_true rfl) ⟨(Nat.le_of_ble_eq_true rfl), (Nat.le_of_ble_eq_true rfl)⟩ ⟨(Nat.le_of_ble_eq_true rfl), (Nat.le_of_ble_eq_true rfl)⟩ dX11_why_76 (fun r7 u9 H locs hp9 hw => ?_)
      rcases hp9 with ⟨rfl, rfl⟩ | ⟨rfl, rfl⟩
      · skip
        have hw : Wd G s A [(qm, .inr (10, [.int qm_thrown, .ref qm_tape, .int qm_taped, .int qm_size, .int qm_limit, .int qm_to, .int qm_from, .int qm_kind, .int qm_number, .int qm_sign, .int qm_fault, .int qm_place, .long qm_word, .int qm_told, .ref qm_now, .ref qm_read, .ref qm_kept, .ref qm_snaps, .ref qm_aside, .ref qm_name, .ref qm_readName, .ref qm_keptName, .ref qm_isKept, .ref qm_onces, .int qm_snapMany, .ref qm_order, .ref qm_ordered, .int qm_orderMany, .int qm_orderMost, .int qm_passing, .int qm_movedWho, .int qm_scratched, .ref qm_text, .int qm_texts, .int qm_seed, .ref qm_line, .ref qm_written, .int qm_lineMany, .int qm_hasWritten, .ref qm_node, .int qm_nodes, .int qm_onesMany, .int qm_within, .int qm_top])), (qm_now, eI G 339 qm_now_c)] H _ := hw
        refine lv_if_ne (tgt := 90) C.1 C.2.1 dX11_why_79 (by decide) (fun h9 => absurd (by decide) h9) (fun _ => ?_)
        refine lv_aload_n C.1 C.2.1 dX11_why_82 rfl (lv_at hl 0 rfl) ?_
        refine lv_iload_n C.1 C.2.1 dX11_why_83 rfl (lv_at hl 3 rfl) ?_
        refine x_calliV (As := [.int a3]) (rest := []) (wr := []) C hw (s_X11_isCracked qm a3 qm_thrown qm_tape qm_taped qm_size qm_limit qm_to qm_from qm_kind qm_number qm_sign qm_fault qm_place qm_word qm_told qm_now qm_read qm_kept qm_snaps qm_aside qm_name qm_readName qm_keptName qm_isKept qm_onces qm_snapMany qm_order qm_ordered qm_orderMany qm_orderMost qm_passing qm_movedWho qm_scratched qm_text qm_texts qm_seed qm_line qm_written qm_lineMany qm_hasWritten qm_node qm_nodes qm_onesMany qm_within qm_top qm_now_c hf_qm_now_c hf1_qm_now_c) mwX11_isCracked kw1480 [0, 1] [] rfl rfl rfl rfl (by decide) 0 rfl rfl rfl rfl hl.1 rfl (Nat.le_of_ble_eq_true rfl) ⟨(Nat.le_of_ble_eq_true rfl), (Nat.le_of_ble_eq_true rfl)⟩ ⟨(Nat.le_of_ble_eq_true rfl), (Nat.le_of_ble_eq_true rfl)⟩ dX11_why_84 (fun r8 u9 H locs hp9 hw => ?_)
        rcases hp9 with ⟨rfl, rfl⟩ | ⟨rfl, rfl⟩
        · skip
          have hw : Wd G s A [(qm, .inr (10, [.int qm_thrown, .ref qm_tape, .int qm_taped, .int qm_size, .int qm_limit, .int qm_to, .int qm_from, .int qm_kind, .int qm_number, .int qm_sign, .int qm_fault, .int qm_place, .long qm_word, .int qm_told, .ref qm_now, .ref qm_read, .ref qm_kept, .ref qm_snaps, .ref qm_aside, .ref qm_name, .ref qm_readName, .ref qm_keptName, .ref qm_isKept, .ref qm_onces, .int qm_snapMany, .ref qm_order, .ref qm_ordered, .int qm_orderMany, .int qm_orderMost, .int qm_passing, .int qm_movedWho, .int qm_scratched, .ref qm_text, .int qm_texts, .int qm_seed, .ref qm_line, .ref qm_written, .int qm_lineMany, .int qm_hasWritten, .ref qm_node, .int qm_nodes, .int qm_onesMany, .int qm_within, .int qm_top])), (qm_now, eI G 339 qm_now_c)] H _ := hw
          refine lv_if_eq (tgt := 94) C.1 C.2.1 dX11_why_87 (by decide) (fun _ => ?_) (fun h9 => absurd (by decide) h9)
          refine lv_aload_n C.1 C.2.1 dX11_why_94 rfl (lv_at hl 0 rfl) ?_
          refine lv_iload_n C.1 C.2.1 dX11_why_95 rfl (lv_at hl 2 rfl) ?_
          refine x_calliV (As := [.int a2]) (rest := []) (wr := []) C hw (s_X11_waits qm a2 qm_thrown qm_tape qm_taped qm_size qm_limit qm_to qm_from qm_kind qm_number qm_sign qm_fault qm_place qm_word qm_told qm_now qm_read qm_kept qm_snaps qm_aside qm_name qm_readName qm_keptName qm_isKept qm_onces qm_snapMany qm_order qm_ordered qm_orderMany qm_orderMost qm_passing qm_movedWho qm_scratched qm_text qm_texts qm_seed qm_line qm_written qm_lineMany qm_hasWritten qm_node qm_nodes qm_onesMany qm_within qm_top qm_now_c (by omega) hf_qm_now_c hf1_qm_now_c) mwX11_waits kw1557 [0, 1] [] rfl rfl rfl rfl (by decide) 0 rfl rfl rfl rfl hl.1 rfl (Nat.le_of_ble_eq_true rfl) ⟨(Nat.le_of_ble_eq_true rfl), (Nat.le_of_ble_eq_true rfl)⟩ ⟨(Nat.le_of_ble_eq_true rfl), (Nat.le_of_ble_eq_true rfl)⟩ dX11_why_96 (fun r9 u9 H locs hp9 hw => ?_)
          rcases hp9 with ⟨rfl, rfl⟩ | ⟨rfl, rfl⟩
          · skip
            have hw : Wd G s A [(qm, .inr (10, [.int qm_thrown, .ref qm_tape, .int qm_taped, .int qm_size, .int qm_limit, .int qm_to, .int qm_from, .int qm_kind, .int qm_number, .int qm_sign, .int qm_fault, .int qm_place, .long qm_word, .int qm_told, .ref qm_now, .ref qm_read, .ref qm_kept, .ref qm_snaps, .ref qm_aside, .ref qm_name, .ref qm_readName, .ref qm_keptName, .ref qm_isKept, .ref qm_onces, .int qm_snapMany, .ref qm_order, .ref qm_ordered, .int qm_orderMany, .int qm_orderMost, .int qm_passing, .int qm_movedWho, .int qm_scratched, .ref qm_text, .int qm_texts, .int qm_seed, .ref qm_line, .ref qm_written, .int qm_lineMany, .int qm_hasWritten, .ref qm_node, .int qm_nodes, .int qm_onesMany, .int qm_within, .int qm_top])), (qm_now, eI G 339 qm_now_c)] H _ := hw
            refine lv_if_ne (tgt := 110) C.1 C.2.1 dX11_why_99 (by decide) (fun h9 => absurd (by decide) h9) (fun _ => ?_)
            refine lv_aload_n C.1 C.2.1 dX11_why_102 rfl (lv_at hl 0 rfl) ?_
            refine lv_iload_n C.1 C.2.1 dX11_why_103 rfl (lv_at hl 3 rfl) ?_
            refine x_calliV (As := [.int a3]) (rest := []) (wr := []) C hw (s_X11_waits qm a3 qm_thrown qm_tape qm_taped qm_size qm_limit qm_to qm_from qm_kind qm_number qm_sign qm_fault qm_place qm_word qm_told qm_now qm_read qm_kept qm_snaps qm_aside qm_name qm_readName qm_keptName qm_isKept qm_onces qm_snapMany qm_order qm_ordered qm_orderMany qm_orderMost qm_passing qm_movedWho qm_scratched qm_text qm_texts qm_seed qm_line qm_written qm_lineMany qm_hasWritten qm_node qm_nodes qm_onesMany qm_within qm_top qm_now_c (by omega) hf_qm_now_c hf1_qm_now_c) mwX11_waits kw1557 [0, 1] [] rfl rfl rfl rfl (by decide) 0 rfl rfl rfl rfl hl.1 rfl (Nat.le_of_ble_eq_true rfl) ⟨(Nat.le_of_ble_eq_true rfl), (Nat.le_of_ble_eq_true rfl)⟩ ⟨(Nat.le_of_ble_eq_true rfl), (Nat.le_of_ble_eq_true rfl)⟩ dX11_why_104 (fun r10 u9 H locs hp9 hw => ?_)
            rcases hp9 with ⟨rfl, rfl⟩ | ⟨rfl, rfl⟩
            · skip
              have hw : Wd G s A [(qm, .inr (10, [.int qm_thrown, .ref qm_tape, .int qm_taped, .int qm_size, .int qm_limit, .int qm_to, .int qm_from, .int qm_kind, .int qm_number, .int qm_sign, .int qm_fault, .int qm_place, .long qm_word, .int qm_told, .ref qm_now, .ref qm_read, .ref qm_kept, .ref qm_snaps, .ref qm_aside, .ref qm_name, .ref qm_readName, .ref qm_keptName, .ref qm_isKept, .ref qm_onces, .int qm_snapMany, .ref qm_order, .ref qm_ordered, .int qm_orderMany, .int qm_orderMost, .int qm_passing, .int qm_movedWho, .int qm_scratched, .ref qm_text, .int qm_texts, .int qm_seed, .ref qm_line, .ref qm_written, .int qm_lineMany, .int qm_hasWritten, .ref qm_node, .int qm_nodes, .int qm_onesMany, .int qm_within, .int qm_top])), (qm_now, eI G 339 qm_now_c)] H _ := hw
              refine lv_if_eq (tgt := 114) C.1 C.2.1 dX11_why_107 (by decide) (fun _ => ?_) (fun h9 => absurd (by decide) h9)
              refine lv_aload_n C.1 C.2.1 dX11_why_114 rfl (lv_at hl 0 rfl) ?_
              refine x_get C hw iwX11 10 rfl 0 rfl 14 (by decide) kw1207 rfl dX11_why_115 ?_
              refine lv_bipush (v := 66) C.1 C.2.1 dX11_why_118 (by decide) ?_
              refine x_iald (v := (qm_now_c 66)) C hw 1 rfl (x_in rfl) rfl dX11_why_120 (x_gen (fun v11 => ?_))
              refine lv_iconst (v := 1) C.1 C.2.1 dX11_why_121 (by decide) ?_
              refine lv_icmp_ne (tgt := 129) C.1 C.2.1 dX11_why_122 (by decide) (fun c12 => ?_) (fun c12 => ?_)
              · skip
                have c12 : v11.toInt ≠ 1 := i_eqF (X := v11.toInt) (Y := 1) rfl rfl c12
                have bc12_v11 := i_bd v11
                refine lv_iconst (v := 0) C.1 C.2.1 dX11_why_129 (by decide) ?_
                exact x_retiQ hQ B hw ⟨0, rfl, rfl, (by decide)⟩ (Nat.le_of_ble_eq_true rfl) (Nat.le_of_ble_eq_true rfl) dX11_why_130
              · skip
                have c12 : v11.toInt = 1 := i_eqT (X := v11.toInt) (Y := 1) rfl rfl c12
                have bc12_v11 := i_bd v11
                refine lv_iconst (v := 3) C.1 C.2.1 dX11_why_125 (by decide) ?_
                refine lv_goto (tgt := 130) C.1 C.2.1 dX11_why_126 (by decide) ?_
                exact x_retiQ hQ B hw ⟨3, rfl, rfl, (by decide)⟩ (Nat.le_of_ble_eq_true rfl) (Nat.le_of_ble_eq_true rfl) dX11_why_130
            · skip
              have hw : Wd G s A [(qm, .inr (10, [.int qm_thrown, .ref qm_tape, .int qm_taped, .int qm_size, .int qm_limit, .int qm_to, .int qm_from, .int qm_kind, .int qm_number, .int qm_sign, .int qm_fault, .int qm_place, .long qm_word, .int qm_told, .ref qm_now, .ref qm_read, .ref qm_kept, .ref qm_snaps, .ref qm_aside, .ref qm_name, .ref qm_readName, .ref qm_keptName, .ref qm_isKept, .ref qm_onces, .int qm_snapMany, .ref qm_order, .ref qm_ordered, .int qm_orderMany, .int qm_orderMost, .int qm_passing, .int qm_movedWho, .int qm_scratched, .ref qm_text, .int qm_texts, .int qm_seed, .ref qm_line, .ref qm_written, .int qm_lineMany, .int qm_hasWritten, .ref qm_node, .int qm_nodes, .int qm_onesMany, .int qm_within, .int qm_top])), (qm_now, eI G 339 qm_now_c)] H _ := hw
              refine lv_if_eq (tgt := 114) C.1 C.2.1 dX11_why_107 (by decide) (fun h9 => absurd h9 (by decide)) (fun _ => ?_)
              refine lv_iconst (v := 2) C.1 C.2.1 dX11_why_110 (by decide) ?_
              refine lv_goto (tgt := 130) C.1 C.2.1 dX11_why_111 (by decide) ?_
              exact x_retiQ hQ B hw ⟨2, rfl, rfl, (by decide)⟩ (Nat.le_of_ble_eq_true rfl) (Nat.le_of_ble_eq_true rfl) dX11_why_130
          · skip
            have hw : Wd G s A [(qm, .inr (10, [.int qm_thrown, .ref qm_tape, .int qm_taped, .int qm_size, .int qm_limit, .int qm_to, .int qm_from, .int qm_kind, .int qm_number, .int qm_sign, .int qm_fault, .int qm_place, .long qm_word, .int qm_told, .ref qm_now, .ref qm_read, .ref qm_kept, .ref qm_snaps, .ref qm_aside, .ref qm_name, .ref qm_readName, .ref qm_keptName, .ref qm_isKept, .ref qm_onces, .int qm_snapMany, .ref qm_order, .ref qm_ordered, .int qm_orderMany, .int qm_orderMost, .int qm_passing, .int qm_movedWho, .int qm_scratched, .ref qm_text, .int qm_texts, .int qm_seed, .ref qm_line, .ref qm_written, .int qm_lineMany, .int qm_hasWritten, .ref qm_node, .int qm_nodes, .int qm_onesMany, .int qm_within, .int qm_top])), (qm_now, eI G 339 qm_now_c)] H _ := hw
            refine lv_if_ne (tgt := 110) C.1 C.2.1 dX11_why_99 (by decide) (fun _ => ?_) (fun h9 => absurd h9 (by decide))
            refine lv_iconst (v := 2) C.1 C.2.1 dX11_why_110 (by decide) ?_
            refine lv_goto (tgt := 130) C.1 C.2.1 dX11_why_111 (by decide) ?_
            exact x_retiQ hQ B hw ⟨2, rfl, rfl, (by decide)⟩ (Nat.le_of_ble_eq_true rfl) (Nat.le_of_ble_eq_true rfl) dX11_why_130
        · skip
          have hw : Wd G s A [(qm, .inr (10, [.int qm_thrown, .ref qm_tape, .int qm_taped, .int qm_size, .int qm_limit, .int qm_to, .int qm_from, .int qm_kind, .int qm_number, .int qm_sign, .int qm_fault, .int qm_place, .long qm_word, .int qm_told, .ref qm_now, .ref qm_read, .ref qm_kept, .ref qm_snaps, .ref qm_aside, .ref qm_name, .ref qm_readName, .ref qm_keptName, .ref qm_isKept, .ref qm_onces, .int qm_snapMany, .ref qm_order, .ref qm_ordered, .int qm_orderMany, .int qm_orderMost, .int qm_passing, .int qm_movedWho, .int qm_scratched, .ref qm_text, .int qm_texts, .int qm_seed, .ref qm_line, .ref qm_written, .int qm_lineMany, .int qm_hasWritten, .ref qm_node, .int qm_nodes, .int qm_onesMany, .int qm_within, .int qm_top])), (qm_now, eI G 339 qm_now_c)] H _ := hw
          refine lv_if_eq (tgt := 94) C.1 C.2.1 dX11_why_87 (by decide) (fun h9 => absurd h9 (by decide)) (fun _ => ?_)
          refine lv_iconst (v := 1) C.1 C.2.1 dX11_why_90 (by decide) ?_
          refine lv_goto (tgt := 130) C.1 C.2.1 dX11_why_91 (by decide) ?_
          exact x_retiQ hQ B hw ⟨1, rfl, rfl, (by decide)⟩ (Nat.le_of_ble_eq_true rfl) (Nat.le_of_ble_eq_true rfl) dX11_why_130
      · skip
        have hw : Wd G s A [(qm, .inr (10, [.int qm_thrown, .ref qm_tape, .int qm_taped, .int qm_size, .int qm_limit, .int qm_to, .int qm_from, .int qm_kind, .int qm_number, .int qm_sign, .int qm_fault, .int qm_place, .long qm_word, .int qm_told, .ref qm_now, .ref qm_read, .ref qm_kept, .ref qm_snaps, .ref qm_aside, .ref qm_name, .ref qm_readName, .ref qm_keptName, .ref qm_isKept, .ref qm_onces, .int qm_snapMany, .ref qm_order, .ref qm_ordered, .int qm_orderMany, .int qm_orderMost, .int qm_passing, .int qm_movedWho, .int qm_scratched, .ref qm_text, .int qm_texts, .int qm_seed, .ref qm_line, .ref qm_written, .int qm_lineMany, .int qm_hasWritten, .ref qm_node, .int qm_nodes, .int qm_onesMany, .int qm_within, .int qm_top])), (qm_now, eI G 339 qm_now_c)] H _ := hw
        refine lv_if_ne (tgt := 90) C.1 C.2.1 dX11_why_79 (by decide) (fun _ => ?_) (fun h9 => absurd h9 (by decide))
        refine lv_iconst (v := 1) C.1 C.2.1 dX11_why_90 (by decide) ?_
        refine lv_goto (tgt := 130) C.1 C.2.1 dX11_why_91 (by decide) ?_
        exact x_retiQ hQ B hw ⟨1, rfl, rfl, (by decide)⟩ (Nat.le_of_ble_eq_true rfl) (Nat.le_of_ble_eq_true rfl) dX11_why_130
  · skip
    have k1 : a1 = 2 := Int32.toInt_inj.mp (by rw [k1]; rfl)
    refine x_topi (z := 2) k1 ?_
    refine lv_tableIn (off := 130) (tgt := 131) C.1 C.2.1 dX11_why_1 (by decide) (by decide) rfl (by decide) ?_
    have ha1_ := congrArg Int32.toInt k1
    have ha1_ : a1.toInt = 2 := ha1_
    refine lv_aload_n C.1 C.2.1 dX11_why_131 rfl (lv_at hl 0 rfl) ?_
    refine lv_iload_n C.1 C.2.1 dX11_why_132 rfl (lv_at hl 2 rfl) ?_
    refine x_calliV (As := [.int a2]) (rest := []) (wr := []) C hw (s_X11_isCracked qm a2 qm_thrown qm_tape qm_taped qm_size qm_limit qm_to qm_from qm_kind qm_number qm_sign qm_fault qm_place qm_word qm_told qm_now qm_read qm_kept qm_snaps qm_aside qm_name qm_readName qm_keptName qm_isKept qm_onces qm_snapMany qm_order qm_ordered qm_orderMany qm_orderMost qm_passing qm_movedWho qm_scratched qm_text qm_texts qm_seed qm_line qm_written qm_lineMany qm_hasWritten qm_node qm_nodes qm_onesMany qm_within qm_top qm_now_c hf_qm_now_c hf1_qm_now_c) mwX11_isCracked kw1480 [0, 1] [] rfl rfl rfl rfl (by decide) 0 rfl rfl rfl rfl hl.1 rfl (Nat.le_of_ble_eq_true rfl) ⟨(Nat.le_of_ble_eq_true rfl), (Nat.le_of_ble_eq_true rfl)⟩ ⟨(Nat.le_of_ble_eq_true rfl), (Nat.le_of_ble_eq_true rfl)⟩ dX11_why_133 (fun r13 u9 H locs hp9 hw => ?_)
    rcases hp9 with ⟨rfl, rfl⟩ | ⟨rfl, rfl⟩
    · skip
      have hw : Wd G s A [(qm, .inr (10, [.int qm_thrown, .ref qm_tape, .int qm_taped, .int qm_size, .int qm_limit, .int qm_to, .int qm_from, .int qm_kind, .int qm_number, .int qm_sign, .int qm_fault, .int qm_place, .long qm_word, .int qm_told, .ref qm_now, .ref qm_read, .ref qm_kept, .ref qm_snaps, .ref qm_aside, .ref qm_name, .ref qm_readName, .ref qm_keptName, .ref qm_isKept, .ref qm_onces, .int qm_snapMany, .ref qm_order, .ref qm_ordered, .int qm_orderMany, .int qm_orderMost, .int qm_passing, .int qm_movedWho, .int qm_scratched, .ref qm_text, .int qm_texts, .int qm_seed, .ref qm_line, .ref qm_written, .int qm_lineMany, .int qm_hasWritten, .ref qm_node, .int qm_nodes, .int qm_onesMany, .int qm_within, .int qm_top])), (qm_now, eI G 339 qm_now_c)] H _ := hw
      refine lv_if_eq (tgt := 143) C.1 C.2.1 dX11_why_136 (by decide) (fun _ => ?_) (fun h9 => absurd (by decide) h9)
      refine lv_iconst (v := 0) C.1 C.2.1 dX11_why_143 (by decide) ?_
      exact x_retiQ hQ B hw ⟨0, rfl, rfl, (by decide)⟩ (Nat.le_of_ble_eq_true rfl) (Nat.le_of_ble_eq_true rfl) dX11_why_144
    · skip
      have hw : Wd G s A [(qm, .inr (10, [.int qm_thrown, .ref qm_tape, .int qm_taped, .int qm_size, .int qm_limit, .int qm_to, .int qm_from, .int qm_kind, .int qm_number, .int qm_sign, .int qm_fault, .int qm_place, .long qm_word, .int qm_told, .ref qm_now, .ref qm_read, .ref qm_kept, .ref qm_snaps, .ref qm_aside, .ref qm_name, .ref qm_readName, .ref qm_keptName, .ref qm_isKept, .ref qm_onces, .int qm_snapMany, .ref qm_order, .ref qm_ordered, .int qm_orderMany, .int qm_orderMost, .int qm_passing, .int qm_movedWho, .int qm_scratched, .ref qm_text, .int qm_texts, .int qm_seed, .ref qm_line, .ref qm_written, .int qm_lineMany, .int qm_hasWritten, .ref qm_node, .int qm_nodes, .int qm_onesMany, .int qm_within, .int qm_top])), (qm_now, eI G 339 qm_now_c)] H _ := hw
      refine lv_if_eq (tgt := 143) C.1 C.2.1 dX11_why_136 (by decide) (fun h9 => absurd h9 (by decide)) (fun _ => ?_)
      refine lv_iconst (v := 1) C.1 C.2.1 dX11_why_139 (by decide) ?_
      refine lv_goto (tgt := 144) C.1 C.2.1 dX11_why_140 (by decide) ?_
      exact x_retiQ hQ B hw ⟨1, rfl, rfl, (by decide)⟩ (Nat.le_of_ble_eq_true rfl) (Nat.le_of_ble_eq_true rfl) dX11_why_144
  · skip
    refine lv_tableOut (tgt := 145) C.1 C.2.1 dX11_why_1 (by omega) (by decide) ?_
    refine lv_aload_n C.1 C.2.1 dX11_why_145 rfl (lv_at hl 0 rfl) ?_
    refine x_get C hw iwX11 10 rfl 0 rfl 14 (by decide) kw1207 rfl dX11_why_146 ?_
    refine lv_bipush (v := 81) C.1 C.2.1 dX11_why_149 (by decide) ?_
    refine lv_iload_n C.1 C.2.1 dX11_why_151 rfl (lv_at hl 2 rfl) ?_
    refine lv_iadd C.1 C.2.1 dX11_why_152 (x_genP (fun z : Int32 => z.toInt = 81 + a2.toInt) (i_add (X := 81) (Y := a2.toInt) rfl rfl (by omega) (by omega)) (fun v14 hv14 => ?_))
    refine x_iald (v := (qm_now_c v14.toNatClampNeg)) C hw 1 rfl (i_in (by omega) (by omega)) rfl dX11_why_153 (x_gen (fun v15 => ?_))
    refine lv_iload_n C.1 C.2.1 dX11_why_154 rfl (lv_at hl 3 rfl) ?_
    refine lv_icmp_ne (tgt := 162) C.1 C.2.1 dX11_why_155 (by decide) (fun c16 => ?_) (fun c16 => ?_)
    · skip
      have c16 : v15.toInt ≠ a3.toInt := i_eqF (X := v15.toInt) (Y := a3.toInt) rfl rfl c16
      have bc16_v15 := i_bd v15
      refine lv_iconst (v := 0) C.1 C.2.1 dX11_why_162 (by decide) ?_
      exact x_retiQ hQ B hw ⟨0, rfl, rfl, (by decide)⟩ (Nat.le_of_ble_eq_true rfl) (Nat.le_of_ble_eq_true rfl) dX11_why_163
    · skip
      have c16 : v15.toInt = a3.toInt := i_eqT (X := v15.toInt) (Y := a3.toInt) rfl rfl c16
      have bc16_v15 := i_bd v15
      refine lv_iconst (v := 1) C.1 C.2.1 dX11_why_158 (by decide) ?_
      refine lv_goto (tgt := 163) C.1 C.2.1 dX11_why_159 (by decide) ?_
      exact x_retiQ hQ B hw ⟨1, rfl, rfl, (by decide)⟩ (Nat.le_of_ble_eq_true rfl) (Nat.le_of_ble_eq_true rfl) dX11_why_163
theorem dX11_light_0 : decode cX11_light 0 = .ok (.iconst 0, 1) := by decide +kernel
theorem dX11_light_1 : decode cX11_light 1 = .ok (.istore_n 3, 1) := by decide +kernel
theorem dX11_light_2 : decode cX11_light 2 = .ok (.iload_n 3, 1) := by decide +kernel
theorem dX11_light_3 : decode cX11_light 3 = .ok (.bipush 6, 2) := by decide +kernel
theorem dX11_light_5 : decode cX11_light 5 = .ok (.if_icmp .ge 52, 3) := by decide +kernel
theorem dX11_light_8 : decode cX11_light 8 = .ok (.iload_n 1, 1) := by decide +kernel
theorem dX11_light_9 : decode cX11_light 9 = .ok (.iload_n 3, 1) := by decide +kernel
theorem dX11_light_10 : decode cX11_light 10 = .ok (.invokestatic 195, 3) := by decide +kernel
theorem dX11_light_13 : decode cX11_light 13 = .ok (.ifCond .ne 6, 3) := by decide +kernel
theorem dX11_light_16 : decode cX11_light 16 = .ok (.goto 35, 3) := by decide +kernel
theorem dX11_light_19 : decode cX11_light 19 = .ok (.aload_n 0, 1) := by decide +kernel
theorem dX11_light_20 : decode cX11_light 20 = .ok (.getfield 98, 3) := by decide +kernel
theorem dX11_light_23 : decode cX11_light 23 = .ok (.bipush 65, 2) := by decide +kernel
theorem dX11_light_25 : decode cX11_light 25 = .ok (.dup2, 1) := by decide +kernel
theorem dX11_light_26 : decode cX11_light 26 = .ok (.iaload, 1) := by decide +kernel
theorem dX11_light_27 : decode cX11_light 27 = .ok (.aload_n 0, 1) := by decide +kernel
theorem dX11_light_28 : decode cX11_light 28 = .ok (.getfield 98, 3) := by decide +kernel
theorem dX11_light_31 : decode cX11_light 31 = .ok (.bipush 12, 2) := by decide +kernel
theorem dX11_light_33 : decode cX11_light 33 = .ok (.iload_n 3, 1) := by decide +kernel
theorem dX11_light_34 : decode cX11_light 34 = .ok (.iadd, 1) := by decide +kernel
theorem dX11_light_35 : decode cX11_light 35 = .ok (.iaload, 1) := by decide +kernel
theorem dX11_light_36 : decode cX11_light 36 = .ok (.iadd, 1) := by decide +kernel
theorem dX11_light_37 : decode cX11_light 37 = .ok (.iastore, 1) := by decide +kernel
theorem dX11_light_38 : decode cX11_light 38 = .ok (.aload_n 0, 1) := by decide +kernel
theorem dX11_light_39 : decode cX11_light 39 = .ok (.getfield 98, 3) := by decide +kernel
theorem dX11_light_42 : decode cX11_light 42 = .ok (.bipush 75, 2) := by decide +kernel
theorem dX11_light_44 : decode cX11_light 44 = .ok (.iload_n 3, 1) := by decide +kernel
theorem dX11_light_45 : decode cX11_light 45 = .ok (.iadd, 1) := by decide +kernel
theorem dX11_light_46 : decode cX11_light 46 = .ok (.dup2, 1) := by decide +kernel
theorem dX11_light_47 : decode cX11_light 47 = .ok (.iaload, 1) := by decide +kernel
theorem dX11_light_48 : decode cX11_light 48 = .ok (.iconst 1, 1) := by decide +kernel
theorem dX11_light_49 : decode cX11_light 49 = .ok (.iadd, 1) := by decide +kernel
theorem dX11_light_50 : decode cX11_light 50 = .ok (.iastore, 1) := by decide +kernel
theorem dX11_light_51 : decode cX11_light 51 = .ok (.iinc 3 1, 3) := by decide +kernel
theorem dX11_light_54 : decode cX11_light 54 = .ok (.goto (-52), 3) := by decide +kernel
theorem dX11_light_57 : decode cX11_light 57 = .ok (.aload_n 0, 1) := by decide +kernel
theorem dX11_light_58 : decode cX11_light 58 = .ok (.getfield 98, 3) := by decide +kernel
theorem dX11_light_61 : decode cX11_light 61 = .ok (.bipush 65, 2) := by decide +kernel
theorem dX11_light_63 : decode cX11_light 63 = .ok (.iaload, 1) := by decide +kernel
theorem dX11_light_64 : decode cX11_light 64 = .ok (.aload_n 0, 1) := by decide +kernel
theorem dX11_light_65 : decode cX11_light 65 = .ok (.getfield 98, 3) := by decide +kernel
theorem dX11_light_68 : decode cX11_light 68 = .ok (.iconst 5, 1) := by decide +kernel
theorem dX11_light_69 : decode cX11_light 69 = .ok (.iaload, 1) := by decide +kernel
theorem dX11_light_70 : decode cX11_light 70 = .ok (.if_icmp .le 25, 3) := by decide +kernel
theorem dX11_light_95 : decode cX11_light 95 = .ok (.aload_n 0, 1) := by decide +kernel
theorem dX11_light_96 : decode cX11_light 96 = .ok (.iload_n 2, 1) := by decide +kernel
theorem dX11_light_97 : decode cX11_light 97 = .ok (.aload_n 0, 1) := by decide +kernel
theorem dX11_light_98 : decode cX11_light 98 = .ok (.invokevirtual 261, 3) := by decide +kernel
theorem dX11_light_101 : decode cX11_light 101 = .ok (.invokevirtual 273, 3) := by decide +kernel
theorem dX11_light_104 : decode cX11_light 104 = .ok (.istore_n 3, 1) := by decide +kernel
theorem dX11_light_105 : decode cX11_light 105 = .ok (.iconst 0, 1) := by decide +kernel
theorem dX11_light_106 : decode cX11_light 106 = .ok (.istore 4, 2) := by decide +kernel
theorem dX11_light_108 : decode cX11_light 108 = .ok (.iload 4, 2) := by decide +kernel
theorem dX11_light_110 : decode cX11_light 110 = .ok (.bipush 8, 2) := by decide +kernel
theorem dX11_light_112 : decode cX11_light 112 = .ok (.if_icmp .ge 32, 3) := by decide +kernel
theorem dX11_light_115 : decode cX11_light 115 = .ok (.iload_n 3, 1) := by decide +kernel
theorem dX11_light_116 : decode cX11_light 116 = .ok (.iload 4, 2) := by decide +kernel
theorem dX11_light_118 : decode cX11_light 118 = .ok (.invokestatic 195, 3) := by decide +kernel
theorem dX11_light_121 : decode cX11_light 121 = .ok (.ifCond .eq 17, 3) := by decide +kernel
theorem dX11_light_124 : decode cX11_light 124 = .ok (.aload_n 0, 1) := by decide +kernel
theorem dX11_light_125 : decode cX11_light 125 = .ok (.getfield 98, 3) := by decide +kernel
theorem dX11_light_128 : decode cX11_light 128 = .ok (.bipush 89, 2) := by decide +kernel
theorem dX11_light_130 : decode cX11_light 130 = .ok (.iload 4, 2) := by decide +kernel
theorem dX11_light_132 : decode cX11_light 132 = .ok (.iadd, 1) := by decide +kernel
theorem dX11_light_133 : decode cX11_light 133 = .ok (.dup2, 1) := by decide +kernel
theorem dX11_light_134 : decode cX11_light 134 = .ok (.iaload, 1) := by decide +kernel
theorem dX11_light_135 : decode cX11_light 135 = .ok (.iconst 1, 1) := by decide +kernel
theorem dX11_light_136 : decode cX11_light 136 = .ok (.iadd, 1) := by decide +kernel
theorem dX11_light_137 : decode cX11_light 137 = .ok (.iastore, 1) := by decide +kernel
theorem dX11_light_138 : decode cX11_light 138 = .ok (.iinc 4 1, 3) := by decide +kernel
theorem dX11_light_141 : decode cX11_light 141 = .ok (.goto (-33), 3) := by decide +kernel
theorem dX11_light_144 : decode cX11_light 144 = .ok (.iload_n 3, 1) := by decide +kernel
theorem dX11_light_145 : decode cX11_light 145 = .ok (.invokestatic 252, 3) := by decide +kernel
theorem dX11_light_148 : decode cX11_light 148 = .ok (.aload_n 0, 1) := by decide +kernel
theorem dX11_light_149 : decode cX11_light 149 = .ok (.getfield 98, 3) := by decide +kernel
theorem dX11_light_152 : decode cX11_light 152 = .ok (.iconst 3, 1) := by decide +kernel
theorem dX11_light_153 : decode cX11_light 153 = .ok (.iaload, 1) := by decide +kernel
theorem dX11_light_154 : decode cX11_light 154 = .ok (.if_icmp .lt 14, 3) := by decide +kernel
theorem dX11_light_168 : decode cX11_light 168 = .ok (.iload_n 3, 1) := by decide +kernel
theorem dX11_light_169 : decode cX11_light 169 = .ok (.invokestatic 252, 3) := by decide +kernel
theorem dX11_light_172 : decode cX11_light 172 = .ok (.ireturn, 1) := by decide +kernel
theorem dX11_light_157 : decode cX11_light 157 = .ok (.aload_n 0, 1) := by decide +kernel
theorem dX11_light_158 : decode cX11_light 158 = .ok (.getfield 98, 3) := by decide +kernel
theorem dX11_light_161 : decode cX11_light 161 = .ok (.bipush 67, 2) := by decide +kernel
theorem dX11_light_163 : decode cX11_light 163 = .ok (.dup2, 1) := by decide +kernel
theorem dX11_light_164 : decode cX11_light 164 = .ok (.iaload, 1) := by decide +kernel
theorem dX11_light_165 : decode cX11_light 165 = .ok (.iload_n 1, 1) := by decide +kernel
theorem dX11_light_166 : decode cX11_light 166 = .ok (.ior, 1) := by decide +kernel
theorem dX11_light_167 : decode cX11_light 167 = .ok (.iastore, 1) := by decide +kernel
theorem dX11_light_73 : decode cX11_light 73 = .ok (.aload_n 0, 1) := by decide +kernel
theorem dX11_light_74 : decode cX11_light 74 = .ok (.getfield 98, 3) := by decide +kernel
theorem dX11_light_77 : decode cX11_light 77 = .ok (.bipush 68, 2) := by decide +kernel
theorem dX11_light_79 : decode cX11_light 79 = .ok (.dup2, 1) := by decide +kernel
theorem dX11_light_80 : decode cX11_light 80 = .ok (.iaload, 1) := by decide +kernel
theorem dX11_light_81 : decode cX11_light 81 = .ok (.iload_n 1, 1) := by decide +kernel
theorem dX11_light_82 : decode cX11_light 82 = .ok (.ior, 1) := by decide +kernel
theorem dX11_light_83 : decode cX11_light 83 = .ok (.iastore, 1) := by decide +kernel
theorem dX11_light_84 : decode cX11_light 84 = .ok (.aload_n 0, 1) := by decide +kernel
theorem dX11_light_85 : decode cX11_light 85 = .ok (.getfield 98, 3) := by decide +kernel
theorem dX11_light_88 : decode cX11_light 88 = .ok (.bipush 66, 2) := by decide +kernel
theorem dX11_light_90 : decode cX11_light 90 = .ok (.iconst 1, 1) := by decide +kernel
theorem dX11_light_91 : decode cX11_light 91 = .ok (.iastore, 1) := by decide +kernel
theorem dX11_light_92 : decode cX11_light 92 = .ok (.bipush (-5), 2) := by decide +kernel
theorem dX11_light_94 : decode cX11_light 94 = .ok (.ireturn, 1) := by decide +kernel
set_option maxHeartbeats 4000000 in
set_option maxRecDepth 100000 in
theorem s_X11_light {l : Launch} {G : Gc} (qm : Nat) (a1 : Int32) (a2 : Int32) (qm_thrown : Int32) (qm_tape : Nat) (qm_taped : Int32) (qm_size : Int32) (qm_limit : Int32) (qm_to : Int32) (qm_from : Int32) (qm_kind : Int32) (qm_number : Int32) (qm_sign : Int32) (qm_fault : Int32) (qm_place : Int32) (qm_word : Int64) (qm_told : Int32) (qm_now : Nat) (qm_read : Nat) (qm_kept : Nat) (qm_snaps : Nat) (qm_aside : Nat) (qm_name : Nat) (qm_readName : Nat) (qm_keptName : Nat) (qm_isKept : Nat) (qm_onces : Nat) (qm_snapMany : Int32) (qm_order : Nat) (qm_ordered : Nat) (qm_orderMany : Int32) (qm_orderMost : Int32) (qm_passing : Int32) (qm_movedWho : Int32) (qm_scratched : Int32) (qm_text : Nat) (qm_texts : Int32) (qm_seed : Int32) (qm_line : Nat) (qm_written : Nat) (qm_lineMany : Int32) (qm_hasWritten : Int32) (qm_node : Nat) (qm_nodes : Int32) (qm_onesMany : Int32) (qm_within : Int32) (qm_top : Int32) (qm_now_c : Nat → Int32) (hf_qm_now_c : slI qm_now_c) (hf1_qm_now_c : trI qm_now_c) : Ci l yX11_light cX11_light 5 (some .int) 3 0 0 G [.ref qm, .int a1, .int a2] [(qm, .inr (10, [.int qm_thrown, .ref qm_tape, .int qm_taped, .int qm_size, .int qm_limit, .int qm_to, .int qm_from, .int qm_kind, .int qm_number, .int qm_sign, .int qm_fault, .int qm_place, .long qm_word, .int qm_told, .ref qm_now, .ref qm_read, .ref qm_kept, .ref qm_snaps, .ref qm_aside, .ref qm_name, .ref qm_readName, .ref qm_keptName, .ref qm_isKept, .ref qm_onces, .int qm_snapMany, .ref qm_order, .ref qm_ordered, .int qm_orderMany, .int qm_orderMost, .int qm_passing, .int qm_movedWho, .int qm_scratched, .ref qm_text, .int qm_texts, .int qm_seed, .ref qm_line, .ref qm_written, .int qm_lineMany, .int qm_hasWritten, .ref qm_node, .int qm_nodes, .int qm_onesMany, .int qm_within, .int qm_top])), (qm_now, eI G 339 qm_now_c)] (fun (r9 : Int32) (u9 : va_W) => ∃ (x0_qm_now_c : Nat → Int32) (r_x : Int32), r9 = r_x ∧ u9 = [(qm, .inr (10, [.int qm_thrown, .ref qm_tape, .int qm_taped, .int qm_size, .int qm_limit, .int qm_to, .int qm_from, .int qm_kind, .int qm_number, .int qm_sign, .int qm_fault, .int qm_place, .long qm_word, .int qm_told, .ref qm_now, .ref qm_read, .ref qm_kept, .ref qm_snaps, .ref qm_aside, .ref qm_name, .ref qm_readName, .ref qm_keptName, .ref qm_isKept, .ref qm_onces, .int qm_snapMany, .ref qm_order, .ref qm_ordered, .int qm_orderMany, .int qm_orderMost, .int qm_passing, .int qm_movedWho, .int qm_scratched, .ref qm_text, .int qm_texts, .int qm_seed, .ref qm_line, .ref qm_written, .int qm_lineMany, .int qm_hasWritten, .ref qm_node, .int qm_nodes, .int qm_onesMany, .int qm_within, .int qm_top])), (qm_now, eI G 339 x0_qm_now_c)] ∧ (loW qm_now_c x0_qm_now_c) ∧ (slI x0_qm_now_c) ∧ (trI x0_qm_now_c) ∧ ((x0_qm_now_c 0).toInt = (qm_now_c 0).toInt)) := by
  refine Ci.ofQ (by decide) (Nat.le_of_ble_eq_true rfl) ?_
  intro p e s m below meth c ls A args Q hQ B hw hl
  have C : CallFix p m c cX11_light 5 s args gw "LanternStateModel" := B.1
  have hl : lv_has ls 5 [(0, .ref qm), (1, .int a1), (2, .int a2)] := hl
  refine lv_iconst (v := 0) C.1 C.2.1 dX11_light_0 (by decide) ?_
  refine lv_istore_n (lv' := [(3, .int 0), (0, .ref qm), (1, .int a1), (2, .int a2)]) C.1 C.2.1 dX11_light_1 rfl hl (by decide) rfl (fun ls hl => ?_)
  have loopJ170 : ∀ (n9 : Nat) (j168 : Int32) (j169 : Nat → Int32), (2147483647 - j168.toInt).toNat < n9 → (loW qm_now_c j169) → (slI j169) → (trI j169) → ((j169 0).toInt = (qm_now_c 0).toInt) → (0 ≤ j168.toInt ∧ j168.toInt ≤ 6) → ∀ (H : Heap) (locs : List Loc) (ls : Array Slot), Wd G s A [(qm, .inr (10, [.int qm_thrown, .ref qm_tape, .int qm_taped, .int qm_size, .int qm_limit, .int qm_to, .int qm_from, .int qm_kind, .int qm_number, .int qm_sign, .int qm_fault, .int qm_place, .long qm_word, .int qm_told, .ref qm_now, .ref qm_read, .ref qm_kept, .ref qm_snaps, .ref qm_aside, .ref qm_name, .ref qm_readName, .ref qm_keptName, .ref qm_isKept, .ref qm_onces, .int qm_snapMany, .ref qm_order, .ref qm_ordered, .int qm_orderMany, .int qm_orderMost, .int qm_passing, .int qm_movedWho, .int qm_scratched, .ref qm_text, .int qm_texts, .int qm_seed, .ref qm_line, .ref qm_written, .int qm_lineMany, .int qm_hasWritten, .ref qm_node, .int qm_nodes, .int qm_onesMany, .int qm_within, .int qm_top])), (qm_now, eI G 339 j169)] H locs → lv_has ls 5 [(3, .int j168), (0, .ref qm), (1, .int a1), (2, .int a2)] → W p l e (rmD 3 0 0) s m args below meth c H locs 0 0 Q (F0 m 2 ls []) := by
    intro n9
    induction n9 with
    | zero => intro j168 j169 h9; exact absurd h9 (Nat.not_lt_zero _)
    | succ n9 ihJ170 =>
      intro j168 j169 h9J170 hJ170_0 hJ170_1 hJ170_2 hJ170_3 hJ170_4 H locs ls hw hl
      have hbj168 := i_bd j168
      refine lv_iload_n C.1 C.2.1 dX11_light_2 rfl (lv_at hl 0 rfl) ?_
      refine lv_bipush (v := 6) C.1 C.2.1 dX11_light_3 (by decide) ?_
      refine lv_icmp_ge (tgt := 57) C.1 C.2.1 dX11_light_5 (by decide) (fun c200 => ?_) (fun c200 => ?_)
      · skip
        have c200 : 6 ≤ j168.toInt := i_leT (X := 6) (Y := j168.toInt) rfl rfl c200
        refine lv_aload_n C.1 C.2.1 dX11_light_57 rfl (lv_at hl 1 rfl) ?_
        refine x_get C hw iwX11 10 rfl 0 rfl 14 (by decide) kw1207 rfl dX11_light_58 ?_
        refine lv_bipush (v := 65) C.1 C.2.1 dX11_light_61 (by decide) ?_
        refine x_iald (v := (j169 65)) C hw 1 rfl (x_in rfl) rfl dX11_light_63 (x_gen (fun v201 => ?_))
        refine lv_aload_n C.1 C.2.1 dX11_light_64 rfl (lv_at hl 1 rfl) ?_
        refine x_get C hw iwX11 10 rfl 0 rfl 14 (by decide) kw1207 rfl dX11_light_65 ?_
        refine lv_iconst (v := 5) C.1 C.2.1 dX11_light_68 (by decide) ?_
        refine x_iald (v := (j169 5)) C hw 1 rfl (x_in rfl) rfl dX11_light_69 (x_gen (fun v202 => ?_))
        refine lv_icmp_le (tgt := 95) C.1 C.2.1 dX11_light_70 (by decide) (fun c203 => ?_) (fun c203 => ?_)
        · skip
          have c203 : v201.toInt ≤ v202.toInt := i_leT (X := v201.toInt) (Y := v202.toInt) rfl rfl c203
          have bc203_v201 := i_bd v201
          have bc203_v202 := i_bd v202
          refine lv_aload_n C.1 C.2.1 dX11_light_95 rfl (lv_at hl 1 rfl) ?_
          refine lv_iload_n C.1 C.2.1 dX11_light_96 rfl (lv_at hl 3 rfl) ?_
          refine lv_aload_n C.1 C.2.1 dX11_light_97 rfl (lv_at hl 1 rfl) ?_
          refine x_calliV (As := []) (rest := [.int a2, .ref qm]) (wr := []) C hw (s_X11_seats qm qm_thrown qm_tape qm_taped qm_size qm_limit qm_to qm_from qm_kind qm_number qm_sign qm_fault qm_place qm_word qm_told qm_now qm_read qm_kept qm_snaps qm_aside qm_name qm_readName qm_keptName qm_isKept qm_onces qm_snapMany qm_order qm_ordered qm_orderMany qm_orderMost qm_passing qm_movedWho qm_scratched qm_text qm_texts qm_seed qm_line qm_written qm_lineMany qm_hasWritten qm_node qm_nodes qm_onesMany qm_within qm_top j169 hJ170_1 hJ170_2) mwX11_seats kw1513 [0, 1] [] rfl rfl rfl rfl (by decide) 0 rfl rfl rfl rfl hl.1 rfl (Nat.le_of_ble_eq_true rfl) ⟨(Nat.le_of_ble_eq_true rfl), (Nat.le_of_ble_eq_true rfl)⟩ ⟨(Nat.le_of_ble_eq_true rfl), (Nat.le_of_ble_eq_true rfl)⟩ dX11_light_98 (fun r204 u9 H locs hp9 hw => ?_)
          obtain ⟨x205, rfl, rfl⟩ := hp9
          have hw : Wd G s A [(qm, .inr (10, [.int qm_thrown, .ref qm_tape, .int qm_taped, .int qm_size, .int qm_limit, .int qm_to, .int qm_from, .int qm_kind, .int qm_number, .int qm_sign, .int qm_fault, .int qm_place, .long qm_word, .int qm_told, .ref qm_now, .ref qm_read, .ref qm_kept, .ref qm_snaps, .ref qm_aside, .ref qm_name, .ref qm_readName, .ref qm_keptName, .ref qm_isKept, .ref qm_onces, .int qm_snapMany, .ref qm_order, .ref qm_ordered, .int qm_orderMany, .int qm_orderMost, .int qm_passing, .int qm_movedWho, .int qm_scratched, .ref qm_text, .int qm_texts, .int qm_seed, .ref qm_line, .ref qm_written, .int qm_lineMany, .int qm_hasWritten, .ref qm_node, .int qm_nodes, .int qm_onesMany, .int qm_within, .int qm_top])), (qm_now, eI G 339 j169)] H _ := hw
          refine x_calliV (As := [.int a2, .int r204]) (rest := []) (wr := []) C hw (s_X11_sighsBy qm a2 r204 qm_thrown qm_tape qm_taped qm_size qm_limit qm_to qm_from qm_kind qm_number qm_sign qm_fault qm_place qm_word qm_told qm_now qm_read qm_kept qm_snaps qm_aside qm_name qm_readName qm_keptName qm_isKept qm_onces qm_snapMany qm_order qm_ordered qm_orderMany qm_orderMost qm_passing qm_movedWho qm_scratched qm_text qm_texts qm_seed qm_line qm_written qm_lineMany qm_hasWritten qm_node qm_nodes qm_onesMany qm_within qm_top j169 hJ170_1 hJ170_2) mwX11_sighsBy kw1529 [0, 1] [] rfl rfl rfl rfl (by decide) 0 rfl rfl rfl rfl hl.1 rfl (Nat.le_of_ble_eq_true rfl) ⟨(Nat.le_of_ble_eq_true rfl), (Nat.le_of_ble_eq_true rfl)⟩ ⟨(Nat.le_of_ble_eq_true rfl), (Nat.le_of_ble_eq_true rfl)⟩ dX11_light_101 (fun r206 u9 H locs hp9 hw => ?_)
          obtain ⟨x207, rfl, rfl⟩ := hp9
          have hw : Wd G s A [(qm, .inr (10, [.int qm_thrown, .ref qm_tape, .int qm_taped, .int qm_size, .int qm_limit, .int qm_to, .int qm_from, .int qm_kind, .int qm_number, .int qm_sign, .int qm_fault, .int qm_place, .long qm_word, .int qm_told, .ref qm_now, .ref qm_read, .ref qm_kept, .ref qm_snaps, .ref qm_aside, .ref qm_name, .ref qm_readName, .ref qm_keptName, .ref qm_isKept, .ref qm_onces, .int qm_snapMany, .ref qm_order, .ref qm_ordered, .int qm_orderMany, .int qm_orderMost, .int qm_passing, .int qm_movedWho, .int qm_scratched, .ref qm_text, .int qm_texts, .int qm_seed, .ref qm_line, .ref qm_written, .int qm_lineMany, .int qm_hasWritten, .ref qm_node, .int qm_nodes, .int qm_onesMany, .int qm_within, .int qm_top])), (qm_now, eI G 339 j169)] H _ := hw
          refine lv_istore_n (lv' := [(3, .int r206), (0, .ref qm), (1, .int a1), (2, .int a2)]) C.1 C.2.1 dX11_light_104 rfl hl (by decide) rfl (fun ls hl => ?_)
          refine lv_iconst (v := 0) C.1 C.2.1 dX11_light_105 (by decide) ?_
          refine lv_istore (lv' := [(4, .int 0), (3, .int r206), (0, .ref qm), (1, .int a1), (2, .int a2)]) C.1 C.2.1 dX11_light_106 hl (by decide) rfl (fun ls hl => ?_)
          have loopJ356 : ∀ (n9 : Nat) (j354 : Int32) (j355 : Nat → Int32), (2147483647 - j354.toInt).toNat < n9 → (loW qm_now_c j355) → (slI j355) → (trI j355) → ((j355 0).toInt = (qm_now_c 0).toInt) → (0 ≤ j354.toInt ∧ j354.toInt ≤ 8) → ∀ (H : Heap) (locs : List Loc) (ls : Array Slot), Wd G s A [(qm, .inr (10, [.int qm_thrown, .ref qm_tape, .int qm_taped, .int qm_size, .int qm_limit, .int qm_to, .int qm_from, .int qm_kind, .int qm_number, .int qm_sign, .int qm_fault, .int qm_place, .long qm_word, .int qm_told, .ref qm_now, .ref qm_read, .ref qm_kept, .ref qm_snaps, .ref qm_aside, .ref qm_name, .ref qm_readName, .ref qm_keptName, .ref qm_isKept, .ref qm_onces, .int qm_snapMany, .ref qm_order, .ref qm_ordered, .int qm_orderMany, .int qm_orderMost, .int qm_passing, .int qm_movedWho, .int qm_scratched, .ref qm_text, .int qm_texts, .int qm_seed, .ref qm_line, .ref qm_written, .int qm_lineMany, .int qm_hasWritten, .ref qm_node, .int qm_nodes, .int qm_onesMany, .int qm_within, .int qm_top])), (qm_now, eI G 339 j355)] H locs → lv_has ls 5 [(4, .int j354), (3, .int r206), (0, .ref qm), (1, .int a1)] → W p l e (rmD 3 0 0) s m args below meth c H locs 0 0 Q (F0 m 108 ls []) := by
            intro n9
            induction n9 with
            | zero => intro j354 j355 h9; exact absurd h9 (Nat.not_lt_zero _)
            | succ n9 ihJ356 =>
              intro j354 j355 h9J356 hJ356_0 hJ356_1 hJ356_2 hJ356_3 hJ356_4 H locs ls hw hl
              have hbj354 := i_bd j354
              refine lv_iload C.1 C.2.1 dX11_light_108 (lv_at hl 0 rfl) ?_
              refine lv_bipush (v := 8) C.1 C.2.1 dX11_light_110 (by decide) ?_
              refine lv_icmp_ge (tgt := 144) C.1 C.2.1 dX11_light_112 (by decide) (fun c376 => ?_) (fun c376 => ?_)
              · skip
                have c376 : 8 ≤ j354.toInt := i_leT (X := 8) (Y := j354.toInt) rfl rfl c376
                refine lv_iload_n C.1 C.2.1 dX11_light_144 rfl (lv_at hl 1 rfl) ?_
                refine x_calliS (As := [.int r206]) (rest := []) (wr := [(qm, .inr (10, [.int qm_thrown, .ref qm_tape, .int qm_taped, .int qm_size, .int qm_limit, .int qm_to, .int qm_from, .int qm_kind, .int qm_number, .int qm_sign, .int qm_fault, .int qm_place, .long qm_word, .int qm_told, .ref qm_now, .ref qm_read, .ref qm_kept, .ref qm_snaps, .ref qm_aside, .ref qm_name, .ref qm_readName, .ref qm_keptName, .ref qm_isKept, .ref qm_onces, .int qm_snapMany, .ref qm_order, .ref qm_ordered, .int qm_orderMany, .int qm_orderMost, .int qm_passing, .int qm_movedWho, .int qm_scratched, .ref qm_text, .int qm_texts, .int qm_seed, .ref qm_line, .ref qm_written, .int qm_lineMany, .int qm_hasWritten, .ref qm_node, .int qm_nodes, .int qm_onesMany, .int qm_within, .int qm_top])), (qm_now, eI G 339 j355)]) C hw (s_X11_bits r206) mwX11_bits kw1484 [] [0, 1] rfl rfl rfl rfl (by decide) rfl hl.1 rfl (Nat.le_of_ble_eq_true rfl) ⟨(Nat.le_of_ble_eq_true rfl), (Nat.le_of_ble_eq_true rfl)⟩ ⟨(Nat.le_of_ble_eq_true rfl), (Nat.le_of_ble_eq_true rfl)⟩ dX11_light_145 (fun r377 u9 H locs hp9 hw => ?_)
                obtain ⟨x378, rfl, rfl⟩ := hp9
                have hw : Wd G s A [(qm, .inr (10, [.int qm_thrown, .ref qm_tape, .int qm_taped, .int qm_size, .int qm_limit, .int qm_to, .int qm_from, .int qm_kind, .int qm_number, .int qm_sign, .int qm_fault, .int qm_place, .long qm_word, .int qm_told, .ref qm_now, .ref qm_read, .ref qm_kept, .ref qm_snaps, .ref qm_aside, .ref qm_name, .ref qm_readName, .ref qm_keptName, .ref qm_isKept, .ref qm_onces, .int qm_snapMany, .ref qm_order, .ref qm_ordered, .int qm_orderMany, .int qm_orderMost, .int qm_passing, .int qm_movedWho, .int qm_scratched, .ref qm_text, .int qm_texts, .int qm_seed, .ref qm_line, .ref qm_written, .int qm_lineMany, .int qm_hasWritten, .ref qm_node, .int qm_nodes, .int qm_onesMany, .int qm_within, .int qm_top])), (qm_now, eI G 339 j355)] H _ := hw
                refine lv_aload_n C.1 C.2.1 dX11_light_148 rfl (lv_at hl 2 rfl) ?_
                refine x_get C hw iwX11 10 rfl 0 rfl 14 (by decide) kw1207 rfl dX11_light_149 ?_
                refine lv_iconst (v := 3) C.1 C.2.1 dX11_light_152 (by decide) ?_
                refine x_iald (v := (j355 3)) C hw 1 rfl (x_in rfl) rfl dX11_light_153 (x_gen (fun v379 => ?_))
                refine lv_icmp_lt (tgt := 168) C.1 C.2.1 dX11_light_154 (by decide) (fun c380 => ?_) (fun c380 => ?_)
                · skip
                  have c380 : r377.toInt < v379.toInt := i_ltT (X := r377.toInt) (Y := v379.toInt) rfl rfl c380
                  have bc380_r377 := i_bd r377
                  have bc380_v379 := i_bd v379
                  refine lv_iload_n C.1 C.2.1 dX11_light_168 rfl (lv_at hl 1 rfl) ?_
                  refine x_calliS (As := [.int r206]) (rest := []) (wr := [(qm, .inr (10, [.int qm_thrown, .ref qm_tape, .int qm_taped, .int qm_size, .int qm_limit, .int qm_to, .int qm_from, .int qm_kind, .int qm_number, .int qm_sign, .int qm_fault, .int qm_place, .long qm_word, .int qm_told, .ref qm_now, .ref qm_read, .ref qm_kept, .ref qm_snaps, .ref qm_aside, .ref qm_name, .ref qm_readName, .ref qm_keptName, .ref qm_isKept, .ref qm_onces, .int qm_snapMany, .ref qm_order, .ref qm_ordered, .int qm_orderMany, .int qm_orderMost, .int qm_passing, .int qm_movedWho, .int qm_scratched, .ref qm_text, .int qm_texts, .int qm_seed, .ref qm_line, .ref qm_written, .int qm_lineMany, .int qm_hasWritten, .ref qm_node, .int qm_nodes, .int qm_onesMany, .int qm_within, .int qm_top])), (qm_now, eI G 339 j355)]) C hw (s_X11_bits r206) mwX11_bits kw1484 [] [0, 1] rfl rfl rfl rfl (by decide) rfl hl.1 rfl (Nat.le_of_ble_eq_true rfl) ⟨(Nat.le_of_ble_eq_true rfl), (Nat.le_of_ble_eq_true rfl)⟩ ⟨(Nat.le_of_ble_eq_true rfl), (Nat.le_of_ble_eq_true rfl)⟩ dX11_light_169 (fun r381 u9 H locs hp9 hw => ?_)
                  obtain ⟨x382, rfl, rfl⟩ := hp9
                  have hw : Wd G s A [(qm, .inr (10, [.int qm_thrown, .ref qm_tape, .int qm_taped, .int qm_size, .int qm_limit, .int qm_to, .int qm_from, .int qm_kind, .int qm_number, .int qm_sign, .int qm_fault, .int qm_place, .long qm_word, .int qm_told, .ref qm_now, .ref qm_read, .ref qm_kept, .ref qm_snaps, .ref qm_aside, .ref qm_name, .ref qm_readName, .ref qm_keptName, .ref qm_isKept, .ref qm_onces, .int qm_snapMany, .ref qm_order, .ref qm_ordered, .int qm_orderMany, .int qm_orderMost, .int qm_passing, .int qm_movedWho, .int qm_scratched, .ref qm_text, .int qm_texts, .int qm_seed, .ref qm_line, .ref qm_written, .int qm_lineMany, .int qm_hasWritten, .ref qm_node, .int qm_nodes, .int qm_onesMany, .int qm_within, .int qm_top])), (qm_now, eI G 339 j355)] H _ := hw
                  exact x_retiQ hQ B hw ⟨j355, r381, rfl, rfl, hJ356_0, hJ356_1, hJ356_2, (by omega)⟩ (Nat.le_of_ble_eq_true rfl) (Nat.le_of_ble_eq_true rfl) dX11_light_172
                · skip
                  have c380 : v379.toInt ≤ r377.toInt := i_ltF (X := r377.toInt) (Y := v379.toInt) rfl rfl c380
                  have bc380_r377 := i_bd r377
                  have bc380_v379 := i_bd v379
                  refine lv_aload_n C.1 C.2.1 dX11_light_157 rfl (lv_at hl 2 rfl) ?_
                  refine x_get C hw iwX11 10 rfl 0 rfl 14 (by decide) kw1207 rfl dX11_light_158 ?_
                  refine lv_bipush (v := 67) C.1 C.2.1 dX11_light_161 (by decide) ?_
                  refine lv_dup2_11 C.1 C.2.1 dX11_light_163 rfl rfl ?_
                  refine x_iald (v := (j355 67)) C hw 1 rfl (x_in rfl) rfl dX11_light_164 (x_gen (fun v383 => ?_))
                  refine lv_iload_n C.1 C.2.1 dX11_light_165 rfl (lv_at hl 3 rfl) ?_
                  refine lv_ior C.1 C.2.1 dX11_light_166 (x_gen (fun v384 => ?_))
                  obtain ⟨g385, eg385⟩ : ∃ z, upd j355 67 v384 = z := ⟨_, rfl⟩
                  have fs386 : slI g385 := eg385 ▸ slI_upd hJ356_1 (by intro q; omega) (by intro q; omega) (by intro q; omega)
                  have mm387 : (g385 0).toInt = (j355 0).toInt := by rw [← eg385, upd_ne (by omega)]
                  have mm388 : (g385 1).toInt = (j355 1).toInt := by rw [← eg385, upd_ne (by omega)]
                  have ft389 : trI g385 := eg385 ▸ trI_lo hJ356_2 (by omega)
                  have fw390 : loW qm_now_c g385 := eg385 ▸ loW_upd hJ356_0 (by decide)
                  refine x_iast (f' := g385) (w' := [(qm, .inr (10, [.int qm_thrown, .ref qm_tape, .int qm_taped, .int qm_size, .int qm_limit, .int qm_to, .int qm_from, .int qm_kind, .int qm_number, .int qm_sign, .int qm_fault, .int qm_place, .long qm_word, .int qm_told, .ref qm_now, .ref qm_read, .ref qm_kept, .ref qm_snaps, .ref qm_aside, .ref qm_name, .ref qm_readName, .ref qm_keptName, .ref qm_isKept, .ref qm_onces, .int qm_snapMany, .ref qm_order, .ref qm_ordered, .int qm_orderMany, .int qm_orderMost, .int qm_passing, .int qm_movedWho, .int qm_scratched, .ref qm_text, .int qm_texts, .int qm_seed, .ref qm_line, .ref qm_written, .int qm_lineMany, .int qm_hasWritten, .ref qm_node, .int qm_nodes, .int qm_onesMany, .int qm_within, .int qm_top])), (qm_now, eI G 339 g385)]) C hw 1 rfl (x_in rfl) eg385 rfl dX11_light_167 (fun H locs hw => ?_)
                  refine lv_iload_n C.1 C.2.1 dX11_light_168 rfl (lv_at hl 1 rfl) ?_
                  refine x_calliS (As := [.int r206]) (rest := []) (wr := [(qm, .inr (10, [.int qm_thrown, .ref qm_tape, .int qm_taped, .int qm_size, .int qm_limit, .int qm_to, .int qm_from, .int qm_kind, .int qm_number, .int qm_sign, .int qm_fault, .int qm_place, .long qm_word, .int qm_told, .ref qm_now, .ref qm_read, .ref qm_kept, .ref qm_snaps, .ref qm_aside, .ref qm_name, .ref qm_readName, .ref qm_keptName, .ref qm_isKept, .ref qm_onces, .int qm_snapMany, .ref qm_order, .ref qm_ordered, .int qm_orderMany, .int qm_orderMost, .int qm_passing, .int qm_movedWho, .int qm_scratched, .ref qm_text, .int qm_texts, .int qm_seed, .ref qm_line, .ref qm_written, .int qm_lineMany, .int qm_hasWritten, .ref qm_node, .int qm_nodes, .int qm_onesMany, .int qm_within, .int qm_top])), (qm_now, eI G 339 g385)]) C hw (s_X11_bits r206) mwX11_bits kw1484 [] [0, 1] rfl rfl rfl rfl (by decide) rfl hl.1 rfl (Nat.le_of_ble_eq_true rfl) ⟨(Nat.le_of_ble_eq_true rfl), (Nat.le_of_ble_eq_true rfl)⟩ ⟨(Nat.le_of_ble_eq_true rfl), (Nat.le_of_ble_eq_true rfl)⟩ dX11_light_169 (fun r391 u9 H locs hp9 hw => ?_)
                  obtain ⟨x392, rfl, rfl⟩ := hp9
                  have hw : Wd G s A [(qm, .inr (10, [.int qm_thrown, .ref qm_tape, .int qm_taped, .int qm_size, .int qm_limit, .int qm_to, .int qm_from, .int qm_kind, .int qm_number, .int qm_sign, .int qm_fault, .int qm_place, .long qm_word, .int qm_told, .ref qm_now, .ref qm_read, .ref qm_kept, .ref qm_snaps, .ref qm_aside, .ref qm_name, .ref qm_readName, .ref qm_keptName, .ref qm_isKept, .ref qm_onces, .int qm_snapMany, .ref qm_order, .ref qm_ordered, .int qm_orderMany, .int qm_orderMost, .int qm_passing, .int qm_movedWho, .int qm_scratched, .ref qm_text, .int qm_texts, .int qm_seed, .ref qm_line, .ref qm_written, .int qm_lineMany, .int qm_hasWritten, .ref qm_node, .int qm_nodes, .int qm_onesMany, .int qm_within, .int qm_top])), (qm_now, eI G 339 g385)] H _ := hw
                  exact x_retiQ hQ B hw ⟨g385, r391, rfl, rfl, fw390, fs386, ft389, (by omega)⟩ (Nat.le_of_ble_eq_true rfl) (Nat.le_of_ble_eq_true rfl) dX11_light_172
              · skip
                have c376 : j354.toInt < 8 := i_leF (X := 8) (Y := j354.toInt) rfl rfl c376
                refine lv_iload_n C.1 C.2.1 dX11_light_115 rfl (lv_at hl 1 rfl) ?_
                refine lv_iload C.1 C.2.1 dX11_light_116 (lv_at hl 0 rfl) ?_
                refine x_calliS (As := [.int r206, .int j354]) (rest := []) (wr := [(qm, .inr (10, [.int qm_thrown, .ref qm_tape, .int qm_taped, .int qm_size, .int qm_limit, .int qm_to, .int qm_from, .int qm_kind, .int qm_number, .int qm_sign, .int qm_fault, .int qm_place, .long qm_word, .int qm_told, .ref qm_now, .ref qm_read, .ref qm_kept, .ref qm_snaps, .ref qm_aside, .ref qm_name, .ref qm_readName, .ref qm_keptName, .ref qm_isKept, .ref qm_onces, .int qm_snapMany, .ref qm_order, .ref qm_ordered, .int qm_orderMany, .int qm_orderMost, .int qm_passing, .int qm_movedWho, .int qm_scratched, .ref qm_text, .int qm_texts, .int qm_seed, .ref qm_line, .ref qm_written, .int qm_lineMany, .int qm_hasWritten, .ref qm_node, .int qm_nodes, .int qm_onesMany, .int qm_within, .int qm_top])), (qm_now, eI G 339 j355)]) C hw (s_X11_has r206 j354) mwX11_has kw1426 [] [0, 1] rfl rfl rfl rfl (by decide) rfl hl.1 rfl (Nat.le_of_ble_eq_true rfl) ⟨(Nat.le_of_ble_eq_true rfl), (Nat.le_of_ble_eq_true rfl)⟩ ⟨(Nat.le_of_ble_eq_true rfl), (Nat.le_of_ble_eq_true rfl)⟩ dX11_light_118 (fun r393 u9 H locs hp9 hw => ?_)
                have J406 : ∀ (j405 : Nat → Int32), (loW qm_now_c j405) → (slI j405) → (trI j405) → ((j405 0).toInt = (qm_now_c 0).toInt) → ∀ (H : Heap) (locs : List Loc) (ls : Array Slot), Wd G s A [(qm, .inr (10, [.int qm_thrown, .ref qm_tape, .int qm_taped, .int qm_size, .int qm_limit, .int qm_to, .int qm_from, .int qm_kind, .int qm_number, .int qm_sign, .int qm_fault, .int qm_place, .long qm_word, .int qm_told, .ref qm_now, .ref qm_read, .ref qm_kept, .ref qm_snaps, .ref qm_aside, .ref qm_name, .ref qm_readName, .ref qm_keptName, .ref qm_isKept, .ref qm_onces, .int qm_snapMany, .ref qm_order, .ref qm_ordered, .int qm_orderMany, .int qm_orderMost, .int qm_passing, .int qm_movedWho, .int qm_scratched, .ref qm_text, .int qm_texts, .int qm_seed, .ref qm_line, .ref qm_written, .int qm_lineMany, .int qm_hasWritten, .ref qm_node, .int qm_nodes, .int qm_onesMany, .int qm_within, .int qm_top])), (qm_now, eI G 339 j405)] H locs → lv_has ls 5 [(4, .int j354), (3, .int r206), (0, .ref qm), (1, .int a1)] → W p l e (rmD 3 0 0) s m args below meth c H locs 0 0 Q (F0 m 138 ls []) := by
                  intro j405 hJ406_0 hJ406_1 hJ406_2 hJ406_3 H locs ls hw hl
                  obtain ⟨v408, ev408⟩ : ∃ z : Int32, j354 + 1 = z := ⟨_, rfl⟩
                  have hv408 : v408.toInt = j354.toInt + 1 := by rw [← ev408]; exact i_add rfl rfl (by omega) (by omega)
                  refine lv_iinc (v := v408) (lv' := [(4, .int v408), (3, .int r206), (0, .ref qm), (1, .int a1)]) C.1 C.2.1 dX11_light_138 hl (k := 0) rfl ev408 (by decide) rfl (fun ls hl => ?_)
                  refine lv_goto (tgt := 108) C.1 C.2.1 dX11_light_141 (by decide) ?_
                  exact ihJ356 v408 j405 (by omega) hJ406_0 hJ406_1 hJ406_2 (by omega) (by omega) _ _ _ hw (lv_sub hl [0, 1, 2, 3] rfl)
                rcases hp9 with ⟨rfl, rfl⟩ | ⟨rfl, rfl, hf394⟩
                · skip
                  have hw : Wd G s A [(qm, .inr (10, [.int qm_thrown, .ref qm_tape, .int qm_taped, .int qm_size, .int qm_limit, .int qm_to, .int qm_from, .int qm_kind, .int qm_number, .int qm_sign, .int qm_fault, .int qm_place, .long qm_word, .int qm_told, .ref qm_now, .ref qm_read, .ref qm_kept, .ref qm_snaps, .ref qm_aside, .ref qm_name, .ref qm_readName, .ref qm_keptName, .ref qm_isKept, .ref qm_onces, .int qm_snapMany, .ref qm_order, .ref qm_ordered, .int qm_orderMany, .int qm_orderMost, .int qm_passing, .int qm_movedWho, .int qm_scratched, .ref qm_text, .int qm_texts, .int qm_seed, .ref qm_line, .ref qm_written, .int qm_lineMany, .int qm_hasWritten, .ref qm_node, .int qm_nodes, .int qm_onesMany, .int qm_within, .int qm_top])), (qm_now, eI G 339 j355)] H _ := hw
                  refine lv_if_eq (tgt := 138) C.1 C.2.1 dX11_light_121 (by decide) (fun _ => ?_) (fun h9 => absurd (by decide) h9)
                  exact J406 j355  hJ356_0 hJ356_1 hJ356_2 (by omega) _ _ _ hw (lv_sub hl [0, 1, 2, 3] rfl)
                · skip
                  have hw : Wd G s A [(qm, .inr (10, [.int qm_thrown, .ref qm_tape, .int qm_taped, .int qm_size, .int qm_limit, .int qm_to, .int qm_from, .int qm_kind, .int qm_number, .int qm_sign, .int qm_fault, .int qm_place, .long qm_word, .int qm_told, .ref qm_now, .ref qm_read, .ref qm_kept, .ref qm_snaps, .ref qm_aside, .ref qm_name, .ref qm_readName, .ref qm_keptName, .ref qm_isKept, .ref qm_onces, .int qm_snapMany, .ref qm_order, .ref qm_ordered, .int qm_orderMany, .int qm_orderMost, .int qm_passing, .int qm_movedWho, .int qm_scratched, .ref qm_text, .int qm_texts, .int qm_seed, .ref qm_line, .ref qm_written, .int qm_lineMany, .int qm_hasWritten, .ref qm_node, .int qm_nodes, .int qm_onesMany, .int qm_within, .int qm_top])), (qm_now, eI G 339 j355)] H _ := hw
                  refine lv_if_eq (tgt := 138) C.1 C.2.1 dX11_light_121 (by decide) (fun h9 => absurd h9 (by decide)) (fun _ => ?_)
                  refine lv_aload_n C.1 C.2.1 dX11_light_124 rfl (lv_at hl 2 rfl) ?_
                  refine x_get C hw iwX11 10 rfl 0 rfl 14 (by decide) kw1207 rfl dX11_light_125 ?_
                  refine lv_bipush (v := 89) C.1 C.2.1 dX11_light_128 (by decide) ?_
                  refine lv_iload C.1 C.2.1 dX11_light_130 (lv_at hl 0 rfl) ?_
                  refine lv_iadd C.1 C.2.1 dX11_light_132 (x_genP (fun z : Int32 => z.toInt = 89 + j354.toInt) (i_add (X := 89) (Y := j354.toInt) rfl rfl (by omega) (by omega)) (fun v409 hv409 => ?_))
                  refine lv_dup2_11 C.1 C.2.1 dX11_light_133 rfl rfl ?_
                  refine x_iald (v := (j355 v409.toNatClampNeg)) C hw 1 rfl (i_in (by omega) (by omega)) rfl dX11_light_134 (x_gen (fun v410 => ?_))
                  refine lv_iconst (v := 1) C.1 C.2.1 dX11_light_135 (by decide) ?_
                  refine lv_iadd C.1 C.2.1 dX11_light_136 (x_gen (fun v411 => ?_))
                  obtain ⟨g412, eg412⟩ : ∃ z, upd j355 (v409.toNatClampNeg) v411 = z := ⟨_, rfl⟩
                  have mm413 := i_cn v409
                  have fs414 : slI g412 := eg412 ▸ slI_upd hJ356_1 (by intro q; omega) (by intro q; omega) (by intro q; omega)
                  have mm415 : (g412 0).toInt = (j355 0).toInt := by rw [← eg412, upd_lo (by omega)]
                  have mm416 : (g412 1).toInt = (j355 1).toInt := by rw [← eg412, upd_lo (by omega)]
                  have ft417 : trI g412 := eg412 ▸ trI_lo hJ356_2 (by omega)
                  have fw418 : loW qm_now_c g412 := eg412 ▸ loW_upd hJ356_0 (by rw [i_cn]; omega)
                  refine x_iast (f' := g412) (w' := [(qm, .inr (10, [.int qm_thrown, .ref qm_tape, .int qm_taped, .int qm_size, .int qm_limit, .int qm_to, .int qm_from, .int qm_kind, .int qm_number, .int qm_sign, .int qm_fault, .int qm_place, .long qm_word, .int qm_told, .ref qm_now, .ref qm_read, .ref qm_kept, .ref qm_snaps, .ref qm_aside, .ref qm_name, .ref qm_readName, .ref qm_keptName, .ref qm_isKept, .ref qm_onces, .int qm_snapMany, .ref qm_order, .ref qm_ordered, .int qm_orderMany, .int qm_orderMost, .int qm_passing, .int qm_movedWho, .int qm_scratched, .ref qm_text, .int qm_texts, .int qm_seed, .ref qm_line, .ref qm_written, .int qm_lineMany, .int qm_hasWritten, .ref qm_node, .int qm_nodes, .int qm_onesMany, .int qm_within, .int qm_top])), (qm_now, eI G 339 g412)]) C hw 1 rfl (i_in (by omega) (by omega)) eg412 rfl dX11_light_137 (fun H locs hw => ?_)
                  exact J406 g412  fw418 fs414 ft417 (by omega) _ _ _ hw (lv_sub hl [0, 1, 2, 3] rfl)
          exact loopJ356 _ 0 j169 (Nat.lt_succ_self _) hJ170_0 hJ170_1 hJ170_2 (by omega) (by decide) _ _ _ hw (lv_sub hl [0, 1, 2, 3] rfl)
        · skip
          have c203 : v202.toInt < v201.toInt := i_leF (X := v201.toInt) (Y := v202.toInt) rfl rfl c203
          have bc203_v201 := i_bd v201
          have bc203_v202 := i_bd v202
          refine lv_aload_n C.1 C.2.1 dX11_light_73 rfl (lv_at hl 1 rfl) ?_
          refine x_get C hw iwX11 10 rfl 0 rfl 14 (by decide) kw1207 rfl dX11_light_74 ?_
          refine lv_bipush (v := 68) C.1 C.2.1 dX11_light_77 (by decide) ?_
          refine lv_dup2_11 C.1 C.2.1 dX11_light_79 rfl rfl ?_
          refine x_iald (v := (j169 68)) C hw 1 rfl (x_in rfl) rfl dX11_light_80 (x_gen (fun v419 => ?_))
          refine lv_iload_n C.1 C.2.1 dX11_light_81 rfl (lv_at hl 2 rfl) ?_
          refine lv_ior C.1 C.2.1 dX11_light_82 (x_gen (fun v420 => ?_))
          obtain ⟨g421, eg421⟩ : ∃ z, upd j169 68 v420 = z := ⟨_, rfl⟩
          have fs422 : slI g421 := eg421 ▸ slI_upd hJ170_1 (by intro q; omega) (by intro q; omega) (by intro q; omega)
          have mm423 : (g421 0).toInt = (j169 0).toInt := by rw [← eg421, upd_ne (by omega)]
          have mm424 : (g421 1).toInt = (j169 1).toInt := by rw [← eg421, upd_ne (by omega)]
          have ft425 : trI g421 := eg421 ▸ trI_lo hJ170_2 (by omega)
          have fw426 : loW qm_now_c g421 := eg421 ▸ loW_upd hJ170_0 (by decide)
          refine x_iast (f' := g421) (w' := [(qm, .inr (10, [.int qm_thrown, .ref qm_tape, .int qm_taped, .int qm_size, .int qm_limit, .int qm_to, .int qm_from, .int qm_kind, .int qm_number, .int qm_sign, .int qm_fault, .int qm_place, .long qm_word, .int qm_told, .ref qm_now, .ref qm_read, .ref qm_kept, .ref qm_snaps, .ref qm_aside, .ref qm_name, .ref qm_readName, .ref qm_keptName, .ref qm_isKept, .ref qm_onces, .int qm_snapMany, .ref qm_order, .ref qm_ordered, .int qm_orderMany, .int qm_orderMost, .int qm_passing, .int qm_movedWho, .int qm_scratched, .ref qm_text, .int qm_texts, .int qm_seed, .ref qm_line, .ref qm_written, .int qm_lineMany, .int qm_hasWritten, .ref qm_node, .int qm_nodes, .int qm_onesMany, .int qm_within, .int qm_top])), (qm_now, eI G 339 g421)]) C hw 1 rfl (x_in rfl) eg421 rfl dX11_light_83 (fun H locs hw => ?_)
          refine lv_aload_n C.1 C.2.1 dX11_light_84 rfl (lv_at hl 1 rfl) ?_
          refine x_get C hw iwX11 10 rfl 0 rfl 14 (by decide) kw1207 rfl dX11_light_85 ?_
          refine lv_bipush (v := 66) C.1 C.2.1 dX11_light_88 (by decide) ?_
          refine lv_iconst (v := 1) C.1 C.2.1 dX11_light_90 (by decide) ?_
          obtain ⟨g427, eg427⟩ : ∃ z, upd g421 66 1 = z := ⟨_, rfl⟩
          have fs428 : slI g427 := eg427 ▸ slI_upd fs422 (by have e0 : (1 : Int32).toInt = 1 := rfl; intro q; omega) (by have e0 : (1 : Int32).toInt = 1 := rfl; intro q; omega) (by have e0 : (1 : Int32).toInt = 1 := rfl; intro q; omega)
          have mm429 : (g427 0).toInt = (g421 0).toInt := by rw [← eg427, upd_ne (by omega)]
          have mm430 : (g427 1).toInt = (g421 1).toInt := by rw [← eg427, upd_ne (by omega)]
          have ft431 : trI g427 := eg427 ▸ trI_lo ft425 (by omega)
          have fw432 : loW qm_now_c g427 := eg427 ▸ loW_upd fw426 (by decide)
          refine x_iast (f' := g427) (w' := [(qm, .inr (10, [.int qm_thrown, .ref qm_tape, .int qm_taped, .int qm_size, .int qm_limit, .int qm_to, .int qm_from, .int qm_kind, .int qm_number, .int qm_sign, .int qm_fault, .int qm_place, .long qm_word, .int qm_told, .ref qm_now, .ref qm_read, .ref qm_kept, .ref qm_snaps, .ref qm_aside, .ref qm_name, .ref qm_readName, .ref qm_keptName, .ref qm_isKept, .ref qm_onces, .int qm_snapMany, .ref qm_order, .ref qm_ordered, .int qm_orderMany, .int qm_orderMost, .int qm_passing, .int qm_movedWho, .int qm_scratched, .ref qm_text, .int qm_texts, .int qm_seed, .ref qm_line, .ref qm_written, .int qm_lineMany, .int qm_hasWritten, .ref qm_node, .int qm_nodes, .int qm_onesMany, .int qm_within, .int qm_top])), (qm_now, eI G 339 g427)]) C hw 1 rfl (x_in rfl) eg427 rfl dX11_light_91 (fun H locs hw => ?_)
          refine lv_bipush (v := (-5)) C.1 C.2.1 dX11_light_92 (by decide) ?_
          exact x_retiQ hQ B hw ⟨g427, (-5), rfl, rfl, fw432, fs428, ft431, (by omega)⟩ (Nat.le_of_ble_eq_true rfl) (Nat.le_of_ble_eq_true rfl) dX11_light_94
      · skip
        have c200 : j168.toInt < 6 := i_leF (X := 6) (Y := j168.toInt) rfl rfl c200
        refine lv_iload_n C.1 C.2.1 dX11_light_8 rfl (lv_at hl 2 rfl) ?_
        refine lv_iload_n C.1 C.2.1 dX11_light_9 rfl (lv_at hl 0 rfl) ?_
        refine x_calliS (As := [.int a1, .int j168]) (rest := []) (wr := [(qm, .inr (10, [.int qm_thrown, .ref qm_tape, .int qm_taped, .int qm_size, .int qm_limit, .int qm_to, .int qm_from, .int qm_kind, .int qm_number, .int qm_sign, .int qm_fault, .int qm_place, .long qm_word, .int qm_told, .ref qm_now, .ref qm_read, .ref qm_kept, .ref qm_snaps, .ref qm_aside, .ref qm_name, .ref qm_readName, .ref qm_keptName, .ref qm_isKept, .ref qm_onces, .int qm_snapMany, .ref qm_order, .ref qm_ordered, .int qm_orderMany, .int qm_orderMost, .int qm_passing, .int qm_movedWho, .int qm_scratched, .ref qm_text, .int qm_texts, .int qm_seed, .ref qm_line, .ref qm_written, .int qm_lineMany, .int qm_hasWritten, .ref qm_node, .int qm_nodes, .int qm_onesMany, .int qm_within, .int qm_top])), (qm_now, eI G 339 j169)]) C hw (s_X11_has a1 j168) mwX11_has kw1426 [] [0, 1] rfl rfl rfl rfl (by decide) rfl hl.1 rfl (Nat.le_of_ble_eq_true rfl) ⟨(Nat.le_of_ble_eq_true rfl), (Nat.le_of_ble_eq_true rfl)⟩ ⟨(Nat.le_of_ble_eq_true rfl), (Nat.le_of_ble_eq_true rfl)⟩ dX11_light_10 (fun r433 u9 H locs hp9 hw => ?_)
        have J456 : ∀ (j455 : Nat → Int32), (loW qm_now_c j455) → (slI j455) → (trI j455) → ((j455 0).toInt = (qm_now_c 0).toInt) → ∀ (H : Heap) (locs : List Loc) (ls : Array Slot), Wd G s A [(qm, .inr (10, [.int qm_thrown, .ref qm_tape, .int qm_taped, .int qm_size, .int qm_limit, .int qm_to, .int qm_from, .int qm_kind, .int qm_number, .int qm_sign, .int qm_fault, .int qm_place, .long qm_word, .int qm_told, .ref qm_now, .ref qm_read, .ref qm_kept, .ref qm_snaps, .ref qm_aside, .ref qm_name, .ref qm_readName, .ref qm_keptName, .ref qm_isKept, .ref qm_onces, .int qm_snapMany, .ref qm_order, .ref qm_ordered, .int qm_orderMany, .int qm_orderMost, .int qm_passing, .int qm_movedWho, .int qm_scratched, .ref qm_text, .int qm_texts, .int qm_seed, .ref qm_line, .ref qm_written, .int qm_lineMany, .int qm_hasWritten, .ref qm_node, .int qm_nodes, .int qm_onesMany, .int qm_within, .int qm_top])), (qm_now, eI G 339 j455)] H locs → lv_has ls 5 [(3, .int j168), (0, .ref qm), (1, .int a1), (2, .int a2)] → W p l e (rmD 3 0 0) s m args below meth c H locs 0 0 Q (F0 m 51 ls []) := by
          intro j455 hJ456_0 hJ456_1 hJ456_2 hJ456_3 H locs ls hw hl
          obtain ⟨v458, ev458⟩ : ∃ z : Int32, j168 + 1 = z := ⟨_, rfl⟩
          have hv458 : v458.toInt = j168.toInt + 1 := by rw [← ev458]; exact i_add rfl rfl (by omega) (by omega)
          refine lv_iinc (v := v458) (lv' := [(3, .int v458), (0, .ref qm), (1, .int a1), (2, .int a2)]) C.1 C.2.1 dX11_light_51 hl (k := 0) rfl ev458 (by decide) rfl (fun ls hl => ?_)
          refine lv_goto (tgt := 2) C.1 C.2.1 dX11_light_54 (by decide) ?_
          exact ihJ170 v458 j455 (by omega) hJ456_0 hJ456_1 hJ456_2 (by omega) (by omega) _ _ _ hw (lv_sub hl [0, 1, 2, 3] rfl)
        rcases hp9 with ⟨rfl, rfl⟩ | ⟨rfl, rfl, hf434⟩
        · skip
          have hw : Wd G s A [(qm, .inr (10, [.int qm_thrown, .ref qm_tape, .int qm_taped, .int qm_size, .int qm_limit, .int qm_to, .int qm_from, .int qm_kind, .int qm_number, .int qm_sign, .int qm_fault, .int qm_place, .long qm_word, .int qm_told, .ref qm_now, .ref qm_read, .ref qm_kept, .ref qm_snaps, .ref qm_aside, .ref qm_name, .ref qm_readName, .ref qm_keptName, .ref qm_isKept, .ref qm_onces, .int qm_snapMany, .ref qm_order, .ref qm_ordered, .int qm_orderMany, .int qm_orderMost, .int qm_passing, .int qm_movedWho, .int qm_scratched, .ref qm_text, .int qm_texts, .int qm_seed, .ref qm_line, .ref qm_written, .int qm_lineMany, .int qm_hasWritten, .ref qm_node, .int qm_nodes, .int qm_onesMany, .int qm_within, .int qm_top])), (qm_now, eI G 339 j169)] H _ := hw
          refine lv_if_ne (tgt := 19) C.1 C.2.1 dX11_light_13 (by decide) (fun h9 => absurd (by decide) h9) (fun _ => ?_)
          refine lv_goto (tgt := 51) C.1 C.2.1 dX11_light_16 (by decide) ?_
          exact J456 j169  hJ170_0 hJ170_1 hJ170_2 (by omega) _ _ _ hw (lv_sub hl [0, 1, 2, 3] rfl)
        · skip
          have hw : Wd G s A [(qm, .inr (10, [.int qm_thrown, .ref qm_tape, .int qm_taped, .int qm_size, .int qm_limit, .int qm_to, .int qm_from, .int qm_kind, .int qm_number, .int qm_sign, .int qm_fault, .int qm_place, .long qm_word, .int qm_told, .ref qm_now, .ref qm_read, .ref qm_kept, .ref qm_snaps, .ref qm_aside, .ref qm_name, .ref qm_readName, .ref qm_keptName, .ref qm_isKept, .ref qm_onces, .int qm_snapMany, .ref qm_order, .ref qm_ordered, .int qm_orderMany, .int qm_orderMost, .int qm_passing, .int qm_movedWho, .int qm_scratched, .ref qm_text, .int qm_texts, .int qm_seed, .ref qm_line, .ref qm_written, .int qm_lineMany, .int qm_hasWritten, .ref qm_node, .int qm_nodes, .int qm_onesMany, .int qm_within, .int qm_top])), (qm_now, eI G 339 j169)] H _ := hw
          refine lv_if_ne (tgt := 19) C.1 C.2.1 dX11_light_13 (by decide) (fun _ => ?_) (fun h9 => absurd h9 (by decide))
          refine lv_aload_n C.1 C.2.1 dX11_light_19 rfl (lv_at hl 1 rfl) ?_
          refine x_get C hw iwX11 10 rfl 0 rfl 14 (by decide) kw1207 rfl dX11_light_20 ?_
          refine lv_bipush (v := 65) C.1 C.2.1 dX11_light_23 (by decide) ?_
          refine lv_dup2_11 C.1 C.2.1 dX11_light_25 rfl rfl ?_
          refine x_iald (v := (j169 65)) C hw 1 rfl (x_in rfl) rfl dX11_light_26 (x_gen (fun v459 => ?_))
          refine lv_aload_n C.1 C.2.1 dX11_light_27 rfl (lv_at hl 1 rfl) ?_
          refine x_get C hw iwX11 10 rfl 0 rfl 14 (by decide) kw1207 rfl dX11_light_28 ?_
          refine lv_bipush (v := 12) C.1 C.2.1 dX11_light_31 (by decide) ?_
          refine lv_iload_n C.1 C.2.1 dX11_light_33 rfl (lv_at hl 0 rfl) ?_
          refine lv_iadd C.1 C.2.1 dX11_light_34 (x_genP (fun z : Int32 => z.toInt = 12 + j168.toInt) (i_add (X := 12) (Y := j168.toInt) rfl rfl (by omega) (by omega)) (fun v460 hv460 => ?_))
          refine x_iald (v := (j169 v460.toNatClampNeg)) C hw 1 rfl (i_in (by omega) (by omega)) rfl dX11_light_35 (x_gen (fun v461 => ?_))
          refine lv_iadd C.1 C.2.1 dX11_light_36 (x_gen (fun v462 => ?_))
          obtain ⟨g463, eg463⟩ : ∃ z, upd j169 65 v462 = z := ⟨_, rfl⟩
          have fs464 : slI g463 := eg463 ▸ slI_upd hJ170_1 (by intro q; omega) (by intro q; omega) (by intro q; omega)
          have mm465 : (g463 0).toInt = (j169 0).toInt := by rw [← eg463, upd_ne (by omega)]
          have mm466 : (g463 1).toInt = (j169 1).toInt := by rw [← eg463, upd_ne (by omega)]
          have ft467 : trI g463 := eg463 ▸ trI_lo hJ170_2 (by omega)
          have fw468 : loW qm_now_c g463 := eg463 ▸ loW_upd hJ170_0 (by decide)
          refine x_iast (f' := g463) (w' := [(qm, .inr (10, [.int qm_thrown, .ref qm_tape, .int qm_taped, .int qm_size, .int qm_limit, .int qm_to, .int qm_from, .int qm_kind, .int qm_number, .int qm_sign, .int qm_fault, .int qm_place, .long qm_word, .int qm_told, .ref qm_now, .ref qm_read, .ref qm_kept, .ref qm_snaps, .ref qm_aside, .ref qm_name, .ref qm_readName, .ref qm_keptName, .ref qm_isKept, .ref qm_onces, .int qm_snapMany, .ref qm_order, .ref qm_ordered, .int qm_orderMany, .int qm_orderMost, .int qm_passing, .int qm_movedWho, .int qm_scratched, .ref qm_text, .int qm_texts, .int qm_seed, .ref qm_line, .ref qm_written, .int qm_lineMany, .int qm_hasWritten, .ref qm_node, .int qm_nodes, .int qm_onesMany, .int qm_within, .int qm_top])), (qm_now, eI G 339 g463)]) C hw 1 rfl (x_in rfl) eg463 rfl dX11_light_37 (fun H locs hw => ?_)
          refine lv_aload_n C.1 C.2.1 dX11_light_38 rfl (lv_at hl 1 rfl) ?_
          refine x_get C hw iwX11 10 rfl 0 rfl 14 (by decide) kw1207 rfl dX11_light_39 ?_
          refine lv_bipush (v := 75) C.1 C.2.1 dX11_light_42 (by decide) ?_
          refine lv_iload_n C.1 C.2.1 dX11_light_44 rfl (lv_at hl 0 rfl) ?_
          refine lv_iadd C.1 C.2.1 dX11_light_45 (x_genP (fun z : Int32 => z.toInt = 75 + j168.toInt) (i_add (X := 75) (Y := j168.toInt) rfl rfl (by omega) (by omega)) (fun v469 hv469 => ?_))
          refine lv_dup2_11 C.1 C.2.1 dX11_light_46 rfl rfl ?_
          refine x_iald (v := (g463 v469.toNatClampNeg)) C hw 1 rfl (i_in (by omega) (by omega)) rfl dX11_light_47 (x_gen (fun v470 => ?_))
          refine lv_iconst (v := 1) C.1 C.2.1 dX11_light_48 (by decide) ?_
          refine lv_iadd C.1 C.2.1 dX11_light_49 (x_gen (fun v471 => ?_))
          obtain ⟨g472, eg472⟩ : ∃ z, upd g463 (v469.toNatClampNeg) v471 = z := ⟨_, rfl⟩
          have mm473 := i_cn v469
          have fs474 : slI g472 := eg472 ▸ slI_upd fs464 (by intro q; omega) (by intro q; omega) (by intro q; omega)
          have mm475 : (g472 0).toInt = (g463 0).toInt := by rw [← eg472, upd_lo (by omega)]
          have mm476 : (g472 1).toInt = (g463 1).toInt := by rw [← eg472, upd_lo (by omega)]
          have ft477 : trI g472 := eg472 ▸ trI_lo ft467 (by omega)
          have fw478 : loW qm_now_c g472 := eg472 ▸ loW_upd fw468 (by rw [i_cn]; omega)
          refine x_iast (f' := g472) (w' := [(qm, .inr (10, [.int qm_thrown, .ref qm_tape, .int qm_taped, .int qm_size, .int qm_limit, .int qm_to, .int qm_from, .int qm_kind, .int qm_number, .int qm_sign, .int qm_fault, .int qm_place, .long qm_word, .int qm_told, .ref qm_now, .ref qm_read, .ref qm_kept, .ref qm_snaps, .ref qm_aside, .ref qm_name, .ref qm_readName, .ref qm_keptName, .ref qm_isKept, .ref qm_onces, .int qm_snapMany, .ref qm_order, .ref qm_ordered, .int qm_orderMany, .int qm_orderMost, .int qm_passing, .int qm_movedWho, .int qm_scratched, .ref qm_text, .int qm_texts, .int qm_seed, .ref qm_line, .ref qm_written, .int qm_lineMany, .int qm_hasWritten, .ref qm_node, .int qm_nodes, .int qm_onesMany, .int qm_within, .int qm_top])), (qm_now, eI G 339 g472)]) C hw 1 rfl (i_in (by omega) (by omega)) eg472 rfl dX11_light_50 (fun H locs hw => ?_)
          exact J456 g472  fw478 fs474 ft477 (by omega) _ _ _ hw (lv_sub hl [0, 1, 2, 3] rfl)
  exact loopJ170 _ 0 qm_now_c (Nat.lt_succ_self _) (loW_rfl qm_now_c) hf_qm_now_c hf1_qm_now_c (by omega) (by decide) _ _ _ hw (lv_sub hl [0, 1, 2, 3] rfl)
theorem dX11_live_0 : decode cX11_live 0 = .ok (.iload_n 1, 1) := by decide +kernel
theorem dX11_live_1 : decode cX11_live 1 = .ok (.tableswitch 96 0 2 #[27, 48, 79], 27) := by decide +kernel
theorem dX11_live_28 : decode cX11_live 28 = .ok (.aload_n 0, 1) := by decide +kernel
theorem dX11_live_29 : decode cX11_live 29 = .ok (.iconst 1, 1) := by decide +kernel
theorem dX11_live_30 : decode cX11_live 30 = .ok (.iload_n 2, 1) := by decide +kernel
theorem dX11_live_31 : decode cX11_live 31 = .ok (.ishl, 1) := by decide +kernel
theorem dX11_live_32 : decode cX11_live 32 = .ok (.aload_n 0, 1) := by decide +kernel
theorem dX11_live_33 : decode cX11_live 33 = .ok (.getfield 98, 3) := by decide +kernel
theorem dX11_live_36 : decode cX11_live 36 = .ok (.bipush 69, 2) := by decide +kernel
theorem dX11_live_38 : decode cX11_live 38 = .ok (.iload_n 2, 1) := by decide +kernel
theorem dX11_live_39 : decode cX11_live 39 = .ok (.iadd, 1) := by decide +kernel
theorem dX11_live_40 : decode cX11_live 40 = .ok (.iaload, 1) := by decide +kernel
theorem dX11_live_41 : decode cX11_live 41 = .ok (.iload_n 3, 1) := by decide +kernel
theorem dX11_live_42 : decode cX11_live 42 = .ok (.invokestatic 234, 3) := by decide +kernel
theorem dX11_live_45 : decode cX11_live 45 = .ok (.invokevirtual 282, 3) := by decide +kernel
theorem mwX11_light : MwV yX11_light cX11_light 5 (some .int) 2 := ⟨⟨kw1572, kw15, by decide +kernel⟩, kw1571, kS85⟩
theorem dX11_live_48 : decode cX11_live 48 = .ok (.ireturn, 1) := by decide +kernel
theorem dX11_live_49 : decode cX11_live 49 = .ok (.aload_n 0, 1) := by decide +kernel
theorem dX11_live_50 : decode cX11_live 50 = .ok (.iconst 1, 1) := by decide +kernel
theorem dX11_live_51 : decode cX11_live 51 = .ok (.iload_n 2, 1) := by decide +kernel
theorem dX11_live_52 : decode cX11_live 52 = .ok (.ishl, 1) := by decide +kernel
theorem dX11_live_53 : decode cX11_live 53 = .ok (.iconst 1, 1) := by decide +kernel
theorem dX11_live_54 : decode cX11_live 54 = .ok (.iload_n 3, 1) := by decide +kernel
theorem dX11_live_55 : decode cX11_live 55 = .ok (.ishl, 1) := by decide +kernel
theorem dX11_live_56 : decode cX11_live 56 = .ok (.ior, 1) := by decide +kernel
theorem dX11_live_57 : decode cX11_live 57 = .ok (.aload_n 0, 1) := by decide +kernel
theorem dX11_live_58 : decode cX11_live 58 = .ok (.getfield 98, 3) := by decide +kernel
theorem dX11_live_61 : decode cX11_live 61 = .ok (.bipush 69, 2) := by decide +kernel
theorem dX11_live_63 : decode cX11_live 63 = .ok (.iload_n 2, 1) := by decide +kernel
theorem dX11_live_64 : decode cX11_live 64 = .ok (.iadd, 1) := by decide +kernel
theorem dX11_live_65 : decode cX11_live 65 = .ok (.iaload, 1) := by decide +kernel
theorem dX11_live_66 : decode cX11_live 66 = .ok (.aload_n 0, 1) := by decide +kernel
theorem dX11_live_67 : decode cX11_live 67 = .ok (.getfield 98, 3) := by decide +kernel
theorem dX11_live_70 : decode cX11_live 70 = .ok (.bipush 69, 2) := by decide +kernel
theorem dX11_live_72 : decode cX11_live 72 = .ok (.iload_n 3, 1) := by decide +kernel
theorem dX11_live_73 : decode cX11_live 73 = .ok (.iadd, 1) := by decide +kernel
theorem dX11_live_74 : decode cX11_live 74 = .ok (.iaload, 1) := by decide +kernel
theorem dX11_live_75 : decode cX11_live 75 = .ok (.ior, 1) := by decide +kernel
theorem dX11_live_76 : decode cX11_live 76 = .ok (.invokevirtual 282, 3) := by decide +kernel
theorem dX11_live_79 : decode cX11_live 79 = .ok (.ireturn, 1) := by decide +kernel
theorem dX11_live_80 : decode cX11_live 80 = .ok (.aload_n 0, 1) := by decide +kernel
theorem dX11_live_81 : decode cX11_live 81 = .ok (.getfield 98, 3) := by decide +kernel
theorem dX11_live_84 : decode cX11_live 84 = .ok (.bipush 69, 2) := by decide +kernel
theorem dX11_live_86 : decode cX11_live 86 = .ok (.iload_n 2, 1) := by decide +kernel
theorem dX11_live_87 : decode cX11_live 87 = .ok (.iadd, 1) := by decide +kernel
theorem dX11_live_88 : decode cX11_live 88 = .ok (.dup2, 1) := by decide +kernel
theorem dX11_live_89 : decode cX11_live 89 = .ok (.iaload, 1) := by decide +kernel
theorem dX11_live_90 : decode cX11_live 90 = .ok (.iconst 1, 1) := by decide +kernel
theorem dX11_live_91 : decode cX11_live 91 = .ok (.iload_n 3, 1) := by decide +kernel
theorem dX11_live_92 : decode cX11_live 92 = .ok (.ishl, 1) := by decide +kernel
theorem dX11_live_93 : decode cX11_live 93 = .ok (.ixor, 1) := by decide +kernel
theorem dX11_live_94 : decode cX11_live 94 = .ok (.iastore, 1) := by decide +kernel
theorem dX11_live_95 : decode cX11_live 95 = .ok (.iconst 0, 1) := by decide +kernel
theorem dX11_live_96 : decode cX11_live 96 = .ok (.ireturn, 1) := by decide +kernel
theorem dX11_live_97 : decode cX11_live 97 = .ok (.aload_n 0, 1) := by decide +kernel
theorem dX11_live_98 : decode cX11_live 98 = .ok (.getfield 98, 3) := by decide +kernel
theorem dX11_live_101 : decode cX11_live 101 = .ok (.bipush 81, 2) := by decide +kernel
theorem dX11_live_103 : decode cX11_live 103 = .ok (.iload_n 2, 1) := by decide +kernel
theorem dX11_live_104 : decode cX11_live 104 = .ok (.iadd, 1) := by decide +kernel
theorem dX11_live_105 : decode cX11_live 105 = .ok (.iload_n 3, 1) := by decide +kernel
theorem dX11_live_106 : decode cX11_live 106 = .ok (.iastore, 1) := by decide +kernel
theorem dX11_live_107 : decode cX11_live 107 = .ok (.iconst 0, 1) := by decide +kernel
theorem dX11_live_108 : decode cX11_live 108 = .ok (.ireturn, 1) := by decide +kernel
set_option maxHeartbeats 4000000 in
set_option maxRecDepth 100000 in
theorem s_X11_live {l : Launch} {G : Gc} (qm : Nat) (a1 : Int32) (a2 : Int32) (a3 : Int32) (qm_thrown : Int32) (qm_tape : Nat) (qm_taped : Int32) (qm_size : Int32) (qm_limit : Int32) (qm_to : Int32) (qm_from : Int32) (qm_kind : Int32) (qm_number : Int32) (qm_sign : Int32) (qm_fault : Int32) (qm_place : Int32) (qm_word : Int64) (qm_told : Int32) (qm_now : Nat) (qm_read : Nat) (qm_kept : Nat) (qm_snaps : Nat) (qm_aside : Nat) (qm_name : Nat) (qm_readName : Nat) (qm_keptName : Nat) (qm_isKept : Nat) (qm_onces : Nat) (qm_snapMany : Int32) (qm_order : Nat) (qm_ordered : Nat) (qm_orderMany : Int32) (qm_orderMost : Int32) (qm_passing : Int32) (qm_movedWho : Int32) (qm_scratched : Int32) (qm_text : Nat) (qm_texts : Int32) (qm_seed : Int32) (qm_line : Nat) (qm_written : Nat) (qm_lineMany : Int32) (qm_hasWritten : Int32) (qm_node : Nat) (qm_nodes : Int32) (qm_onesMany : Int32) (qm_within : Int32) (qm_top : Int32) (qm_now_c : Nat → Int32) (hi_a2 : (-1) ≤ a2.toInt ∧ a2.toInt ≤ 7) (hi_a3 : (-1) ≤ a3.toInt ∧ a3.toInt ≤ 24) (hf_qm_now_c : slI qm_now_c) (hf1_qm_now_c : trI qm_now_c) : Ci l yX11_live cX11_live 4 (some .int) 4 0 0 G [.ref qm, .int a1, .int a2, .int a3] [(qm, .inr (10, [.int qm_thrown, .ref qm_tape, .int qm_taped, .int qm_size, .int qm_limit, .int qm_to, .int qm_from, .int qm_kind, .int qm_number, .int qm_sign, .int qm_fault, .int qm_place, .long qm_word, .int qm_told, .ref qm_now, .ref qm_read, .ref qm_kept, .ref qm_snaps, .ref qm_aside, .ref qm_name, .ref qm_readName, .ref qm_keptName, .ref qm_isKept, .ref qm_onces, .int qm_snapMany, .ref qm_order, .ref qm_ordered, .int qm_orderMany, .int qm_orderMost, .int qm_passing, .int qm_movedWho, .int qm_scratched, .ref qm_text, .int qm_texts, .int qm_seed, .ref qm_line, .ref qm_written, .int qm_lineMany, .int qm_hasWritten, .ref qm_node, .int qm_nodes, .int qm_onesMany, .int qm_within, .int qm_top])), (qm_now, eI G 339 qm_now_c)] (fun (r9 : Int32) (u9 : va_W) => ∃ (x0_qm_now_c : Nat → Int32) (r_x : Int32), r9 = r_x ∧ u9 = [(qm, .inr (10, [.int qm_thrown, .ref qm_tape, .int qm_taped, .int qm_size, .int qm_limit, .int qm_to, .int qm_from, .int qm_kind, .int qm_number, .int qm_sign, .int qm_fault, .int qm_place, .long qm_word, .int qm_told, .ref qm_now, .ref qm_read, .ref qm_kept, .ref qm_snaps, .ref qm_aside, .ref qm_name, .ref qm_readName, .ref qm_keptName, .ref qm_isKept, .ref qm_onces, .int qm_snapMany, .ref qm_order, .ref qm_ordered, .int qm_orderMany, .int qm_orderMost, .int qm_passing, .int qm_movedWho, .int qm_scratched, .ref qm_text, .int qm_texts, .int qm_seed, .ref qm_line, .ref qm_written, .int qm_lineMany, .int qm_hasWritten, .ref qm_node, .int qm_nodes, .int qm_onesMany, .int qm_within, .int qm_top])), (qm_now, eI G 339 x0_qm_now_c)] ∧ (loW qm_now_c x0_qm_now_c) ∧ (slI x0_qm_now_c) ∧ (trI x0_qm_now_c) ∧ ((x0_qm_now_c 0).toInt = (qm_now_c 0).toInt)) := by
  refine Ci.ofQ (by decide) (Nat.le_of_ble_eq_true rfl) ?_
  intro p e s m below meth c ls A args Q hQ B hw hl
  have C : CallFix p m c cX11_live 4 s args gw "LanternStateModel" := B.1
  have hl : lv_has ls 4 [(0, .ref qm), (1, .int a1), (2, .int a2), (3, .int a3)] := hl
  refine lv_iload_n C.1 C.2.1 dX11_live_0 rfl (lv_at hl 1 rfl) ?_
  have k1 : a1.toInt = 0 ∨ a1.toInt = 1 ∨ a1.toInt = 2 ∨ (a1.toInt ≠ 0 ∧ a1.toInt ≠ 1 ∧ a1.toInt ≠ 2) := by omega
  rcases k1 with k1 | k1 | k1 | k1
  · skip
    have k1 : a1 = 0 := Int32.toInt_inj.mp (by rw [k1]; rfl)
    refine x_topi (z := 0) k1 ?_
    refine lv_tableIn (off := 27) (tgt := 28) C.1 C.2.1 dX11_live_1 (by decide) (by decide) rfl (by decide) ?_
    have ha1_ := congrArg Int32.toInt k1
    have ha1_ : a1.toInt = 0 := ha1_
    refine lv_aload_n C.1 C.2.1 dX11_live_28 rfl (lv_at hl 0 rfl) ?_
    refine lv_iconst (v := 1) C.1 C.2.1 dX11_live_29 (by decide) ?_
    refine lv_iload_n C.1 C.2.1 dX11_live_30 rfl (lv_at hl 2 rfl) ?_
    refine lv_ishl C.1 C.2.1 dX11_live_31 (x_gen (fun v2 => ?_))
    refine lv_aload_n C.1 C.2.1 dX11_live_32 rfl (lv_at hl 0 rfl) ?_
    refine x_get C hw iwX11 10 rfl 0 rfl 14 (by decide) kw1207 rfl dX11_live_33 ?_
    refine lv_bipush (v := 69) C.1 C.2.1 dX11_live_36 (by decide) ?_
    refine lv_iload_n C.1 C.2.1 dX11_live_38 rfl (lv_at hl 2 rfl) ?_
    refine lv_iadd C.1 C.2.1 dX11_live_39 (x_genP (fun z : Int32 => z.toInt = 69 + a2.toInt) (i_add (X := 69) (Y := a2.toInt) rfl rfl (by omega) (by omega)) (fun v3 hv3 => ?_))
    refine x_iald (v := (qm_now_c v3.toNatClampNeg)) C hw 1 rfl (i_in (by omega) (by omega)) rfl dX11_live_40 (x_gen (fun v4 => ?_))
    refine lv_iload_n C.1 C.2.1 dX11_live_41 rfl (lv_at hl 3 rfl) ?_
    refine x_calliS (As := [.int v4, .int a3]) (rest := [.int v2, .ref qm]) (wr := [(qm, .inr (10, [.int qm_thrown, .ref qm_tape, .int qm_taped, .int qm_size, .int qm_limit, .int qm_to, .int qm_from, .int qm_kind, .int qm_number, .int qm_sign, .int qm_fault, .int qm_place, .long qm_word, .int qm_told, .ref qm_now, .ref qm_read, .ref qm_kept, .ref qm_snaps, .ref qm_aside, .ref qm_name, .ref qm_readName, .ref qm_keptName, .ref qm_isKept, .ref qm_onces, .int qm_snapMany, .ref qm_order, .ref qm_ordered, .int qm_orderMany, .int qm_orderMost, .int qm_passing, .int qm_movedWho, .int qm_scratched, .ref qm_text, .int qm_texts, .int qm_seed, .ref qm_line, .ref qm_written, .int qm_lineMany, .int qm_hasWritten, .ref qm_node, .int qm_nodes, .int qm_onesMany, .int qm_within, .int qm_top])), (qm_now, eI G 339 qm_now_c)]) C hw (s_X11_turned v4 a3) mwX11_turned kw1491 [] [0, 1] rfl rfl rfl rfl (by decide) rfl hl.1 rfl (Nat.le_of_ble_eq_true rfl) ⟨(Nat.le_of_ble_eq_true rfl), (Nat.le_of_ble_eq_true rfl)⟩ ⟨(Nat.le_of_ble_eq_true rfl), (Nat.le_of_ble_eq_true rfl)⟩ dX11_live_42 (fun r5 u9 H locs hp9 hw => ?_)
    obtain ⟨x6, rfl, rfl⟩ := hp9
    have hw : Wd G s A [(qm, .inr (10, [.int qm_thrown, .ref qm_tape, .int qm_taped, .int qm_size, .int qm_limit, .int qm_to, .int qm_from, .int qm_kind, .int qm_number, .int qm_sign, .int qm_fault, .int qm_place, .long qm_word, .int qm_told, .ref qm_now, .ref qm_read, .ref qm_kept, .ref qm_snaps, .ref qm_aside, .ref qm_name, .ref qm_readName, .ref qm_keptName, .ref qm_isKept, .ref qm_onces, .int qm_snapMany, .ref qm_order, .ref qm_ordered, .int qm_orderMany, .int qm_orderMost, .int qm_passing, .int qm_movedWho, .int qm_scratched, .ref qm_text, .int qm_texts, .int qm_seed, .ref qm_line, .ref qm_written, .int qm_lineMany, .int qm_hasWritten, .ref qm_node, .int qm_nodes, .int qm_onesMany, .int qm_within, .int qm_top])), (qm_now, eI G 339 qm_now_c)] H _ := hw
    refine x_calliV (As := [.int v2, .int r5]) (rest := []) (wr := []) C hw (s_X11_light qm v2 r5 qm_thrown qm_tape qm_taped qm_size qm_limit qm_to qm_from qm_kind qm_number qm_sign qm_fault qm_place qm_word qm_told qm_now qm_read qm_kept qm_snaps qm_aside qm_name qm_readName qm_keptName qm_isKept qm_onces qm_snapMany qm_order qm_ordered qm_orderMany qm_orderMost qm_passing qm_movedWho qm_scratched qm_text qm_texts qm_seed qm_line qm_written qm_lineMany qm_hasWritten qm_node qm_nodes qm_onesMany qm_within qm_top qm_now_c hf_qm_now_c hf1_qm_now_c) mwX11_light kw1569 [0, 1] [] rfl rfl rfl rfl (by decide) 0 rfl rfl rfl rfl hl.1 rfl (Nat.le_of_ble_eq_true rfl) ⟨(Nat.le_of_ble_eq_true rfl), (Nat.le_of_ble_eq_true rfl)⟩ ⟨(Nat.le_of_ble_eq_true rfl), (Nat.le_of_ble_eq_true rfl)⟩ dX11_live_45 (fun r7 u9 H locs hp9 hw => ?_)
    obtain ⟨x8, x9, rfl, rfl, hf10, hf11, hf12, hf13⟩ := hp9
    have hw : Wd G s A [(qm, .inr (10, [.int qm_thrown, .ref qm_tape, .int qm_taped, .int qm_size, .int qm_limit, .int qm_to, .int qm_from, .int qm_kind, .int qm_number, .int qm_sign, .int qm_fault, .int qm_place, .long qm_word, .int qm_told, .ref qm_now, .ref qm_read, .ref qm_kept, .ref qm_snaps, .ref qm_aside, .ref qm_name, .ref qm_readName, .ref qm_keptName, .ref qm_isKept, .ref qm_onces, .int qm_snapMany, .ref qm_order, .ref qm_ordered, .int qm_orderMany, .int qm_orderMost, .int qm_passing, .int qm_movedWho, .int qm_scratched, .ref qm_text, .int qm_texts, .int qm_seed, .ref qm_line, .ref qm_written, .int qm_lineMany, .int qm_hasWritten, .ref qm_node, .int qm_nodes, .int qm_onesMany, .int qm_within, .int qm_top])), (qm_now, eI G 339 x8)] H _ := hw
    exact x_retiQ hQ B hw ⟨x8, r7, rfl, rfl, hf10, hf11, hf12, (by omega)⟩ (Nat.le_of_ble_eq_true rfl) (Nat.le_of_ble_eq_true rfl) dX11_live_48
  · skip
    have k1 : a1 = 1 := Int32.toInt_inj.mp (by rw [k1]; rfl)
    refine x_topi (z := 1) k1 ?_
    refine lv_tableIn (off := 48) (tgt := 49) C.1 C.2.1 dX11_live_1 (by decide) (by decide) rfl (by decide) ?_
    have ha1_ := congrArg Int32.toInt k1
    have ha1_ : a1.toInt = 1 := ha1_
    refine lv_aload_n C.1 C.2.1 dX11_live_49 rfl (lv_at hl 0 rfl) ?_
    refine lv_iconst (v := 1) C.1 C.2.1 dX11_live_50 (by decide) ?_
    refine lv_iload_n C.1 C.2.1 dX11_live_51 rfl (lv_at hl 2 rfl) ?_
    refine lv_ishl C.1 C.2.1 dX11_live_52 (x_gen (fun v14 => ?_))
    refine lv_iconst (v := 1) C.1 C.2.1 dX11_live_53 (by decide) ?_
    refine lv_iload_n C.1 C.2.1 dX11_live_54 rfl (lv_at hl 3 rfl) ?_
    refine lv_ishl C.1 C.2.1 dX11_live_55 (x_gen (fun v15 => ?_))
    refine lv_ior C.1 C.2.1 dX11_live_56 (x_gen (fun v16 => ?_))
    refine lv_aload_n C.1 C.2.1 dX11_live_57 rfl (lv_at hl 0 rfl) ?_
    refine x_get C hw iwX11 10 rfl 0 rfl 14 (by decide) kw1207 rfl dX11_live_58 ?_
    refine lv_bipush (v := 69) C.1 C.2.1 dX11_live_61 (by decide) ?_
    refine lv_iload_n C.1 C.2.1 dX11_live_63 rfl (lv_at hl 2 rfl) ?_
    refine lv_iadd C.1 C.2.1 dX11_live_64 (x_genP (fun z : Int32 => z.toInt = 69 + a2.toInt) (i_add (X := 69) (Y := a2.toInt) rfl rfl (by omega) (by omega)) (fun v17 hv17 => ?_))
    refine x_iald (v := (qm_now_c v17.toNatClampNeg)) C hw 1 rfl (i_in (by omega) (by omega)) rfl dX11_live_65 (x_gen (fun v18 => ?_))
    refine lv_aload_n C.1 C.2.1 dX11_live_66 rfl (lv_at hl 0 rfl) ?_
    refine x_get C hw iwX11 10 rfl 0 rfl 14 (by decide) kw1207 rfl dX11_live_67 ?_
    refine lv_bipush (v := 69) C.1 C.2.1 dX11_live_70 (by decide) ?_
    refine lv_iload_n C.1 C.2.1 dX11_live_72 rfl (lv_at hl 3 rfl) ?_
    refine lv_iadd C.1 C.2.1 dX11_live_73 (x_genP (fun z : Int32 => z.toInt = 69 + a3.toInt) (i_add (X := 69) (Y := a3.toInt) rfl rfl (by omega) (by omega)) (fun v19 hv19 => ?_))
    refine x_iald (v := (qm_now_c v19.toNatClampNeg)) C hw 1 rfl (i_in (by omega) (by omega)) rfl dX11_live_74 (x_gen (fun v20 => ?_))
    refine lv_ior C.1 C.2.1 dX11_live_75 (x_gen (fun v21 => ?_))
    refine x_calliV (As := [.int v16, .int v21]) (rest := []) (wr := []) C hw (s_X11_light qm v16 v21 qm_thrown qm_tape qm_taped qm_size qm_limit qm_to qm_from qm_kind qm_number qm_sign qm_fault qm_place qm_word qm_told qm_now qm_read qm_kept qm_snaps qm_aside qm_name qm_readName qm_keptName qm_isKept qm_onces qm_snapMany qm_order qm_ordered qm_orderMany qm_orderMost qm_passing qm_movedWho qm_scratched qm_text qm_texts qm_seed qm_line qm_written qm_lineMany qm_hasWritten qm_node qm_nodes qm_onesMany qm_within qm_top qm_now_c hf_qm_now_c hf1_qm_now_c) mwX11_light kw1569 [0, 1] [] rfl rfl rfl rfl (by decide) 0 rfl rfl rfl rfl hl.1 rfl (Nat.le_of_ble_eq_true rfl) ⟨(Nat.le_of_ble_eq_true rfl), (Nat.le_of_ble_eq_true rfl)⟩ ⟨(Nat.le_of_ble_eq_true rfl), (Nat.le_of_ble_eq_true rfl)⟩ dX11_live_76 (fun r22 u9 H locs hp9 hw => ?_)
    obtain ⟨x23, x24, rfl, rfl, hf25, hf26, hf27, hf28⟩ := hp9
    have hw : Wd G s A [(qm, .inr (10, [.int qm_thrown, .ref qm_tape, .int qm_taped, .int qm_size, .int qm_limit, .int qm_to, .int qm_from, .int qm_kind, .int qm_number, .int qm_sign, .int qm_fault, .int qm_place, .long qm_word, .int qm_told, .ref qm_now, .ref qm_read, .ref qm_kept, .ref qm_snaps, .ref qm_aside, .ref qm_name, .ref qm_readName, .ref qm_keptName, .ref qm_isKept, .ref qm_onces, .int qm_snapMany, .ref qm_order, .ref qm_ordered, .int qm_orderMany, .int qm_orderMost, .int qm_passing, .int qm_movedWho, .int qm_scratched, .ref qm_text, .int qm_texts, .int qm_seed, .ref qm_line, .ref qm_written, .int qm_lineMany, .int qm_hasWritten, .ref qm_node, .int qm_nodes, .int qm_onesMany, .int qm_within, .int qm_top])), (qm_now, eI G 339 x23)] H _ := hw
    exact x_retiQ hQ B hw ⟨x23, r22, rfl, rfl, hf25, hf26, hf27, (by omega)⟩ (Nat.le_of_ble_eq_true rfl) (Nat.le_of_ble_eq_true rfl) dX11_live_79
  · skip
    have k1 : a1 = 2 := Int32.toInt_inj.mp (by rw [k1]; rfl)
    refine x_topi (z := 2) k1 ?_
    refine lv_tableIn (off := 79) (tgt := 80) C.1 C.2.1 dX11_live_1 (by decide) (by decide) rfl (by decide) ?_
    have ha1_ := congrArg Int32.toInt k1
    have ha1_ : a1.toInt = 2 := ha1_
    refine lv_aload_n C.1 C.2.1 dX11_live_80 rfl (lv_at hl 0 rfl) ?_
    refine x_get C hw iwX11 10 rfl 0 rfl 14 (by decide) kw1207 rfl dX11_live_81 ?_
    refine lv_bipush (v := 69) C.1 C.2.1 dX11_live_84 (by decide) ?_
    refine lv_iload_n C.1 C.2.1 dX11_live_86 rfl (lv_at hl 2 rfl) ?_
    refine lv_iadd C.1 C.2.1 dX11_live_87 (x_genP (fun z : Int32 => z.toInt = 69 + a2.toInt) (i_add (X := 69) (Y := a2.toInt) rfl rfl (by omega) (by omega)) (fun v29 hv29 => ?_))
    refine lv_dup2_11 C.1 C.2.1 dX11_live_88 rfl rfl ?_
    refine x_iald (v := (qm_now_c v29.toNatClampNeg)) C hw 1 rfl (i_in (by omega) (by omega)) rfl dX11_live_89 (x_gen (fun v30 => ?_))
    refine lv_iconst (v := 1) C.1 C.2.1 dX11_live_90 (by decide) ?_
    refine lv_iload_n C.1 C.2.1 dX11_live_91 rfl (lv_at hl 3 rfl) ?_
    refine lv_ishl C.1 C.2.1 dX11_live_92 (x_gen (fun v31 => ?_))
    refine lv_ixor C.1 C.2.1 dX11_live_93 (x_gen (fun v32 => ?_))
    obtain ⟨g33, eg33⟩ : ∃ z, upd qm_now_c (v29.toNatClampNeg) v32 = z := ⟨_, rfl⟩
    have mm34 := i_cn v29
    have fs35 : slI g33 := eg33 ▸ slI_upd hf_qm_now_c (by intro q; omega) (by intro q; omega) (by intro q; omega)
    have mm36 : (g33 0).toInt = (qm_now_c 0).toInt := by rw [← eg33, upd_lo (by omega)]
    have mm37 : (g33 1).toInt = (qm_now_c 1).toInt := by rw [← eg33, upd_lo (by omega)]
    have ft38 : trI g33 := eg33 ▸ trI_lo hf1_qm_now_c (by omega)
    have fw39 : loW qm_now_c g33 := eg33 ▸ loW_upd (loW_rfl qm_now_c) (by rw [i_cn]; omega)
    refine x_iast (f' := g33) (w' := [(qm, .inr (10, [.int qm_thrown, .ref qm_tape, .int qm_taped, .int qm_size, .int qm_limit, .int qm_to, .int qm_from, .int qm_kind, .int qm_number, .int qm_sign, .int qm_fault, .int qm_place, .long qm_word, .int qm_told, .ref qm_now, .ref qm_read, .ref qm_kept, .ref qm_snaps, .ref qm_aside, .ref qm_name, .ref qm_readName, .ref qm_keptName, .ref qm_isKept, .ref qm_onces, .int qm_snapMany, .ref qm_order, .ref qm_ordered, .int qm_orderMany, .int qm_orderMost, .int qm_passing, .int qm_movedWho, .int qm_scratched, .ref qm_text, .int qm_texts, .int qm_seed, .ref qm_line, .ref qm_written, .int qm_lineMany, .int qm_hasWritten, .ref qm_node, .int qm_nodes, .int qm_onesMany, .int qm_within, .int qm_top])), (qm_now, eI G 339 g33)]) C hw 1 rfl (i_in (by omega) (by omega)) eg33 rfl dX11_live_94 (fun H locs hw => ?_)
    refine lv_iconst (v := 0) C.1 C.2.1 dX11_live_95 (by decide) ?_
    exact x_retiQ hQ B hw ⟨g33, 0, rfl, rfl, fw39, fs35, ft38, (by omega)⟩ (Nat.le_of_ble_eq_true rfl) (Nat.le_of_ble_eq_true rfl) dX11_live_96
  · skip
    refine lv_tableOut (tgt := 97) C.1 C.2.1 dX11_live_1 (by omega) (by decide) ?_
    refine lv_aload_n C.1 C.2.1 dX11_live_97 rfl (lv_at hl 0 rfl) ?_
    refine x_get C hw iwX11 10 rfl 0 rfl 14 (by decide) kw1207 rfl dX11_live_98 ?_
    refine lv_bipush (v := 81) C.1 C.2.1 dX11_live_101 (by decide) ?_
    refine lv_iload_n C.1 C.2.1 dX11_live_103 rfl (lv_at hl 2 rfl) ?_
    refine lv_iadd C.1 C.2.1 dX11_live_104 (x_genP (fun z : Int32 => z.toInt = 81 + a2.toInt) (i_add (X := 81) (Y := a2.toInt) rfl rfl (by omega) (by omega)) (fun v40 hv40 => ?_))
    refine lv_iload_n C.1 C.2.1 dX11_live_105 rfl (lv_at hl 3 rfl) ?_
    obtain ⟨g41, eg41⟩ : ∃ z, upd qm_now_c (v40.toNatClampNeg) a3 = z := ⟨_, rfl⟩
    have mm42 := i_cn v40
    have fs43 : slI g41 := eg41 ▸ slI_upd hf_qm_now_c (by intro q; omega) (by intro q; omega) (by intro q; omega)
    have mm44 : (g41 0).toInt = (qm_now_c 0).toInt := by rw [← eg41, upd_lo (by omega)]
    have mm45 : (g41 1).toInt = (qm_now_c 1).toInt := by rw [← eg41, upd_lo (by omega)]
    have ft46 : trI g41 := eg41 ▸ trI_lo hf1_qm_now_c (by omega)
    have fw47 : loW qm_now_c g41 := eg41 ▸ loW_upd (loW_rfl qm_now_c) (by rw [i_cn]; omega)
    refine x_iast (f' := g41) (w' := [(qm, .inr (10, [.int qm_thrown, .ref qm_tape, .int qm_taped, .int qm_size, .int qm_limit, .int qm_to, .int qm_from, .int qm_kind, .int qm_number, .int qm_sign, .int qm_fault, .int qm_place, .long qm_word, .int qm_told, .ref qm_now, .ref qm_read, .ref qm_kept, .ref qm_snaps, .ref qm_aside, .ref qm_name, .ref qm_readName, .ref qm_keptName, .ref qm_isKept, .ref qm_onces, .int qm_snapMany, .ref qm_order, .ref qm_ordered, .int qm_orderMany, .int qm_orderMost, .int qm_passing, .int qm_movedWho, .int qm_scratched, .ref qm_text, .int qm_texts, .int qm_seed, .ref qm_line, .ref qm_written, .int qm_lineMany, .int qm_hasWritten, .ref qm_node, .int qm_nodes, .int qm_onesMany, .int qm_within, .int qm_top])), (qm_now, eI G 339 g41)]) C hw 1 rfl (i_in (by omega) (by omega)) eg41 rfl dX11_live_106 (fun H locs hw => ?_)
    refine lv_iconst (v := 0) C.1 C.2.1 dX11_live_107 (by decide) ?_
    exact x_retiQ hQ B hw ⟨g41, 0, rfl, rfl, fw47, fs43, ft46, (by omega)⟩ (Nat.le_of_ble_eq_true rfl) (Nat.le_of_ble_eq_true rfl) dX11_live_108
theorem dX11_show_0 : decode cX11_show 0 = .ok (.aload_n 0, 1) := by decide +kernel
theorem dX11_show_1 : decode cX11_show 1 = .ok (.iconst 0, 1) := by decide +kernel
theorem dX11_show_2 : decode cX11_show 2 = .ok (.putfield 1, 3) := by decide +kernel
theorem dX11_show_5 : decode cX11_show 5 = .ok (.aload_n 0, 1) := by decide +kernel
theorem dX11_show_6 : decode cX11_show 6 = .ok (.iload_n 1, 1) := by decide +kernel
theorem dX11_show_7 : decode cX11_show 7 = .ok (.invokevirtual 237, 3) := by decide +kernel
theorem dX11_show_10 : decode cX11_show 10 = .ok (.ifCond .eq 12, 3) := by decide +kernel
theorem dX11_show_22 : decode cX11_show 22 = .ok (.iconst (-1), 1) := by decide +kernel
theorem dX11_show_23 : decode cX11_show 23 = .ok (.ireturn, 1) := by decide +kernel
theorem dX11_show_13 : decode cX11_show 13 = .ok (.iload_n 2, 1) := by decide +kernel
theorem dX11_show_14 : decode cX11_show 14 = .ok (.iconst 0, 1) := by decide +kernel
theorem dX11_show_15 : decode cX11_show 15 = .ok (.iconst 3, 1) := by decide +kernel
theorem dX11_show_16 : decode cX11_show 16 = .ok (.invokestatic 75, 3) := by decide +kernel
theorem dX11_show_19 : decode cX11_show 19 = .ok (.ifCond .ne 5, 3) := by decide +kernel
theorem dX11_show_24 : decode cX11_show 24 = .ok (.aload_n 0, 1) := by decide +kernel
theorem dX11_show_25 : decode cX11_show 25 = .ok (.iconst 0, 1) := by decide +kernel
theorem dX11_show_26 : decode cX11_show 26 = .ok (.iload_n 1, 1) := by decide +kernel
theorem dX11_show_27 : decode cX11_show 27 = .ok (.iload_n 2, 1) := by decide +kernel
theorem dX11_show_28 : decode cX11_show 28 = .ok (.invokevirtual 285, 3) := by decide +kernel
theorem mwX11_why : MwV yX11_why cX11_why 4 (some .int) 3 := ⟨⟨kw1556, kw15, by decide +kernel⟩, kw1555, kS81⟩
theorem dX11_show_31 : decode cX11_show 31 = .ok (.istore_n 3, 1) := by decide +kernel
theorem dX11_show_32 : decode cX11_show 32 = .ok (.iload_n 3, 1) := by decide +kernel
theorem dX11_show_33 : decode cX11_show 33 = .ok (.ifCond .eq 7, 3) := by decide +kernel
theorem dX11_show_40 : decode cX11_show 40 = .ok (.aload_n 0, 1) := by decide +kernel
theorem dX11_show_41 : decode cX11_show 41 = .ok (.invokevirtual 289, 3) := by decide +kernel
theorem mwX11_snap : MwV yX11_snap cX11_snap 2 none 0 := ⟨⟨kw1564, kw15, by decide +kernel⟩, kw1563, kS83⟩
theorem dX11_show_44 : decode cX11_show 44 = .ok (.aload_n 0, 1) := by decide +kernel
theorem dX11_show_45 : decode cX11_show 45 = .ok (.iconst 0, 1) := by decide +kernel
theorem dX11_show_46 : decode cX11_show 46 = .ok (.iload_n 1, 1) := by decide +kernel
theorem dX11_show_47 : decode cX11_show 47 = .ok (.iload_n 2, 1) := by decide +kernel
theorem dX11_show_48 : decode cX11_show 48 = .ok (.invokevirtual 292, 3) := by decide +kernel
theorem mwX11_live : MwV yX11_live cX11_live 4 (some .int) 3 := ⟨⟨kw1568, kw15, by decide +kernel⟩, kw1567, kS84⟩
theorem dX11_show_51 : decode cX11_show 51 = .ok (.ireturn, 1) := by decide +kernel
theorem dX11_show_36 : decode cX11_show 36 = .ok (.iconst (-1), 1) := by decide +kernel
theorem dX11_show_37 : decode cX11_show 37 = .ok (.iload_n 3, 1) := by decide +kernel
theorem dX11_show_38 : decode cX11_show 38 = .ok (.isub, 1) := by decide +kernel
theorem dX11_show_39 : decode cX11_show 39 = .ok (.ireturn, 1) := by decide +kernel
set_option maxHeartbeats 4000000 in
set_option maxRecDepth 100000 in
theorem s_X11_show {l : Launch} {G : Gc} (qm : Nat) (a1 : Int32) (a2 : Int32) (qm_thrown : Int32) (qm_tape : Nat) (qm_taped : Int32) (qm_size : Int32) (qm_limit : Int32) (qm_to : Int32) (qm_from : Int32) (qm_kind : Int32) (qm_number : Int32) (qm_sign : Int32) (qm_fault : Int32) (qm_place : Int32) (qm_word : Int64) (qm_told : Int32) (qm_now : Nat) (qm_read : Nat) (qm_kept : Nat) (qm_snaps : Nat) (qm_aside : Nat) (qm_name : Nat) (qm_readName : Nat) (qm_keptName : Nat) (qm_isKept : Nat) (qm_onces : Nat) (qm_snapMany : Int32) (qm_order : Nat) (qm_ordered : Nat) (qm_orderMany : Int32) (qm_orderMost : Int32) (qm_passing : Int32) (qm_movedWho : Int32) (qm_scratched : Int32) (qm_text : Nat) (qm_texts : Int32) (qm_seed : Int32) (qm_line : Nat) (qm_written : Nat) (qm_lineMany : Int32) (qm_hasWritten : Int32) (qm_node : Nat) (qm_nodes : Int32) (qm_onesMany : Int32) (qm_within : Int32) (qm_top : Int32) (qm_now_c : Nat → Int32) (qm_snaps_c : Nat → Int32) (hf_qm_now_c : slI qm_now_c) (hf1_qm_now_c : trI qm_now_c) (hi_qm_snapMany : 0 ≤ qm_snapMany.toInt ∧ qm_snapMany.toInt ≤ 8) : Ci l yX11_show cX11_show 4 (some .int) 5 0 0 G [.ref qm, .int a1, .int a2] [(qm, .inr (10, [.int qm_thrown, .ref qm_tape, .int qm_taped, .int qm_size, .int qm_limit, .int qm_to, .int qm_from, .int qm_kind, .int qm_number, .int qm_sign, .int qm_fault, .int qm_place, .long qm_word, .int qm_told, .ref qm_now, .ref qm_read, .ref qm_kept, .ref qm_snaps, .ref qm_aside, .ref qm_name, .ref qm_readName, .ref qm_keptName, .ref qm_isKept, .ref qm_onces, .int qm_snapMany, .ref qm_order, .ref qm_ordered, .int qm_orderMany, .int qm_orderMost, .int qm_passing, .int qm_movedWho, .int qm_scratched, .ref qm_text, .int qm_texts, .int qm_seed, .ref qm_line, .ref qm_written, .int qm_lineMany, .int qm_hasWritten, .ref qm_node, .int qm_nodes, .int qm_onesMany, .int qm_within, .int qm_top])), (qm_now, eI G 339 qm_now_c), (qm_snaps, eI G 264 qm_snaps_c)] (fun (r9 : Int32) (u9 : va_W) => ∃ (x0_qm_snapMany : Int32) (x1_qm_now_c : Nat → Int32) (x2_qm_snaps_c : Nat → Int32) (r_x : Int32), r9 = r_x ∧ u9 = [(qm, .inr (10, [.int 0, .ref qm_tape, .int qm_taped, .int qm_size, .int qm_limit, .int qm_to, .int qm_from, .int qm_kind, .int qm_number, .int qm_sign, .int qm_fault, .int qm_place, .long qm_word, .int qm_told, .ref qm_now, .ref qm_read, .ref qm_kept, .ref qm_snaps, .ref qm_aside, .ref qm_name, .ref qm_readName, .ref qm_keptName, .ref qm_isKept, .ref qm_onces, .int x0_qm_snapMany, .ref qm_order, .ref qm_ordered, .int qm_orderMany, .int qm_orderMost, .int qm_passing, .int qm_movedWho, .int qm_scratched, .ref qm_text, .int qm_texts, .int qm_seed, .ref qm_line, .ref qm_written, .int qm_lineMany, .int qm_hasWritten, .ref qm_node, .int qm_nodes, .int qm_onesMany, .int qm_within, .int qm_top])), (qm_now, eI G 339 x1_qm_now_c), (qm_snaps, eI G 264 x2_qm_snaps_c)] ∧ (0 ≤ x0_qm_snapMany.toInt ∧ x0_qm_snapMany.toInt ≤ 8) ∧ (loW qm_now_c x1_qm_now_c) ∧ (slI x1_qm_now_c) ∧ (trI x1_qm_now_c)) := by
  refine Ci.ofQ (by decide) (Nat.le_of_ble_eq_true rfl) ?_
  intro p e s m below meth c ls A args Q hQ B hw hl
  have C : CallFix p m c cX11_show 4 s args gw "LanternStateModel" := B.1
  have hl : lv_has ls 4 [(0, .ref qm), (1, .int a1), (2, .int a2)] := hl
  refine lv_aload_n C.1 C.2.1 dX11_show_0 rfl (lv_at hl 0 rfl) ?_
  refine lv_iconst (v := 0) C.1 C.2.1 dX11_show_1 (by decide) ?_
  refine x_put (w' := [(qm, .inr (10, [.int 0, .ref qm_tape, .int qm_taped, .int qm_size, .int qm_limit, .int qm_to, .int qm_from, .int qm_kind, .int qm_number, .int qm_sign, .int qm_fault, .int qm_place, .long qm_word, .int qm_told, .ref qm_now, .ref qm_read, .ref qm_kept, .ref qm_snaps, .ref qm_aside, .ref qm_name, .ref qm_readName, .ref qm_keptName, .ref qm_isKept, .ref qm_onces, .int qm_snapMany, .ref qm_order, .ref qm_ordered, .int qm_orderMany, .int qm_orderMost, .int qm_passing, .int qm_movedWho, .int qm_scratched, .ref qm_text, .int qm_texts, .int qm_seed, .ref qm_line, .ref qm_written, .int qm_lineMany, .int qm_hasWritten, .ref qm_node, .int qm_nodes, .int qm_onesMany, .int qm_within, .int qm_top])), (qm_now, eI G 339 qm_now_c), (qm_snaps, eI G 264 qm_snaps_c)]) C hw iwX11 tyX11_ok nmX11 10 rfl 0 rfl 0 (by decide) kw1193 rfl rfl rfl (Nat.le_of_ble_eq_true rfl) rfl dX11_show_2 (fun H locs hw => ?_)
  refine lv_aload_n C.1 C.2.1 dX11_show_5 rfl (lv_at hl 0 rfl) ?_
  refine lv_iload_n C.1 C.2.1 dX11_show_6 rfl (lv_at hl 1 rfl) ?_
  refine x_calliV (As := [.int a1]) (rest := []) (wr := [(qm_snaps, eI G 264 qm_snaps_c)]) C hw (s_X11_isSlide qm a1 0 qm_tape qm_taped qm_size qm_limit qm_to qm_from qm_kind qm_number qm_sign qm_fault qm_place qm_word qm_told qm_now qm_read qm_kept qm_snaps qm_aside qm_name qm_readName qm_keptName qm_isKept qm_onces qm_snapMany qm_order qm_ordered qm_orderMany qm_orderMost qm_passing qm_movedWho qm_scratched qm_text qm_texts qm_seed qm_line qm_written qm_lineMany qm_hasWritten qm_node qm_nodes qm_onesMany qm_within qm_top qm_now_c hf_qm_now_c hf1_qm_now_c) mwX11_isSlide kw1465 [0, 1] [2] rfl rfl rfl rfl (by decide) 0 rfl rfl rfl rfl hl.1 rfl (Nat.le_of_ble_eq_true rfl) ⟨(Nat.le_of_ble_eq_true rfl), (Nat.le_of_ble_eq_true rfl)⟩ ⟨(Nat.le_of_ble_eq_true rfl), (Nat.le_of_ble_eq_true rfl)⟩ dX11_show_7 (fun r1 u9 H locs hp9 hw => ?_)
  rcases hp9 with ⟨rfl, rfl⟩ | ⟨rfl, rfl, hf2, hf3⟩
  · skip
    have hw : Wd G s A [(qm_snaps, eI G 264 qm_snaps_c), (qm, .inr (10, [.int 0, .ref qm_tape, .int qm_taped, .int qm_size, .int qm_limit, .int qm_to, .int qm_from, .int qm_kind, .int qm_number, .int qm_sign, .int qm_fault, .int qm_place, .long qm_word, .int qm_told, .ref qm_now, .ref qm_read, .ref qm_kept, .ref qm_snaps, .ref qm_aside, .ref qm_name, .ref qm_readName, .ref qm_keptName, .ref qm_isKept, .ref qm_onces, .int qm_snapMany, .ref qm_order, .ref qm_ordered, .int qm_orderMany, .int qm_orderMost, .int qm_passing, .int qm_movedWho, .int qm_scratched, .ref qm_text, .int qm_texts, .int qm_seed, .ref qm_line, .ref qm_written, .int qm_lineMany, .int qm_hasWritten, .ref qm_node, .int qm_nodes, .int qm_onesMany, .int qm_within, .int qm_top])), (qm_now, eI G 339 qm_now_c)] H _ := hw
    refine lv_if_eq (tgt := 22) C.1 C.2.1 dX11_show_10 (by decide) (fun _ => ?_) (fun h9 => absurd (by decide) h9)
    refine lv_iconst (v := (-1)) C.1 C.2.1 dX11_show_22 (by decide) ?_
    have hw := hw.sub (w' := [(qm, .inr (10, [.int 0, .ref qm_tape, .int qm_taped, .int qm_size, .int qm_limit, .int qm_to, .int qm_from, .int qm_kind, .int qm_number, .int qm_sign, .int qm_fault, .int qm_place, .long qm_word, .int qm_told, .ref qm_now, .ref qm_read, .ref qm_kept, .ref qm_snaps, .ref qm_aside, .ref qm_name, .ref qm_readName, .ref qm_keptName, .ref qm_isKept, .ref qm_onces, .int qm_snapMany, .ref qm_order, .ref qm_ordered, .int qm_orderMany, .int qm_orderMost, .int qm_passing, .int qm_movedWho, .int qm_scratched, .ref qm_text, .int qm_texts, .int qm_seed, .ref qm_line, .ref qm_written, .int qm_lineMany, .int qm_hasWritten, .ref qm_node, .int qm_nodes, .int qm_onesMany, .int qm_within, .int qm_top])), (qm_now, eI G 339 qm_now_c), (qm_snaps, eI G 264 qm_snaps_c)]) [1, 2, 0] rfl rfl
    exact x_retiQ hQ B hw ⟨qm_snapMany, qm_now_c, qm_snaps_c, (-1), rfl, rfl, (by omega), (loW_rfl qm_now_c), hf_qm_now_c, hf1_qm_now_c⟩ (Nat.le_of_ble_eq_true rfl) (Nat.le_of_ble_eq_true rfl) dX11_show_23
  · skip
    have hw : Wd G s A [(qm_snaps, eI G 264 qm_snaps_c), (qm, .inr (10, [.int 0, .ref qm_tape, .int qm_taped, .int qm_size, .int qm_limit, .int qm_to, .int qm_from, .int qm_kind, .int qm_number, .int qm_sign, .int qm_fault, .int qm_place, .long qm_word, .int qm_told, .ref qm_now, .ref qm_read, .ref qm_kept, .ref qm_snaps, .ref qm_aside, .ref qm_name, .ref qm_readName, .ref qm_keptName, .ref qm_isKept, .ref qm_onces, .int qm_snapMany, .ref qm_order, .ref qm_ordered, .int qm_orderMany, .int qm_orderMost, .int qm_passing, .int qm_movedWho, .int qm_scratched, .ref qm_text, .int qm_texts, .int qm_seed, .ref qm_line, .ref qm_written, .int qm_lineMany, .int qm_hasWritten, .ref qm_node, .int qm_nodes, .int qm_onesMany, .int qm_within, .int qm_top])), (qm_now, eI G 339 qm_now_c)] H _ := hw
    refine lv_if_eq (tgt := 22) C.1 C.2.1 dX11_show_10 (by decide) (fun h9 => absurd h9 (by decide)) (fun _ => ?_)
    refine lv_iload_n C.1 C.2.1 dX11_show_13 rfl (lv_at hl 2 rfl) ?_
    refine lv_iconst (v := 0) C.1 C.2.1 dX11_show_14 (by decide) ?_
    refine lv_iconst (v := 3) C.1 C.2.1 dX11_show_15 (by decide) ?_
    refine x_calliS (As := [.int a2, .int 0, .int 3]) (rest := []) (wr := [(qm_snaps, eI G 264 qm_snaps_c), (qm, .inr (10, [.int 0, .ref qm_tape, .int qm_taped, .int qm_size, .int qm_limit, .int qm_to, .int qm_from, .int qm_kind, .int qm_number, .int qm_sign, .int qm_fault, .int qm_place, .long qm_word, .int qm_told, .ref qm_now, .ref qm_read, .ref qm_kept, .ref qm_snaps, .ref qm_aside, .ref qm_name, .ref qm_readName, .ref qm_keptName, .ref qm_isKept, .ref qm_onces, .int qm_snapMany, .ref qm_order, .ref qm_ordered, .int qm_orderMany, .int qm_orderMost, .int qm_passing, .int qm_movedWho, .int qm_scratched, .ref qm_text, .int qm_texts, .int qm_seed, .ref qm_line, .ref qm_written, .int qm_lineMany, .int qm_hasWritten, .ref qm_node, .int qm_nodes, .int qm_onesMany, .int qm_within, .int qm_top])), (qm_now, eI G 339 qm_now_c)]) C hw (s_X11_isIn a2 0 3) mwX11_isIn kw1396 [] [0, 1, 2] rfl rfl rfl rfl (by decide) rfl hl.1 rfl (Nat.le_of_ble_eq_true rfl) ⟨(Nat.le_of_ble_eq_true rfl), (Nat.le_of_ble_eq_true rfl)⟩ ⟨(Nat.le_of_ble_eq_true rfl), (Nat.le_of_ble_eq_true rfl)⟩ dX11_show_16 (fun r4 u9 H locs hp9 hw => ?_)
    rcases hp9 with ⟨rfl, rfl, hf5⟩ | ⟨rfl, rfl, hf6, hf7⟩
    · skip
      have hw : Wd G s A [(qm_snaps, eI G 264 qm_snaps_c), (qm, .inr (10, [.int 0, .ref qm_tape, .int qm_taped, .int qm_size, .int qm_limit, .int qm_to, .int qm_from, .int qm_kind, .int qm_number, .int qm_sign, .int qm_fault, .int qm_place, .long qm_word, .int qm_told, .ref qm_now, .ref qm_read, .ref qm_kept, .ref qm_snaps, .ref qm_aside, .ref qm_name, .ref qm_readName, .ref qm_keptName, .ref qm_isKept, .ref qm_onces, .int qm_snapMany, .ref qm_order, .ref qm_ordered, .int qm_orderMany, .int qm_orderMost, .int qm_passing, .int qm_movedWho, .int qm_scratched, .ref qm_text, .int qm_texts, .int qm_seed, .ref qm_line, .ref qm_written, .int qm_lineMany, .int qm_hasWritten, .ref qm_node, .int qm_nodes, .int qm_onesMany, .int qm_within, .int qm_top])), (qm_now, eI G 339 qm_now_c)] H _ := hw
      have hf5 : a2.toInt < 0 ∨ 3 < a2.toInt := by first | exact hf5 | (have e0 : (0 : Int32).toInt = 0 := rfl; have e1 : (3 : Int32).toInt = 3 := rfl; omega)
      refine lv_if_ne (tgt := 24) C.1 C.2.1 dX11_show_19 (by decide) (fun h9 => absurd (by decide) h9) (fun _ => ?_)
      refine lv_iconst (v := (-1)) C.1 C.2.1 dX11_show_22 (by decide) ?_
      have hw := hw.sub (w' := [(qm, .inr (10, [.int 0, .ref qm_tape, .int qm_taped, .int qm_size, .int qm_limit, .int qm_to, .int qm_from, .int qm_kind, .int qm_number, .int qm_sign, .int qm_fault, .int qm_place, .long qm_word, .int qm_told, .ref qm_now, .ref qm_read, .ref qm_kept, .ref qm_snaps, .ref qm_aside, .ref qm_name, .ref qm_readName, .ref qm_keptName, .ref qm_isKept, .ref qm_onces, .int qm_snapMany, .ref qm_order, .ref qm_ordered, .int qm_orderMany, .int qm_orderMost, .int qm_passing, .int qm_movedWho, .int qm_scratched, .ref qm_text, .int qm_texts, .int qm_seed, .ref qm_line, .ref qm_written, .int qm_lineMany, .int qm_hasWritten, .ref qm_node, .int qm_nodes, .int qm_onesMany, .int qm_within, .int qm_top])), (qm_now, eI G 339 qm_now_c), (qm_snaps, eI G 264 qm_snaps_c)]) [1, 2, 0] rfl rfl
      exact x_retiQ hQ B hw ⟨qm_snapMany, qm_now_c, qm_snaps_c, (-1), rfl, rfl, (by omega), (loW_rfl qm_now_c), hf_qm_now_c, hf1_qm_now_c⟩ (Nat.le_of_ble_eq_true rfl) (Nat.le_of_ble_eq_true rfl) dX11_show_23
    · skip
      have hw : Wd G s A [(qm_snaps, eI G 264 qm_snaps_c), (qm, .inr (10, [.int 0, .ref qm_tape, .int qm_taped, .int qm_size, .int qm_limit, .int qm_to, .int qm_from, .int qm_kind, .int qm_number, .int qm_sign, .int qm_fault, .int qm_place, .long qm_word, .int qm_told, .ref qm_now, .ref qm_read, .ref qm_kept, .ref qm_snaps, .ref qm_aside, .ref qm_name, .ref qm_readName, .ref qm_keptName, .ref qm_isKept, .ref qm_onces, .int qm_snapMany, .ref qm_order, .ref qm_ordered, .int qm_orderMany, .int qm_orderMost, .int qm_passing, .int qm_movedWho, .int qm_scratched, .ref qm_text, .int qm_texts, .int qm_seed, .ref qm_line, .ref qm_written, .int qm_lineMany, .int qm_hasWritten, .ref qm_node, .int qm_nodes, .int qm_onesMany, .int qm_within, .int qm_top])), (qm_now, eI G 339 qm_now_c)] H _ := hw
      have hf6 : 0 ≤ a2.toInt := by first | exact hf6 | (have e0 : (0 : Int32).toInt = 0 := rfl; omega)
      have hf7 : a2.toInt ≤ 3 := by first | exact hf7 | (have e0 : (3 : Int32).toInt = 3 := rfl; omega)
      refine lv_if_ne (tgt := 24) C.1 C.2.1 dX11_show_19 (by decide) (fun _ => ?_) (fun h9 => absurd h9 (by decide))
      refine lv_aload_n C.1 C.2.1 dX11_show_24 rfl (lv_at hl 0 rfl) ?_
      refine lv_iconst (v := 0) C.1 C.2.1 dX11_show_25 (by decide) ?_
      refine lv_iload_n C.1 C.2.1 dX11_show_26 rfl (lv_at hl 1 rfl) ?_
      refine lv_iload_n C.1 C.2.1 dX11_show_27 rfl (lv_at hl 2 rfl) ?_
      refine x_calliV (As := [.int 0, .int a1, .int a2]) (rest := []) (wr := [(qm_snaps, eI G 264 qm_snaps_c)]) C hw (s_X11_why qm 0 a1 a2 0 qm_tape qm_taped qm_size qm_limit qm_to qm_from qm_kind qm_number qm_sign qm_fault qm_place qm_word qm_told qm_now qm_read qm_kept qm_snaps qm_aside qm_name qm_readName qm_keptName qm_isKept qm_onces qm_snapMany qm_order qm_ordered qm_orderMany qm_orderMost qm_passing qm_movedWho qm_scratched qm_text qm_texts qm_seed qm_line qm_written qm_lineMany qm_hasWritten qm_node qm_nodes qm_onesMany qm_within qm_top qm_now_c (by omega) (by omega) hf_qm_now_c hf1_qm_now_c) mwX11_why kw1553 [1, 2] [0] rfl rfl rfl rfl (by decide) 0 rfl rfl rfl rfl hl.1 rfl (Nat.le_of_ble_eq_true rfl) ⟨(Nat.le_of_ble_eq_true rfl), (Nat.le_of_ble_eq_true rfl)⟩ ⟨(Nat.le_of_ble_eq_true rfl), (Nat.le_of_ble_eq_true rfl)⟩ dX11_show_28 (fun r8 u9 H locs hp9 hw => ?_)
      obtain ⟨x9, rfl, rfl, hf10⟩ := hp9
      have hw : Wd G s A [(qm_snaps, eI G 264 qm_snaps_c), (qm, .inr (10, [.int 0, .ref qm_tape, .int qm_taped, .int qm_size, .int qm_limit, .int qm_to, .int qm_from, .int qm_kind, .int qm_number, .int qm_sign, .int qm_fault, .int qm_place, .long qm_word, .int qm_told, .ref qm_now, .ref qm_read, .ref qm_kept, .ref qm_snaps, .ref qm_aside, .ref qm_name, .ref qm_readName, .ref qm_keptName, .ref qm_isKept, .ref qm_onces, .int qm_snapMany, .ref qm_order, .ref qm_ordered, .int qm_orderMany, .int qm_orderMost, .int qm_passing, .int qm_movedWho, .int qm_scratched, .ref qm_text, .int qm_texts, .int qm_seed, .ref qm_line, .ref qm_written, .int qm_lineMany, .int qm_hasWritten, .ref qm_node, .int qm_nodes, .int qm_onesMany, .int qm_within, .int qm_top])), (qm_now, eI G 339 qm_now_c)] H _ := hw
      refine lv_istore_n (lv' := [(3, .int r8), (0, .ref qm), (1, .int a1), (2, .int a2)]) C.1 C.2.1 dX11_show_31 rfl hl (by decide) rfl (fun ls hl => ?_)
      refine lv_iload_n C.1 C.2.1 dX11_show_32 rfl (lv_at hl 0 rfl) ?_
      refine lv_if_eq (tgt := 40) C.1 C.2.1 dX11_show_33 (by decide) (fun c11 => ?_) (fun c11 => ?_)
      · skip
        have c11 : r8.toInt = 0 := i_eqT (X := r8.toInt) (Y := 0) rfl rfl c11
        refine lv_aload_n C.1 C.2.1 dX11_show_40 rfl (lv_at hl 1 rfl) ?_
        refine x_callvV (As := []) (rest := []) (wr := []) C hw (s_X11_snap qm 0 qm_tape qm_taped qm_size qm_limit qm_to qm_from qm_kind qm_number qm_sign qm_fault qm_place qm_word qm_told qm_now qm_read qm_kept qm_snaps qm_aside qm_name qm_readName qm_keptName qm_isKept qm_onces qm_snapMany qm_order qm_ordered qm_orderMany qm_orderMost qm_passing qm_movedWho qm_scratched qm_text qm_texts qm_seed qm_line qm_written qm_lineMany qm_hasWritten qm_node qm_nodes qm_onesMany qm_within qm_top qm_now_c qm_snaps_c hf_qm_now_c hf1_qm_now_c (by omega)) mwX11_snap kw1561 [1, 2, 0] [] rfl rfl rfl rfl (by decide) 0 rfl rfl rfl rfl hl.1 rfl (Nat.le_of_ble_eq_true rfl) ⟨(Nat.le_of_ble_eq_true rfl), (Nat.le_of_ble_eq_true rfl)⟩ ⟨(Nat.le_of_ble_eq_true rfl), (Nat.le_of_ble_eq_true rfl)⟩ dX11_show_41 (fun  u9 H locs hp9 hw => ?_)
        obtain ⟨x12, x13, rfl, hf14⟩ := hp9
        have hw : Wd G s A [(qm, .inr (10, [.int 0, .ref qm_tape, .int qm_taped, .int qm_size, .int qm_limit, .int qm_to, .int qm_from, .int qm_kind, .int qm_number, .int qm_sign, .int qm_fault, .int qm_place, .long qm_word, .int qm_told, .ref qm_now, .ref qm_read, .ref qm_kept, .ref qm_snaps, .ref qm_aside, .ref qm_name, .ref qm_readName, .ref qm_keptName, .ref qm_isKept, .ref qm_onces, .int x12, .ref qm_order, .ref qm_ordered, .int qm_orderMany, .int qm_orderMost, .int qm_passing, .int qm_movedWho, .int qm_scratched, .ref qm_text, .int qm_texts, .int qm_seed, .ref qm_line, .ref qm_written, .int qm_lineMany, .int qm_hasWritten, .ref qm_node, .int qm_nodes, .int qm_onesMany, .int qm_within, .int qm_top])), (qm_now, eI G 339 qm_now_c), (qm_snaps, eI G 264 x13)] H _ := hw
        refine lv_aload_n C.1 C.2.1 dX11_show_44 rfl (lv_at hl 1 rfl) ?_
        refine lv_iconst (v := 0) C.1 C.2.1 dX11_show_45 (by decide) ?_
        refine lv_iload_n C.1 C.2.1 dX11_show_46 rfl (lv_at hl 2 rfl) ?_
        refine lv_iload_n C.1 C.2.1 dX11_show_47 rfl (lv_at hl 3 rfl) ?_
        refine x_calliV (As := [.int 0, .int a1, .int a2]) (rest := []) (wr := [(qm_snaps, eI G 264 x13)]) C hw (s_X11_live qm 0 a1 a2 0 qm_tape qm_taped qm_size qm_limit qm_to qm_from qm_kind qm_number qm_sign qm_fault qm_place qm_word qm_told qm_now qm_read qm_kept qm_snaps qm_aside qm_name qm_readName qm_keptName qm_isKept qm_onces x12 qm_order qm_ordered qm_orderMany qm_orderMost qm_passing qm_movedWho qm_scratched qm_text qm_texts qm_seed qm_line qm_written qm_lineMany qm_hasWritten qm_node qm_nodes qm_onesMany qm_within qm_top qm_now_c (by omega) (by omega) hf_qm_now_c hf1_qm_now_c) mwX11_live kw1565 [0, 1] [2] rfl rfl rfl rfl (by decide) 0 rfl rfl rfl rfl hl.1 rfl (Nat.le_of_ble_eq_true rfl) ⟨(Nat.le_of_ble_eq_true rfl), (Nat.le_of_ble_eq_true rfl)⟩ ⟨(Nat.le_of_ble_eq_true rfl), (Nat.le_of_ble_eq_true rfl)⟩ dX11_show_48 (fun r15 u9 H locs hp9 hw => ?_)
        obtain ⟨x16, x17, rfl, rfl, hf18, hf19, hf20, hf21⟩ := hp9
        have hw : Wd G s A [(qm_snaps, eI G 264 x13), (qm, .inr (10, [.int 0, .ref qm_tape, .int qm_taped, .int qm_size, .int qm_limit, .int qm_to, .int qm_from, .int qm_kind, .int qm_number, .int qm_sign, .int qm_fault, .int qm_place, .long qm_word, .int qm_told, .ref qm_now, .ref qm_read, .ref qm_kept, .ref qm_snaps, .ref qm_aside, .ref qm_name, .ref qm_readName, .ref qm_keptName, .ref qm_isKept, .ref qm_onces, .int x12, .ref qm_order, .ref qm_ordered, .int qm_orderMany, .int qm_orderMost, .int qm_passing, .int qm_movedWho, .int qm_scratched, .ref qm_text, .int qm_texts, .int qm_seed, .ref qm_line, .ref qm_written, .int qm_lineMany, .int qm_hasWritten, .ref qm_node, .int qm_nodes, .int qm_onesMany, .int qm_within, .int qm_top])), (qm_now, eI G 339 x16)] H _ := hw
        have hw := hw.sub (w' := [(qm, .inr (10, [.int 0, .ref qm_tape, .int qm_taped, .int qm_size, .int qm_limit, .int qm_to, .int qm_from, .int qm_kind, .int qm_number, .int qm_sign, .int qm_fault, .int qm_place, .long qm_word, .int qm_told, .ref qm_now, .ref qm_read, .ref qm_kept, .ref qm_snaps, .ref qm_aside, .ref qm_name, .ref qm_readName, .ref qm_keptName, .ref qm_isKept, .ref qm_onces, .int x12, .ref qm_order, .ref qm_ordered, .int qm_orderMany, .int qm_orderMost, .int qm_passing, .int qm_movedWho, .int qm_scratched, .ref qm_text, .int qm_texts, .int qm_seed, .ref qm_line, .ref qm_written, .int qm_lineMany, .int qm_hasWritten, .ref qm_node, .int qm_nodes, .int qm_onesMany, .int qm_within, .int qm_top])), (qm_now, eI G 339 x16), (qm_snaps, eI G 264 x13)]) [1, 2, 0] rfl rfl
        exact x_retiQ hQ B hw ⟨x12, x16, x13, r15, rfl, rfl, (by omega), hf18, hf19, hf20⟩ (Nat.le_of_ble_eq_true rfl) (Nat.le_of_ble_eq_true rfl) dX11_show_51
      · skip
        have c11 : r8.toInt ≠ 0 := i_eqF (X := r8.toInt) (Y := 0) rfl rfl c11
        refine lv_iconst (v := (-1)) C.1 C.2.1 dX11_show_36 (by decide) ?_
        refine lv_iload_n C.1 C.2.1 dX11_show_37 rfl (lv_at hl 0 rfl) ?_
        refine lv_isub C.1 C.2.1 dX11_show_38 (x_genP (fun z : Int32 => z.toInt = (-1) - r8.toInt) (i_sub (X := (-1)) (Y := r8.toInt) rfl rfl (by omega) (by omega)) (fun v22 hv22 => ?_))
        have hw := hw.sub (w' := [(qm, .inr (10, [.int 0, .ref qm_tape, .int qm_taped, .int qm_size, .int qm_limit, .int qm_to, .int qm_from, .int qm_kind, .int qm_number, .int qm_sign, .int qm_fault, .int qm_place, .long qm_word, .int qm_told, .ref qm_now, .ref qm_read, .ref qm_kept, .ref qm_snaps, .ref qm_aside, .ref qm_name, .ref qm_readName, .ref qm_keptName, .ref qm_isKept, .ref qm_onces, .int qm_snapMany, .ref qm_order, .ref qm_ordered, .int qm_orderMany, .int qm_orderMost, .int qm_passing, .int qm_movedWho, .int qm_scratched, .ref qm_text, .int qm_texts, .int qm_seed, .ref qm_line, .ref qm_written, .int qm_lineMany, .int qm_hasWritten, .ref qm_node, .int qm_nodes, .int qm_onesMany, .int qm_within, .int qm_top])), (qm_now, eI G 339 qm_now_c), (qm_snaps, eI G 264 qm_snaps_c)]) [1, 2, 0] rfl rfl
        exact x_retiQ hQ B hw ⟨qm_snapMany, qm_now_c, qm_snaps_c, v22, rfl, rfl, (by omega), (loW_rfl qm_now_c), hf_qm_now_c, hf1_qm_now_c⟩ (Nat.le_of_ble_eq_true rfl) (Nat.le_of_ble_eq_true rfl) dX11_show_39
theorem dX11_over_0 : decode cX11_over 0 = .ok (.aload_n 0, 1) := by decide +kernel
theorem dX11_over_1 : decode cX11_over 1 = .ok (.iconst 0, 1) := by decide +kernel
theorem dX11_over_2 : decode cX11_over 2 = .ok (.putfield 1, 3) := by decide +kernel
theorem dX11_over_5 : decode cX11_over 5 = .ok (.aload_n 0, 1) := by decide +kernel
theorem dX11_over_6 : decode cX11_over 6 = .ok (.iload_n 1, 1) := by decide +kernel
theorem dX11_over_7 : decode cX11_over 7 = .ok (.invokevirtual 237, 3) := by decide +kernel
theorem dX11_over_10 : decode cX11_over 10 = .ok (.ifCond .eq 11, 3) := by decide +kernel
theorem dX11_over_21 : decode cX11_over 21 = .ok (.iconst (-1), 1) := by decide +kernel
theorem dX11_over_22 : decode cX11_over 22 = .ok (.ireturn, 1) := by decide +kernel
theorem dX11_over_13 : decode cX11_over 13 = .ok (.aload_n 0, 1) := by decide +kernel
theorem dX11_over_14 : decode cX11_over 14 = .ok (.iload_n 2, 1) := by decide +kernel
theorem dX11_over_15 : decode cX11_over 15 = .ok (.invokevirtual 237, 3) := by decide +kernel
theorem dX11_over_18 : decode cX11_over 18 = .ok (.ifCond .ne 5, 3) := by decide +kernel
theorem dX11_over_23 : decode cX11_over 23 = .ok (.aload_n 0, 1) := by decide +kernel
theorem dX11_over_24 : decode cX11_over 24 = .ok (.iconst 1, 1) := by decide +kernel
theorem dX11_over_25 : decode cX11_over 25 = .ok (.iload_n 1, 1) := by decide +kernel
theorem dX11_over_26 : decode cX11_over 26 = .ok (.iload_n 2, 1) := by decide +kernel
theorem dX11_over_27 : decode cX11_over 27 = .ok (.invokevirtual 285, 3) := by decide +kernel
theorem dX11_over_30 : decode cX11_over 30 = .ok (.istore_n 3, 1) := by decide +kernel
theorem dX11_over_31 : decode cX11_over 31 = .ok (.iload_n 3, 1) := by decide +kernel
theorem dX11_over_32 : decode cX11_over 32 = .ok (.ifCond .eq 7, 3) := by decide +kernel
theorem dX11_over_39 : decode cX11_over 39 = .ok (.aload_n 0, 1) := by decide +kernel
theorem dX11_over_40 : decode cX11_over 40 = .ok (.invokevirtual 289, 3) := by decide +kernel
theorem dX11_over_43 : decode cX11_over 43 = .ok (.aload_n 0, 1) := by decide +kernel
theorem dX11_over_44 : decode cX11_over 44 = .ok (.iconst 1, 1) := by decide +kernel
theorem dX11_over_45 : decode cX11_over 45 = .ok (.iload_n 1, 1) := by decide +kernel
theorem dX11_over_46 : decode cX11_over 46 = .ok (.iload_n 2, 1) := by decide +kernel
theorem dX11_over_47 : decode cX11_over 47 = .ok (.invokevirtual 292, 3) := by decide +kernel
theorem dX11_over_50 : decode cX11_over 50 = .ok (.ireturn, 1) := by decide +kernel
theorem dX11_over_35 : decode cX11_over 35 = .ok (.iconst (-1), 1) := by decide +kernel
theorem dX11_over_36 : decode cX11_over 36 = .ok (.iload_n 3, 1) := by decide +kernel
theorem dX11_over_37 : decode cX11_over 37 = .ok (.isub, 1) := by decide +kernel
theorem dX11_over_38 : decode cX11_over 38 = .ok (.ireturn, 1) := by decide +kernel
set_option maxHeartbeats 4000000 in
set_option maxRecDepth 100000 in
theorem s_X11_over {l : Launch} {G : Gc} (qm : Nat) (a1 : Int32) (a2 : Int32) (qm_thrown : Int32) (qm_tape : Nat) (qm_taped : Int32) (qm_size : Int32) (qm_limit : Int32) (qm_to : Int32) (qm_from : Int32) (qm_kind : Int32) (qm_number : Int32) (qm_sign : Int32) (qm_fault : Int32) (qm_place : Int32) (qm_word : Int64) (qm_told : Int32) (qm_now : Nat) (qm_read : Nat) (qm_kept : Nat) (qm_snaps : Nat) (qm_aside : Nat) (qm_name : Nat) (qm_readName : Nat) (qm_keptName : Nat) (qm_isKept : Nat) (qm_onces : Nat) (qm_snapMany : Int32) (qm_order : Nat) (qm_ordered : Nat) (qm_orderMany : Int32) (qm_orderMost : Int32) (qm_passing : Int32) (qm_movedWho : Int32) (qm_scratched : Int32) (qm_text : Nat) (qm_texts : Int32) (qm_seed : Int32) (qm_line : Nat) (qm_written : Nat) (qm_lineMany : Int32) (qm_hasWritten : Int32) (qm_node : Nat) (qm_nodes : Int32) (qm_onesMany : Int32) (qm_within : Int32) (qm_top : Int32) (qm_now_c : Nat → Int32) (qm_snaps_c : Nat → Int32) (hf_qm_now_c : slI qm_now_c) (hf1_qm_now_c : trI qm_now_c) (hi_qm_snapMany : 0 ≤ qm_snapMany.toInt ∧ qm_snapMany.toInt ≤ 8) : Ci l yX11_over cX11_over 4 (some .int) 5 0 0 G [.ref qm, .int a1, .int a2] [(qm, .inr (10, [.int qm_thrown, .ref qm_tape, .int qm_taped, .int qm_size, .int qm_limit, .int qm_to, .int qm_from, .int qm_kind, .int qm_number, .int qm_sign, .int qm_fault, .int qm_place, .long qm_word, .int qm_told, .ref qm_now, .ref qm_read, .ref qm_kept, .ref qm_snaps, .ref qm_aside, .ref qm_name, .ref qm_readName, .ref qm_keptName, .ref qm_isKept, .ref qm_onces, .int qm_snapMany, .ref qm_order, .ref qm_ordered, .int qm_orderMany, .int qm_orderMost, .int qm_passing, .int qm_movedWho, .int qm_scratched, .ref qm_text, .int qm_texts, .int qm_seed, .ref qm_line, .ref qm_written, .int qm_lineMany, .int qm_hasWritten, .ref qm_node, .int qm_nodes, .int qm_onesMany, .int qm_within, .int qm_top])), (qm_now, eI G 339 qm_now_c), (qm_snaps, eI G 264 qm_snaps_c)] (fun (r9 : Int32) (u9 : va_W) => ∃ (x0_qm_snapMany : Int32) (x1_qm_now_c : Nat → Int32) (x2_qm_snaps_c : Nat → Int32) (r_x : Int32), r9 = r_x ∧ u9 = [(qm, .inr (10, [.int 0, .ref qm_tape, .int qm_taped, .int qm_size, .int qm_limit, .int qm_to, .int qm_from, .int qm_kind, .int qm_number, .int qm_sign, .int qm_fault, .int qm_place, .long qm_word, .int qm_told, .ref qm_now, .ref qm_read, .ref qm_kept, .ref qm_snaps, .ref qm_aside, .ref qm_name, .ref qm_readName, .ref qm_keptName, .ref qm_isKept, .ref qm_onces, .int x0_qm_snapMany, .ref qm_order, .ref qm_ordered, .int qm_orderMany, .int qm_orderMost, .int qm_passing, .int qm_movedWho, .int qm_scratched, .ref qm_text, .int qm_texts, .int qm_seed, .ref qm_line, .ref qm_written, .int qm_lineMany, .int qm_hasWritten, .ref qm_node, .int qm_nodes, .int qm_onesMany, .int qm_within, .int qm_top])), (qm_now, eI G 339 x1_qm_now_c), (qm_snaps, eI G 264 x2_qm_snaps_c)] ∧ (0 ≤ x0_qm_snapMany.toInt ∧ x0_qm_snapMany.toInt ≤ 8) ∧ (loW qm_now_c x1_qm_now_c) ∧ (slI x1_qm_now_c) ∧ (trI x1_qm_now_c)) := by
  refine Ci.ofQ (by decide) (Nat.le_of_ble_eq_true rfl) ?_
  intro p e s m below meth c ls A args Q hQ B hw hl
  have C : CallFix p m c cX11_over 4 s args gw "LanternStateModel" := B.1
  have hl : lv_has ls 4 [(0, .ref qm), (1, .int a1), (2, .int a2)] := hl
  refine lv_aload_n C.1 C.2.1 dX11_over_0 rfl (lv_at hl 0 rfl) ?_
  refine lv_iconst (v := 0) C.1 C.2.1 dX11_over_1 (by decide) ?_
  refine x_put (w' := [(qm, .inr (10, [.int 0, .ref qm_tape, .int qm_taped, .int qm_size, .int qm_limit, .int qm_to, .int qm_from, .int qm_kind, .int qm_number, .int qm_sign, .int qm_fault, .int qm_place, .long qm_word, .int qm_told, .ref qm_now, .ref qm_read, .ref qm_kept, .ref qm_snaps, .ref qm_aside, .ref qm_name, .ref qm_readName, .ref qm_keptName, .ref qm_isKept, .ref qm_onces, .int qm_snapMany, .ref qm_order, .ref qm_ordered, .int qm_orderMany, .int qm_orderMost, .int qm_passing, .int qm_movedWho, .int qm_scratched, .ref qm_text, .int qm_texts, .int qm_seed, .ref qm_line, .ref qm_written, .int qm_lineMany, .int qm_hasWritten, .ref qm_node, .int qm_nodes, .int qm_onesMany, .int qm_within, .int qm_top])), (qm_now, eI G 339 qm_now_c), (qm_snaps, eI G 264 qm_snaps_c)]) C hw iwX11 tyX11_ok nmX11 10 rfl 0 rfl 0 (by decide) kw1193 rfl rfl rfl (Nat.le_of_ble_eq_true rfl) rfl dX11_over_2 (fun H locs hw => ?_)
  refine lv_aload_n C.1 C.2.1 dX11_over_5 rfl (lv_at hl 0 rfl) ?_
  refine lv_iload_n C.1 C.2.1 dX11_over_6 rfl (lv_at hl 1 rfl) ?_
  refine x_calliV (As := [.int a1]) (rest := []) (wr := [(qm_snaps, eI G 264 qm_snaps_c)]) C hw (s_X11_isSlide qm a1 0 qm_tape qm_taped qm_size qm_limit qm_to qm_from qm_kind qm_number qm_sign qm_fault qm_place qm_word qm_told qm_now qm_read qm_kept qm_snaps qm_aside qm_name qm_readName qm_keptName qm_isKept qm_onces qm_snapMany qm_order qm_ordered qm_orderMany qm_orderMost qm_passing qm_movedWho qm_scratched qm_text qm_texts qm_seed qm_line qm_written qm_lineMany qm_hasWritten qm_node qm_nodes qm_onesMany qm_within qm_top qm_now_c hf_qm_now_c hf1_qm_now_c) mwX11_isSlide kw1465 [0, 1] [2] rfl rfl rfl rfl (by decide) 0 rfl rfl rfl rfl hl.1 rfl (Nat.le_of_ble_eq_true rfl) ⟨(Nat.le_of_ble_eq_true rfl), (Nat.le_of_ble_eq_true rfl)⟩ ⟨(Nat.le_of_ble_eq_true rfl), (Nat.le_of_ble_eq_true rfl)⟩ dX11_over_7 (fun r1 u9 H locs hp9 hw => ?_)
  rcases hp9 with ⟨rfl, rfl⟩ | ⟨rfl, rfl, hf2, hf3⟩
  · skip
    have hw : Wd G s A [(qm_snaps, eI G 264 qm_snaps_c), (qm, .inr (10, [.int 0, .ref qm_tape, .int qm_taped, .int qm_size, .int qm_limit, .int qm_to, .int qm_from, .int qm_kind, .int qm_number, .int qm_sign, .int qm_fault, .int qm_place, .long qm_word, .int qm_told, .ref qm_now, .ref qm_read, .ref qm_kept, .ref qm_snaps, .ref qm_aside, .ref qm_name, .ref qm_readName, .ref qm_keptName, .ref qm_isKept, .ref qm_onces, .int qm_snapMany, .ref qm_order, .ref qm_ordered, .int qm_orderMany, .int qm_orderMost, .int qm_passing, .int qm_movedWho, .int qm_scratched, .ref qm_text, .int qm_texts, .int qm_seed, .ref qm_line, .ref qm_written, .int qm_lineMany, .int qm_hasWritten, .ref qm_node, .int qm_nodes, .int qm_onesMany, .int qm_within, .int qm_top])), (qm_now, eI G 339 qm_now_c)] H _ := hw
    refine lv_if_eq (tgt := 21) C.1 C.2.1 dX11_over_10 (by decide) (fun _ => ?_) (fun h9 => absurd (by decide) h9)
    refine lv_iconst (v := (-1)) C.1 C.2.1 dX11_over_21 (by decide) ?_
    have hw := hw.sub (w' := [(qm, .inr (10, [.int 0, .ref qm_tape, .int qm_taped, .int qm_size, .int qm_limit, .int qm_to, .int qm_from, .int qm_kind, .int qm_number, .int qm_sign, .int qm_fault, .int qm_place, .long qm_word, .int qm_told, .ref qm_now, .ref qm_read, .ref qm_kept, .ref qm_snaps, .ref qm_aside, .ref qm_name, .ref qm_readName, .ref qm_keptName, .ref qm_isKept, .ref qm_onces, .int qm_snapMany, .ref qm_order, .ref qm_ordered, .int qm_orderMany, .int qm_orderMost, .int qm_passing, .int qm_movedWho, .int qm_scratched, .ref qm_text, .int qm_texts, .int qm_seed, .ref qm_line, .ref qm_written, .int qm_lineMany, .int qm_hasWritten, .ref qm_node, .int qm_nodes, .int qm_onesMany, .int qm_within, .int qm_top])), (qm_now, eI G 339 qm_now_c), (qm_snaps, eI G 264 qm_snaps_c)]) [1, 2, 0] rfl rfl
    exact x_retiQ hQ B hw ⟨qm_snapMany, qm_now_c, qm_snaps_c, (-1), rfl, rfl, (by omega), (loW_rfl qm_now_c), hf_qm_now_c, hf1_qm_now_c⟩ (Nat.le_of_ble_eq_true rfl) (Nat.le_of_ble_eq_true rfl) dX11_over_22
  · skip
    have hw : Wd G s A [(qm_snaps, eI G 264 qm_snaps_c), (qm, .inr (10, [.int 0, .ref qm_tape, .int qm_taped, .int qm_size, .int qm_limit, .int qm_to, .int qm_from, .int qm_kind, .int qm_number, .int qm_sign, .int qm_fault, .int qm_place, .long qm_word, .int qm_told, .ref qm_now, .ref qm_read, .ref qm_kept, .ref qm_snaps, .ref qm_aside, .ref qm_name, .ref qm_readName, .ref qm_keptName, .ref qm_isKept, .ref qm_onces, .int qm_snapMany, .ref qm_order, .ref qm_ordered, .int qm_orderMany, .int qm_orderMost, .int qm_passing, .int qm_movedWho, .int qm_scratched, .ref qm_text, .int qm_texts, .int qm_seed, .ref qm_line, .ref qm_written, .int qm_lineMany, .int qm_hasWritten, .ref qm_node, .int qm_nodes, .int qm_onesMany, .int qm_within, .int qm_top])), (qm_now, eI G 339 qm_now_c)] H _ := hw
    refine lv_if_eq (tgt := 21) C.1 C.2.1 dX11_over_10 (by decide) (fun h9 => absurd h9 (by decide)) (fun _ => ?_)
    refine lv_aload_n C.1 C.2.1 dX11_over_13 rfl (lv_at hl 0 rfl) ?_
    refine lv_iload_n C.1 C.2.1 dX11_over_14 rfl (lv_at hl 2 rfl) ?_
    refine x_calliV (As := [.int a2]) (rest := []) (wr := [(qm_snaps, eI G 264 qm_snaps_c)]) C hw (s_X11_isSlide qm a2 0 qm_tape qm_taped qm_size qm_limit qm_to qm_from qm_kind qm_number qm_sign qm_fault qm_place qm_word qm_told qm_now qm_read qm_kept qm_snaps qm_aside qm_name qm_readName qm_keptName qm_isKept qm_onces qm_snapMany qm_order qm_ordered qm_orderMany qm_orderMost qm_passing qm_movedWho qm_scratched qm_text qm_texts qm_seed qm_line qm_written qm_lineMany qm_hasWritten qm_node qm_nodes qm_onesMany qm_within qm_top qm_now_c hf_qm_now_c hf1_qm_now_c) mwX11_isSlide kw1465 [1, 2] [0] rfl rfl rfl rfl (by decide) 0 rfl rfl rfl rfl hl.1 rfl (Nat.le_of_ble_eq_true rfl) ⟨(Nat.le_of_ble_eq_true rfl), (Nat.le_of_ble_eq_true rfl)⟩ ⟨(Nat.le_of_ble_eq_true rfl), (Nat.le_of_ble_eq_true rfl)⟩ dX11_over_15 (fun r4 u9 H locs hp9 hw => ?_)
    rcases hp9 with ⟨rfl, rfl⟩ | ⟨rfl, rfl, hf5, hf6⟩
    · skip
      have hw : Wd G s A [(qm_snaps, eI G 264 qm_snaps_c), (qm, .inr (10, [.int 0, .ref qm_tape, .int qm_taped, .int qm_size, .int qm_limit, .int qm_to, .int qm_from, .int qm_kind, .int qm_number, .int qm_sign, .int qm_fault, .int qm_place, .long qm_word, .int qm_told, .ref qm_now, .ref qm_read, .ref qm_kept, .ref qm_snaps, .ref qm_aside, .ref qm_name, .ref qm_readName, .ref qm_keptName, .ref qm_isKept, .ref qm_onces, .int qm_snapMany, .ref qm_order, .ref qm_ordered, .int qm_orderMany, .int qm_orderMost, .int qm_passing, .int qm_movedWho, .int qm_scratched, .ref qm_text, .int qm_texts, .int qm_seed, .ref qm_line, .ref qm_written, .int qm_lineMany, .int qm_hasWritten, .ref qm_node, .int qm_nodes, .int qm_onesMany, .int qm_within, .int qm_top])), (qm_now, eI G 339 qm_now_c)] H _ := hw
      refine lv_if_ne (tgt := 23) C.1 C.2.1 dX11_over_18 (by decide) (fun h9 => absurd (by decide) h9) (fun _ => ?_)
      refine lv_iconst (v := (-1)) C.1 C.2.1 dX11_over_21 (by decide) ?_
      have hw := hw.sub (w' := [(qm, .inr (10, [.int 0, .ref qm_tape, .int qm_taped, .int qm_size, .int qm_limit, .int qm_to, .int qm_from, .int qm_kind, .int qm_number, .int qm_sign, .int qm_fault, .int qm_place, .long qm_word, .int qm_told, .ref qm_now, .ref qm_read, .ref qm_kept, .ref qm_snaps, .ref qm_aside, .ref qm_name, .ref qm_readName, .ref qm_keptName, .ref qm_isKept, .ref qm_onces, .int qm_snapMany, .ref qm_order, .ref qm_ordered, .int qm_orderMany, .int qm_orderMost, .int qm_passing, .int qm_movedWho, .int qm_scratched, .ref qm_text, .int qm_texts, .int qm_seed, .ref qm_line, .ref qm_written, .int qm_lineMany, .int qm_hasWritten, .ref qm_node, .int qm_nodes, .int qm_onesMany, .int qm_within, .int qm_top])), (qm_now, eI G 339 qm_now_c), (qm_snaps, eI G 264 qm_snaps_c)]) [1, 2, 0] rfl rfl
      exact x_retiQ hQ B hw ⟨qm_snapMany, qm_now_c, qm_snaps_c, (-1), rfl, rfl, (by omega), (loW_rfl qm_now_c), hf_qm_now_c, hf1_qm_now_c⟩ (Nat.le_of_ble_eq_true rfl) (Nat.le_of_ble_eq_true rfl) dX11_over_22
    · skip
      have hw : Wd G s A [(qm_snaps, eI G 264 qm_snaps_c), (qm, .inr (10, [.int 0, .ref qm_tape, .int qm_taped, .int qm_size, .int qm_limit, .int qm_to, .int qm_from, .int qm_kind, .int qm_number, .int qm_sign, .int qm_fault, .int qm_place, .long qm_word, .int qm_told, .ref qm_now, .ref qm_read, .ref qm_kept, .ref qm_snaps, .ref qm_aside, .ref qm_name, .ref qm_readName, .ref qm_keptName, .ref qm_isKept, .ref qm_onces, .int qm_snapMany, .ref qm_order, .ref qm_ordered, .int qm_orderMany, .int qm_orderMost, .int qm_passing, .int qm_movedWho, .int qm_scratched, .ref qm_text, .int qm_texts, .int qm_seed, .ref qm_line, .ref qm_written, .int qm_lineMany, .int qm_hasWritten, .ref qm_node, .int qm_nodes, .int qm_onesMany, .int qm_within, .int qm_top])), (qm_now, eI G 339 qm_now_c)] H _ := hw
      refine lv_if_ne (tgt := 23) C.1 C.2.1 dX11_over_18 (by decide) (fun _ => ?_) (fun h9 => absurd h9 (by decide))
      refine lv_aload_n C.1 C.2.1 dX11_over_23 rfl (lv_at hl 0 rfl) ?_
      refine lv_iconst (v := 1) C.1 C.2.1 dX11_over_24 (by decide) ?_
      refine lv_iload_n C.1 C.2.1 dX11_over_25 rfl (lv_at hl 1 rfl) ?_
      refine lv_iload_n C.1 C.2.1 dX11_over_26 rfl (lv_at hl 2 rfl) ?_
      refine x_calliV (As := [.int 1, .int a1, .int a2]) (rest := []) (wr := [(qm_snaps, eI G 264 qm_snaps_c)]) C hw (s_X11_why qm 1 a1 a2 0 qm_tape qm_taped qm_size qm_limit qm_to qm_from qm_kind qm_number qm_sign qm_fault qm_place qm_word qm_told qm_now qm_read qm_kept qm_snaps qm_aside qm_name qm_readName qm_keptName qm_isKept qm_onces qm_snapMany qm_order qm_ordered qm_orderMany qm_orderMost qm_passing qm_movedWho qm_scratched qm_text qm_texts qm_seed qm_line qm_written qm_lineMany qm_hasWritten qm_node qm_nodes qm_onesMany qm_within qm_top qm_now_c (by omega) (by omega) hf_qm_now_c hf1_qm_now_c) mwX11_why kw1553 [1, 2] [0] rfl rfl rfl rfl (by decide) 0 rfl rfl rfl rfl hl.1 rfl (Nat.le_of_ble_eq_true rfl) ⟨(Nat.le_of_ble_eq_true rfl), (Nat.le_of_ble_eq_true rfl)⟩ ⟨(Nat.le_of_ble_eq_true rfl), (Nat.le_of_ble_eq_true rfl)⟩ dX11_over_27 (fun r7 u9 H locs hp9 hw => ?_)
      obtain ⟨x8, rfl, rfl, hf9⟩ := hp9
      have hw : Wd G s A [(qm_snaps, eI G 264 qm_snaps_c), (qm, .inr (10, [.int 0, .ref qm_tape, .int qm_taped, .int qm_size, .int qm_limit, .int qm_to, .int qm_from, .int qm_kind, .int qm_number, .int qm_sign, .int qm_fault, .int qm_place, .long qm_word, .int qm_told, .ref qm_now, .ref qm_read, .ref qm_kept, .ref qm_snaps, .ref qm_aside, .ref qm_name, .ref qm_readName, .ref qm_keptName, .ref qm_isKept, .ref qm_onces, .int qm_snapMany, .ref qm_order, .ref qm_ordered, .int qm_orderMany, .int qm_orderMost, .int qm_passing, .int qm_movedWho, .int qm_scratched, .ref qm_text, .int qm_texts, .int qm_seed, .ref qm_line, .ref qm_written, .int qm_lineMany, .int qm_hasWritten, .ref qm_node, .int qm_nodes, .int qm_onesMany, .int qm_within, .int qm_top])), (qm_now, eI G 339 qm_now_c)] H _ := hw
      refine lv_istore_n (lv' := [(3, .int r7), (0, .ref qm), (1, .int a1), (2, .int a2)]) C.1 C.2.1 dX11_over_30 rfl hl (by decide) rfl (fun ls hl => ?_)
      refine lv_iload_n C.1 C.2.1 dX11_over_31 rfl (lv_at hl 0 rfl) ?_
      refine lv_if_eq (tgt := 39) C.1 C.2.1 dX11_over_32 (by decide) (fun c10 => ?_) (fun c10 => ?_)
      · skip
        have c10 : r7.toInt = 0 := i_eqT (X := r7.toInt) (Y := 0) rfl rfl c10
        refine lv_aload_n C.1 C.2.1 dX11_over_39 rfl (lv_at hl 1 rfl) ?_
        refine x_callvV (As := []) (rest := []) (wr := []) C hw (s_X11_snap qm 0 qm_tape qm_taped qm_size qm_limit qm_to qm_from qm_kind qm_number qm_sign qm_fault qm_place qm_word qm_told qm_now qm_read qm_kept qm_snaps qm_aside qm_name qm_readName qm_keptName qm_isKept qm_onces qm_snapMany qm_order qm_ordered qm_orderMany qm_orderMost qm_passing qm_movedWho qm_scratched qm_text qm_texts qm_seed qm_line qm_written qm_lineMany qm_hasWritten qm_node qm_nodes qm_onesMany qm_within qm_top qm_now_c qm_snaps_c hf_qm_now_c hf1_qm_now_c (by omega)) mwX11_snap kw1561 [1, 2, 0] [] rfl rfl rfl rfl (by decide) 0 rfl rfl rfl rfl hl.1 rfl (Nat.le_of_ble_eq_true rfl) ⟨(Nat.le_of_ble_eq_true rfl), (Nat.le_of_ble_eq_true rfl)⟩ ⟨(Nat.le_of_ble_eq_true rfl), (Nat.le_of_ble_eq_true rfl)⟩ dX11_over_40 (fun  u9 H locs hp9 hw => ?_)
        obtain ⟨x11, x12, rfl, hf13⟩ := hp9
        have hw : Wd G s A [(qm, .inr (10, [.int 0, .ref qm_tape, .int qm_taped, .int qm_size, .int qm_limit, .int qm_to, .int qm_from, .int qm_kind, .int qm_number, .int qm_sign, .int qm_fault, .int qm_place, .long qm_word, .int qm_told, .ref qm_now, .ref qm_read, .ref qm_kept, .ref qm_snaps, .ref qm_aside, .ref qm_name, .ref qm_readName, .ref qm_keptName, .ref qm_isKept, .ref qm_onces, .int x11, .ref qm_order, .ref qm_ordered, .int qm_orderMany, .int qm_orderMost, .int qm_passing, .int qm_movedWho, .int qm_scratched, .ref qm_text, .int qm_texts, .int qm_seed, .ref qm_line, .ref qm_written, .int qm_lineMany, .int qm_hasWritten, .ref qm_node, .int qm_nodes, .int qm_onesMany, .int qm_within, .int qm_top])), (qm_now, eI G 339 qm_now_c), (qm_snaps, eI G 264 x12)] H _ := hw
        refine lv_aload_n C.1 C.2.1 dX11_over_43 rfl (lv_at hl 1 rfl) ?_
        refine lv_iconst (v := 1) C.1 C.2.1 dX11_over_44 (by decide) ?_
        refine lv_iload_n C.1 C.2.1 dX11_over_45 rfl (lv_at hl 2 rfl) ?_
        refine lv_iload_n C.1 C.2.1 dX11_over_46 rfl (lv_at hl 3 rfl) ?_
        refine x_calliV (As := [.int 1, .int a1, .int a2]) (rest := []) (wr := [(qm_snaps, eI G 264 x12)]) C hw (s_X11_live qm 1 a1 a2 0 qm_tape qm_taped qm_size qm_limit qm_to qm_from qm_kind qm_number qm_sign qm_fault qm_place qm_word qm_told qm_now qm_read qm_kept qm_snaps qm_aside qm_name qm_readName qm_keptName qm_isKept qm_onces x11 qm_order qm_ordered qm_orderMany qm_orderMost qm_passing qm_movedWho qm_scratched qm_text qm_texts qm_seed qm_line qm_written qm_lineMany qm_hasWritten qm_node qm_nodes qm_onesMany qm_within qm_top qm_now_c (by omega) (by omega) hf_qm_now_c hf1_qm_now_c) mwX11_live kw1565 [0, 1] [2] rfl rfl rfl rfl (by decide) 0 rfl rfl rfl rfl hl.1 rfl (Nat.le_of_ble_eq_true rfl) ⟨(Nat.le_of_ble_eq_true rfl), (Nat.le_of_ble_eq_true rfl)⟩ ⟨(Nat.le_of_ble_eq_true rfl), (Nat.le_of_ble_eq_true rfl)⟩ dX11_over_47 (fun r14 u9 H locs hp9 hw => ?_)
        obtain ⟨x15, x16, rfl, rfl, hf17, hf18, hf19, hf20⟩ := hp9
        have hw : Wd G s A [(qm_snaps, eI G 264 x12), (qm, .inr (10, [.int 0, .ref qm_tape, .int qm_taped, .int qm_size, .int qm_limit, .int qm_to, .int qm_from, .int qm_kind, .int qm_number, .int qm_sign, .int qm_fault, .int qm_place, .long qm_word, .int qm_told, .ref qm_now, .ref qm_read, .ref qm_kept, .ref qm_snaps, .ref qm_aside, .ref qm_name, .ref qm_readName, .ref qm_keptName, .ref qm_isKept, .ref qm_onces, .int x11, .ref qm_order, .ref qm_ordered, .int qm_orderMany, .int qm_orderMost, .int qm_passing, .int qm_movedWho, .int qm_scratched, .ref qm_text, .int qm_texts, .int qm_seed, .ref qm_line, .ref qm_written, .int qm_lineMany, .int qm_hasWritten, .ref qm_node, .int qm_nodes, .int qm_onesMany, .int qm_within, .int qm_top])), (qm_now, eI G 339 x15)] H _ := hw
        have hw := hw.sub (w' := [(qm, .inr (10, [.int 0, .ref qm_tape, .int qm_taped, .int qm_size, .int qm_limit, .int qm_to, .int qm_from, .int qm_kind, .int qm_number, .int qm_sign, .int qm_fault, .int qm_place, .long qm_word, .int qm_told, .ref qm_now, .ref qm_read, .ref qm_kept, .ref qm_snaps, .ref qm_aside, .ref qm_name, .ref qm_readName, .ref qm_keptName, .ref qm_isKept, .ref qm_onces, .int x11, .ref qm_order, .ref qm_ordered, .int qm_orderMany, .int qm_orderMost, .int qm_passing, .int qm_movedWho, .int qm_scratched, .ref qm_text, .int qm_texts, .int qm_seed, .ref qm_line, .ref qm_written, .int qm_lineMany, .int qm_hasWritten, .ref qm_node, .int qm_nodes, .int qm_onesMany, .int qm_within, .int qm_top])), (qm_now, eI G 339 x15), (qm_snaps, eI G 264 x12)]) [1, 2, 0] rfl rfl
        exact x_retiQ hQ B hw ⟨x11, x15, x12, r14, rfl, rfl, (by omega), hf17, hf18, hf19⟩ (Nat.le_of_ble_eq_true rfl) (Nat.le_of_ble_eq_true rfl) dX11_over_50
      · skip
        have c10 : r7.toInt ≠ 0 := i_eqF (X := r7.toInt) (Y := 0) rfl rfl c10
        refine lv_iconst (v := (-1)) C.1 C.2.1 dX11_over_35 (by decide) ?_
        refine lv_iload_n C.1 C.2.1 dX11_over_36 rfl (lv_at hl 0 rfl) ?_
        refine lv_isub C.1 C.2.1 dX11_over_37 (x_genP (fun z : Int32 => z.toInt = (-1) - r7.toInt) (i_sub (X := (-1)) (Y := r7.toInt) rfl rfl (by omega) (by omega)) (fun v21 hv21 => ?_))
        have hw := hw.sub (w' := [(qm, .inr (10, [.int 0, .ref qm_tape, .int qm_taped, .int qm_size, .int qm_limit, .int qm_to, .int qm_from, .int qm_kind, .int qm_number, .int qm_sign, .int qm_fault, .int qm_place, .long qm_word, .int qm_told, .ref qm_now, .ref qm_read, .ref qm_kept, .ref qm_snaps, .ref qm_aside, .ref qm_name, .ref qm_readName, .ref qm_keptName, .ref qm_isKept, .ref qm_onces, .int qm_snapMany, .ref qm_order, .ref qm_ordered, .int qm_orderMany, .int qm_orderMost, .int qm_passing, .int qm_movedWho, .int qm_scratched, .ref qm_text, .int qm_texts, .int qm_seed, .ref qm_line, .ref qm_written, .int qm_lineMany, .int qm_hasWritten, .ref qm_node, .int qm_nodes, .int qm_onesMany, .int qm_within, .int qm_top])), (qm_now, eI G 339 qm_now_c), (qm_snaps, eI G 264 qm_snaps_c)]) [1, 2, 0] rfl rfl
        exact x_retiQ hQ B hw ⟨qm_snapMany, qm_now_c, qm_snaps_c, v21, rfl, rfl, (by omega), (loW_rfl qm_now_c), hf_qm_now_c, hf1_qm_now_c⟩ (Nat.le_of_ble_eq_true rfl) (Nat.le_of_ble_eq_true rfl) dX11_over_38
theorem dX11_act_0 : decode cX11_act 0 = .ok (.aload_n 0, 1) := by decide +kernel
theorem dX11_act_1 : decode cX11_act 1 = .ok (.iload_n 1, 1) := by decide +kernel
theorem dX11_act_2 : decode cX11_act 2 = .ok (.iload_n 2, 1) := by decide +kernel
theorem dX11_act_3 : decode cX11_act 3 = .ok (.iload_n 3, 1) := by decide +kernel
theorem dX11_act_4 : decode cX11_act 4 = .ok (.invokevirtual 285, 3) := by decide +kernel
theorem dX11_act_7 : decode cX11_act 7 = .ok (.istore 4, 2) := by decide +kernel
theorem dX11_act_9 : decode cX11_act 9 = .ok (.iload 4, 2) := by decide +kernel
theorem dX11_act_11 : decode cX11_act 11 = .ok (.ifCond .eq 6, 3) := by decide +kernel
theorem dX11_act_17 : decode cX11_act 17 = .ok (.aload_n 0, 1) := by decide +kernel
theorem dX11_act_18 : decode cX11_act 18 = .ok (.invokevirtual 289, 3) := by decide +kernel
theorem dX11_act_21 : decode cX11_act 21 = .ok (.aload_n 0, 1) := by decide +kernel
theorem dX11_act_22 : decode cX11_act 22 = .ok (.iload_n 1, 1) := by decide +kernel
theorem dX11_act_23 : decode cX11_act 23 = .ok (.iload_n 2, 1) := by decide +kernel
theorem dX11_act_24 : decode cX11_act 24 = .ok (.iload_n 3, 1) := by decide +kernel
theorem dX11_act_25 : decode cX11_act 25 = .ok (.invokevirtual 292, 3) := by decide +kernel
theorem dX11_act_28 : decode cX11_act 28 = .ok (.ireturn, 1) := by decide +kernel
theorem dX11_act_14 : decode cX11_act 14 = .ok (.iload 4, 2) := by decide +kernel
theorem dX11_act_16 : decode cX11_act 16 = .ok (.ireturn, 1) := by decide +kernel
set_option maxHeartbeats 4000000 in
set_option maxRecDepth 100000 in
theorem s_X11_act {l : Launch} {G : Gc} (qm : Nat) (a1 : Int32) (a2 : Int32) (a3 : Int32) (qm_thrown : Int32) (qm_tape : Nat) (qm_taped : Int32) (qm_size : Int32) (qm_limit : Int32) (qm_to : Int32) (qm_from : Int32) (qm_kind : Int32) (qm_number : Int32) (qm_sign : Int32) (qm_fault : Int32) (qm_place : Int32) (qm_word : Int64) (qm_told : Int32) (qm_now : Nat) (qm_read : Nat) (qm_kept : Nat) (qm_snaps : Nat) (qm_aside : Nat) (qm_name : Nat) (qm_readName : Nat) (qm_keptName : Nat) (qm_isKept : Nat) (qm_onces : Nat) (qm_snapMany : Int32) (qm_order : Nat) (qm_ordered : Nat) (qm_orderMany : Int32) (qm_orderMost : Int32) (qm_passing : Int32) (qm_movedWho : Int32) (qm_scratched : Int32) (qm_text : Nat) (qm_texts : Int32) (qm_seed : Int32) (qm_line : Nat) (qm_written : Nat) (qm_lineMany : Int32) (qm_hasWritten : Int32) (qm_node : Nat) (qm_nodes : Int32) (qm_onesMany : Int32) (qm_within : Int32) (qm_top : Int32) (qm_now_c : Nat → Int32) (qm_snaps_c : Nat → Int32) (hi_a2 : (-1) ≤ a2.toInt ∧ a2.toInt ≤ 7) (hi_a3 : (-1) ≤ a3.toInt ∧ a3.toInt ≤ 24) (hf_qm_now_c : slI qm_now_c) (hf1_qm_now_c : trI qm_now_c) (hi_qm_snapMany : 0 ≤ qm_snapMany.toInt ∧ qm_snapMany.toInt ≤ 8) : Ci l yX11_act cX11_act 5 (some .int) 5 0 0 G [.ref qm, .int a1, .int a2, .int a3] [(qm, .inr (10, [.int qm_thrown, .ref qm_tape, .int qm_taped, .int qm_size, .int qm_limit, .int qm_to, .int qm_from, .int qm_kind, .int qm_number, .int qm_sign, .int qm_fault, .int qm_place, .long qm_word, .int qm_told, .ref qm_now, .ref qm_read, .ref qm_kept, .ref qm_snaps, .ref qm_aside, .ref qm_name, .ref qm_readName, .ref qm_keptName, .ref qm_isKept, .ref qm_onces, .int qm_snapMany, .ref qm_order, .ref qm_ordered, .int qm_orderMany, .int qm_orderMost, .int qm_passing, .int qm_movedWho, .int qm_scratched, .ref qm_text, .int qm_texts, .int qm_seed, .ref qm_line, .ref qm_written, .int qm_lineMany, .int qm_hasWritten, .ref qm_node, .int qm_nodes, .int qm_onesMany, .int qm_within, .int qm_top])), (qm_now, eI G 339 qm_now_c), (qm_snaps, eI G 264 qm_snaps_c)] (fun (r9 : Int32) (u9 : va_W) => ∃ (x0_qm_snapMany : Int32) (x1_qm_now_c : Nat → Int32) (x2_qm_snaps_c : Nat → Int32) (r_x : Int32), r9 = r_x ∧ u9 = [(qm, .inr (10, [.int qm_thrown, .ref qm_tape, .int qm_taped, .int qm_size, .int qm_limit, .int qm_to, .int qm_from, .int qm_kind, .int qm_number, .int qm_sign, .int qm_fault, .int qm_place, .long qm_word, .int qm_told, .ref qm_now, .ref qm_read, .ref qm_kept, .ref qm_snaps, .ref qm_aside, .ref qm_name, .ref qm_readName, .ref qm_keptName, .ref qm_isKept, .ref qm_onces, .int x0_qm_snapMany, .ref qm_order, .ref qm_ordered, .int qm_orderMany, .int qm_orderMost, .int qm_passing, .int qm_movedWho, .int qm_scratched, .ref qm_text, .int qm_texts, .int qm_seed, .ref qm_line, .ref qm_written, .int qm_lineMany, .int qm_hasWritten, .ref qm_node, .int qm_nodes, .int qm_onesMany, .int qm_within, .int qm_top])), (qm_now, eI G 339 x1_qm_now_c), (qm_snaps, eI G 264 x2_qm_snaps_c)] ∧ (0 ≤ x0_qm_snapMany.toInt ∧ x0_qm_snapMany.toInt ≤ 8) ∧ (loW qm_now_c x1_qm_now_c) ∧ (slI x1_qm_now_c) ∧ (trI x1_qm_now_c)) := by
  refine Ci.ofQ (by decide) (Nat.le_of_ble_eq_true rfl) ?_
  intro p e s m below meth c ls A args Q hQ B hw hl
  have C : CallFix p m c cX11_act 5 s args gw "LanternStateModel" := B.1
  have hl : lv_has ls 5 [(0, .ref qm), (1, .int a1), (2, .int a2), (3, .int a3)] := hl
  refine lv_aload_n C.1 C.2.1 dX11_act_0 rfl (lv_at hl 0 rfl) ?_
  refine lv_iload_n C.1 C.2.1 dX11_act_1 rfl (lv_at hl 1 rfl) ?_
  refine lv_iload_n C.1 C.2.1 dX11_act_2 rfl (lv_at hl 2 rfl) ?_
  refine lv_iload_n C.1 C.2.1 dX11_act_3 rfl (lv_at hl 3 rfl) ?_
  refine x_calliV (As := [.int a1, .int a2, .int a3]) (rest := []) (wr := [(qm_snaps, eI G 264 qm_snaps_c)]) C hw (s_X11_why qm a1 a2 a3 qm_thrown qm_tape qm_taped qm_size qm_limit qm_to qm_from qm_kind qm_number qm_sign qm_fault qm_place qm_word qm_told qm_now qm_read qm_kept qm_snaps qm_aside qm_name qm_readName qm_keptName qm_isKept qm_onces qm_snapMany qm_order qm_ordered qm_orderMany qm_orderMost qm_passing qm_movedWho qm_scratched qm_text qm_texts qm_seed qm_line qm_written qm_lineMany qm_hasWritten qm_node qm_nodes qm_onesMany qm_within qm_top qm_now_c (by omega) (by omega) hf_qm_now_c hf1_qm_now_c) mwX11_why kw1553 [0, 1] [2] rfl rfl rfl rfl (by decide) 0 rfl rfl rfl rfl hl.1 rfl (Nat.le_of_ble_eq_true rfl) ⟨(Nat.le_of_ble_eq_true rfl), (Nat.le_of_ble_eq_true rfl)⟩ ⟨(Nat.le_of_ble_eq_true rfl), (Nat.le_of_ble_eq_true rfl)⟩ dX11_act_4 (fun r1 u9 H locs hp9 hw => ?_)
  obtain ⟨x2, rfl, rfl, hf3⟩ := hp9
  have hw : Wd G s A [(qm_snaps, eI G 264 qm_snaps_c), (qm, .inr (10, [.int qm_thrown, .ref qm_tape, .int qm_taped, .int qm_size, .int qm_limit, .int qm_to, .int qm_from, .int qm_kind, .int qm_number, .int qm_sign, .int qm_fault, .int qm_place, .long qm_word, .int qm_told, .ref qm_now, .ref qm_read, .ref qm_kept, .ref qm_snaps, .ref qm_aside, .ref qm_name, .ref qm_readName, .ref qm_keptName, .ref qm_isKept, .ref qm_onces, .int qm_snapMany, .ref qm_order, .ref qm_ordered, .int qm_orderMany, .int qm_orderMost, .int qm_passing, .int qm_movedWho, .int qm_scratched, .ref qm_text, .int qm_texts, .int qm_seed, .ref qm_line, .ref qm_written, .int qm_lineMany, .int qm_hasWritten, .ref qm_node, .int qm_nodes, .int qm_onesMany, .int qm_within, .int qm_top])), (qm_now, eI G 339 qm_now_c)] H _ := hw
  refine lv_istore (lv' := [(4, .int r1), (0, .ref qm), (1, .int a1), (2, .int a2), (3, .int a3)]) C.1 C.2.1 dX11_act_7 hl (by decide) rfl (fun ls hl => ?_)
  refine lv_iload C.1 C.2.1 dX11_act_9 (lv_at hl 0 rfl) ?_
  refine lv_if_eq (tgt := 17) C.1 C.2.1 dX11_act_11 (by decide) (fun c4 => ?_) (fun c4 => ?_)
  · skip
    have c4 : r1.toInt = 0 := i_eqT (X := r1.toInt) (Y := 0) rfl rfl c4
    refine lv_aload_n C.1 C.2.1 dX11_act_17 rfl (lv_at hl 1 rfl) ?_
    refine x_callvV (As := []) (rest := []) (wr := []) C hw (s_X11_snap qm qm_thrown qm_tape qm_taped qm_size qm_limit qm_to qm_from qm_kind qm_number qm_sign qm_fault qm_place qm_word qm_told qm_now qm_read qm_kept qm_snaps qm_aside qm_name qm_readName qm_keptName qm_isKept qm_onces qm_snapMany qm_order qm_ordered qm_orderMany qm_orderMost qm_passing qm_movedWho qm_scratched qm_text qm_texts qm_seed qm_line qm_written qm_lineMany qm_hasWritten qm_node qm_nodes qm_onesMany qm_within qm_top qm_now_c qm_snaps_c hf_qm_now_c hf1_qm_now_c (by omega)) mwX11_snap kw1561 [1, 2, 0] [] rfl rfl rfl rfl (by decide) 0 rfl rfl rfl rfl hl.1 rfl (Nat.le_of_ble_eq_true rfl) ⟨(Nat.le_of_ble_eq_true rfl), (Nat.le_of_ble_eq_true rfl)⟩ ⟨(Nat.le_of_ble_eq_true rfl), (Nat.le_of_ble_eq_true rfl)⟩ dX11_act_18 (fun  u9 H locs hp9 hw => ?_)
    obtain ⟨x5, x6, rfl, hf7⟩ := hp9
    have hw : Wd G s A [(qm, .inr (10, [.int qm_thrown, .ref qm_tape, .int qm_taped, .int qm_size, .int qm_limit, .int qm_to, .int qm_from, .int qm_kind, .int qm_number, .int qm_sign, .int qm_fault, .int qm_place, .long qm_word, .int qm_told, .ref qm_now, .ref qm_read, .ref qm_kept, .ref qm_snaps, .ref qm_aside, .ref qm_name, .ref qm_readName, .ref qm_keptName, .ref qm_isKept, .ref qm_onces, .int x5, .ref qm_order, .ref qm_ordered, .int qm_orderMany, .int qm_orderMost, .int qm_passing, .int qm_movedWho, .int qm_scratched, .ref qm_text, .int qm_texts, .int qm_seed, .ref qm_line, .ref qm_written, .int qm_lineMany, .int qm_hasWritten, .ref qm_node, .int qm_nodes, .int qm_onesMany, .int qm_within, .int qm_top])), (qm_now, eI G 339 qm_now_c), (qm_snaps, eI G 264 x6)] H _ := hw
    refine lv_aload_n C.1 C.2.1 dX11_act_21 rfl (lv_at hl 1 rfl) ?_
    refine lv_iload_n C.1 C.2.1 dX11_act_22 rfl (lv_at hl 2 rfl) ?_
    refine lv_iload_n C.1 C.2.1 dX11_act_23 rfl (lv_at hl 3 rfl) ?_
    refine lv_iload_n C.1 C.2.1 dX11_act_24 rfl (lv_at hl 4 rfl) ?_
    refine x_calliV (As := [.int a1, .int a2, .int a3]) (rest := []) (wr := [(qm_snaps, eI G 264 x6)]) C hw (s_X11_live qm a1 a2 a3 qm_thrown qm_tape qm_taped qm_size qm_limit qm_to qm_from qm_kind qm_number qm_sign qm_fault qm_place qm_word qm_told qm_now qm_read qm_kept qm_snaps qm_aside qm_name qm_readName qm_keptName qm_isKept qm_onces x5 qm_order qm_ordered qm_orderMany qm_orderMost qm_passing qm_movedWho qm_scratched qm_text qm_texts qm_seed qm_line qm_written qm_lineMany qm_hasWritten qm_node qm_nodes qm_onesMany qm_within qm_top qm_now_c (by omega) (by omega) hf_qm_now_c hf1_qm_now_c) mwX11_live kw1565 [0, 1] [2] rfl rfl rfl rfl (by decide) 0 rfl rfl rfl rfl hl.1 rfl (Nat.le_of_ble_eq_true rfl) ⟨(Nat.le_of_ble_eq_true rfl), (Nat.le_of_ble_eq_true rfl)⟩ ⟨(Nat.le_of_ble_eq_true rfl), (Nat.le_of_ble_eq_true rfl)⟩ dX11_act_25 (fun r8 u9 H locs hp9 hw => ?_)
    obtain ⟨x9, x10, rfl, rfl, hf11, hf12, hf13, hf14⟩ := hp9
    have hw : Wd G s A [(qm_snaps, eI G 264 x6), (qm, .inr (10, [.int qm_thrown, .ref qm_tape, .int qm_taped, .int qm_size, .int qm_limit, .int qm_to, .int qm_from, .int qm_kind, .int qm_number, .int qm_sign, .int qm_fault, .int qm_place, .long qm_word, .int qm_told, .ref qm_now, .ref qm_read, .ref qm_kept, .ref qm_snaps, .ref qm_aside, .ref qm_name, .ref qm_readName, .ref qm_keptName, .ref qm_isKept, .ref qm_onces, .int x5, .ref qm_order, .ref qm_ordered, .int qm_orderMany, .int qm_orderMost, .int qm_passing, .int qm_movedWho, .int qm_scratched, .ref qm_text, .int qm_texts, .int qm_seed, .ref qm_line, .ref qm_written, .int qm_lineMany, .int qm_hasWritten, .ref qm_node, .int qm_nodes, .int qm_onesMany, .int qm_within, .int qm_top])), (qm_now, eI G 339 x9)] H _ := hw
    have hw := hw.sub (w' := [(qm, .inr (10, [.int qm_thrown, .ref qm_tape, .int qm_taped, .int qm_size, .int qm_limit, .int qm_to, .int qm_from, .int qm_kind, .int qm_number, .int qm_sign, .int qm_fault, .int qm_place, .long qm_word, .int qm_told, .ref qm_now, .ref qm_read, .ref qm_kept, .ref qm_snaps, .ref qm_aside, .ref qm_name, .ref qm_readName, .ref qm_keptName, .ref qm_isKept, .ref qm_onces, .int x5, .ref qm_order, .ref qm_ordered, .int qm_orderMany, .int qm_orderMost, .int qm_passing, .int qm_movedWho, .int qm_scratched, .ref qm_text, .int qm_texts, .int qm_seed, .ref qm_line, .ref qm_written, .int qm_lineMany, .int qm_hasWritten, .ref qm_node, .int qm_nodes, .int qm_onesMany, .int qm_within, .int qm_top])), (qm_now, eI G 339 x9), (qm_snaps, eI G 264 x6)]) [1, 2, 0] rfl rfl
    exact x_retiQ hQ B hw ⟨x5, x9, x6, r8, rfl, rfl, (by omega), hf11, hf12, hf13⟩ (Nat.le_of_ble_eq_true rfl) (Nat.le_of_ble_eq_true rfl) dX11_act_28
  · skip
    have c4 : r1.toInt ≠ 0 := i_eqF (X := r1.toInt) (Y := 0) rfl rfl c4
    refine lv_iload C.1 C.2.1 dX11_act_14 (lv_at hl 0 rfl) ?_
    have hw := hw.sub (w' := [(qm, .inr (10, [.int qm_thrown, .ref qm_tape, .int qm_taped, .int qm_size, .int qm_limit, .int qm_to, .int qm_from, .int qm_kind, .int qm_number, .int qm_sign, .int qm_fault, .int qm_place, .long qm_word, .int qm_told, .ref qm_now, .ref qm_read, .ref qm_kept, .ref qm_snaps, .ref qm_aside, .ref qm_name, .ref qm_readName, .ref qm_keptName, .ref qm_isKept, .ref qm_onces, .int qm_snapMany, .ref qm_order, .ref qm_ordered, .int qm_orderMany, .int qm_orderMost, .int qm_passing, .int qm_movedWho, .int qm_scratched, .ref qm_text, .int qm_texts, .int qm_seed, .ref qm_line, .ref qm_written, .int qm_lineMany, .int qm_hasWritten, .ref qm_node, .int qm_nodes, .int qm_onesMany, .int qm_within, .int qm_top])), (qm_now, eI G 339 qm_now_c), (qm_snaps, eI G 264 qm_snaps_c)]) [1, 2, 0] rfl rfl
    exact x_retiQ hQ B hw ⟨qm_snapMany, qm_now_c, qm_snaps_c, r1, rfl, rfl, (by omega), (loW_rfl qm_now_c), hf_qm_now_c, hf1_qm_now_c⟩ (Nat.le_of_ble_eq_true rfl) (Nat.le_of_ble_eq_true rfl) dX11_act_16
theorem dX11_scratch_0 : decode cX11_scratch 0 = .ok (.aload_n 0, 1) := by decide +kernel
theorem dX11_scratch_1 : decode cX11_scratch 1 = .ok (.iconst 0, 1) := by decide +kernel
theorem dX11_scratch_2 : decode cX11_scratch 2 = .ok (.putfield 1, 3) := by decide +kernel
theorem dX11_scratch_5 : decode cX11_scratch 5 = .ok (.aload_n 0, 1) := by decide +kernel
theorem dX11_scratch_6 : decode cX11_scratch 6 = .ok (.iload_n 1, 1) := by decide +kernel
theorem dX11_scratch_7 : decode cX11_scratch 7 = .ok (.invokevirtual 237, 3) := by decide +kernel
theorem dX11_scratch_10 : decode cX11_scratch 10 = .ok (.ifCond .eq 35, 3) := by decide +kernel
theorem dX11_scratch_45 : decode cX11_scratch 45 = .ok (.iconst (-1), 1) := by decide +kernel
theorem dX11_scratch_46 : decode cX11_scratch 46 = .ok (.ireturn, 1) := by decide +kernel
theorem dX11_scratch_13 : decode cX11_scratch 13 = .ok (.iload_n 2, 1) := by decide +kernel
theorem dX11_scratch_14 : decode cX11_scratch 14 = .ok (.iconst 0, 1) := by decide +kernel
theorem dX11_scratch_15 : decode cX11_scratch 15 = .ok (.iconst 3, 1) := by decide +kernel
theorem dX11_scratch_16 : decode cX11_scratch 16 = .ok (.invokestatic 75, 3) := by decide +kernel
theorem dX11_scratch_19 : decode cX11_scratch 19 = .ok (.ifCond .eq 26, 3) := by decide +kernel
theorem dX11_scratch_22 : decode cX11_scratch 22 = .ok (.iload_n 3, 1) := by decide +kernel
theorem dX11_scratch_23 : decode cX11_scratch 23 = .ok (.iconst 0, 1) := by decide +kernel
theorem dX11_scratch_24 : decode cX11_scratch 24 = .ok (.iconst 3, 1) := by decide +kernel
theorem dX11_scratch_25 : decode cX11_scratch 25 = .ok (.invokestatic 75, 3) := by decide +kernel
theorem dX11_scratch_28 : decode cX11_scratch 28 = .ok (.ifCond .eq 17, 3) := by decide +kernel
theorem dX11_scratch_31 : decode cX11_scratch 31 = .ok (.aload_n 0, 1) := by decide +kernel
theorem dX11_scratch_32 : decode cX11_scratch 32 = .ok (.iconst 2, 1) := by decide +kernel
theorem dX11_scratch_33 : decode cX11_scratch 33 = .ok (.iload_n 1, 1) := by decide +kernel
theorem dX11_scratch_34 : decode cX11_scratch 34 = .ok (.iconst 4, 1) := by decide +kernel
theorem dX11_scratch_35 : decode cX11_scratch 35 = .ok (.iload_n 3, 1) := by decide +kernel
theorem dX11_scratch_36 : decode cX11_scratch 36 = .ok (.imul, 1) := by decide +kernel
theorem dX11_scratch_37 : decode cX11_scratch 37 = .ok (.iload_n 2, 1) := by decide +kernel
theorem dX11_scratch_38 : decode cX11_scratch 38 = .ok (.iadd, 1) := by decide +kernel
theorem dX11_scratch_39 : decode cX11_scratch 39 = .ok (.invokevirtual 295, 3) := by decide +kernel
theorem mwX11_act : MwV yX11_act cX11_act 5 (some .int) 3 := ⟨⟨kw1584, kw15, by decide +kernel⟩, kw1583, kS86⟩
theorem dX11_scratch_42 : decode cX11_scratch 42 = .ok (.goto 4, 3) := by decide +kernel
set_option maxHeartbeats 4000000 in
set_option maxRecDepth 100000 in
theorem s_X11_scratch {l : Launch} {G : Gc} (qm : Nat) (a1 : Int32) (a2 : Int32) (a3 : Int32) (qm_thrown : Int32) (qm_tape : Nat) (qm_taped : Int32) (qm_size : Int32) (qm_limit : Int32) (qm_to : Int32) (qm_from : Int32) (qm_kind : Int32) (qm_number : Int32) (qm_sign : Int32) (qm_fault : Int32) (qm_place : Int32) (qm_word : Int64) (qm_told : Int32) (qm_now : Nat) (qm_read : Nat) (qm_kept : Nat) (qm_snaps : Nat) (qm_aside : Nat) (qm_name : Nat) (qm_readName : Nat) (qm_keptName : Nat) (qm_isKept : Nat) (qm_onces : Nat) (qm_snapMany : Int32) (qm_order : Nat) (qm_ordered : Nat) (qm_orderMany : Int32) (qm_orderMost : Int32) (qm_passing : Int32) (qm_movedWho : Int32) (qm_scratched : Int32) (qm_text : Nat) (qm_texts : Int32) (qm_seed : Int32) (qm_line : Nat) (qm_written : Nat) (qm_lineMany : Int32) (qm_hasWritten : Int32) (qm_node : Nat) (qm_nodes : Int32) (qm_onesMany : Int32) (qm_within : Int32) (qm_top : Int32) (qm_now_c : Nat → Int32) (qm_snaps_c : Nat → Int32) (hf_qm_now_c : slI qm_now_c) (hf1_qm_now_c : trI qm_now_c) (hi_qm_snapMany : 0 ≤ qm_snapMany.toInt ∧ qm_snapMany.toInt ≤ 8) : Ci l yX11_scratch cX11_scratch 4 (some .int) 6 0 0 G [.ref qm, .int a1, .int a2, .int a3] [(qm, .inr (10, [.int qm_thrown, .ref qm_tape, .int qm_taped, .int qm_size, .int qm_limit, .int qm_to, .int qm_from, .int qm_kind, .int qm_number, .int qm_sign, .int qm_fault, .int qm_place, .long qm_word, .int qm_told, .ref qm_now, .ref qm_read, .ref qm_kept, .ref qm_snaps, .ref qm_aside, .ref qm_name, .ref qm_readName, .ref qm_keptName, .ref qm_isKept, .ref qm_onces, .int qm_snapMany, .ref qm_order, .ref qm_ordered, .int qm_orderMany, .int qm_orderMost, .int qm_passing, .int qm_movedWho, .int qm_scratched, .ref qm_text, .int qm_texts, .int qm_seed, .ref qm_line, .ref qm_written, .int qm_lineMany, .int qm_hasWritten, .ref qm_node, .int qm_nodes, .int qm_onesMany, .int qm_within, .int qm_top])), (qm_now, eI G 339 qm_now_c), (qm_snaps, eI G 264 qm_snaps_c)] (fun (r9 : Int32) (u9 : va_W) => ∃ (x0_qm_snapMany : Int32) (x1_qm_now_c : Nat → Int32) (x2_qm_snaps_c : Nat → Int32) (r_x : Int32), r9 = r_x ∧ u9 = [(qm, .inr (10, [.int 0, .ref qm_tape, .int qm_taped, .int qm_size, .int qm_limit, .int qm_to, .int qm_from, .int qm_kind, .int qm_number, .int qm_sign, .int qm_fault, .int qm_place, .long qm_word, .int qm_told, .ref qm_now, .ref qm_read, .ref qm_kept, .ref qm_snaps, .ref qm_aside, .ref qm_name, .ref qm_readName, .ref qm_keptName, .ref qm_isKept, .ref qm_onces, .int x0_qm_snapMany, .ref qm_order, .ref qm_ordered, .int qm_orderMany, .int qm_orderMost, .int qm_passing, .int qm_movedWho, .int qm_scratched, .ref qm_text, .int qm_texts, .int qm_seed, .ref qm_line, .ref qm_written, .int qm_lineMany, .int qm_hasWritten, .ref qm_node, .int qm_nodes, .int qm_onesMany, .int qm_within, .int qm_top])), (qm_now, eI G 339 x1_qm_now_c), (qm_snaps, eI G 264 x2_qm_snaps_c)] ∧ (0 ≤ x0_qm_snapMany.toInt ∧ x0_qm_snapMany.toInt ≤ 8) ∧ (loW qm_now_c x1_qm_now_c) ∧ (slI x1_qm_now_c) ∧ (trI x1_qm_now_c)) := by
  refine Ci.ofQ (by decide) (Nat.le_of_ble_eq_true rfl) ?_
  intro p e s m below meth c ls A args Q hQ B hw hl
  have C : CallFix p m c cX11_scratch 4 s args gw "LanternStateModel" := B.1
  have hl : lv_has ls 4 [(0, .ref qm), (1, .int a1), (2, .int a2), (3, .int a3)] := hl
  refine lv_aload_n C.1 C.2.1 dX11_scratch_0 rfl (lv_at hl 0 rfl) ?_
  refine lv_iconst (v := 0) C.1 C.2.1 dX11_scratch_1 (by decide) ?_
  refine x_put (w' := [(qm, .inr (10, [.int 0, .ref qm_tape, .int qm_taped, .int qm_size, .int qm_limit, .int qm_to, .int qm_from, .int qm_kind, .int qm_number, .int qm_sign, .int qm_fault, .int qm_place, .long qm_word, .int qm_told, .ref qm_now, .ref qm_read, .ref qm_kept, .ref qm_snaps, .ref qm_aside, .ref qm_name, .ref qm_readName, .ref qm_keptName, .ref qm_isKept, .ref qm_onces, .int qm_snapMany, .ref qm_order, .ref qm_ordered, .int qm_orderMany, .int qm_orderMost, .int qm_passing, .int qm_movedWho, .int qm_scratched, .ref qm_text, .int qm_texts, .int qm_seed, .ref qm_line, .ref qm_written, .int qm_lineMany, .int qm_hasWritten, .ref qm_node, .int qm_nodes, .int qm_onesMany, .int qm_within, .int qm_top])), (qm_now, eI G 339 qm_now_c), (qm_snaps, eI G 264 qm_snaps_c)]) C hw iwX11 tyX11_ok nmX11 10 rfl 0 rfl 0 (by decide) kw1193 rfl rfl rfl (Nat.le_of_ble_eq_true rfl) rfl dX11_scratch_2 (fun H locs hw => ?_)
  refine lv_aload_n C.1 C.2.1 dX11_scratch_5 rfl (lv_at hl 0 rfl) ?_
  refine lv_iload_n C.1 C.2.1 dX11_scratch_6 rfl (lv_at hl 1 rfl) ?_
  refine x_calliV (As := [.int a1]) (rest := []) (wr := [(qm_snaps, eI G 264 qm_snaps_c)]) C hw (s_X11_isSlide qm a1 0 qm_tape qm_taped qm_size qm_limit qm_to qm_from qm_kind qm_number qm_sign qm_fault qm_place qm_word qm_told qm_now qm_read qm_kept qm_snaps qm_aside qm_name qm_readName qm_keptName qm_isKept qm_onces qm_snapMany qm_order qm_ordered qm_orderMany qm_orderMost qm_passing qm_movedWho qm_scratched qm_text qm_texts qm_seed qm_line qm_written qm_lineMany qm_hasWritten qm_node qm_nodes qm_onesMany qm_within qm_top qm_now_c hf_qm_now_c hf1_qm_now_c) mwX11_isSlide kw1465 [0, 1] [2] rfl rfl rfl rfl (by decide) 0 rfl rfl rfl rfl hl.1 rfl (Nat.le_of_ble_eq_true rfl) ⟨(Nat.le_of_ble_eq_true rfl), (Nat.le_of_ble_eq_true rfl)⟩ ⟨(Nat.le_of_ble_eq_true rfl), (Nat.le_of_ble_eq_true rfl)⟩ dX11_scratch_7 (fun r1 u9 H locs hp9 hw => ?_)
  rcases hp9 with ⟨rfl, rfl⟩ | ⟨rfl, rfl, hf2, hf3⟩
  · skip
    have hw : Wd G s A [(qm_snaps, eI G 264 qm_snaps_c), (qm, .inr (10, [.int 0, .ref qm_tape, .int qm_taped, .int qm_size, .int qm_limit, .int qm_to, .int qm_from, .int qm_kind, .int qm_number, .int qm_sign, .int qm_fault, .int qm_place, .long qm_word, .int qm_told, .ref qm_now, .ref qm_read, .ref qm_kept, .ref qm_snaps, .ref qm_aside, .ref qm_name, .ref qm_readName, .ref qm_keptName, .ref qm_isKept, .ref qm_onces, .int qm_snapMany, .ref qm_order, .ref qm_ordered, .int qm_orderMany, .int qm_orderMost, .int qm_passing, .int qm_movedWho, .int qm_scratched, .ref qm_text, .int qm_texts, .int qm_seed, .ref qm_line, .ref qm_written, .int qm_lineMany, .int qm_hasWritten, .ref qm_node, .int qm_nodes, .int qm_onesMany, .int qm_within, .int qm_top])), (qm_now, eI G 339 qm_now_c)] H _ := hw
    refine lv_if_eq (tgt := 45) C.1 C.2.1 dX11_scratch_10 (by decide) (fun _ => ?_) (fun h9 => absurd (by decide) h9)
    refine lv_iconst (v := (-1)) C.1 C.2.1 dX11_scratch_45 (by decide) ?_
    have hw := hw.sub (w' := [(qm, .inr (10, [.int 0, .ref qm_tape, .int qm_taped, .int qm_size, .int qm_limit, .int qm_to, .int qm_from, .int qm_kind, .int qm_number, .int qm_sign, .int qm_fault, .int qm_place, .long qm_word, .int qm_told, .ref qm_now, .ref qm_read, .ref qm_kept, .ref qm_snaps, .ref qm_aside, .ref qm_name, .ref qm_readName, .ref qm_keptName, .ref qm_isKept, .ref qm_onces, .int qm_snapMany, .ref qm_order, .ref qm_ordered, .int qm_orderMany, .int qm_orderMost, .int qm_passing, .int qm_movedWho, .int qm_scratched, .ref qm_text, .int qm_texts, .int qm_seed, .ref qm_line, .ref qm_written, .int qm_lineMany, .int qm_hasWritten, .ref qm_node, .int qm_nodes, .int qm_onesMany, .int qm_within, .int qm_top])), (qm_now, eI G 339 qm_now_c), (qm_snaps, eI G 264 qm_snaps_c)]) [1, 2, 0] rfl rfl
    exact x_retiQ hQ B hw ⟨qm_snapMany, qm_now_c, qm_snaps_c, (-1), rfl, rfl, (by omega), (loW_rfl qm_now_c), hf_qm_now_c, hf1_qm_now_c⟩ (Nat.le_of_ble_eq_true rfl) (Nat.le_of_ble_eq_true rfl) dX11_scratch_46
  · skip
    have hw : Wd G s A [(qm_snaps, eI G 264 qm_snaps_c), (qm, .inr (10, [.int 0, .ref qm_tape, .int qm_taped, .int qm_size, .int qm_limit, .int qm_to, .int qm_from, .int qm_kind, .int qm_number, .int qm_sign, .int qm_fault, .int qm_place, .long qm_word, .int qm_told, .ref qm_now, .ref qm_read, .ref qm_kept, .ref qm_snaps, .ref qm_aside, .ref qm_name, .ref qm_readName, .ref qm_keptName, .ref qm_isKept, .ref qm_onces, .int qm_snapMany, .ref qm_order, .ref qm_ordered, .int qm_orderMany, .int qm_orderMost, .int qm_passing, .int qm_movedWho, .int qm_scratched, .ref qm_text, .int qm_texts, .int qm_seed, .ref qm_line, .ref qm_written, .int qm_lineMany, .int qm_hasWritten, .ref qm_node, .int qm_nodes, .int qm_onesMany, .int qm_within, .int qm_top])), (qm_now, eI G 339 qm_now_c)] H _ := hw
    refine lv_if_eq (tgt := 45) C.1 C.2.1 dX11_scratch_10 (by decide) (fun h9 => absurd h9 (by decide)) (fun _ => ?_)
    refine lv_iload_n C.1 C.2.1 dX11_scratch_13 rfl (lv_at hl 2 rfl) ?_
    refine lv_iconst (v := 0) C.1 C.2.1 dX11_scratch_14 (by decide) ?_
    refine lv_iconst (v := 3) C.1 C.2.1 dX11_scratch_15 (by decide) ?_
    refine x_calliS (As := [.int a2, .int 0, .int 3]) (rest := []) (wr := [(qm_snaps, eI G 264 qm_snaps_c), (qm, .inr (10, [.int 0, .ref qm_tape, .int qm_taped, .int qm_size, .int qm_limit, .int qm_to, .int qm_from, .int qm_kind, .int qm_number, .int qm_sign, .int qm_fault, .int qm_place, .long qm_word, .int qm_told, .ref qm_now, .ref qm_read, .ref qm_kept, .ref qm_snaps, .ref qm_aside, .ref qm_name, .ref qm_readName, .ref qm_keptName, .ref qm_isKept, .ref qm_onces, .int qm_snapMany, .ref qm_order, .ref qm_ordered, .int qm_orderMany, .int qm_orderMost, .int qm_passing, .int qm_movedWho, .int qm_scratched, .ref qm_text, .int qm_texts, .int qm_seed, .ref qm_line, .ref qm_written, .int qm_lineMany, .int qm_hasWritten, .ref qm_node, .int qm_nodes, .int qm_onesMany, .int qm_within, .int qm_top])), (qm_now, eI G 339 qm_now_c)]) C hw (s_X11_isIn a2 0 3) mwX11_isIn kw1396 [] [0, 1, 2] rfl rfl rfl rfl (by decide) rfl hl.1 rfl (Nat.le_of_ble_eq_true rfl) ⟨(Nat.le_of_ble_eq_true rfl), (Nat.le_of_ble_eq_true rfl)⟩ ⟨(Nat.le_of_ble_eq_true rfl), (Nat.le_of_ble_eq_true rfl)⟩ dX11_scratch_16 (fun r4 u9 H locs hp9 hw => ?_)
    rcases hp9 with ⟨rfl, rfl, hf5⟩ | ⟨rfl, rfl, hf6, hf7⟩
    · skip
      have hw : Wd G s A [(qm_snaps, eI G 264 qm_snaps_c), (qm, .inr (10, [.int 0, .ref qm_tape, .int qm_taped, .int qm_size, .int qm_limit, .int qm_to, .int qm_from, .int qm_kind, .int qm_number, .int qm_sign, .int qm_fault, .int qm_place, .long qm_word, .int qm_told, .ref qm_now, .ref qm_read, .ref qm_kept, .ref qm_snaps, .ref qm_aside, .ref qm_name, .ref qm_readName, .ref qm_keptName, .ref qm_isKept, .ref qm_onces, .int qm_snapMany, .ref qm_order, .ref qm_ordered, .int qm_orderMany, .int qm_orderMost, .int qm_passing, .int qm_movedWho, .int qm_scratched, .ref qm_text, .int qm_texts, .int qm_seed, .ref qm_line, .ref qm_written, .int qm_lineMany, .int qm_hasWritten, .ref qm_node, .int qm_nodes, .int qm_onesMany, .int qm_within, .int qm_top])), (qm_now, eI G 339 qm_now_c)] H _ := hw
      have hf5 : a2.toInt < 0 ∨ 3 < a2.toInt := by first | exact hf5 | (have e0 : (0 : Int32).toInt = 0 := rfl; have e1 : (3 : Int32).toInt = 3 := rfl; omega)
      refine lv_if_eq (tgt := 45) C.1 C.2.1 dX11_scratch_19 (by decide) (fun _ => ?_) (fun h9 => absurd (by decide) h9)
      refine lv_iconst (v := (-1)) C.1 C.2.1 dX11_scratch_45 (by decide) ?_
      have hw := hw.sub (w' := [(qm, .inr (10, [.int 0, .ref qm_tape, .int qm_taped, .int qm_size, .int qm_limit, .int qm_to, .int qm_from, .int qm_kind, .int qm_number, .int qm_sign, .int qm_fault, .int qm_place, .long qm_word, .int qm_told, .ref qm_now, .ref qm_read, .ref qm_kept, .ref qm_snaps, .ref qm_aside, .ref qm_name, .ref qm_readName, .ref qm_keptName, .ref qm_isKept, .ref qm_onces, .int qm_snapMany, .ref qm_order, .ref qm_ordered, .int qm_orderMany, .int qm_orderMost, .int qm_passing, .int qm_movedWho, .int qm_scratched, .ref qm_text, .int qm_texts, .int qm_seed, .ref qm_line, .ref qm_written, .int qm_lineMany, .int qm_hasWritten, .ref qm_node, .int qm_nodes, .int qm_onesMany, .int qm_within, .int qm_top])), (qm_now, eI G 339 qm_now_c), (qm_snaps, eI G 264 qm_snaps_c)]) [1, 2, 0] rfl rfl
      exact x_retiQ hQ B hw ⟨qm_snapMany, qm_now_c, qm_snaps_c, (-1), rfl, rfl, (by omega), (loW_rfl qm_now_c), hf_qm_now_c, hf1_qm_now_c⟩ (Nat.le_of_ble_eq_true rfl) (Nat.le_of_ble_eq_true rfl) dX11_scratch_46
    · skip
      have hw : Wd G s A [(qm_snaps, eI G 264 qm_snaps_c), (qm, .inr (10, [.int 0, .ref qm_tape, .int qm_taped, .int qm_size, .int qm_limit, .int qm_to, .int qm_from, .int qm_kind, .int qm_number, .int qm_sign, .int qm_fault, .int qm_place, .long qm_word, .int qm_told, .ref qm_now, .ref qm_read, .ref qm_kept, .ref qm_snaps, .ref qm_aside, .ref qm_name, .ref qm_readName, .ref qm_keptName, .ref qm_isKept, .ref qm_onces, .int qm_snapMany, .ref qm_order, .ref qm_ordered, .int qm_orderMany, .int qm_orderMost, .int qm_passing, .int qm_movedWho, .int qm_scratched, .ref qm_text, .int qm_texts, .int qm_seed, .ref qm_line, .ref qm_written, .int qm_lineMany, .int qm_hasWritten, .ref qm_node, .int qm_nodes, .int qm_onesMany, .int qm_within, .int qm_top])), (qm_now, eI G 339 qm_now_c)] H _ := hw
      have hf6 : 0 ≤ a2.toInt := by first | exact hf6 | (have e0 : (0 : Int32).toInt = 0 := rfl; omega)
      have hf7 : a2.toInt ≤ 3 := by first | exact hf7 | (have e0 : (3 : Int32).toInt = 3 := rfl; omega)
      refine lv_if_eq (tgt := 45) C.1 C.2.1 dX11_scratch_19 (by decide) (fun h9 => absurd h9 (by decide)) (fun _ => ?_)
      refine lv_iload_n C.1 C.2.1 dX11_scratch_22 rfl (lv_at hl 3 rfl) ?_
      refine lv_iconst (v := 0) C.1 C.2.1 dX11_scratch_23 (by decide) ?_
      refine lv_iconst (v := 3) C.1 C.2.1 dX11_scratch_24 (by decide) ?_
      refine x_calliS (As := [.int a3, .int 0, .int 3]) (rest := []) (wr := [(qm_snaps, eI G 264 qm_snaps_c), (qm, .inr (10, [.int 0, .ref qm_tape, .int qm_taped, .int qm_size, .int qm_limit, .int qm_to, .int qm_from, .int qm_kind, .int qm_number, .int qm_sign, .int qm_fault, .int qm_place, .long qm_word, .int qm_told, .ref qm_now, .ref qm_read, .ref qm_kept, .ref qm_snaps, .ref qm_aside, .ref qm_name, .ref qm_readName, .ref qm_keptName, .ref qm_isKept, .ref qm_onces, .int qm_snapMany, .ref qm_order, .ref qm_ordered, .int qm_orderMany, .int qm_orderMost, .int qm_passing, .int qm_movedWho, .int qm_scratched, .ref qm_text, .int qm_texts, .int qm_seed, .ref qm_line, .ref qm_written, .int qm_lineMany, .int qm_hasWritten, .ref qm_node, .int qm_nodes, .int qm_onesMany, .int qm_within, .int qm_top])), (qm_now, eI G 339 qm_now_c)]) C hw (s_X11_isIn a3 0 3) mwX11_isIn kw1396 [] [0, 1, 2] rfl rfl rfl rfl (by decide) rfl hl.1 rfl (Nat.le_of_ble_eq_true rfl) ⟨(Nat.le_of_ble_eq_true rfl), (Nat.le_of_ble_eq_true rfl)⟩ ⟨(Nat.le_of_ble_eq_true rfl), (Nat.le_of_ble_eq_true rfl)⟩ dX11_scratch_25 (fun r8 u9 H locs hp9 hw => ?_)
      rcases hp9 with ⟨rfl, rfl, hf9⟩ | ⟨rfl, rfl, hf10, hf11⟩
      · skip
        have hw : Wd G s A [(qm_snaps, eI G 264 qm_snaps_c), (qm, .inr (10, [.int 0, .ref qm_tape, .int qm_taped, .int qm_size, .int qm_limit, .int qm_to, .int qm_from, .int qm_kind, .int qm_number, .int qm_sign, .int qm_fault, .int qm_place, .long qm_word, .int qm_told, .ref qm_now, .ref qm_read, .ref qm_kept, .ref qm_snaps, .ref qm_aside, .ref qm_name, .ref qm_readName, .ref qm_keptName, .ref qm_isKept, .ref qm_onces, .int qm_snapMany, .ref qm_order, .ref qm_ordered, .int qm_orderMany, .int qm_orderMost, .int qm_passing, .int qm_movedWho, .int qm_scratched, .ref qm_text, .int qm_texts, .int qm_seed, .ref qm_line, .ref qm_written, .int qm_lineMany, .int qm_hasWritten, .ref qm_node, .int qm_nodes, .int qm_onesMany, .int qm_within, .int qm_top])), (qm_now, eI G 339 qm_now_c)] H _ := hw
        have hf9 : a3.toInt < 0 ∨ 3 < a3.toInt := by first | exact hf9 | (have e0 : (0 : Int32).toInt = 0 := rfl; have e1 : (3 : Int32).toInt = 3 := rfl; omega)
        refine lv_if_eq (tgt := 45) C.1 C.2.1 dX11_scratch_28 (by decide) (fun _ => ?_) (fun h9 => absurd (by decide) h9)
        refine lv_iconst (v := (-1)) C.1 C.2.1 dX11_scratch_45 (by decide) ?_
        have hw := hw.sub (w' := [(qm, .inr (10, [.int 0, .ref qm_tape, .int qm_taped, .int qm_size, .int qm_limit, .int qm_to, .int qm_from, .int qm_kind, .int qm_number, .int qm_sign, .int qm_fault, .int qm_place, .long qm_word, .int qm_told, .ref qm_now, .ref qm_read, .ref qm_kept, .ref qm_snaps, .ref qm_aside, .ref qm_name, .ref qm_readName, .ref qm_keptName, .ref qm_isKept, .ref qm_onces, .int qm_snapMany, .ref qm_order, .ref qm_ordered, .int qm_orderMany, .int qm_orderMost, .int qm_passing, .int qm_movedWho, .int qm_scratched, .ref qm_text, .int qm_texts, .int qm_seed, .ref qm_line, .ref qm_written, .int qm_lineMany, .int qm_hasWritten, .ref qm_node, .int qm_nodes, .int qm_onesMany, .int qm_within, .int qm_top])), (qm_now, eI G 339 qm_now_c), (qm_snaps, eI G 264 qm_snaps_c)]) [1, 2, 0] rfl rfl
        exact x_retiQ hQ B hw ⟨qm_snapMany, qm_now_c, qm_snaps_c, (-1), rfl, rfl, (by omega), (loW_rfl qm_now_c), hf_qm_now_c, hf1_qm_now_c⟩ (Nat.le_of_ble_eq_true rfl) (Nat.le_of_ble_eq_true rfl) dX11_scratch_46
      · skip
        have hw : Wd G s A [(qm_snaps, eI G 264 qm_snaps_c), (qm, .inr (10, [.int 0, .ref qm_tape, .int qm_taped, .int qm_size, .int qm_limit, .int qm_to, .int qm_from, .int qm_kind, .int qm_number, .int qm_sign, .int qm_fault, .int qm_place, .long qm_word, .int qm_told, .ref qm_now, .ref qm_read, .ref qm_kept, .ref qm_snaps, .ref qm_aside, .ref qm_name, .ref qm_readName, .ref qm_keptName, .ref qm_isKept, .ref qm_onces, .int qm_snapMany, .ref qm_order, .ref qm_ordered, .int qm_orderMany, .int qm_orderMost, .int qm_passing, .int qm_movedWho, .int qm_scratched, .ref qm_text, .int qm_texts, .int qm_seed, .ref qm_line, .ref qm_written, .int qm_lineMany, .int qm_hasWritten, .ref qm_node, .int qm_nodes, .int qm_onesMany, .int qm_within, .int qm_top])), (qm_now, eI G 339 qm_now_c)] H _ := hw
        have hf10 : 0 ≤ a3.toInt := by first | exact hf10 | (have e0 : (0 : Int32).toInt = 0 := rfl; omega)
        have hf11 : a3.toInt ≤ 3 := by first | exact hf11 | (have e0 : (3 : Int32).toInt = 3 := rfl; omega)
        refine lv_if_eq (tgt := 45) C.1 C.2.1 dX11_scratch_28 (by decide) (fun h9 => absurd h9 (by decide)) (fun _ => ?_)
        refine lv_aload_n C.1 C.2.1 dX11_scratch_31 rfl (lv_at hl 0 rfl) ?_
        refine lv_iconst (v := 2) C.1 C.2.1 dX11_scratch_32 (by decide) ?_
        refine lv_iload_n C.1 C.2.1 dX11_scratch_33 rfl (lv_at hl 1 rfl) ?_
        refine lv_iconst (v := 4) C.1 C.2.1 dX11_scratch_34 (by decide) ?_
        refine lv_iload_n C.1 C.2.1 dX11_scratch_35 rfl (lv_at hl 3 rfl) ?_
        refine lv_imul C.1 C.2.1 dX11_scratch_36 (x_genP (fun z : Int32 => z.toInt = 4 * a3.toInt) (i_mul (X := 4) (Y := a3.toInt) rfl rfl (by omega) (by omega)) (fun v12 hv12 => ?_))
        refine lv_iload_n C.1 C.2.1 dX11_scratch_37 rfl (lv_at hl 2 rfl) ?_
        refine lv_iadd C.1 C.2.1 dX11_scratch_38 (x_genP (fun z : Int32 => z.toInt = v12.toInt + a2.toInt) (i_add (X := v12.toInt) (Y := a2.toInt) rfl rfl (by omega) (by omega)) (fun v13 hv13 => ?_))
        refine x_calliV (As := [.int 2, .int a1, .int v13]) (rest := []) (wr := []) C hw (s_X11_act qm 2 a1 v13 0 qm_tape qm_taped qm_size qm_limit qm_to qm_from qm_kind qm_number qm_sign qm_fault qm_place qm_word qm_told qm_now qm_read qm_kept qm_snaps qm_aside qm_name qm_readName qm_keptName qm_isKept qm_onces qm_snapMany qm_order qm_ordered qm_orderMany qm_orderMost qm_passing qm_movedWho qm_scratched qm_text qm_texts qm_seed qm_line qm_written qm_lineMany qm_hasWritten qm_node qm_nodes qm_onesMany qm_within qm_top qm_now_c qm_snaps_c (by omega) (by omega) hf_qm_now_c hf1_qm_now_c (by omega)) mwX11_act kw1581 [1, 2, 0] [] rfl rfl rfl rfl (by decide) 0 rfl rfl rfl rfl hl.1 rfl (Nat.le_of_ble_eq_true rfl) ⟨(Nat.le_of_ble_eq_true rfl), (Nat.le_of_ble_eq_true rfl)⟩ ⟨(Nat.le_of_ble_eq_true rfl), (Nat.le_of_ble_eq_true rfl)⟩ dX11_scratch_39 (fun r14 u9 H locs hp9 hw => ?_)
        obtain ⟨x15, x16, x17, x18, rfl, rfl, hf19, hf20, hf21, hf22⟩ := hp9
        have hw : Wd G s A [(qm, .inr (10, [.int 0, .ref qm_tape, .int qm_taped, .int qm_size, .int qm_limit, .int qm_to, .int qm_from, .int qm_kind, .int qm_number, .int qm_sign, .int qm_fault, .int qm_place, .long qm_word, .int qm_told, .ref qm_now, .ref qm_read, .ref qm_kept, .ref qm_snaps, .ref qm_aside, .ref qm_name, .ref qm_readName, .ref qm_keptName, .ref qm_isKept, .ref qm_onces, .int x15, .ref qm_order, .ref qm_ordered, .int qm_orderMany, .int qm_orderMost, .int qm_passing, .int qm_movedWho, .int qm_scratched, .ref qm_text, .int qm_texts, .int qm_seed, .ref qm_line, .ref qm_written, .int qm_lineMany, .int qm_hasWritten, .ref qm_node, .int qm_nodes, .int qm_onesMany, .int qm_within, .int qm_top])), (qm_now, eI G 339 x16), (qm_snaps, eI G 264 x17)] H _ := hw
        refine lv_goto (tgt := 46) C.1 C.2.1 dX11_scratch_42 (by decide) ?_
        exact x_retiQ hQ B hw ⟨x15, x16, x17, r14, rfl, rfl, (by omega), hf20, hf21, hf22⟩ (Nat.le_of_ble_eq_true rfl) (Nat.le_of_ble_eq_true rfl) dX11_scratch_46
theorem dX11_sit_0 : decode cX11_sit 0 = .ok (.aload_n 0, 1) := by decide +kernel
theorem dX11_sit_1 : decode cX11_sit 1 = .ok (.iconst 0, 1) := by decide +kernel
theorem dX11_sit_2 : decode cX11_sit 2 = .ok (.putfield 1, 3) := by decide +kernel
theorem dX11_sit_5 : decode cX11_sit 5 = .ok (.aload_n 0, 1) := by decide +kernel
theorem dX11_sit_6 : decode cX11_sit 6 = .ok (.iload_n 1, 1) := by decide +kernel
theorem dX11_sit_7 : decode cX11_sit 7 = .ok (.invokevirtual 258, 3) := by decide +kernel
theorem dX11_sit_10 : decode cX11_sit 10 = .ok (.ifCond .eq 22, 3) := by decide +kernel
theorem dX11_sit_32 : decode cX11_sit 32 = .ok (.iconst (-1), 1) := by decide +kernel
theorem dX11_sit_33 : decode cX11_sit 33 = .ok (.ireturn, 1) := by decide +kernel
theorem dX11_sit_13 : decode cX11_sit 13 = .ok (.iload_n 2, 1) := by decide +kernel
theorem dX11_sit_14 : decode cX11_sit 14 = .ok (.iconst 0, 1) := by decide +kernel
theorem dX11_sit_15 : decode cX11_sit 15 = .ok (.iconst 1, 1) := by decide +kernel
theorem dX11_sit_16 : decode cX11_sit 16 = .ok (.invokestatic 75, 3) := by decide +kernel
theorem dX11_sit_19 : decode cX11_sit 19 = .ok (.ifCond .eq 13, 3) := by decide +kernel
theorem dX11_sit_22 : decode cX11_sit 22 = .ok (.aload_n 0, 1) := by decide +kernel
theorem dX11_sit_23 : decode cX11_sit 23 = .ok (.iconst 3, 1) := by decide +kernel
theorem dX11_sit_24 : decode cX11_sit 24 = .ok (.iload_n 1, 1) := by decide +kernel
theorem dX11_sit_25 : decode cX11_sit 25 = .ok (.iload_n 2, 1) := by decide +kernel
theorem dX11_sit_26 : decode cX11_sit 26 = .ok (.invokevirtual 295, 3) := by decide +kernel
theorem dX11_sit_29 : decode cX11_sit 29 = .ok (.goto 4, 3) := by decide +kernel
set_option maxHeartbeats 4000000 in
set_option maxRecDepth 100000 in
theorem s_X11_sit {l : Launch} {G : Gc} (qm : Nat) (a1 : Int32) (a2 : Int32) (qm_thrown : Int32) (qm_tape : Nat) (qm_taped : Int32) (qm_size : Int32) (qm_limit : Int32) (qm_to : Int32) (qm_from : Int32) (qm_kind : Int32) (qm_number : Int32) (qm_sign : Int32) (qm_fault : Int32) (qm_place : Int32) (qm_word : Int64) (qm_told : Int32) (qm_now : Nat) (qm_read : Nat) (qm_kept : Nat) (qm_snaps : Nat) (qm_aside : Nat) (qm_name : Nat) (qm_readName : Nat) (qm_keptName : Nat) (qm_isKept : Nat) (qm_onces : Nat) (qm_snapMany : Int32) (qm_order : Nat) (qm_ordered : Nat) (qm_orderMany : Int32) (qm_orderMost : Int32) (qm_passing : Int32) (qm_movedWho : Int32) (qm_scratched : Int32) (qm_text : Nat) (qm_texts : Int32) (qm_seed : Int32) (qm_line : Nat) (qm_written : Nat) (qm_lineMany : Int32) (qm_hasWritten : Int32) (qm_node : Nat) (qm_nodes : Int32) (qm_onesMany : Int32) (qm_within : Int32) (qm_top : Int32) (qm_now_c : Nat → Int32) (qm_snaps_c : Nat → Int32) (hf_qm_now_c : slI qm_now_c) (hf1_qm_now_c : trI qm_now_c) (hi_qm_snapMany : 0 ≤ qm_snapMany.toInt ∧ qm_snapMany.toInt ≤ 8) : Ci l yX11_sit cX11_sit 3 (some .int) 6 0 0 G [.ref qm, .int a1, .int a2] [(qm, .inr (10, [.int qm_thrown, .ref qm_tape, .int qm_taped, .int qm_size, .int qm_limit, .int qm_to, .int qm_from, .int qm_kind, .int qm_number, .int qm_sign, .int qm_fault, .int qm_place, .long qm_word, .int qm_told, .ref qm_now, .ref qm_read, .ref qm_kept, .ref qm_snaps, .ref qm_aside, .ref qm_name, .ref qm_readName, .ref qm_keptName, .ref qm_isKept, .ref qm_onces, .int qm_snapMany, .ref qm_order, .ref qm_ordered, .int qm_orderMany, .int qm_orderMost, .int qm_passing, .int qm_movedWho, .int qm_scratched, .ref qm_text, .int qm_texts, .int qm_seed, .ref qm_line, .ref qm_written, .int qm_lineMany, .int qm_hasWritten, .ref qm_node, .int qm_nodes, .int qm_onesMany, .int qm_within, .int qm_top])), (qm_now, eI G 339 qm_now_c), (qm_snaps, eI G 264 qm_snaps_c)] (fun (r9 : Int32) (u9 : va_W) => ∃ (x0_qm_snapMany : Int32) (x1_qm_now_c : Nat → Int32) (x2_qm_snaps_c : Nat → Int32) (r_x : Int32), r9 = r_x ∧ u9 = [(qm, .inr (10, [.int 0, .ref qm_tape, .int qm_taped, .int qm_size, .int qm_limit, .int qm_to, .int qm_from, .int qm_kind, .int qm_number, .int qm_sign, .int qm_fault, .int qm_place, .long qm_word, .int qm_told, .ref qm_now, .ref qm_read, .ref qm_kept, .ref qm_snaps, .ref qm_aside, .ref qm_name, .ref qm_readName, .ref qm_keptName, .ref qm_isKept, .ref qm_onces, .int x0_qm_snapMany, .ref qm_order, .ref qm_ordered, .int qm_orderMany, .int qm_orderMost, .int qm_passing, .int qm_movedWho, .int qm_scratched, .ref qm_text, .int qm_texts, .int qm_seed, .ref qm_line, .ref qm_written, .int qm_lineMany, .int qm_hasWritten, .ref qm_node, .int qm_nodes, .int qm_onesMany, .int qm_within, .int qm_top])), (qm_now, eI G 339 x1_qm_now_c), (qm_snaps, eI G 264 x2_qm_snaps_c)] ∧ (0 ≤ x0_qm_snapMany.toInt ∧ x0_qm_snapMany.toInt ≤ 8) ∧ (loW qm_now_c x1_qm_now_c) ∧ (slI x1_qm_now_c) ∧ (trI x1_qm_now_c)) := by
  refine Ci.ofQ (by decide) (Nat.le_of_ble_eq_true rfl) ?_
  intro p e s m below meth c ls A args Q hQ B hw hl
  have C : CallFix p m c cX11_sit 3 s args gw "LanternStateModel" := B.1
  have hl : lv_has ls 3 [(0, .ref qm), (1, .int a1), (2, .int a2)] := hl
  refine lv_aload_n C.1 C.2.1 dX11_sit_0 rfl (lv_at hl 0 rfl) ?_
  refine lv_iconst (v := 0) C.1 C.2.1 dX11_sit_1 (by decide) ?_
  refine x_put (w' := [(qm, .inr (10, [.int 0, .ref qm_tape, .int qm_taped, .int qm_size, .int qm_limit, .int qm_to, .int qm_from, .int qm_kind, .int qm_number, .int qm_sign, .int qm_fault, .int qm_place, .long qm_word, .int qm_told, .ref qm_now, .ref qm_read, .ref qm_kept, .ref qm_snaps, .ref qm_aside, .ref qm_name, .ref qm_readName, .ref qm_keptName, .ref qm_isKept, .ref qm_onces, .int qm_snapMany, .ref qm_order, .ref qm_ordered, .int qm_orderMany, .int qm_orderMost, .int qm_passing, .int qm_movedWho, .int qm_scratched, .ref qm_text, .int qm_texts, .int qm_seed, .ref qm_line, .ref qm_written, .int qm_lineMany, .int qm_hasWritten, .ref qm_node, .int qm_nodes, .int qm_onesMany, .int qm_within, .int qm_top])), (qm_now, eI G 339 qm_now_c), (qm_snaps, eI G 264 qm_snaps_c)]) C hw iwX11 tyX11_ok nmX11 10 rfl 0 rfl 0 (by decide) kw1193 rfl rfl rfl (Nat.le_of_ble_eq_true rfl) rfl dX11_sit_2 (fun H locs hw => ?_)
  refine lv_aload_n C.1 C.2.1 dX11_sit_5 rfl (lv_at hl 0 rfl) ?_
  refine lv_iload_n C.1 C.2.1 dX11_sit_6 rfl (lv_at hl 1 rfl) ?_
  refine x_calliV (As := [.int a1]) (rest := []) (wr := [(qm_snaps, eI G 264 qm_snaps_c)]) C hw (s_X11_isHearer qm a1 0 qm_tape qm_taped qm_size qm_limit qm_to qm_from qm_kind qm_number qm_sign qm_fault qm_place qm_word qm_told qm_now qm_read qm_kept qm_snaps qm_aside qm_name qm_readName qm_keptName qm_isKept qm_onces qm_snapMany qm_order qm_ordered qm_orderMany qm_orderMost qm_passing qm_movedWho qm_scratched qm_text qm_texts qm_seed qm_line qm_written qm_lineMany qm_hasWritten qm_node qm_nodes qm_onesMany qm_within qm_top qm_now_c hf_qm_now_c hf1_qm_now_c) mwX11_isHearer kw1501 [0, 1] [2] rfl rfl rfl rfl (by decide) 0 rfl rfl rfl rfl hl.1 rfl (Nat.le_of_ble_eq_true rfl) ⟨(Nat.le_of_ble_eq_true rfl), (Nat.le_of_ble_eq_true rfl)⟩ ⟨(Nat.le_of_ble_eq_true rfl), (Nat.le_of_ble_eq_true rfl)⟩ dX11_sit_7 (fun r1 u9 H locs hp9 hw => ?_)
  rcases hp9 with ⟨rfl, rfl⟩ | ⟨rfl, rfl, hf2⟩
  · skip
    have hw : Wd G s A [(qm_snaps, eI G 264 qm_snaps_c), (qm, .inr (10, [.int 0, .ref qm_tape, .int qm_taped, .int qm_size, .int qm_limit, .int qm_to, .int qm_from, .int qm_kind, .int qm_number, .int qm_sign, .int qm_fault, .int qm_place, .long qm_word, .int qm_told, .ref qm_now, .ref qm_read, .ref qm_kept, .ref qm_snaps, .ref qm_aside, .ref qm_name, .ref qm_readName, .ref qm_keptName, .ref qm_isKept, .ref qm_onces, .int qm_snapMany, .ref qm_order, .ref qm_ordered, .int qm_orderMany, .int qm_orderMost, .int qm_passing, .int qm_movedWho, .int qm_scratched, .ref qm_text, .int qm_texts, .int qm_seed, .ref qm_line, .ref qm_written, .int qm_lineMany, .int qm_hasWritten, .ref qm_node, .int qm_nodes, .int qm_onesMany, .int qm_within, .int qm_top])), (qm_now, eI G 339 qm_now_c)] H _ := hw
    refine lv_if_eq (tgt := 32) C.1 C.2.1 dX11_sit_10 (by decide) (fun _ => ?_) (fun h9 => absurd (by decide) h9)
    refine lv_iconst (v := (-1)) C.1 C.2.1 dX11_sit_32 (by decide) ?_
    have hw := hw.sub (w' := [(qm, .inr (10, [.int 0, .ref qm_tape, .int qm_taped, .int qm_size, .int qm_limit, .int qm_to, .int qm_from, .int qm_kind, .int qm_number, .int qm_sign, .int qm_fault, .int qm_place, .long qm_word, .int qm_told, .ref qm_now, .ref qm_read, .ref qm_kept, .ref qm_snaps, .ref qm_aside, .ref qm_name, .ref qm_readName, .ref qm_keptName, .ref qm_isKept, .ref qm_onces, .int qm_snapMany, .ref qm_order, .ref qm_ordered, .int qm_orderMany, .int qm_orderMost, .int qm_passing, .int qm_movedWho, .int qm_scratched, .ref qm_text, .int qm_texts, .int qm_seed, .ref qm_line, .ref qm_written, .int qm_lineMany, .int qm_hasWritten, .ref qm_node, .int qm_nodes, .int qm_onesMany, .int qm_within, .int qm_top])), (qm_now, eI G 339 qm_now_c), (qm_snaps, eI G 264 qm_snaps_c)]) [1, 2, 0] rfl rfl
    exact x_retiQ hQ B hw ⟨qm_snapMany, qm_now_c, qm_snaps_c, (-1), rfl, rfl, (by omega), (loW_rfl qm_now_c), hf_qm_now_c, hf1_qm_now_c⟩ (Nat.le_of_ble_eq_true rfl) (Nat.le_of_ble_eq_true rfl) dX11_sit_33
  · skip
    have hw : Wd G s A [(qm_snaps, eI G 264 qm_snaps_c), (qm, .inr (10, [.int 0, .ref qm_tape, .int qm_taped, .int qm_size, .int qm_limit, .int qm_to, .int qm_from, .int qm_kind, .int qm_number, .int qm_sign, .int qm_fault, .int qm_place, .long qm_word, .int qm_told, .ref qm_now, .ref qm_read, .ref qm_kept, .ref qm_snaps, .ref qm_aside, .ref qm_name, .ref qm_readName, .ref qm_keptName, .ref qm_isKept, .ref qm_onces, .int qm_snapMany, .ref qm_order, .ref qm_ordered, .int qm_orderMany, .int qm_orderMost, .int qm_passing, .int qm_movedWho, .int qm_scratched, .ref qm_text, .int qm_texts, .int qm_seed, .ref qm_line, .ref qm_written, .int qm_lineMany, .int qm_hasWritten, .ref qm_node, .int qm_nodes, .int qm_onesMany, .int qm_within, .int qm_top])), (qm_now, eI G 339 qm_now_c)] H _ := hw
    refine lv_if_eq (tgt := 32) C.1 C.2.1 dX11_sit_10 (by decide) (fun h9 => absurd h9 (by decide)) (fun _ => ?_)
    refine lv_iload_n C.1 C.2.1 dX11_sit_13 rfl (lv_at hl 2 rfl) ?_
    refine lv_iconst (v := 0) C.1 C.2.1 dX11_sit_14 (by decide) ?_
    refine lv_iconst (v := 1) C.1 C.2.1 dX11_sit_15 (by decide) ?_
    refine x_calliS (As := [.int a2, .int 0, .int 1]) (rest := []) (wr := [(qm_snaps, eI G 264 qm_snaps_c), (qm, .inr (10, [.int 0, .ref qm_tape, .int qm_taped, .int qm_size, .int qm_limit, .int qm_to, .int qm_from, .int qm_kind, .int qm_number, .int qm_sign, .int qm_fault, .int qm_place, .long qm_word, .int qm_told, .ref qm_now, .ref qm_read, .ref qm_kept, .ref qm_snaps, .ref qm_aside, .ref qm_name, .ref qm_readName, .ref qm_keptName, .ref qm_isKept, .ref qm_onces, .int qm_snapMany, .ref qm_order, .ref qm_ordered, .int qm_orderMany, .int qm_orderMost, .int qm_passing, .int qm_movedWho, .int qm_scratched, .ref qm_text, .int qm_texts, .int qm_seed, .ref qm_line, .ref qm_written, .int qm_lineMany, .int qm_hasWritten, .ref qm_node, .int qm_nodes, .int qm_onesMany, .int qm_within, .int qm_top])), (qm_now, eI G 339 qm_now_c)]) C hw (s_X11_isIn a2 0 1) mwX11_isIn kw1396 [] [0, 1, 2] rfl rfl rfl rfl (by decide) rfl hl.1 rfl (Nat.le_of_ble_eq_true rfl) ⟨(Nat.le_of_ble_eq_true rfl), (Nat.le_of_ble_eq_true rfl)⟩ ⟨(Nat.le_of_ble_eq_true rfl), (Nat.le_of_ble_eq_true rfl)⟩ dX11_sit_16 (fun r3 u9 H locs hp9 hw => ?_)
    rcases hp9 with ⟨rfl, rfl, hf4⟩ | ⟨rfl, rfl, hf5, hf6⟩
    · skip
      have hw : Wd G s A [(qm_snaps, eI G 264 qm_snaps_c), (qm, .inr (10, [.int 0, .ref qm_tape, .int qm_taped, .int qm_size, .int qm_limit, .int qm_to, .int qm_from, .int qm_kind, .int qm_number, .int qm_sign, .int qm_fault, .int qm_place, .long qm_word, .int qm_told, .ref qm_now, .ref qm_read, .ref qm_kept, .ref qm_snaps, .ref qm_aside, .ref qm_name, .ref qm_readName, .ref qm_keptName, .ref qm_isKept, .ref qm_onces, .int qm_snapMany, .ref qm_order, .ref qm_ordered, .int qm_orderMany, .int qm_orderMost, .int qm_passing, .int qm_movedWho, .int qm_scratched, .ref qm_text, .int qm_texts, .int qm_seed, .ref qm_line, .ref qm_written, .int qm_lineMany, .int qm_hasWritten, .ref qm_node, .int qm_nodes, .int qm_onesMany, .int qm_within, .int qm_top])), (qm_now, eI G 339 qm_now_c)] H _ := hw
      have hf4 : a2.toInt < 0 ∨ 1 < a2.toInt := by first | exact hf4 | (have e0 : (0 : Int32).toInt = 0 := rfl; have e1 : (1 : Int32).toInt = 1 := rfl; omega)
      refine lv_if_eq (tgt := 32) C.1 C.2.1 dX11_sit_19 (by decide) (fun _ => ?_) (fun h9 => absurd (by decide) h9)
      refine lv_iconst (v := (-1)) C.1 C.2.1 dX11_sit_32 (by decide) ?_
      have hw := hw.sub (w' := [(qm, .inr (10, [.int 0, .ref qm_tape, .int qm_taped, .int qm_size, .int qm_limit, .int qm_to, .int qm_from, .int qm_kind, .int qm_number, .int qm_sign, .int qm_fault, .int qm_place, .long qm_word, .int qm_told, .ref qm_now, .ref qm_read, .ref qm_kept, .ref qm_snaps, .ref qm_aside, .ref qm_name, .ref qm_readName, .ref qm_keptName, .ref qm_isKept, .ref qm_onces, .int qm_snapMany, .ref qm_order, .ref qm_ordered, .int qm_orderMany, .int qm_orderMost, .int qm_passing, .int qm_movedWho, .int qm_scratched, .ref qm_text, .int qm_texts, .int qm_seed, .ref qm_line, .ref qm_written, .int qm_lineMany, .int qm_hasWritten, .ref qm_node, .int qm_nodes, .int qm_onesMany, .int qm_within, .int qm_top])), (qm_now, eI G 339 qm_now_c), (qm_snaps, eI G 264 qm_snaps_c)]) [1, 2, 0] rfl rfl
      exact x_retiQ hQ B hw ⟨qm_snapMany, qm_now_c, qm_snaps_c, (-1), rfl, rfl, (by omega), (loW_rfl qm_now_c), hf_qm_now_c, hf1_qm_now_c⟩ (Nat.le_of_ble_eq_true rfl) (Nat.le_of_ble_eq_true rfl) dX11_sit_33
    · skip
      have hw : Wd G s A [(qm_snaps, eI G 264 qm_snaps_c), (qm, .inr (10, [.int 0, .ref qm_tape, .int qm_taped, .int qm_size, .int qm_limit, .int qm_to, .int qm_from, .int qm_kind, .int qm_number, .int qm_sign, .int qm_fault, .int qm_place, .long qm_word, .int qm_told, .ref qm_now, .ref qm_read, .ref qm_kept, .ref qm_snaps, .ref qm_aside, .ref qm_name, .ref qm_readName, .ref qm_keptName, .ref qm_isKept, .ref qm_onces, .int qm_snapMany, .ref qm_order, .ref qm_ordered, .int qm_orderMany, .int qm_orderMost, .int qm_passing, .int qm_movedWho, .int qm_scratched, .ref qm_text, .int qm_texts, .int qm_seed, .ref qm_line, .ref qm_written, .int qm_lineMany, .int qm_hasWritten, .ref qm_node, .int qm_nodes, .int qm_onesMany, .int qm_within, .int qm_top])), (qm_now, eI G 339 qm_now_c)] H _ := hw
      have hf5 : 0 ≤ a2.toInt := by first | exact hf5 | (have e0 : (0 : Int32).toInt = 0 := rfl; omega)
      have hf6 : a2.toInt ≤ 1 := by first | exact hf6 | (have e0 : (1 : Int32).toInt = 1 := rfl; omega)
      refine lv_if_eq (tgt := 32) C.1 C.2.1 dX11_sit_19 (by decide) (fun h9 => absurd h9 (by decide)) (fun _ => ?_)
      refine lv_aload_n C.1 C.2.1 dX11_sit_22 rfl (lv_at hl 0 rfl) ?_
      refine lv_iconst (v := 3) C.1 C.2.1 dX11_sit_23 (by decide) ?_
      refine lv_iload_n C.1 C.2.1 dX11_sit_24 rfl (lv_at hl 1 rfl) ?_
      refine lv_iload_n C.1 C.2.1 dX11_sit_25 rfl (lv_at hl 2 rfl) ?_
      refine x_calliV (As := [.int 3, .int a1, .int a2]) (rest := []) (wr := []) C hw (s_X11_act qm 3 a1 a2 0 qm_tape qm_taped qm_size qm_limit qm_to qm_from qm_kind qm_number qm_sign qm_fault qm_place qm_word qm_told qm_now qm_read qm_kept qm_snaps qm_aside qm_name qm_readName qm_keptName qm_isKept qm_onces qm_snapMany qm_order qm_ordered qm_orderMany qm_orderMost qm_passing qm_movedWho qm_scratched qm_text qm_texts qm_seed qm_line qm_written qm_lineMany qm_hasWritten qm_node qm_nodes qm_onesMany qm_within qm_top qm_now_c qm_snaps_c (by omega) (by omega) hf_qm_now_c hf1_qm_now_c (by omega)) mwX11_act kw1581 [1, 2, 0] [] rfl rfl rfl rfl (by decide) 0 rfl rfl rfl rfl hl.1 rfl (Nat.le_of_ble_eq_true rfl) ⟨(Nat.le_of_ble_eq_true rfl), (Nat.le_of_ble_eq_true rfl)⟩ ⟨(Nat.le_of_ble_eq_true rfl), (Nat.le_of_ble_eq_true rfl)⟩ dX11_sit_26 (fun r7 u9 H locs hp9 hw => ?_)
      obtain ⟨x8, x9, x10, x11, rfl, rfl, hf12, hf13, hf14, hf15⟩ := hp9
      have hw : Wd G s A [(qm, .inr (10, [.int 0, .ref qm_tape, .int qm_taped, .int qm_size, .int qm_limit, .int qm_to, .int qm_from, .int qm_kind, .int qm_number, .int qm_sign, .int qm_fault, .int qm_place, .long qm_word, .int qm_told, .ref qm_now, .ref qm_read, .ref qm_kept, .ref qm_snaps, .ref qm_aside, .ref qm_name, .ref qm_readName, .ref qm_keptName, .ref qm_isKept, .ref qm_onces, .int x8, .ref qm_order, .ref qm_ordered, .int qm_orderMany, .int qm_orderMost, .int qm_passing, .int qm_movedWho, .int qm_scratched, .ref qm_text, .int qm_texts, .int qm_seed, .ref qm_line, .ref qm_written, .int qm_lineMany, .int qm_hasWritten, .ref qm_node, .int qm_nodes, .int qm_onesMany, .int qm_within, .int qm_top])), (qm_now, eI G 339 x9), (qm_snaps, eI G 264 x10)] H _ := hw
      refine lv_goto (tgt := 33) C.1 C.2.1 dX11_sit_29 (by decide) ?_
      exact x_retiQ hQ B hw ⟨x8, x9, x10, r7, rfl, rfl, (by omega), hf13, hf14, hf15⟩ (Nat.le_of_ble_eq_true rfl) (Nat.le_of_ble_eq_true rfl) dX11_sit_33
theorem dX11_undo_0 : decode cX11_undo 0 = .ok (.aload_n 0, 1) := by decide +kernel
theorem dX11_undo_1 : decode cX11_undo 1 = .ok (.iconst 0, 1) := by decide +kernel
theorem dX11_undo_2 : decode cX11_undo 2 = .ok (.putfield 1, 3) := by decide +kernel
theorem dX11_undo_5 : decode cX11_undo 5 = .ok (.aload_n 0, 1) := by decide +kernel
theorem dX11_undo_6 : decode cX11_undo 6 = .ok (.getfield 231, 3) := by decide +kernel
theorem dX11_undo_9 : decode cX11_undo 9 = .ok (.ifCond .ne 5, 3) := by decide +kernel
theorem dX11_undo_14 : decode cX11_undo 14 = .ok (.aload_n 0, 1) := by decide +kernel
theorem dX11_undo_15 : decode cX11_undo 15 = .ok (.dup, 1) := by decide +kernel
theorem dX11_undo_16 : decode cX11_undo 16 = .ok (.getfield 231, 3) := by decide +kernel
theorem dX11_undo_19 : decode cX11_undo 19 = .ok (.iconst 1, 1) := by decide +kernel
theorem dX11_undo_20 : decode cX11_undo 20 = .ok (.isub, 1) := by decide +kernel
theorem dX11_undo_21 : decode cX11_undo 21 = .ok (.putfield 231, 3) := by decide +kernel
theorem dX11_undo_24 : decode cX11_undo 24 = .ok (.iconst 0, 1) := by decide +kernel
theorem dX11_undo_25 : decode cX11_undo 25 = .ok (.istore_n 1, 1) := by decide +kernel
theorem dX11_undo_26 : decode cX11_undo 26 = .ok (.iload_n 1, 1) := by decide +kernel
theorem dX11_undo_27 : decode cX11_undo 27 = .ok (.bipush 33, 2) := by decide +kernel
theorem dX11_undo_29 : decode cX11_undo 29 = .ok (.if_icmp .ge 32, 3) := by decide +kernel
theorem dX11_undo_32 : decode cX11_undo 32 = .ok (.aload_n 0, 1) := by decide +kernel
theorem dX11_undo_33 : decode cX11_undo 33 = .ok (.getfield 98, 3) := by decide +kernel
theorem dX11_undo_36 : decode cX11_undo 36 = .ok (.bipush 64, 2) := by decide +kernel
theorem dX11_undo_38 : decode cX11_undo 38 = .ok (.iload_n 1, 1) := by decide +kernel
theorem dX11_undo_39 : decode cX11_undo 39 = .ok (.iadd, 1) := by decide +kernel
theorem dX11_undo_40 : decode cX11_undo 40 = .ok (.aload_n 0, 1) := by decide +kernel
theorem dX11_undo_41 : decode cX11_undo 41 = .ok (.getfield 107, 3) := by decide +kernel
theorem dX11_undo_44 : decode cX11_undo 44 = .ok (.bipush 33, 2) := by decide +kernel
theorem dX11_undo_46 : decode cX11_undo 46 = .ok (.aload_n 0, 1) := by decide +kernel
theorem dX11_undo_47 : decode cX11_undo 47 = .ok (.getfield 231, 3) := by decide +kernel
theorem dX11_undo_50 : decode cX11_undo 50 = .ok (.imul, 1) := by decide +kernel
theorem dX11_undo_51 : decode cX11_undo 51 = .ok (.iload_n 1, 1) := by decide +kernel
theorem dX11_undo_52 : decode cX11_undo 52 = .ok (.iadd, 1) := by decide +kernel
theorem dX11_undo_53 : decode cX11_undo 53 = .ok (.iaload, 1) := by decide +kernel
theorem dX11_undo_54 : decode cX11_undo 54 = .ok (.iastore, 1) := by decide +kernel
theorem dX11_undo_55 : decode cX11_undo 55 = .ok (.iinc 1 1, 3) := by decide +kernel
theorem dX11_undo_58 : decode cX11_undo 58 = .ok (.goto (-32), 3) := by decide +kernel
theorem dX11_undo_61 : decode cX11_undo 61 = .ok (.aload_n 0, 1) := by decide +kernel
theorem dX11_undo_62 : decode cX11_undo 62 = .ok (.getfield 231, 3) := by decide +kernel
theorem dX11_undo_65 : decode cX11_undo 65 = .ok (.ireturn, 1) := by decide +kernel
theorem dX11_undo_12 : decode cX11_undo 12 = .ok (.iconst (-1), 1) := by decide +kernel
theorem dX11_undo_13 : decode cX11_undo 13 = .ok (.ireturn, 1) := by decide +kernel
set_option maxHeartbeats 4000000 in
set_option maxRecDepth 100000 in
theorem s_X11_undo {l : Launch} {G : Gc} (qm : Nat) (qm_thrown : Int32) (qm_tape : Nat) (qm_taped : Int32) (qm_size : Int32) (qm_limit : Int32) (qm_to : Int32) (qm_from : Int32) (qm_kind : Int32) (qm_number : Int32) (qm_sign : Int32) (qm_fault : Int32) (qm_place : Int32) (qm_word : Int64) (qm_told : Int32) (qm_now : Nat) (qm_read : Nat) (qm_kept : Nat) (qm_snaps : Nat) (qm_aside : Nat) (qm_name : Nat) (qm_readName : Nat) (qm_keptName : Nat) (qm_isKept : Nat) (qm_onces : Nat) (qm_snapMany : Int32) (qm_order : Nat) (qm_ordered : Nat) (qm_orderMany : Int32) (qm_orderMost : Int32) (qm_passing : Int32) (qm_movedWho : Int32) (qm_scratched : Int32) (qm_text : Nat) (qm_texts : Int32) (qm_seed : Int32) (qm_line : Nat) (qm_written : Nat) (qm_lineMany : Int32) (qm_hasWritten : Int32) (qm_node : Nat) (qm_nodes : Int32) (qm_onesMany : Int32) (qm_within : Int32) (qm_top : Int32) (qm_now_c : Nat → Int32) (qm_snaps_c : Nat → Int32) (hf_qm_now_c : slI qm_now_c) (hf1_qm_now_c : trI qm_now_c) (hi_qm_snapMany : 0 ≤ qm_snapMany.toInt ∧ qm_snapMany.toInt ≤ 8) : Ci l yX11_undo cX11_undo 2 (some .int) 0 0 0 G [.ref qm] [(qm, .inr (10, [.int qm_thrown, .ref qm_tape, .int qm_taped, .int qm_size, .int qm_limit, .int qm_to, .int qm_from, .int qm_kind, .int qm_number, .int qm_sign, .int qm_fault, .int qm_place, .long qm_word, .int qm_told, .ref qm_now, .ref qm_read, .ref qm_kept, .ref qm_snaps, .ref qm_aside, .ref qm_name, .ref qm_readName, .ref qm_keptName, .ref qm_isKept, .ref qm_onces, .int qm_snapMany, .ref qm_order, .ref qm_ordered, .int qm_orderMany, .int qm_orderMost, .int qm_passing, .int qm_movedWho, .int qm_scratched, .ref qm_text, .int qm_texts, .int qm_seed, .ref qm_line, .ref qm_written, .int qm_lineMany, .int qm_hasWritten, .ref qm_node, .int qm_nodes, .int qm_onesMany, .int qm_within, .int qm_top])), (qm_now, eI G 339 qm_now_c), (qm_snaps, eI G 264 qm_snaps_c)] (fun (r9 : Int32) (u9 : va_W) => ∃ (x0_qm_snapMany : Int32) (x1_qm_now_c : Nat → Int32) (r_x : Int32), r9 = r_x ∧ u9 = [(qm, .inr (10, [.int 0, .ref qm_tape, .int qm_taped, .int qm_size, .int qm_limit, .int qm_to, .int qm_from, .int qm_kind, .int qm_number, .int qm_sign, .int qm_fault, .int qm_place, .long qm_word, .int qm_told, .ref qm_now, .ref qm_read, .ref qm_kept, .ref qm_snaps, .ref qm_aside, .ref qm_name, .ref qm_readName, .ref qm_keptName, .ref qm_isKept, .ref qm_onces, .int x0_qm_snapMany, .ref qm_order, .ref qm_ordered, .int qm_orderMany, .int qm_orderMost, .int qm_passing, .int qm_movedWho, .int qm_scratched, .ref qm_text, .int qm_texts, .int qm_seed, .ref qm_line, .ref qm_written, .int qm_lineMany, .int qm_hasWritten, .ref qm_node, .int qm_nodes, .int qm_onesMany, .int qm_within, .int qm_top])), (qm_now, eI G 339 x1_qm_now_c), (qm_snaps, eI G 264 qm_snaps_c)] ∧ (0 ≤ x0_qm_snapMany.toInt ∧ x0_qm_snapMany.toInt ≤ 7) ∧ ((-1) ≤ r_x.toInt ∧ r_x.toInt ≤ 7) ∧ (loW qm_now_c x1_qm_now_c) ∧ (slI x1_qm_now_c) ∧ (trI x1_qm_now_c)) := by
  refine Ci.ofQ (by decide) (Nat.le_of_ble_eq_true rfl) ?_
  intro p e s m below meth c ls A args Q hQ B hw hl
  have C : CallFix p m c cX11_undo 2 s args gw "LanternStateModel" := B.1
  have hl : lv_has ls 2 [(0, .ref qm)] := hl
  refine lv_aload_n C.1 C.2.1 dX11_undo_0 rfl (lv_at hl 0 rfl) ?_
  refine lv_iconst (v := 0) C.1 C.2.1 dX11_undo_1 (by decide) ?_
  refine x_put (w' := [(qm, .inr (10, [.int 0, .ref qm_tape, .int qm_taped, .int qm_size, .int qm_limit, .int qm_to, .int qm_from, .int qm_kind, .int qm_number, .int qm_sign, .int qm_fault, .int qm_place, .long qm_word, .int qm_told, .ref qm_now, .ref qm_read, .ref qm_kept, .ref qm_snaps, .ref qm_aside, .ref qm_name, .ref qm_readName, .ref qm_keptName, .ref qm_isKept, .ref qm_onces, .int qm_snapMany, .ref qm_order, .ref qm_ordered, .int qm_orderMany, .int qm_orderMost, .int qm_passing, .int qm_movedWho, .int qm_scratched, .ref qm_text, .int qm_texts, .int qm_seed, .ref qm_line, .ref qm_written, .int qm_lineMany, .int qm_hasWritten, .ref qm_node, .int qm_nodes, .int qm_onesMany, .int qm_within, .int qm_top])), (qm_now, eI G 339 qm_now_c), (qm_snaps, eI G 264 qm_snaps_c)]) C hw iwX11 tyX11_ok nmX11 10 rfl 0 rfl 0 (by decide) kw1193 rfl rfl rfl (Nat.le_of_ble_eq_true rfl) rfl dX11_undo_2 (fun H locs hw => ?_)
  refine lv_aload_n C.1 C.2.1 dX11_undo_5 rfl (lv_at hl 0 rfl) ?_
  refine x_get C hw iwX11 10 rfl 0 rfl 24 (by decide) kw1217 rfl dX11_undo_6 ?_
  refine lv_if_ne (tgt := 14) C.1 C.2.1 dX11_undo_9 (by decide) (fun c1 => ?_) (fun c1 => ?_)
  · skip
    have c1 : qm_snapMany.toInt ≠ 0 := i_eqF (X := qm_snapMany.toInt) (Y := 0) rfl rfl c1
    refine lv_aload_n C.1 C.2.1 dX11_undo_14 rfl (lv_at hl 0 rfl) ?_
    refine lv_dup C.1 C.2.1 dX11_undo_15 rfl ?_
    refine x_get C hw iwX11 10 rfl 0 rfl 24 (by decide) kw1217 rfl dX11_undo_16 ?_
    refine lv_iconst (v := 1) C.1 C.2.1 dX11_undo_19 (by decide) ?_
    refine lv_isub C.1 C.2.1 dX11_undo_20 (x_genP (fun z : Int32 => z.toInt = qm_snapMany.toInt - 1) (i_sub (X := qm_snapMany.toInt) (Y := 1) rfl rfl (by omega) (by omega)) (fun v2 hv2 => ?_))
    refine x_put (w' := [(qm, .inr (10, [.int 0, .ref qm_tape, .int qm_taped, .int qm_size, .int qm_limit, .int qm_to, .int qm_from, .int qm_kind, .int qm_number, .int qm_sign, .int qm_fault, .int qm_place, .long qm_word, .int qm_told, .ref qm_now, .ref qm_read, .ref qm_kept, .ref qm_snaps, .ref qm_aside, .ref qm_name, .ref qm_readName, .ref qm_keptName, .ref qm_isKept, .ref qm_onces, .int v2, .ref qm_order, .ref qm_ordered, .int qm_orderMany, .int qm_orderMost, .int qm_passing, .int qm_movedWho, .int qm_scratched, .ref qm_text, .int qm_texts, .int qm_seed, .ref qm_line, .ref qm_written, .int qm_lineMany, .int qm_hasWritten, .ref qm_node, .int qm_nodes, .int qm_onesMany, .int qm_within, .int qm_top])), (qm_now, eI G 339 qm_now_c), (qm_snaps, eI G 264 qm_snaps_c)]) C hw iwX11 tyX11_ok nmX11 10 rfl 0 rfl 24 (by decide) kw1217 rfl rfl rfl (Nat.le_of_ble_eq_true rfl) rfl dX11_undo_21 (fun H locs hw => ?_)
    refine lv_iconst (v := 0) C.1 C.2.1 dX11_undo_24 (by decide) ?_
    refine lv_istore_n (lv' := [(1, .int 0), (0, .ref qm)]) C.1 C.2.1 dX11_undo_25 rfl hl (by decide) rfl (fun ls hl => ?_)
    have loopJ223 : ∀ (n9 : Nat) (j221 : Int32) (j222 : Nat → Int32), (2147483647 - j221.toInt).toNat < n9 → (loW qm_now_c j222) → (slI j222) → (trI j222) → (0 ≤ j221.toInt ∧ j221.toInt ≤ 33) → ∀ (H : Heap) (locs : List Loc) (ls : Array Slot), Wd G s A [(qm, .inr (10, [.int 0, .ref qm_tape, .int qm_taped, .int qm_size, .int qm_limit, .int qm_to, .int qm_from, .int qm_kind, .int qm_number, .int qm_sign, .int qm_fault, .int qm_place, .long qm_word, .int qm_told, .ref qm_now, .ref qm_read, .ref qm_kept, .ref qm_snaps, .ref qm_aside, .ref qm_name, .ref qm_readName, .ref qm_keptName, .ref qm_isKept, .ref qm_onces, .int v2, .ref qm_order, .ref qm_ordered, .int qm_orderMany, .int qm_orderMost, .int qm_passing, .int qm_movedWho, .int qm_scratched, .ref qm_text, .int qm_texts, .int qm_seed, .ref qm_line, .ref qm_written, .int qm_lineMany, .int qm_hasWritten, .ref qm_node, .int qm_nodes, .int qm_onesMany, .int qm_within, .int qm_top])), (qm_now, eI G 339 j222), (qm_snaps, eI G 264 qm_snaps_c)] H locs → lv_has ls 2 [(1, .int j221), (0, .ref qm)] → W p l e (rmD 0 0 0) s m args below meth c H locs 0 0 Q (F0 m 26 ls []) := by
      intro n9
      induction n9 with
      | zero => intro j221 j222 h9; exact absurd h9 (Nat.not_lt_zero _)
      | succ n9 ihJ223 =>
        intro j221 j222 h9J223 hJ223_0 hJ223_1 hJ223_2 hJ223_3 H locs ls hw hl
        have hbj221 := i_bd j221
        refine lv_iload_n C.1 C.2.1 dX11_undo_26 rfl (lv_at hl 0 rfl) ?_
        refine lv_bipush (v := 33) C.1 C.2.1 dX11_undo_27 (by decide) ?_
        refine lv_icmp_ge (tgt := 61) C.1 C.2.1 dX11_undo_29 (by decide) (fun c240 => ?_) (fun c240 => ?_)
        · skip
          have c240 : 33 ≤ j221.toInt := i_leT (X := 33) (Y := j221.toInt) rfl rfl c240
          refine lv_aload_n C.1 C.2.1 dX11_undo_61 rfl (lv_at hl 1 rfl) ?_
          refine x_get C hw iwX11 10 rfl 0 rfl 24 (by decide) kw1217 rfl dX11_undo_62 ?_
          exact x_retiQ hQ B hw ⟨v2, j222, v2, rfl, rfl, (by omega), (by omega), hJ223_0, hJ223_1, hJ223_2⟩ (Nat.le_of_ble_eq_true rfl) (Nat.le_of_ble_eq_true rfl) dX11_undo_65
        · skip
          have c240 : j221.toInt < 33 := i_leF (X := 33) (Y := j221.toInt) rfl rfl c240
          refine lv_aload_n C.1 C.2.1 dX11_undo_32 rfl (lv_at hl 1 rfl) ?_
          refine x_get C hw iwX11 10 rfl 0 rfl 14 (by decide) kw1207 rfl dX11_undo_33 ?_
          refine lv_bipush (v := 64) C.1 C.2.1 dX11_undo_36 (by decide) ?_
          refine lv_iload_n C.1 C.2.1 dX11_undo_38 rfl (lv_at hl 0 rfl) ?_
          refine lv_iadd C.1 C.2.1 dX11_undo_39 (x_genP (fun z : Int32 => z.toInt = 64 + j221.toInt) (i_add (X := 64) (Y := j221.toInt) rfl rfl (by omega) (by omega)) (fun v241 hv241 => ?_))
          refine lv_aload_n C.1 C.2.1 dX11_undo_40 rfl (lv_at hl 1 rfl) ?_
          refine x_get C hw iwX11 10 rfl 0 rfl 17 (by decide) kw1210 rfl dX11_undo_41 ?_
          refine lv_bipush (v := 33) C.1 C.2.1 dX11_undo_44 (by decide) ?_
          refine lv_aload_n C.1 C.2.1 dX11_undo_46 rfl (lv_at hl 1 rfl) ?_
          refine x_get C hw iwX11 10 rfl 0 rfl 24 (by decide) kw1217 rfl dX11_undo_47 ?_
          refine lv_imul C.1 C.2.1 dX11_undo_50 (x_genP (fun z : Int32 => z.toInt = 33 * v2.toInt) (i_mul (X := 33) (Y := v2.toInt) rfl rfl (by omega) (by omega)) (fun v242 hv242 => ?_))
          refine lv_iload_n C.1 C.2.1 dX11_undo_51 rfl (lv_at hl 0 rfl) ?_
          refine lv_iadd C.1 C.2.1 dX11_undo_52 (x_genP (fun z : Int32 => z.toInt = v242.toInt + j221.toInt) (i_add (X := v242.toInt) (Y := j221.toInt) rfl rfl (by omega) (by omega)) (fun v243 hv243 => ?_))
          refine x_iald (v := (qm_snaps_c v243.toNatClampNeg)) C hw 2 rfl (i_in (by omega) (by omega)) rfl dX11_undo_53 (x_gen (fun v244 => ?_))
          obtain ⟨g245, eg245⟩ : ∃ z, upd j222 (v241.toNatClampNeg) v244 = z := ⟨_, rfl⟩
          have mm246 := i_cn v241
          have fs247 : slI g245 := eg245 ▸ slI_upd hJ223_1 (by intro q; omega) (by intro q; omega) (by intro q; omega)
          have mm248 : (g245 0).toInt = (j222 0).toInt := by rw [← eg245, upd_lo (by omega)]
          have mm249 : (g245 1).toInt = (j222 1).toInt := by rw [← eg245, upd_lo (by omega)]
          have ft250 : trI g245 := eg245 ▸ trI_lo hJ223_2 (by omega)
          have fw251 : loW qm_now_c g245 := eg245 ▸ loW_upd hJ223_0 (by rw [i_cn]; omega)
          refine x_iast (f' := g245) (w' := [(qm, .inr (10, [.int 0, .ref qm_tape, .int qm_taped, .int qm_size, .int qm_limit, .int qm_to, .int qm_from, .int qm_kind, .int qm_number, .int qm_sign, .int qm_fault, .int qm_place, .long qm_word, .int qm_told, .ref qm_now, .ref qm_read, .ref qm_kept, .ref qm_snaps, .ref qm_aside, .ref qm_name, .ref qm_readName, .ref qm_keptName, .ref qm_isKept, .ref qm_onces, .int v2, .ref qm_order, .ref qm_ordered, .int qm_orderMany, .int qm_orderMost, .int qm_passing, .int qm_movedWho, .int qm_scratched, .ref qm_text, .int qm_texts, .int qm_seed, .ref qm_line, .ref qm_written, .int qm_lineMany, .int qm_hasWritten, .ref qm_node, .int qm_nodes, .int qm_onesMany, .int qm_within, .int qm_top])), (qm_now, eI G 339 g245), (qm_snaps, eI G 264 qm_snaps_c)]) C hw 1 rfl (i_in (by omega) (by omega)) eg245 rfl dX11_undo_54 (fun H locs hw => ?_)
          obtain ⟨v252, ev252⟩ : ∃ z : Int32, j221 + 1 = z := ⟨_, rfl⟩
          have hv252 : v252.toInt = j221.toInt + 1 := by rw [← ev252]; exact i_add rfl rfl (by omega) (by omega)
          refine lv_iinc (v := v252) (lv' := [(1, .int v252), (0, .ref qm)]) C.1 C.2.1 dX11_undo_55 hl (k := 0) rfl ev252 (by decide) rfl (fun ls hl => ?_)
          refine lv_goto (tgt := 26) C.1 C.2.1 dX11_undo_58 (by decide) ?_
          exact ihJ223 v252 g245 (by omega) fw251 fs247 ft250 (by omega) _ _ _ hw (lv_sub hl [0, 1] rfl)
    exact loopJ223 _ 0 qm_now_c (Nat.lt_succ_self _) (loW_rfl qm_now_c) hf_qm_now_c hf1_qm_now_c (by decide) _ _ _ hw (lv_sub hl [0, 1] rfl)
  · skip
    have c1 : qm_snapMany.toInt = 0 := i_eqT (X := qm_snapMany.toInt) (Y := 0) rfl rfl c1
    refine lv_iconst (v := (-1)) C.1 C.2.1 dX11_undo_12 (by decide) ?_
    exact x_retiQ hQ B hw ⟨qm_snapMany, qm_now_c, (-1), rfl, rfl, (by omega), (by decide), (loW_rfl qm_now_c), hf_qm_now_c, hf1_qm_now_c⟩ (Nat.le_of_ble_eq_true rfl) (Nat.le_of_ble_eq_true rfl) dX11_undo_13
theorem dX11_oneHour_0 : decode cX11_oneHour 0 = .ok (.aload_n 0, 1) := by decide +kernel
theorem dX11_oneHour_1 : decode cX11_oneHour 1 = .ok (.getfield 98, 3) := by decide +kernel
theorem dX11_oneHour_4 : decode cX11_oneHour 4 = .ok (.bipush 65, 2) := by decide +kernel
theorem dX11_oneHour_6 : decode cX11_oneHour 6 = .ok (.aload_n 0, 1) := by decide +kernel
theorem dX11_oneHour_7 : decode cX11_oneHour 7 = .ok (.getfield 98, 3) := by decide +kernel
theorem dX11_oneHour_10 : decode cX11_oneHour 10 = .ok (.bipush 65, 2) := by decide +kernel
theorem dX11_oneHour_12 : decode cX11_oneHour 12 = .ok (.iaload, 1) := by decide +kernel
theorem dX11_oneHour_13 : decode cX11_oneHour 13 = .ok (.iconst 5, 1) := by decide +kernel
theorem dX11_oneHour_14 : decode cX11_oneHour 14 = .ok (.if_icmp .le 15, 3) := by decide +kernel
theorem dX11_oneHour_29 : decode cX11_oneHour 29 = .ok (.iconst 0, 1) := by decide +kernel
theorem dX11_oneHour_17 : decode cX11_oneHour 17 = .ok (.aload_n 0, 1) := by decide +kernel
theorem dX11_oneHour_18 : decode cX11_oneHour 18 = .ok (.getfield 98, 3) := by decide +kernel
theorem dX11_oneHour_21 : decode cX11_oneHour 21 = .ok (.bipush 65, 2) := by decide +kernel
theorem dX11_oneHour_23 : decode cX11_oneHour 23 = .ok (.iaload, 1) := by decide +kernel
theorem dX11_oneHour_24 : decode cX11_oneHour 24 = .ok (.iconst 5, 1) := by decide +kernel
theorem dX11_oneHour_25 : decode cX11_oneHour 25 = .ok (.isub, 1) := by decide +kernel
theorem dX11_oneHour_26 : decode cX11_oneHour 26 = .ok (.goto 4, 3) := by decide +kernel
theorem dX11_oneHour_30 : decode cX11_oneHour 30 = .ok (.iastore, 1) := by decide +kernel
theorem dX11_oneHour_31 : decode cX11_oneHour 31 = .ok (.aload_n 0, 1) := by decide +kernel
theorem dX11_oneHour_32 : decode cX11_oneHour 32 = .ok (.getfield 98, 3) := by decide +kernel
theorem dX11_oneHour_35 : decode cX11_oneHour 35 = .ok (.bipush 65, 2) := by decide +kernel
theorem dX11_oneHour_37 : decode cX11_oneHour 37 = .ok (.iaload, 1) := by decide +kernel
theorem dX11_oneHour_38 : decode cX11_oneHour 38 = .ok (.ifCond .ne 11, 3) := by decide +kernel
theorem dX11_oneHour_41 : decode cX11_oneHour 41 = .ok (.aload_n 0, 1) := by decide +kernel
theorem dX11_oneHour_42 : decode cX11_oneHour 42 = .ok (.getfield 98, 3) := by decide +kernel
theorem dX11_oneHour_45 : decode cX11_oneHour 45 = .ok (.bipush 66, 2) := by decide +kernel
theorem dX11_oneHour_47 : decode cX11_oneHour 47 = .ok (.iconst 0, 1) := by decide +kernel
theorem dX11_oneHour_48 : decode cX11_oneHour 48 = .ok (.iastore, 1) := by decide +kernel
theorem dX11_oneHour_49 : decode cX11_oneHour 49 = .ok (.aload_n 0, 1) := by decide +kernel
theorem dX11_oneHour_50 : decode cX11_oneHour 50 = .ok (.getfield 98, 3) := by decide +kernel
theorem dX11_oneHour_53 : decode cX11_oneHour 53 = .ok (.bipush 64, 2) := by decide +kernel
theorem dX11_oneHour_55 : decode cX11_oneHour 55 = .ok (.dup2, 1) := by decide +kernel
theorem dX11_oneHour_56 : decode cX11_oneHour 56 = .ok (.iaload, 1) := by decide +kernel
theorem dX11_oneHour_57 : decode cX11_oneHour 57 = .ok (.iconst 1, 1) := by decide +kernel
theorem dX11_oneHour_58 : decode cX11_oneHour 58 = .ok (.iadd, 1) := by decide +kernel
theorem dX11_oneHour_59 : decode cX11_oneHour 59 = .ok (.iastore, 1) := by decide +kernel
theorem dX11_oneHour_60 : decode cX11_oneHour 60 = .ok (.return_, 1) := by decide +kernel
set_option maxHeartbeats 4000000 in
set_option maxRecDepth 100000 in
theorem s_X11_oneHour {l : Launch} {G : Gc} (qm : Nat) (qm_thrown : Int32) (qm_tape : Nat) (qm_taped : Int32) (qm_size : Int32) (qm_limit : Int32) (qm_to : Int32) (qm_from : Int32) (qm_kind : Int32) (qm_number : Int32) (qm_sign : Int32) (qm_fault : Int32) (qm_place : Int32) (qm_word : Int64) (qm_told : Int32) (qm_now : Nat) (qm_read : Nat) (qm_kept : Nat) (qm_snaps : Nat) (qm_aside : Nat) (qm_name : Nat) (qm_readName : Nat) (qm_keptName : Nat) (qm_isKept : Nat) (qm_onces : Nat) (qm_snapMany : Int32) (qm_order : Nat) (qm_ordered : Nat) (qm_orderMany : Int32) (qm_orderMost : Int32) (qm_passing : Int32) (qm_movedWho : Int32) (qm_scratched : Int32) (qm_text : Nat) (qm_texts : Int32) (qm_seed : Int32) (qm_line : Nat) (qm_written : Nat) (qm_lineMany : Int32) (qm_hasWritten : Int32) (qm_node : Nat) (qm_nodes : Int32) (qm_onesMany : Int32) (qm_within : Int32) (qm_top : Int32) (qm_now_c : Nat → Int32) (hf_qm_now_c : slI qm_now_c) (hf1_qm_now_c : trI qm_now_c) : Cv l yX11_oneHour cX11_oneHour 1 0 0 0 G [.ref qm] [(qm, .inr (10, [.int qm_thrown, .ref qm_tape, .int qm_taped, .int qm_size, .int qm_limit, .int qm_to, .int qm_from, .int qm_kind, .int qm_number, .int qm_sign, .int qm_fault, .int qm_place, .long qm_word, .int qm_told, .ref qm_now, .ref qm_read, .ref qm_kept, .ref qm_snaps, .ref qm_aside, .ref qm_name, .ref qm_readName, .ref qm_keptName, .ref qm_isKept, .ref qm_onces, .int qm_snapMany, .ref qm_order, .ref qm_ordered, .int qm_orderMany, .int qm_orderMost, .int qm_passing, .int qm_movedWho, .int qm_scratched, .ref qm_text, .int qm_texts, .int qm_seed, .ref qm_line, .ref qm_written, .int qm_lineMany, .int qm_hasWritten, .ref qm_node, .int qm_nodes, .int qm_onesMany, .int qm_within, .int qm_top])), (qm_now, eI G 339 qm_now_c)] (fun (u9 : va_W) => ∃ (x0_qm_now_c : Nat → Int32), u9 = [(qm, .inr (10, [.int qm_thrown, .ref qm_tape, .int qm_taped, .int qm_size, .int qm_limit, .int qm_to, .int qm_from, .int qm_kind, .int qm_number, .int qm_sign, .int qm_fault, .int qm_place, .long qm_word, .int qm_told, .ref qm_now, .ref qm_read, .ref qm_kept, .ref qm_snaps, .ref qm_aside, .ref qm_name, .ref qm_readName, .ref qm_keptName, .ref qm_isKept, .ref qm_onces, .int qm_snapMany, .ref qm_order, .ref qm_ordered, .int qm_orderMany, .int qm_orderMost, .int qm_passing, .int qm_movedWho, .int qm_scratched, .ref qm_text, .int qm_texts, .int qm_seed, .ref qm_line, .ref qm_written, .int qm_lineMany, .int qm_hasWritten, .ref qm_node, .int qm_nodes, .int qm_onesMany, .int qm_within, .int qm_top])), (qm_now, eI G 339 x0_qm_now_c)] ∧ (loW qm_now_c x0_qm_now_c) ∧ (slI x0_qm_now_c) ∧ (trI x0_qm_now_c) ∧ ((x0_qm_now_c 0).toInt = (qm_now_c 0).toInt)) := by
  refine Cv.ofQ (by decide) (Nat.le_of_ble_eq_true rfl) ?_
  intro p e s m below meth c ls A args Q hQ B hw hl
  have C : CallFix p m c cX11_oneHour 1 s args gw "LanternStateModel" := B.1
  have hl : lv_has ls 1 [(0, .ref qm)] := hl
  refine lv_aload_n C.1 C.2.1 dX11_oneHour_0 rfl (lv_at hl 0 rfl) ?_
  refine x_get C hw iwX11 10 rfl 0 rfl 14 (by decide) kw1207 rfl dX11_oneHour_1 ?_
  refine lv_bipush (v := 65) C.1 C.2.1 dX11_oneHour_4 (by decide) ?_
  refine lv_aload_n C.1 C.2.1 dX11_oneHour_6 rfl (lv_at hl 0 rfl) ?_
  refine x_get C hw iwX11 10 rfl 0 rfl 14 (by decide) kw1207 rfl dX11_oneHour_7 ?_
  refine lv_bipush (v := 65) C.1 C.2.1 dX11_oneHour_10 (by decide) ?_
  refine x_iald (v := (qm_now_c 65)) C hw 1 rfl (x_in rfl) rfl dX11_oneHour_12 (x_gen (fun v1 => ?_))
  refine lv_iconst (v := 5) C.1 C.2.1 dX11_oneHour_13 (by decide) ?_
  have J6 : ∀ (j5 : Int32), ∀ (H : Heap) (locs : List Loc) (ls : Array Slot), Wd G s A [(qm, .inr (10, [.int qm_thrown, .ref qm_tape, .int qm_taped, .int qm_size, .int qm_limit, .int qm_to, .int qm_from, .int qm_kind, .int qm_number, .int qm_sign, .int qm_fault, .int qm_place, .long qm_word, .int qm_told, .ref qm_now, .ref qm_read, .ref qm_kept, .ref qm_snaps, .ref qm_aside, .ref qm_name, .ref qm_readName, .ref qm_keptName, .ref qm_isKept, .ref qm_onces, .int qm_snapMany, .ref qm_order, .ref qm_ordered, .int qm_orderMany, .int qm_orderMost, .int qm_passing, .int qm_movedWho, .int qm_scratched, .ref qm_text, .int qm_texts, .int qm_seed, .ref qm_line, .ref qm_written, .int qm_lineMany, .int qm_hasWritten, .ref qm_node, .int qm_nodes, .int qm_onesMany, .int qm_within, .int qm_top])), (qm_now, eI G 339 qm_now_c)] H locs → lv_has ls 1 [(0, .ref qm)] → W p l e (rmD 0 0 0) s m args below meth c H locs 0 0 Q (F0 m 30 ls [.int j5, .int 65, .ref qm_now]) := by
    intro j5  H locs ls hw hl
    obtain ⟨g31, eg31⟩ : ∃ z, upd qm_now_c 65 j5 = z := ⟨_, rfl⟩
    have fs32 : slI g31 := eg31 ▸ slI_upd hf_qm_now_c (by intro q; omega) (by intro q; omega) (by intro q; omega)
    have mm33 : (g31 0).toInt = (qm_now_c 0).toInt := by rw [← eg31, upd_ne (by omega)]
    have mm34 : (g31 1).toInt = (qm_now_c 1).toInt := by rw [← eg31, upd_ne (by omega)]
    have ft35 : trI g31 := eg31 ▸ trI_lo hf1_qm_now_c (by omega)
    have fw36 : loW qm_now_c g31 := eg31 ▸ loW_upd (loW_rfl qm_now_c) (by decide)
    refine x_iast (f' := g31) (w' := [(qm, .inr (10, [.int qm_thrown, .ref qm_tape, .int qm_taped, .int qm_size, .int qm_limit, .int qm_to, .int qm_from, .int qm_kind, .int qm_number, .int qm_sign, .int qm_fault, .int qm_place, .long qm_word, .int qm_told, .ref qm_now, .ref qm_read, .ref qm_kept, .ref qm_snaps, .ref qm_aside, .ref qm_name, .ref qm_readName, .ref qm_keptName, .ref qm_isKept, .ref qm_onces, .int qm_snapMany, .ref qm_order, .ref qm_ordered, .int qm_orderMany, .int qm_orderMost, .int qm_passing, .int qm_movedWho, .int qm_scratched, .ref qm_text, .int qm_texts, .int qm_seed, .ref qm_line, .ref qm_written, .int qm_lineMany, .int qm_hasWritten, .ref qm_node, .int qm_nodes, .int qm_onesMany, .int qm_within, .int qm_top])), (qm_now, eI G 339 g31)]) C hw 1 rfl (x_in rfl) eg31 rfl dX11_oneHour_30 (fun H locs hw => ?_)
    refine lv_aload_n C.1 C.2.1 dX11_oneHour_31 rfl (lv_at hl 0 rfl) ?_
    refine x_get C hw iwX11 10 rfl 0 rfl 14 (by decide) kw1207 rfl dX11_oneHour_32 ?_
    refine lv_bipush (v := 65) C.1 C.2.1 dX11_oneHour_35 (by decide) ?_
    refine x_iald (v := (g31 65)) C hw 1 rfl (x_in rfl) rfl dX11_oneHour_37 (x_gen (fun v37 => ?_))
    have J46 : ∀ (j45 : Nat → Int32), (loW qm_now_c j45) → (slI j45) → (trI j45) → ((j45 0).toInt = (qm_now_c 0).toInt) → ∀ (H : Heap) (locs : List Loc) (ls : Array Slot), Wd G s A [(qm, .inr (10, [.int qm_thrown, .ref qm_tape, .int qm_taped, .int qm_size, .int qm_limit, .int qm_to, .int qm_from, .int qm_kind, .int qm_number, .int qm_sign, .int qm_fault, .int qm_place, .long qm_word, .int qm_told, .ref qm_now, .ref qm_read, .ref qm_kept, .ref qm_snaps, .ref qm_aside, .ref qm_name, .ref qm_readName, .ref qm_keptName, .ref qm_isKept, .ref qm_onces, .int qm_snapMany, .ref qm_order, .ref qm_ordered, .int qm_orderMany, .int qm_orderMost, .int qm_passing, .int qm_movedWho, .int qm_scratched, .ref qm_text, .int qm_texts, .int qm_seed, .ref qm_line, .ref qm_written, .int qm_lineMany, .int qm_hasWritten, .ref qm_node, .int qm_nodes, .int qm_onesMany, .int qm_within, .int qm_top])), (qm_now, eI G 339 j45)] H locs → lv_has ls 1 [(0, .ref qm)] → W p l e (rmD 0 0 0) s m args below meth c H locs 0 0 Q (F0 m 49 ls []) := by
      intro j45 hJ46_0 hJ46_1 hJ46_2 hJ46_3 H locs ls hw hl
      refine lv_aload_n C.1 C.2.1 dX11_oneHour_49 rfl (lv_at hl 0 rfl) ?_
      refine x_get C hw iwX11 10 rfl 0 rfl 14 (by decide) kw1207 rfl dX11_oneHour_50 ?_
      refine lv_bipush (v := 64) C.1 C.2.1 dX11_oneHour_53 (by decide) ?_
      refine lv_dup2_11 C.1 C.2.1 dX11_oneHour_55 rfl rfl ?_
      refine x_iald (v := (j45 64)) C hw 1 rfl (x_in rfl) rfl dX11_oneHour_56 (x_gen (fun v55 => ?_))
      refine lv_iconst (v := 1) C.1 C.2.1 dX11_oneHour_57 (by decide) ?_
      refine lv_iadd C.1 C.2.1 dX11_oneHour_58 (x_gen (fun v56 => ?_))
      obtain ⟨g57, eg57⟩ : ∃ z, upd j45 64 v56 = z := ⟨_, rfl⟩
      have fs58 : slI g57 := eg57 ▸ slI_upd hJ46_1 (by intro q; omega) (by intro q; omega) (by intro q; omega)
      have mm59 : (g57 0).toInt = (j45 0).toInt := by rw [← eg57, upd_ne (by omega)]
      have mm60 : (g57 1).toInt = (j45 1).toInt := by rw [← eg57, upd_ne (by omega)]
      have ft61 : trI g57 := eg57 ▸ trI_lo hJ46_2 (by omega)
      have fw62 : loW qm_now_c g57 := eg57 ▸ loW_upd hJ46_0 (by decide)
      refine x_iast (f' := g57) (w' := [(qm, .inr (10, [.int qm_thrown, .ref qm_tape, .int qm_taped, .int qm_size, .int qm_limit, .int qm_to, .int qm_from, .int qm_kind, .int qm_number, .int qm_sign, .int qm_fault, .int qm_place, .long qm_word, .int qm_told, .ref qm_now, .ref qm_read, .ref qm_kept, .ref qm_snaps, .ref qm_aside, .ref qm_name, .ref qm_readName, .ref qm_keptName, .ref qm_isKept, .ref qm_onces, .int qm_snapMany, .ref qm_order, .ref qm_ordered, .int qm_orderMany, .int qm_orderMost, .int qm_passing, .int qm_movedWho, .int qm_scratched, .ref qm_text, .int qm_texts, .int qm_seed, .ref qm_line, .ref qm_written, .int qm_lineMany, .int qm_hasWritten, .ref qm_node, .int qm_nodes, .int qm_onesMany, .int qm_within, .int qm_top])), (qm_now, eI G 339 g57)]) C hw 1 rfl (x_in rfl) eg57 rfl dX11_oneHour_59 (fun H locs hw => ?_)
      exact x_retvQ hQ B hw ⟨g57, rfl, fw62, fs58, ft61, (by omega)⟩ (Nat.le_of_ble_eq_true rfl) (Nat.le_of_ble_eq_true rfl) dX11_oneHour_60
    refine lv_if_ne (tgt := 49) C.1 C.2.1 dX11_oneHour_38 (by decide) (fun c38 => ?_) (fun c38 => ?_)
    · skip
      have c38 : v37.toInt ≠ 0 := i_eqF (X := v37.toInt) (Y := 0) rfl rfl c38
      have bc38_v37 := i_bd v37
      exact J46 g31  fw36 fs32 ft35 (by omega) _ _ _ hw (lv_sub hl [0] rfl)
    · skip
      have c38 : v37.toInt = 0 := i_eqT (X := v37.toInt) (Y := 0) rfl rfl c38
      have bc38_v37 := i_bd v37
      refine lv_aload_n C.1 C.2.1 dX11_oneHour_41 rfl (lv_at hl 0 rfl) ?_
      refine x_get C hw iwX11 10 rfl 0 rfl 14 (by decide) kw1207 rfl dX11_oneHour_42 ?_
      refine lv_bipush (v := 66) C.1 C.2.1 dX11_oneHour_45 (by decide) ?_
      refine lv_iconst (v := 0) C.1 C.2.1 dX11_oneHour_47 (by decide) ?_
      obtain ⟨g63, eg63⟩ : ∃ z, upd g31 66 0 = z := ⟨_, rfl⟩
      have fs64 : slI g63 := eg63 ▸ slI_upd fs32 (by have e0 : (0 : Int32).toInt = 0 := rfl; intro q; omega) (by have e0 : (0 : Int32).toInt = 0 := rfl; intro q; omega) (by have e0 : (0 : Int32).toInt = 0 := rfl; intro q; omega)
      have mm65 : (g63 0).toInt = (g31 0).toInt := by rw [← eg63, upd_ne (by omega)]
      have mm66 : (g63 1).toInt = (g31 1).toInt := by rw [← eg63, upd_ne (by omega)]
      have ft67 : trI g63 := eg63 ▸ trI_0 ft35
      have fw68 : loW qm_now_c g63 := eg63 ▸ loW_upd fw36 (by decide)
      refine x_iast (f' := g63) (w' := [(qm, .inr (10, [.int qm_thrown, .ref qm_tape, .int qm_taped, .int qm_size, .int qm_limit, .int qm_to, .int qm_from, .int qm_kind, .int qm_number, .int qm_sign, .int qm_fault, .int qm_place, .long qm_word, .int qm_told, .ref qm_now, .ref qm_read, .ref qm_kept, .ref qm_snaps, .ref qm_aside, .ref qm_name, .ref qm_readName, .ref qm_keptName, .ref qm_isKept, .ref qm_onces, .int qm_snapMany, .ref qm_order, .ref qm_ordered, .int qm_orderMany, .int qm_orderMost, .int qm_passing, .int qm_movedWho, .int qm_scratched, .ref qm_text, .int qm_texts, .int qm_seed, .ref qm_line, .ref qm_written, .int qm_lineMany, .int qm_hasWritten, .ref qm_node, .int qm_nodes, .int qm_onesMany, .int qm_within, .int qm_top])), (qm_now, eI G 339 g63)]) C hw 1 rfl (x_in rfl) eg63 rfl dX11_oneHour_48 (fun H locs hw => ?_)
      exact J46 g63  fw68 fs64 ft67 (by omega) _ _ _ hw (lv_sub hl [0] rfl)
  refine lv_icmp_le (tgt := 29) C.1 C.2.1 dX11_oneHour_14 (by decide) (fun c2 => ?_) (fun c2 => ?_)
  · skip
    have c2 : v1.toInt ≤ 5 := i_leT (X := v1.toInt) (Y := 5) rfl rfl c2
    have bc2_v1 := i_bd v1
    refine lv_iconst (v := 0) C.1 C.2.1 dX11_oneHour_29 (by decide) ?_
    exact J6 0   _ _ _ hw (lv_sub hl [0] rfl)
  · skip
    have c2 : 5 < v1.toInt := i_leF (X := v1.toInt) (Y := 5) rfl rfl c2
    have bc2_v1 := i_bd v1
    refine lv_aload_n C.1 C.2.1 dX11_oneHour_17 rfl (lv_at hl 0 rfl) ?_
    refine x_get C hw iwX11 10 rfl 0 rfl 14 (by decide) kw1207 rfl dX11_oneHour_18 ?_
    refine lv_bipush (v := 65) C.1 C.2.1 dX11_oneHour_21 (by decide) ?_
    refine x_iald (v := (qm_now_c 65)) C hw 1 rfl (x_in rfl) rfl dX11_oneHour_23 (x_gen (fun v69 => ?_))
    refine lv_iconst (v := 5) C.1 C.2.1 dX11_oneHour_24 (by decide) ?_
    refine lv_isub C.1 C.2.1 dX11_oneHour_25 (x_gen (fun v70 => ?_))
    refine lv_goto (tgt := 30) C.1 C.2.1 dX11_oneHour_26 (by decide) ?_
    exact J6 v70   _ _ _ hw (lv_sub hl [0] rfl)
theorem dX11_passHours_0 : decode cX11_passHours 0 = .ok (.iload_n 1, 1) := by decide +kernel
theorem dX11_passHours_1 : decode cX11_passHours 1 = .ok (.sipush 400, 3) := by decide +kernel
theorem dX11_passHours_4 : decode cX11_passHours 4 = .ok (.aload_n 0, 1) := by decide +kernel
theorem dX11_passHours_5 : decode cX11_passHours 5 = .ok (.getfield 98, 3) := by decide +kernel
theorem dX11_passHours_8 : decode cX11_passHours 8 = .ok (.bipush 64, 2) := by decide +kernel
theorem dX11_passHours_10 : decode cX11_passHours 10 = .ok (.iaload, 1) := by decide +kernel
theorem dX11_passHours_11 : decode cX11_passHours 11 = .ok (.isub, 1) := by decide +kernel
theorem dX11_passHours_12 : decode cX11_passHours 12 = .ok (.invokestatic 298, 3) := by decide +kernel
theorem mwX11_least : MwS yX11_least cX11_least 2 (some .int) 2 := ⟨⟨kw1603, kw15, by decide +kernel⟩, kw1602⟩
theorem dX11_passHours_15 : decode cX11_passHours 15 = .ok (.istore_n 2, 1) := by decide +kernel
theorem dX11_passHours_16 : decode cX11_passHours 16 = .ok (.iconst 0, 1) := by decide +kernel
theorem dX11_passHours_17 : decode cX11_passHours 17 = .ok (.istore_n 3, 1) := by decide +kernel
theorem dX11_passHours_18 : decode cX11_passHours 18 = .ok (.iload_n 3, 1) := by decide +kernel
theorem dX11_passHours_19 : decode cX11_passHours 19 = .ok (.iload_n 2, 1) := by decide +kernel
theorem dX11_passHours_20 : decode cX11_passHours 20 = .ok (.if_icmp .ge 13, 3) := by decide +kernel
theorem dX11_passHours_23 : decode cX11_passHours 23 = .ok (.aload_n 0, 1) := by decide +kernel
theorem dX11_passHours_24 : decode cX11_passHours 24 = .ok (.invokevirtual 301, 3) := by decide +kernel
theorem mwX11_oneHour : MwV yX11_oneHour cX11_oneHour 1 none 0 := ⟨⟨kw1607, kw15, by decide +kernel⟩, kw1606, kS88⟩
theorem dX11_passHours_27 : decode cX11_passHours 27 = .ok (.iinc 3 1, 3) := by decide +kernel
theorem dX11_passHours_30 : decode cX11_passHours 30 = .ok (.goto (-12), 3) := by decide +kernel
theorem dX11_passHours_33 : decode cX11_passHours 33 = .ok (.iload_n 2, 1) := by decide +kernel
theorem dX11_passHours_34 : decode cX11_passHours 34 = .ok (.ireturn, 1) := by decide +kernel
set_option maxHeartbeats 4000000 in
set_option maxRecDepth 100000 in
theorem s_X11_passHours {l : Launch} {G : Gc} (qm : Nat) (a1 : Int32) (qm_thrown : Int32) (qm_tape : Nat) (qm_taped : Int32) (qm_size : Int32) (qm_limit : Int32) (qm_to : Int32) (qm_from : Int32) (qm_kind : Int32) (qm_number : Int32) (qm_sign : Int32) (qm_fault : Int32) (qm_place : Int32) (qm_word : Int64) (qm_told : Int32) (qm_now : Nat) (qm_read : Nat) (qm_kept : Nat) (qm_snaps : Nat) (qm_aside : Nat) (qm_name : Nat) (qm_readName : Nat) (qm_keptName : Nat) (qm_isKept : Nat) (qm_onces : Nat) (qm_snapMany : Int32) (qm_order : Nat) (qm_ordered : Nat) (qm_orderMany : Int32) (qm_orderMost : Int32) (qm_passing : Int32) (qm_movedWho : Int32) (qm_scratched : Int32) (qm_text : Nat) (qm_texts : Int32) (qm_seed : Int32) (qm_line : Nat) (qm_written : Nat) (qm_lineMany : Int32) (qm_hasWritten : Int32) (qm_node : Nat) (qm_nodes : Int32) (qm_onesMany : Int32) (qm_within : Int32) (qm_top : Int32) (qm_now_c : Nat → Int32) (hf_qm_now_c : slI qm_now_c) (hf1_qm_now_c : trI qm_now_c) : Ci l yX11_passHours cX11_passHours 4 (some .int) 1 0 0 G [.ref qm, .int a1] [(qm, .inr (10, [.int qm_thrown, .ref qm_tape, .int qm_taped, .int qm_size, .int qm_limit, .int qm_to, .int qm_from, .int qm_kind, .int qm_number, .int qm_sign, .int qm_fault, .int qm_place, .long qm_word, .int qm_told, .ref qm_now, .ref qm_read, .ref qm_kept, .ref qm_snaps, .ref qm_aside, .ref qm_name, .ref qm_readName, .ref qm_keptName, .ref qm_isKept, .ref qm_onces, .int qm_snapMany, .ref qm_order, .ref qm_ordered, .int qm_orderMany, .int qm_orderMost, .int qm_passing, .int qm_movedWho, .int qm_scratched, .ref qm_text, .int qm_texts, .int qm_seed, .ref qm_line, .ref qm_written, .int qm_lineMany, .int qm_hasWritten, .ref qm_node, .int qm_nodes, .int qm_onesMany, .int qm_within, .int qm_top])), (qm_now, eI G 339 qm_now_c)] (fun (r9 : Int32) (u9 : va_W) => ∃ (x0_qm_now_c : Nat → Int32) (r_x : Int32), r9 = r_x ∧ u9 = [(qm, .inr (10, [.int qm_thrown, .ref qm_tape, .int qm_taped, .int qm_size, .int qm_limit, .int qm_to, .int qm_from, .int qm_kind, .int qm_number, .int qm_sign, .int qm_fault, .int qm_place, .long qm_word, .int qm_told, .ref qm_now, .ref qm_read, .ref qm_kept, .ref qm_snaps, .ref qm_aside, .ref qm_name, .ref qm_readName, .ref qm_keptName, .ref qm_isKept, .ref qm_onces, .int qm_snapMany, .ref qm_order, .ref qm_ordered, .int qm_orderMany, .int qm_orderMost, .int qm_passing, .int qm_movedWho, .int qm_scratched, .ref qm_text, .int qm_texts, .int qm_seed, .ref qm_line, .ref qm_written, .int qm_lineMany, .int qm_hasWritten, .ref qm_node, .int qm_nodes, .int qm_onesMany, .int qm_within, .int qm_top])), (qm_now, eI G 339 x0_qm_now_c)] ∧ (loW qm_now_c x0_qm_now_c) ∧ (slI x0_qm_now_c) ∧ (trI x0_qm_now_c) ∧ ((x0_qm_now_c 0).toInt = (qm_now_c 0).toInt)) := by
  refine Ci.ofQ (by decide) (Nat.le_of_ble_eq_true rfl) ?_
  intro p e s m below meth c ls A args Q hQ B hw hl
  have C : CallFix p m c cX11_passHours 4 s args gw "LanternStateModel" := B.1
  have hl : lv_has ls 4 [(0, .ref qm), (1, .int a1)] := hl
  refine lv_iload_n C.1 C.2.1 dX11_passHours_0 rfl (lv_at hl 1 rfl) ?_
  refine lv_sipush (v := 400) C.1 C.2.1 dX11_passHours_1 (by decide) ?_
  refine lv_aload_n C.1 C.2.1 dX11_passHours_4 rfl (lv_at hl 0 rfl) ?_
  refine x_get C hw iwX11 10 rfl 0 rfl 14 (by decide) kw1207 rfl dX11_passHours_5 ?_
  refine lv_bipush (v := 64) C.1 C.2.1 dX11_passHours_8 (by decide) ?_
  refine x_iald (v := (qm_now_c 64)) C hw 1 rfl (x_in rfl) rfl dX11_passHours_10 (x_gen (fun v1 => ?_))
  refine lv_isub C.1 C.2.1 dX11_passHours_11 (x_gen (fun v2 => ?_))
  refine x_calliS (As := [.int a1, .int v2]) (rest := []) (wr := [(qm, .inr (10, [.int qm_thrown, .ref qm_tape, .int qm_taped, .int qm_size, .int qm_limit, .int qm_to, .int qm_from, .int qm_kind, .int qm_number, .int qm_sign, .int qm_fault, .int qm_place, .long qm_word, .int qm_told, .ref qm_now, .ref qm_read, .ref qm_kept, .ref qm_snaps, .ref qm_aside, .ref qm_name, .ref qm_readName, .ref qm_keptName, .ref qm_isKept, .ref qm_onces, .int qm_snapMany, .ref qm_order, .ref qm_ordered, .int qm_orderMany, .int qm_orderMost, .int qm_passing, .int qm_movedWho, .int qm_scratched, .ref qm_text, .int qm_texts, .int qm_seed, .ref qm_line, .ref qm_written, .int qm_lineMany, .int qm_hasWritten, .ref qm_node, .int qm_nodes, .int qm_onesMany, .int qm_within, .int qm_top])), (qm_now, eI G 339 qm_now_c)]) C hw (s_X11_least a1 v2) mwX11_least kw1601 [] [0, 1] rfl rfl rfl rfl (by decide) rfl hl.1 rfl (Nat.le_of_ble_eq_true rfl) ⟨(Nat.le_of_ble_eq_true rfl), (Nat.le_of_ble_eq_true rfl)⟩ ⟨(Nat.le_of_ble_eq_true rfl), (Nat.le_of_ble_eq_true rfl)⟩ dX11_passHours_12 (fun r3 u9 H locs hp9 hw => ?_)
  obtain ⟨x4, rfl, rfl⟩ := hp9
  have hw : Wd G s A [(qm, .inr (10, [.int qm_thrown, .ref qm_tape, .int qm_taped, .int qm_size, .int qm_limit, .int qm_to, .int qm_from, .int qm_kind, .int qm_number, .int qm_sign, .int qm_fault, .int qm_place, .long qm_word, .int qm_told, .ref qm_now, .ref qm_read, .ref qm_kept, .ref qm_snaps, .ref qm_aside, .ref qm_name, .ref qm_readName, .ref qm_keptName, .ref qm_isKept, .ref qm_onces, .int qm_snapMany, .ref qm_order, .ref qm_ordered, .int qm_orderMany, .int qm_orderMost, .int qm_passing, .int qm_movedWho, .int qm_scratched, .ref qm_text, .int qm_texts, .int qm_seed, .ref qm_line, .ref qm_written, .int qm_lineMany, .int qm_hasWritten, .ref qm_node, .int qm_nodes, .int qm_onesMany, .int qm_within, .int qm_top])), (qm_now, eI G 339 qm_now_c)] H _ := hw
  refine lv_istore_n (lv' := [(2, .int r3), (0, .ref qm), (1, .int a1)]) C.1 C.2.1 dX11_passHours_15 rfl hl (by decide) rfl (fun ls hl => ?_)
  refine lv_iconst (v := 0) C.1 C.2.1 dX11_passHours_16 (by decide) ?_
  refine lv_istore_n (lv' := [(3, .int 0), (2, .int r3), (0, .ref qm), (1, .int a1)]) C.1 C.2.1 dX11_passHours_17 rfl hl (by decide) rfl (fun ls hl => ?_)
  have loopJ278 : ∀ (n9 : Nat) (j276 : Int32) (j277 : Nat → Int32), (2147483647 - j276.toInt).toNat < n9 → (loW qm_now_c j277) → (slI j277) → (trI j277) → ((j277 0).toInt = (qm_now_c 0).toInt) → (0 ≤ j276.toInt) → ∀ (H : Heap) (locs : List Loc) (ls : Array Slot), Wd G s A [(qm, .inr (10, [.int qm_thrown, .ref qm_tape, .int qm_taped, .int qm_size, .int qm_limit, .int qm_to, .int qm_from, .int qm_kind, .int qm_number, .int qm_sign, .int qm_fault, .int qm_place, .long qm_word, .int qm_told, .ref qm_now, .ref qm_read, .ref qm_kept, .ref qm_snaps, .ref qm_aside, .ref qm_name, .ref qm_readName, .ref qm_keptName, .ref qm_isKept, .ref qm_onces, .int qm_snapMany, .ref qm_order, .ref qm_ordered, .int qm_orderMany, .int qm_orderMost, .int qm_passing, .int qm_movedWho, .int qm_scratched, .ref qm_text, .int qm_texts, .int qm_seed, .ref qm_line, .ref qm_written, .int qm_lineMany, .int qm_hasWritten, .ref qm_node, .int qm_nodes, .int qm_onesMany, .int qm_within, .int qm_top])), (qm_now, eI G 339 j277)] H locs → lv_has ls 4 [(3, .int j276), (2, .int r3), (0, .ref qm)] → W p l e (rmD 1 0 0) s m args below meth c H locs 0 0 Q (F0 m 18 ls []) := by
    intro n9
    induction n9 with
    | zero => intro j276 j277 h9; exact absurd h9 (Nat.not_lt_zero _)
    | succ n9 ihJ278 =>
      intro j276 j277 h9J278 hJ278_0 hJ278_1 hJ278_2 hJ278_3 hJ278_4 H locs ls hw hl
      have hbj276 := i_bd j276
      refine lv_iload_n C.1 C.2.1 dX11_passHours_18 rfl (lv_at hl 0 rfl) ?_
      refine lv_iload_n C.1 C.2.1 dX11_passHours_19 rfl (lv_at hl 1 rfl) ?_
      refine lv_icmp_ge (tgt := 33) C.1 C.2.1 dX11_passHours_20 (by decide) (fun c290 => ?_) (fun c290 => ?_)
      · skip
        have c290 : r3.toInt ≤ j276.toInt := i_leT (X := r3.toInt) (Y := j276.toInt) rfl rfl c290
        have bc290_j276 := i_bd j276
        have bc290_r3 := i_bd r3
        refine lv_iload_n C.1 C.2.1 dX11_passHours_33 rfl (lv_at hl 1 rfl) ?_
        exact x_retiQ hQ B hw ⟨j277, r3, rfl, rfl, hJ278_0, hJ278_1, hJ278_2, (by omega)⟩ (Nat.le_of_ble_eq_true rfl) (Nat.le_of_ble_eq_true rfl) dX11_passHours_34
      · skip
        have c290 : j276.toInt < r3.toInt := i_leF (X := r3.toInt) (Y := j276.toInt) rfl rfl c290
        have bc290_j276 := i_bd j276
        have bc290_r3 := i_bd r3
        refine lv_aload_n C.1 C.2.1 dX11_passHours_23 rfl (lv_at hl 2 rfl) ?_
        refine x_callvV (As := []) (rest := []) (wr := []) C hw (s_X11_oneHour qm qm_thrown qm_tape qm_taped qm_size qm_limit qm_to qm_from qm_kind qm_number qm_sign qm_fault qm_place qm_word qm_told qm_now qm_read qm_kept qm_snaps qm_aside qm_name qm_readName qm_keptName qm_isKept qm_onces qm_snapMany qm_order qm_ordered qm_orderMany qm_orderMost qm_passing qm_movedWho qm_scratched qm_text qm_texts qm_seed qm_line qm_written qm_lineMany qm_hasWritten qm_node qm_nodes qm_onesMany qm_within qm_top j277 hJ278_1 hJ278_2) mwX11_oneHour kw1604 [0, 1] [] rfl rfl rfl rfl (by decide) 0 rfl rfl rfl rfl hl.1 rfl (Nat.le_of_ble_eq_true rfl) ⟨(Nat.le_of_ble_eq_true rfl), (Nat.le_of_ble_eq_true rfl)⟩ ⟨(Nat.le_of_ble_eq_true rfl), (Nat.le_of_ble_eq_true rfl)⟩ dX11_passHours_24 (fun  u9 H locs hp9 hw => ?_)
        obtain ⟨x291, rfl, hf292, hf294, hf295, hf296⟩ := hp9
        have hw : Wd G s A [(qm, .inr (10, [.int qm_thrown, .ref qm_tape, .int qm_taped, .int qm_size, .int qm_limit, .int qm_to, .int qm_from, .int qm_kind, .int qm_number, .int qm_sign, .int qm_fault, .int qm_place, .long qm_word, .int qm_told, .ref qm_now, .ref qm_read, .ref qm_kept, .ref qm_snaps, .ref qm_aside, .ref qm_name, .ref qm_readName, .ref qm_keptName, .ref qm_isKept, .ref qm_onces, .int qm_snapMany, .ref qm_order, .ref qm_ordered, .int qm_orderMany, .int qm_orderMost, .int qm_passing, .int qm_movedWho, .int qm_scratched, .ref qm_text, .int qm_texts, .int qm_seed, .ref qm_line, .ref qm_written, .int qm_lineMany, .int qm_hasWritten, .ref qm_node, .int qm_nodes, .int qm_onesMany, .int qm_within, .int qm_top])), (qm_now, eI G 339 x291)] H _ := hw
        have fw293 : loW qm_now_c x291 := loW_tr hJ278_0 hf292
        obtain ⟨v297, ev297⟩ : ∃ z : Int32, j276 + 1 = z := ⟨_, rfl⟩
        have hv297 : v297.toInt = j276.toInt + 1 := by rw [← ev297]; exact i_add rfl rfl (by omega) (by omega)
        refine lv_iinc (v := v297) (lv' := [(3, .int v297), (2, .int r3), (0, .ref qm)]) C.1 C.2.1 dX11_passHours_27 hl (k := 0) rfl ev297 (by decide) rfl (fun ls hl => ?_)
        refine lv_goto (tgt := 18) C.1 C.2.1 dX11_passHours_30 (by decide) ?_
        exact ihJ278 v297 x291 (by omega) fw293 hf294 hf295 (by omega) (by omega) _ _ _ hw (lv_sub hl [0, 1, 2] rfl)
  exact loopJ278 _ 0 qm_now_c (Nat.lt_succ_self _) (loW_rfl qm_now_c) hf_qm_now_c hf1_qm_now_c (by omega) (by decide) _ _ _ hw (lv_sub hl [0, 1, 2] rfl)
theorem dX11_hours_0 : decode cX11_hours 0 = .ok (.aload_n 0, 1) := by decide +kernel
theorem dX11_hours_1 : decode cX11_hours 1 = .ok (.iconst 0, 1) := by decide +kernel
theorem dX11_hours_2 : decode cX11_hours 2 = .ok (.putfield 1, 3) := by decide +kernel
theorem dX11_hours_5 : decode cX11_hours 5 = .ok (.iload_n 1, 1) := by decide +kernel
theorem dX11_hours_6 : decode cX11_hours 6 = .ok (.iconst 1, 1) := by decide +kernel
theorem dX11_hours_7 : decode cX11_hours 7 = .ok (.bipush 24, 2) := by decide +kernel
theorem dX11_hours_9 : decode cX11_hours 9 = .ok (.invokestatic 75, 3) := by decide +kernel
theorem dX11_hours_12 : decode cX11_hours 12 = .ok (.ifCond .ne 5, 3) := by decide +kernel
theorem dX11_hours_15 : decode cX11_hours 15 = .ok (.iconst (-1), 1) := by decide +kernel
theorem dX11_hours_16 : decode cX11_hours 16 = .ok (.ireturn, 1) := by decide +kernel
theorem dX11_hours_17 : decode cX11_hours 17 = .ok (.aload_n 0, 1) := by decide +kernel
theorem dX11_hours_18 : decode cX11_hours 18 = .ok (.getfield 98, 3) := by decide +kernel
theorem dX11_hours_21 : decode cX11_hours 21 = .ok (.bipush 64, 2) := by decide +kernel
theorem dX11_hours_23 : decode cX11_hours 23 = .ok (.iaload, 1) := by decide +kernel
theorem dX11_hours_24 : decode cX11_hours 24 = .ok (.sipush 400, 3) := by decide +kernel
theorem dX11_hours_27 : decode cX11_hours 27 = .ok (.if_icmp .ne 5, 3) := by decide +kernel
theorem dX11_hours_32 : decode cX11_hours 32 = .ok (.aload_n 0, 1) := by decide +kernel
theorem dX11_hours_33 : decode cX11_hours 33 = .ok (.invokevirtual 289, 3) := by decide +kernel
theorem dX11_hours_36 : decode cX11_hours 36 = .ok (.aload_n 0, 1) := by decide +kernel
theorem dX11_hours_37 : decode cX11_hours 37 = .ok (.iload_n 1, 1) := by decide +kernel
theorem dX11_hours_38 : decode cX11_hours 38 = .ok (.invokevirtual 304, 3) := by decide +kernel
theorem mwX11_passHours : MwV yX11_passHours cX11_passHours 4 (some .int) 1 := ⟨⟨kw1600, kw15, by decide +kernel⟩, kw1599, kS87⟩
theorem dX11_hours_41 : decode cX11_hours 41 = .ok (.ireturn, 1) := by decide +kernel
theorem dX11_hours_30 : decode cX11_hours 30 = .ok (.iconst 0, 1) := by decide +kernel
theorem dX11_hours_31 : decode cX11_hours 31 = .ok (.ireturn, 1) := by decide +kernel
set_option maxHeartbeats 4000000 in
set_option maxRecDepth 100000 in
theorem s_X11_hours {l : Launch} {G : Gc} (qm : Nat) (a1 : Int32) (qm_thrown : Int32) (qm_tape : Nat) (qm_taped : Int32) (qm_size : Int32) (qm_limit : Int32) (qm_to : Int32) (qm_from : Int32) (qm_kind : Int32) (qm_number : Int32) (qm_sign : Int32) (qm_fault : Int32) (qm_place : Int32) (qm_word : Int64) (qm_told : Int32) (qm_now : Nat) (qm_read : Nat) (qm_kept : Nat) (qm_snaps : Nat) (qm_aside : Nat) (qm_name : Nat) (qm_readName : Nat) (qm_keptName : Nat) (qm_isKept : Nat) (qm_onces : Nat) (qm_snapMany : Int32) (qm_order : Nat) (qm_ordered : Nat) (qm_orderMany : Int32) (qm_orderMost : Int32) (qm_passing : Int32) (qm_movedWho : Int32) (qm_scratched : Int32) (qm_text : Nat) (qm_texts : Int32) (qm_seed : Int32) (qm_line : Nat) (qm_written : Nat) (qm_lineMany : Int32) (qm_hasWritten : Int32) (qm_node : Nat) (qm_nodes : Int32) (qm_onesMany : Int32) (qm_within : Int32) (qm_top : Int32) (qm_now_c : Nat → Int32) (qm_snaps_c : Nat → Int32) (hf_qm_now_c : slI qm_now_c) (hf1_qm_now_c : trI qm_now_c) (hi_qm_snapMany : 0 ≤ qm_snapMany.toInt ∧ qm_snapMany.toInt ≤ 8) : Ci l yX11_hours cX11_hours 2 (some .int) 2 0 0 G [.ref qm, .int a1] [(qm, .inr (10, [.int qm_thrown, .ref qm_tape, .int qm_taped, .int qm_size, .int qm_limit, .int qm_to, .int qm_from, .int qm_kind, .int qm_number, .int qm_sign, .int qm_fault, .int qm_place, .long qm_word, .int qm_told, .ref qm_now, .ref qm_read, .ref qm_kept, .ref qm_snaps, .ref qm_aside, .ref qm_name, .ref qm_readName, .ref qm_keptName, .ref qm_isKept, .ref qm_onces, .int qm_snapMany, .ref qm_order, .ref qm_ordered, .int qm_orderMany, .int qm_orderMost, .int qm_passing, .int qm_movedWho, .int qm_scratched, .ref qm_text, .int qm_texts, .int qm_seed, .ref qm_line, .ref qm_written, .int qm_lineMany, .int qm_hasWritten, .ref qm_node, .int qm_nodes, .int qm_onesMany, .int qm_within, .int qm_top])), (qm_now, eI G 339 qm_now_c), (qm_snaps, eI G 264 qm_snaps_c)] (fun (r9 : Int32) (u9 : va_W) => ∃ (x0_qm_snapMany : Int32) (x1_qm_now_c : Nat → Int32) (x2_qm_snaps_c : Nat → Int32) (r_x : Int32), r9 = r_x ∧ u9 = [(qm, .inr (10, [.int 0, .ref qm_tape, .int qm_taped, .int qm_size, .int qm_limit, .int qm_to, .int qm_from, .int qm_kind, .int qm_number, .int qm_sign, .int qm_fault, .int qm_place, .long qm_word, .int qm_told, .ref qm_now, .ref qm_read, .ref qm_kept, .ref qm_snaps, .ref qm_aside, .ref qm_name, .ref qm_readName, .ref qm_keptName, .ref qm_isKept, .ref qm_onces, .int x0_qm_snapMany, .ref qm_order, .ref qm_ordered, .int qm_orderMany, .int qm_orderMost, .int qm_passing, .int qm_movedWho, .int qm_scratched, .ref qm_text, .int qm_texts, .int qm_seed, .ref qm_line, .ref qm_written, .int qm_lineMany, .int qm_hasWritten, .ref qm_node, .int qm_nodes, .int qm_onesMany, .int qm_within, .int qm_top])), (qm_now, eI G 339 x1_qm_now_c), (qm_snaps, eI G 264 x2_qm_snaps_c)] ∧ (0 ≤ x0_qm_snapMany.toInt ∧ x0_qm_snapMany.toInt ≤ 8) ∧ (loW qm_now_c x1_qm_now_c) ∧ (slI x1_qm_now_c) ∧ (trI x1_qm_now_c)) := by
  refine Ci.ofQ (by decide) (Nat.le_of_ble_eq_true rfl) ?_
  intro p e s m below meth c ls A args Q hQ B hw hl
  have C : CallFix p m c cX11_hours 2 s args gw "LanternStateModel" := B.1
  have hl : lv_has ls 2 [(0, .ref qm), (1, .int a1)] := hl
  refine lv_aload_n C.1 C.2.1 dX11_hours_0 rfl (lv_at hl 0 rfl) ?_
  refine lv_iconst (v := 0) C.1 C.2.1 dX11_hours_1 (by decide) ?_
  refine x_put (w' := [(qm, .inr (10, [.int 0, .ref qm_tape, .int qm_taped, .int qm_size, .int qm_limit, .int qm_to, .int qm_from, .int qm_kind, .int qm_number, .int qm_sign, .int qm_fault, .int qm_place, .long qm_word, .int qm_told, .ref qm_now, .ref qm_read, .ref qm_kept, .ref qm_snaps, .ref qm_aside, .ref qm_name, .ref qm_readName, .ref qm_keptName, .ref qm_isKept, .ref qm_onces, .int qm_snapMany, .ref qm_order, .ref qm_ordered, .int qm_orderMany, .int qm_orderMost, .int qm_passing, .int qm_movedWho, .int qm_scratched, .ref qm_text, .int qm_texts, .int qm_seed, .ref qm_line, .ref qm_written, .int qm_lineMany, .int qm_hasWritten, .ref qm_node, .int qm_nodes, .int qm_onesMany, .int qm_within, .int qm_top])), (qm_now, eI G 339 qm_now_c), (qm_snaps, eI G 264 qm_snaps_c)]) C hw iwX11 tyX11_ok nmX11 10 rfl 0 rfl 0 (by decide) kw1193 rfl rfl rfl (Nat.le_of_ble_eq_true rfl) rfl dX11_hours_2 (fun H locs hw => ?_)
  refine lv_iload_n C.1 C.2.1 dX11_hours_5 rfl (lv_at hl 1 rfl) ?_
  refine lv_iconst (v := 1) C.1 C.2.1 dX11_hours_6 (by decide) ?_
  refine lv_bipush (v := 24) C.1 C.2.1 dX11_hours_7 (by decide) ?_
  refine x_calliS (As := [.int a1, .int 1, .int 24]) (rest := []) (wr := [(qm, .inr (10, [.int 0, .ref qm_tape, .int qm_taped, .int qm_size, .int qm_limit, .int qm_to, .int qm_from, .int qm_kind, .int qm_number, .int qm_sign, .int qm_fault, .int qm_place, .long qm_word, .int qm_told, .ref qm_now, .ref qm_read, .ref qm_kept, .ref qm_snaps, .ref qm_aside, .ref qm_name, .ref qm_readName, .ref qm_keptName, .ref qm_isKept, .ref qm_onces, .int qm_snapMany, .ref qm_order, .ref qm_ordered, .int qm_orderMany, .int qm_orderMost, .int qm_passing, .int qm_movedWho, .int qm_scratched, .ref qm_text, .int qm_texts, .int qm_seed, .ref qm_line, .ref qm_written, .int qm_lineMany, .int qm_hasWritten, .ref qm_node, .int qm_nodes, .int qm_onesMany, .int qm_within, .int qm_top])), (qm_now, eI G 339 qm_now_c), (qm_snaps, eI G 264 qm_snaps_c)]) C hw (s_X11_isIn a1 1 24) mwX11_isIn kw1396 [] [0, 1, 2] rfl rfl rfl rfl (by decide) rfl hl.1 rfl (Nat.le_of_ble_eq_true rfl) ⟨(Nat.le_of_ble_eq_true rfl), (Nat.le_of_ble_eq_true rfl)⟩ ⟨(Nat.le_of_ble_eq_true rfl), (Nat.le_of_ble_eq_true rfl)⟩ dX11_hours_9 (fun r1 u9 H locs hp9 hw => ?_)
  rcases hp9 with ⟨rfl, rfl, hf2⟩ | ⟨rfl, rfl, hf3, hf4⟩
  · skip
    have hw : Wd G s A [(qm, .inr (10, [.int 0, .ref qm_tape, .int qm_taped, .int qm_size, .int qm_limit, .int qm_to, .int qm_from, .int qm_kind, .int qm_number, .int qm_sign, .int qm_fault, .int qm_place, .long qm_word, .int qm_told, .ref qm_now, .ref qm_read, .ref qm_kept, .ref qm_snaps, .ref qm_aside, .ref qm_name, .ref qm_readName, .ref qm_keptName, .ref qm_isKept, .ref qm_onces, .int qm_snapMany, .ref qm_order, .ref qm_ordered, .int qm_orderMany, .int qm_orderMost, .int qm_passing, .int qm_movedWho, .int qm_scratched, .ref qm_text, .int qm_texts, .int qm_seed, .ref qm_line, .ref qm_written, .int qm_lineMany, .int qm_hasWritten, .ref qm_node, .int qm_nodes, .int qm_onesMany, .int qm_within, .int qm_top])), (qm_now, eI G 339 qm_now_c), (qm_snaps, eI G 264 qm_snaps_c)] H _ := hw
    have hf2 : a1.toInt < 1 ∨ 24 < a1.toInt := by first | exact hf2 | (have e0 : (1 : Int32).toInt = 1 := rfl; have e1 : (24 : Int32).toInt = 24 := rfl; omega)
    refine lv_if_ne (tgt := 17) C.1 C.2.1 dX11_hours_12 (by decide) (fun h9 => absurd (by decide) h9) (fun _ => ?_)
    refine lv_iconst (v := (-1)) C.1 C.2.1 dX11_hours_15 (by decide) ?_
    exact x_retiQ hQ B hw ⟨qm_snapMany, qm_now_c, qm_snaps_c, (-1), rfl, rfl, (by omega), (loW_rfl qm_now_c), hf_qm_now_c, hf1_qm_now_c⟩ (Nat.le_of_ble_eq_true rfl) (Nat.le_of_ble_eq_true rfl) dX11_hours_16
  · skip
    have hw : Wd G s A [(qm, .inr (10, [.int 0, .ref qm_tape, .int qm_taped, .int qm_size, .int qm_limit, .int qm_to, .int qm_from, .int qm_kind, .int qm_number, .int qm_sign, .int qm_fault, .int qm_place, .long qm_word, .int qm_told, .ref qm_now, .ref qm_read, .ref qm_kept, .ref qm_snaps, .ref qm_aside, .ref qm_name, .ref qm_readName, .ref qm_keptName, .ref qm_isKept, .ref qm_onces, .int qm_snapMany, .ref qm_order, .ref qm_ordered, .int qm_orderMany, .int qm_orderMost, .int qm_passing, .int qm_movedWho, .int qm_scratched, .ref qm_text, .int qm_texts, .int qm_seed, .ref qm_line, .ref qm_written, .int qm_lineMany, .int qm_hasWritten, .ref qm_node, .int qm_nodes, .int qm_onesMany, .int qm_within, .int qm_top])), (qm_now, eI G 339 qm_now_c), (qm_snaps, eI G 264 qm_snaps_c)] H _ := hw
    have hf3 : 1 ≤ a1.toInt := by first | exact hf3 | (have e0 : (1 : Int32).toInt = 1 := rfl; omega)
    have hf4 : a1.toInt ≤ 24 := by first | exact hf4 | (have e0 : (24 : Int32).toInt = 24 := rfl; omega)
    refine lv_if_ne (tgt := 17) C.1 C.2.1 dX11_hours_12 (by decide) (fun _ => ?_) (fun h9 => absurd h9 (by decide))
    refine lv_aload_n C.1 C.2.1 dX11_hours_17 rfl (lv_at hl 0 rfl) ?_
    refine x_get C hw iwX11 10 rfl 0 rfl 14 (by decide) kw1207 rfl dX11_hours_18 ?_
    refine lv_bipush (v := 64) C.1 C.2.1 dX11_hours_21 (by decide) ?_
    refine x_iald (v := (qm_now_c 64)) C hw 1 rfl (x_in rfl) rfl dX11_hours_23 (x_gen (fun v5 => ?_))
    refine lv_sipush (v := 400) C.1 C.2.1 dX11_hours_24 (by decide) ?_
    refine lv_icmp_ne (tgt := 32) C.1 C.2.1 dX11_hours_27 (by decide) (fun c6 => ?_) (fun c6 => ?_)
    · skip
      have c6 : v5.toInt ≠ 400 := i_eqF (X := v5.toInt) (Y := 400) rfl rfl c6
      have bc6_v5 := i_bd v5
      refine lv_aload_n C.1 C.2.1 dX11_hours_32 rfl (lv_at hl 0 rfl) ?_
      refine x_callvV (As := []) (rest := []) (wr := []) C hw (s_X11_snap qm 0 qm_tape qm_taped qm_size qm_limit qm_to qm_from qm_kind qm_number qm_sign qm_fault qm_place qm_word qm_told qm_now qm_read qm_kept qm_snaps qm_aside qm_name qm_readName qm_keptName qm_isKept qm_onces qm_snapMany qm_order qm_ordered qm_orderMany qm_orderMost qm_passing qm_movedWho qm_scratched qm_text qm_texts qm_seed qm_line qm_written qm_lineMany qm_hasWritten qm_node qm_nodes qm_onesMany qm_within qm_top qm_now_c qm_snaps_c hf_qm_now_c hf1_qm_now_c (by omega)) mwX11_snap kw1561 [0, 1, 2] [] rfl rfl rfl rfl (by decide) 0 rfl rfl rfl rfl hl.1 rfl (Nat.le_of_ble_eq_true rfl) ⟨(Nat.le_of_ble_eq_true rfl), (Nat.le_of_ble_eq_true rfl)⟩ ⟨(Nat.le_of_ble_eq_true rfl), (Nat.le_of_ble_eq_true rfl)⟩ dX11_hours_33 (fun  u9 H locs hp9 hw => ?_)
      obtain ⟨x7, x8, rfl, hf9⟩ := hp9
      have hw : Wd G s A [(qm, .inr (10, [.int 0, .ref qm_tape, .int qm_taped, .int qm_size, .int qm_limit, .int qm_to, .int qm_from, .int qm_kind, .int qm_number, .int qm_sign, .int qm_fault, .int qm_place, .long qm_word, .int qm_told, .ref qm_now, .ref qm_read, .ref qm_kept, .ref qm_snaps, .ref qm_aside, .ref qm_name, .ref qm_readName, .ref qm_keptName, .ref qm_isKept, .ref qm_onces, .int x7, .ref qm_order, .ref qm_ordered, .int qm_orderMany, .int qm_orderMost, .int qm_passing, .int qm_movedWho, .int qm_scratched, .ref qm_text, .int qm_texts, .int qm_seed, .ref qm_line, .ref qm_written, .int qm_lineMany, .int qm_hasWritten, .ref qm_node, .int qm_nodes, .int qm_onesMany, .int qm_within, .int qm_top])), (qm_now, eI G 339 qm_now_c), (qm_snaps, eI G 264 x8)] H _ := hw
      refine lv_aload_n C.1 C.2.1 dX11_hours_36 rfl (lv_at hl 0 rfl) ?_
      refine lv_iload_n C.1 C.2.1 dX11_hours_37 rfl (lv_at hl 1 rfl) ?_
      refine x_calliV (As := [.int a1]) (rest := []) (wr := [(qm_snaps, eI G 264 x8)]) C hw (s_X11_passHours qm a1 0 qm_tape qm_taped qm_size qm_limit qm_to qm_from qm_kind qm_number qm_sign qm_fault qm_place qm_word qm_told qm_now qm_read qm_kept qm_snaps qm_aside qm_name qm_readName qm_keptName qm_isKept qm_onces x7 qm_order qm_ordered qm_orderMany qm_orderMost qm_passing qm_movedWho qm_scratched qm_text qm_texts qm_seed qm_line qm_written qm_lineMany qm_hasWritten qm_node qm_nodes qm_onesMany qm_within qm_top qm_now_c hf_qm_now_c hf1_qm_now_c) mwX11_passHours kw1597 [0, 1] [2] rfl rfl rfl rfl (by decide) 0 rfl rfl rfl rfl hl.1 rfl (Nat.le_of_ble_eq_true rfl) ⟨(Nat.le_of_ble_eq_true rfl), (Nat.le_of_ble_eq_true rfl)⟩ ⟨(Nat.le_of_ble_eq_true rfl), (Nat.le_of_ble_eq_true rfl)⟩ dX11_hours_38 (fun r10 u9 H locs hp9 hw => ?_)
      obtain ⟨x11, x12, rfl, rfl, hf13, hf14, hf15, hf16⟩ := hp9
      have hw : Wd G s A [(qm_snaps, eI G 264 x8), (qm, .inr (10, [.int 0, .ref qm_tape, .int qm_taped, .int qm_size, .int qm_limit, .int qm_to, .int qm_from, .int qm_kind, .int qm_number, .int qm_sign, .int qm_fault, .int qm_place, .long qm_word, .int qm_told, .ref qm_now, .ref qm_read, .ref qm_kept, .ref qm_snaps, .ref qm_aside, .ref qm_name, .ref qm_readName, .ref qm_keptName, .ref qm_isKept, .ref qm_onces, .int x7, .ref qm_order, .ref qm_ordered, .int qm_orderMany, .int qm_orderMost, .int qm_passing, .int qm_movedWho, .int qm_scratched, .ref qm_text, .int qm_texts, .int qm_seed, .ref qm_line, .ref qm_written, .int qm_lineMany, .int qm_hasWritten, .ref qm_node, .int qm_nodes, .int qm_onesMany, .int qm_within, .int qm_top])), (qm_now, eI G 339 x11)] H _ := hw
      have hw := hw.sub (w' := [(qm, .inr (10, [.int 0, .ref qm_tape, .int qm_taped, .int qm_size, .int qm_limit, .int qm_to, .int qm_from, .int qm_kind, .int qm_number, .int qm_sign, .int qm_fault, .int qm_place, .long qm_word, .int qm_told, .ref qm_now, .ref qm_read, .ref qm_kept, .ref qm_snaps, .ref qm_aside, .ref qm_name, .ref qm_readName, .ref qm_keptName, .ref qm_isKept, .ref qm_onces, .int x7, .ref qm_order, .ref qm_ordered, .int qm_orderMany, .int qm_orderMost, .int qm_passing, .int qm_movedWho, .int qm_scratched, .ref qm_text, .int qm_texts, .int qm_seed, .ref qm_line, .ref qm_written, .int qm_lineMany, .int qm_hasWritten, .ref qm_node, .int qm_nodes, .int qm_onesMany, .int qm_within, .int qm_top])), (qm_now, eI G 339 x11), (qm_snaps, eI G 264 x8)]) [1, 2, 0] rfl rfl
      exact x_retiQ hQ B hw ⟨x7, x11, x8, r10, rfl, rfl, (by omega), hf13, hf14, hf15⟩ (Nat.le_of_ble_eq_true rfl) (Nat.le_of_ble_eq_true rfl) dX11_hours_41
    · skip
      have c6 : v5.toInt = 400 := i_eqT (X := v5.toInt) (Y := 400) rfl rfl c6
      have bc6_v5 := i_bd v5
      refine lv_iconst (v := 0) C.1 C.2.1 dX11_hours_30 (by decide) ?_
      exact x_retiQ hQ B hw ⟨qm_snapMany, qm_now_c, qm_snaps_c, 0, rfl, rfl, (by omega), (loW_rfl qm_now_c), hf_qm_now_c, hf1_qm_now_c⟩ (Nat.le_of_ble_eq_true rfl) (Nat.le_of_ble_eq_true rfl) dX11_hours_31
