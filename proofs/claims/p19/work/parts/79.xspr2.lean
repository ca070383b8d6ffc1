set_option maxHeartbeats 4000000 in
set_option maxRecDepth 100000 in
theorem e_X11_bits {l : Launch} {G : Gc} (a1 : Int32) (hi_a1 : 0 ≤ a1.toInt ∧ a1.toInt ≤ 255) : Ci l yX11_bits cX11_bits 3 (some .int) 0 0 0 G [.int a1] [] (fun (r9 : Int32) (u9 : va_W) => ∃ (r_x : Int32), r9 = r_x ∧ u9 = [] ∧ (0 ≤ r_x.toInt ∧ r_x.toInt ≤ 8) ∧ (r_x.toInt = (bcF a1).toInt)) := by
  refine Ci.ofQ (by decide) (Nat.le_of_ble_eq_true rfl) ?_
  intro p e s m below meth c ls A args Q hQ B hw hl
  have C : CallFix p m c cX11_bits 3 s args gw "LanternStateModel" := B.1
  have hl : lv_has ls 3 [(0, .int a1)] := hl
  refine lv_iconst (v := 0) C.1 C.2.1 dX11_bits_0 (by decide) ?_
  refine lv_istore_n (lv' := [(1, .int 0), (0, .int a1)]) C.1 C.2.1 dX11_bits_1 rfl hl (by decide) rfl (fun ls hl => ?_)
  refine lv_iload_n C.1 C.2.1 dX11_bits_2 rfl (lv_at hl 1 rfl) ?_
  refine lv_istore_n (lv' := [(2, .int a1), (1, .int 0), (0, .int a1)]) C.1 C.2.1 dX11_bits_3 rfl hl (by decide) rfl (fun ls hl => ?_)
  have loopJ14 : ∀ (n9 : Nat) (j12 : Int32) (j13 : Int32), (j12.toInt).toNat < n9 → (0 ≤ j12.toInt ∧ j12.toInt ≤ 255) → (0 ≤ j13.toInt ∧ j13.toInt ≤ 9) → (j13.toInt + (bcF j12).toInt = (bcF a1).toInt) → (0 ≤ j12.toInt ∧ j12.toInt ≤ 255) → ∀ (H : Heap) (locs : List Loc) (ls : Array Slot), Wd G s A [] H locs → lv_has ls 3 [(2, .int j12), (1, .int j13)] → W p l e (rmD 0 0 0) s m args below meth c H locs 0 0 Q (F0 m 4 ls []) := by
    intro n9
    induction n9 with
    | zero => intro j12 j13 h9; exact absurd h9 (Nat.not_lt_zero _)
    | succ n9 ihJ14 =>
      intro j12 j13 h9J14 hJ14_0 hJ14_1 hJ14_2 hJ14_3 H locs ls hw hl
      have hb9 := bc_bd (x := j12) (by omega) (by omega)
      have hb8 := bc_bd (x := a1) (by omega) (by omega)
      refine lv_iload_n C.1 C.2.1 dX11_bits_4 rfl (lv_at hl 0 rfl) ?_
      refine lv_if_eq (tgt := 20) C.1 C.2.1 dX11_bits_5 (by decide) (fun c22 => ?_) (fun c22 => ?_)
      · skip
        have c22 : j12.toInt = 0 := i_eqT (X := j12.toInt) (Y := 0) rfl rfl c22
        have hz9 := bc_0 (x := j12) (by omega)
        refine lv_iload_n C.1 C.2.1 dX11_bits_20 rfl (lv_at hl 1 rfl) ?_
        exact x_retiQ hQ B hw ⟨j13, rfl, rfl, (by omega), (by omega)⟩ (Nat.le_of_ble_eq_true rfl) (Nat.le_of_ble_eq_true rfl) dX11_bits_21
      · skip
        have c22 : j12.toInt ≠ 0 := i_eqF (X := j12.toInt) (Y := 0) rfl rfl c22
        obtain ⟨v23, ev23⟩ : ∃ z : Int32, j13 + 1 = z := ⟨_, rfl⟩
        have hv23 : v23.toInt = j13.toInt + 1 := by rw [← ev23]; exact i_add rfl rfl (by omega) (by omega)
        refine lv_iinc (v := v23) (lv' := [(1, .int v23), (2, .int j12)]) C.1 C.2.1 dX11_bits_8 hl (k := 1) rfl ev23 (by decide) rfl (fun ls hl => ?_)
        refine lv_iload_n C.1 C.2.1 dX11_bits_11 rfl (lv_at hl 1 rfl) ?_
        refine lv_iload_n C.1 C.2.1 dX11_bits_12 rfl (lv_at hl 1 rfl) ?_
        refine lv_iconst (v := 1) C.1 C.2.1 dX11_bits_13 (by decide) ?_
        refine lv_isub C.1 C.2.1 dX11_bits_14 (x_genP (fun z : Int32 => z = j12 - 1) rfl (fun v24 hv24 => ?_))
        refine lv_iand C.1 C.2.1 dX11_bits_15 (x_genP (fun z : Int32 => z = j12 &&& v24) rfl (fun v25 hv25 => ?_))
        have hst9 := bc_st (x := j12) (by omega) (by omega) (by omega) hv24 hv25
        refine lv_istore_n (lv' := [(2, .int v25), (1, .int v23)]) C.1 C.2.1 dX11_bits_16 rfl hl (by decide) rfl (fun ls hl => ?_)
        refine lv_goto (tgt := 4) C.1 C.2.1 dX11_bits_17 (by decide) ?_
        exact ihJ14 v25 v23 (by omega) (by omega) (by omega) (by have h9 := hst9.2.2; omega) (by omega) _ _ _ hw (lv_sub hl [0, 1] rfl)
  exact loopJ14 _ a1 0 (Nat.lt_succ_self _) (by omega) (by decide) (by have e0 : (0 : Int32).toInt = 0 := rfl; omega) (by omega) _ _ _ hw (lv_sub hl [0, 1] rfl)
set_option maxHeartbeats 4000000 in
set_option maxRecDepth 100000 in
theorem e_X11_spreadFrom {l : Launch} {G : Gc} (qm : Nat) (a1 : Int32) (qm_thrown : Int32) (qm_tape : Nat) (qm_taped : Int32) (qm_size : Int32) (qm_limit : Int32) (qm_to : Int32) (qm_from : Int32) (qm_kind : Int32) (qm_number : Int32) (qm_sign : Int32) (qm_fault : Int32) (qm_place : Int32) (qm_word : Int64) (qm_told : Int32) (qm_now : Nat) (qm_read : Nat) (qm_kept : Nat) (qm_snaps : Nat) (qm_aside : Nat) (qm_name : Nat) (qm_readName : Nat) (qm_keptName : Nat) (qm_isKept : Nat) (qm_onces : Nat) (qm_snapMany : Int32) (qm_order : Nat) (qm_ordered : Nat) (qm_orderMany : Int32) (qm_orderMost : Int32) (qm_passing : Int32) (qm_movedWho : Int32) (qm_scratched : Int32) (qm_text : Nat) (qm_texts : Int32) (qm_seed : Int32) (qm_line : Nat) (qm_written : Nat) (qm_lineMany : Int32) (qm_hasWritten : Int32) (qm_node : Nat) (qm_nodes : Int32) (qm_onesMany : Int32) (qm_within : Int32) (qm_top : Int32) (qm_now_c : Nat → Int32) (hi_a1 : 0 ≤ a1.toInt ∧ a1.toInt ≤ 255) (hf_qm_now_c : slI qm_now_c) (hf1_qm_now_c : trI qm_now_c) : Ci l yX11_spreadFrom cX11_spreadFrom 6 (some .int) 1 0 0 G [.ref qm, .int a1] [(qm, .inr (10, [.int qm_thrown, .ref qm_tape, .int qm_taped, .int qm_size, .int qm_limit, .int qm_to, .int qm_from, .int qm_kind, .int qm_number, .int qm_sign, .int qm_fault, .int qm_place, .long qm_word, .int qm_told, .ref qm_now, .ref qm_read, .ref qm_kept, .ref qm_snaps, .ref qm_aside, .ref qm_name, .ref qm_readName, .ref qm_keptName, .ref qm_isKept, .ref qm_onces, .int qm_snapMany, .ref qm_order, .ref qm_ordered, .int qm_orderMany, .int qm_orderMost, .int qm_passing, .int qm_movedWho, .int qm_scratched, .ref qm_text, .int qm_texts, .int qm_seed, .ref qm_line, .ref qm_written, .int qm_lineMany, .int qm_hasWritten, .ref qm_node, .int qm_nodes, .int qm_onesMany, .int qm_within, .int qm_top])), (qm_now, eI G 339 qm_now_c)] (fun (r9 : Int32) (u9 : va_W) => ∃ (r_x : Int32), r9 = r_x ∧ u9 = [(qm, .inr (10, [.int qm_thrown, .ref qm_tape, .int qm_taped, .int qm_size, .int qm_limit, .int qm_to, .int qm_from, .int qm_kind, .int qm_number, .int qm_sign, .int qm_fault, .int qm_place, .long qm_word, .int qm_told, .ref qm_now, .ref qm_read, .ref qm_kept, .ref qm_snaps, .ref qm_aside, .ref qm_name, .ref qm_readName, .ref qm_keptName, .ref qm_isKept, .ref qm_onces, .int qm_snapMany, .ref qm_order, .ref qm_ordered, .int qm_orderMany, .int qm_orderMost, .int qm_passing, .int qm_movedWho, .int qm_scratched, .ref qm_text, .int qm_texts, .int qm_seed, .ref qm_line, .ref qm_written, .int qm_lineMany, .int qm_hasWritten, .ref qm_node, .int qm_nodes, .int qm_onesMany, .int qm_within, .int qm_top])), (qm_now, eI G 339 qm_now_c)] ∧ (0 ≤ r_x.toInt ∧ r_x.toInt ≤ 255) ∧ (r_x.toInt = spG (fun j9 => qm_now_c (56 + j9)) (qm_now_c 4).toInt (qm_now_c 1).toInt a1)) := by
  refine Ci.ofQ (by decide) (Nat.le_of_ble_eq_true rfl) ?_
  intro p e s m below meth c ls A args Q hQ B hw hl
  have C : CallFix p m c cX11_spreadFrom 6 s args gw "LanternStateModel" := B.1
  have hl : lv_has ls 6 [(0, .ref qm), (1, .int a1)] := hl
  refine lv_iload_n C.1 C.2.1 dX11_spreadFrom_0 rfl (lv_at hl 1 rfl) ?_
  refine lv_istore_n (lv' := [(2, .int a1), (0, .ref qm), (1, .int a1)]) C.1 C.2.1 dX11_spreadFrom_1 rfl hl (by decide) rfl (fun ls hl => ?_)
  refine lv_aload_n C.1 C.2.1 dX11_spreadFrom_2 rfl (lv_at hl 1 rfl) ?_
  refine x_get C hw iwX11 10 rfl 0 rfl 14 (by decide) kw1207 rfl dX11_spreadFrom_3 ?_
  refine lv_iconst (v := 4) C.1 C.2.1 dX11_spreadFrom_6 (by decide) ?_
  refine x_iald (v := (qm_now_c 4)) C hw 1 rfl (x_in rfl) rfl dX11_spreadFrom_7 (x_genP (fun z : Int32 => z = qm_now_c 4 ∧ z.toInt = (qm_now_c 4).toInt) ⟨rfl, rfl⟩ (fun v1 hv1 => ?_))
  refine lv_if_le (tgt := 15) C.1 C.2.1 dX11_spreadFrom_8 (by decide) (fun c2 => ?_) (fun c2 => ?_)
  · skip
    have c2 : v1.toInt ≤ 0 := i_leT (X := v1.toInt) (Y := 0) rfl rfl c2
    have bc2_v1 := i_bd v1
    refine lv_iconst (v := 0) C.1 C.2.1 dX11_spreadFrom_15 (by decide) ?_
    refine lv_istore_n (lv' := [(3, .int 0), (2, .int a1), (0, .ref qm), (1, .int a1)]) C.1 C.2.1 dX11_spreadFrom_16 rfl hl (by decide) rfl (fun ls hl => ?_)
    have hs1 := hf_qm_now_c 1
    have hbb := bc_bd (x := a1) (by omega) (by omega)
    refine lv_iload_n C.1 C.2.1 dX11_spreadFrom_17 rfl (lv_at hl 0 rfl) ?_
    refine lv_if_eq (tgt := 91) C.1 C.2.1 dX11_spreadFrom_18 (by decide) (fun _ => ?_) (fun h9 => absurd (by decide) h9)
    have hR9 : a1.toInt = spG (fun j9 => qm_now_c (56 + j9)) (qm_now_c 4).toInt (qm_now_c 1).toInt a1 := by unfold spG; rw [if_pos (by omega)]
    refine lv_iload_n C.1 C.2.1 dX11_spreadFrom_91 rfl (lv_at hl 1 rfl) ?_
    exact x_retiQ hQ B hw ⟨a1, rfl, rfl, (by omega), hR9⟩ (Nat.le_of_ble_eq_true rfl) (Nat.le_of_ble_eq_true rfl) dX11_spreadFrom_92
  · skip
    have c2 : 0 < v1.toInt := i_leF (X := v1.toInt) (Y := 0) rfl rfl c2
    have bc2_v1 := i_bd v1
    refine lv_iconst (v := 1) C.1 C.2.1 dX11_spreadFrom_11 (by decide) ?_
    refine lv_goto (tgt := 16) C.1 C.2.1 dX11_spreadFrom_12 (by decide) ?_
    refine lv_istore_n (lv' := [(3, .int 1), (2, .int a1), (0, .ref qm), (1, .int a1)]) C.1 C.2.1 dX11_spreadFrom_16 rfl hl (by decide) rfl (fun ls hl => ?_)
    have loopJ193 : ∀ (n9 : Nat) (j191 : Int32) (j192 : Int32), (2 * (8 - (bcF j192).toInt) + j191.toInt).toNat < n9 → (0 ≤ j191.toInt ∧ j191.toInt ≤ 1) → (0 ≤ j192.toInt ∧ j192.toInt ≤ 255) → ((j191.toInt = 1 ∧ 0 < (qm_now_c 4).toInt ∧ spJ (fun j9 => qm_now_c (56 + j9)) (qm_now_c 4).toInt (qm_now_c 1).toInt.toNat a1 j192) ∨ (j191.toInt = 0 ∧ j192.toInt = spG (fun j9 => qm_now_c (56 + j9)) (qm_now_c 4).toInt (qm_now_c 1).toInt a1)) → (0 ≤ j192.toInt ∧ j192.toInt ≤ 255) → ∀ (H : Heap) (locs : List Loc) (ls : Array Slot), Wd G s A [(qm, .inr (10, [.int qm_thrown, .ref qm_tape, .int qm_taped, .int qm_size, .int qm_limit, .int qm_to, .int qm_from, .int qm_kind, .int qm_number, .int qm_sign, .int qm_fault, .int qm_place, .long qm_word, .int qm_told, .ref qm_now, .ref qm_read, .ref qm_kept, .ref qm_snaps, .ref qm_aside, .ref qm_name, .ref qm_readName, .ref qm_keptName, .ref qm_isKept, .ref qm_onces, .int qm_snapMany, .ref qm_order, .ref qm_ordered, .int qm_orderMany, .int qm_orderMost, .int qm_passing, .int qm_movedWho, .int qm_scratched, .ref qm_text, .int qm_texts, .int qm_seed, .ref qm_line, .ref qm_written, .int qm_lineMany, .int qm_hasWritten, .ref qm_node, .int qm_nodes, .int qm_onesMany, .int qm_within, .int qm_top])), (qm_now, eI G 339 qm_now_c)] H locs → lv_has ls 6 [(3, .int j191), (2, .int j192), (0, .ref qm)] → W p l e (rmD 1 0 0) s m args below meth c H locs 0 0 Q (F0 m 17 ls []) := by
      intro n9
      induction n9 with
      | zero => intro j191 j192 h9; exact absurd h9 (Nat.not_lt_zero _)
      | succ n9 ihJ193 =>
        intro j191 j192 h9J193 hJ193_0 hJ193_1 hJ193_2 hJ193_3 H locs ls hw hl
        have hs1 := hf_qm_now_c 1
        have hbb := bc_bd (x := j192) (by omega) (by omega)
        refine lv_iload_n C.1 C.2.1 dX11_spreadFrom_17 rfl (lv_at hl 0 rfl) ?_
        refine lv_if_eq (tgt := 91) C.1 C.2.1 dX11_spreadFrom_18 (by decide) (fun c383 => ?_) (fun c383 => ?_)
        · skip
          have c383 : j191.toInt = 0 := i_eqT (X := j191.toInt) (Y := 0) rfl rfl c383
          have hR9 : j192.toInt = spG (fun j9 => qm_now_c (56 + j9)) (qm_now_c 4).toInt (qm_now_c 1).toInt a1 := by rcases (show (j191.toInt = 1 ∧ 0 < (qm_now_c 4).toInt ∧ spJ (fun j9 => qm_now_c (56 + j9)) (qm_now_c 4).toInt (qm_now_c 1).toInt.toNat a1 j192) ∨ (j191.toInt = 0 ∧ j192.toInt = spG (fun j9 => qm_now_c (56 + j9)) (qm_now_c 4).toInt (qm_now_c 1).toInt a1) by assumption) with h9 | h9; exact absurd h9.1 (by omega); exact h9.2
          refine lv_iload_n C.1 C.2.1 dX11_spreadFrom_91 rfl (lv_at hl 1 rfl) ?_
          exact x_retiQ hQ B hw ⟨j192, rfl, rfl, (by omega), hR9⟩ (Nat.le_of_ble_eq_true rfl) (Nat.le_of_ble_eq_true rfl) dX11_spreadFrom_92
        · skip
          have c383 : j191.toInt ≠ 0 := i_eqF (X := j191.toInt) (Y := 0) rfl rfl c383
          obtain ⟨hq1, hq2, hJ⟩ : j191.toInt = 1 ∧ 0 < (qm_now_c 4).toInt ∧ spJ (fun j9 => qm_now_c (56 + j9)) (qm_now_c 4).toInt (qm_now_c 1).toInt.toNat a1 j192 := by rcases (show (j191.toInt = 1 ∧ 0 < (qm_now_c 4).toInt ∧ spJ (fun j9 => qm_now_c (56 + j9)) (qm_now_c 4).toInt (qm_now_c 1).toInt.toNat a1 j192) ∨ (j191.toInt = 0 ∧ j192.toInt = spG (fun j9 => qm_now_c (56 + j9)) (qm_now_c 4).toInt (qm_now_c 1).toInt a1) by assumption) with h9 | h9; exact h9; exact absurd h9.1 (by omega)
          refine lv_iload_n C.1 C.2.1 dX11_spreadFrom_21 rfl (lv_at hl 1 rfl) ?_
          refine lv_istore (lv' := [(4, .int j192), (3, .int j191), (2, .int j192), (0, .ref qm)]) C.1 C.2.1 dX11_spreadFrom_22 hl (by decide) rfl (fun ls hl => ?_)
          refine lv_iconst (v := 0) C.1 C.2.1 dX11_spreadFrom_24 (by decide) ?_
          refine lv_istore (lv' := [(5, .int 0), (4, .int j192), (3, .int j191), (2, .int j192), (0, .ref qm)]) C.1 C.2.1 dX11_spreadFrom_25 hl (by decide) rfl (fun ls hl => ?_)
          have loopJ532 : ∀ (n9 : Nat) (j530 : Int32) (j531 : Int32), (2147483647 - j530.toInt).toNat < n9 → (j531 = spA (fun j9 => qm_now_c (56 + j9)) (qm_now_c 4).toInt j192 (j530.toInt).toNat) → (j530.toInt ≤ (qm_now_c 1).toInt) → (0 ≤ j530.toInt ∧ j530.toInt ≤ 8) → ∀ (H : Heap) (locs : List Loc) (ls : Array Slot), Wd G s A [(qm, .inr (10, [.int qm_thrown, .ref qm_tape, .int qm_taped, .int qm_size, .int qm_limit, .int qm_to, .int qm_from, .int qm_kind, .int qm_number, .int qm_sign, .int qm_fault, .int qm_place, .long qm_word, .int qm_told, .ref qm_now, .ref qm_read, .ref qm_kept, .ref qm_snaps, .ref qm_aside, .ref qm_name, .ref qm_readName, .ref qm_keptName, .ref qm_isKept, .ref qm_onces, .int qm_snapMany, .ref qm_order, .ref qm_ordered, .int qm_orderMany, .int qm_orderMost, .int qm_passing, .int qm_movedWho, .int qm_scratched, .ref qm_text, .int qm_texts, .int qm_seed, .ref qm_line, .ref qm_written, .int qm_lineMany, .int qm_hasWritten, .ref qm_node, .int qm_nodes, .int qm_onesMany, .int qm_within, .int qm_top])), (qm_now, eI G 339 qm_now_c)] H locs → lv_has ls 6 [(5, .int j530), (4, .int j192), (2, .int j531), (0, .ref qm)] → W p l e (rmD 1 0 0) s m args below meth c H locs 0 0 Q (F0 m 27 ls []) := by
            intro n9
            induction n9 with
            | zero => intro j530 j531 h9; exact absurd h9 (Nat.not_lt_zero _)
            | succ n9 ihJ532 =>
              intro j530 j531 h9J532 hJ532_0 hJ532_1 hJ532_2 H locs ls hw hl
              have hbj530 := i_bd j530
              have hM : j531 = spA (fun j9 => qm_now_c (56 + j9)) (qm_now_c 4).toInt j192 (j530.toInt).toNat := by assumption
              have hab := spA_bd (nr := (fun j9 => qm_now_c (56 + j9))) (sp := (qm_now_c 4).toInt) (w := j192) (by omega) (by omega) (j530.toInt).toNat (by omega)
              rw [← hM] at hab
              refine lv_iload C.1 C.2.1 dX11_spreadFrom_27 (lv_at hl 0 rfl) ?_
              refine lv_aload_n C.1 C.2.1 dX11_spreadFrom_29 rfl (lv_at hl 3 rfl) ?_
              refine x_get C hw iwX11 10 rfl 0 rfl 14 (by decide) kw1207 rfl dX11_spreadFrom_30 ?_
              refine lv_iconst (v := 1) C.1 C.2.1 dX11_spreadFrom_33 (by decide) ?_
              have mm552 := hf_qm_now_c 1
              refine x_iald (v := (qm_now_c 1)) C hw 1 rfl (x_in rfl) rfl dX11_spreadFrom_34 (x_genP (fun z : Int32 => (z.toInt = (qm_now_c 1).toInt ∧ 0 ≤ z.toInt ∧ z.toInt ≤ 8) ∧ z = qm_now_c 1 ∧ z.toInt = (qm_now_c 1).toInt) ⟨⟨rfl, by omega⟩, rfl, rfl⟩ (fun v553 hv553 => ?_))
              refine lv_icmp_ge (tgt := 76) C.1 C.2.1 dX11_spreadFrom_35 (by decide) (fun c554 => ?_) (fun c554 => ?_)
              · skip
                have c554 : v553.toInt ≤ j530.toInt := i_leT (X := v553.toInt) (Y := j530.toInt) rfl rfl c554
                have hst : j531 = spA (fun j9 => qm_now_c (56 + j9)) (qm_now_c 4).toInt j192 (qm_now_c 1).toInt.toNat := by rw [show (qm_now_c 1).toInt.toNat = (j530.toInt).toNat by omega]; exact hM
                refine lv_iload_n C.1 C.2.1 dX11_spreadFrom_76 rfl (lv_at hl 2 rfl) ?_
                refine lv_iload C.1 C.2.1 dX11_spreadFrom_77 (lv_at hl 1 rfl) ?_
                refine lv_icmp_eq (tgt := 86) C.1 C.2.1 dX11_spreadFrom_79 (by decide) (fun c555 => ?_) (fun c555 => ?_)
                · skip
                  have c555 : j531.toInt = j192.toInt := i_eqT (X := j531.toInt) (Y := j192.toInt) rfl rfl c555
                  have hR8 := spJ_e hJ hst (by omega)
                  refine lv_iconst (v := 0) C.1 C.2.1 dX11_spreadFrom_86 (by decide) ?_
                  refine lv_istore_n (lv' := [(3, .int 0), (5, .int j530), (4, .int j192), (2, .int j531), (0, .ref qm)]) C.1 C.2.1 dX11_spreadFrom_87 rfl hl (by decide) rfl (fun ls hl => ?_)
                  refine lv_goto (tgt := 17) C.1 C.2.1 dX11_spreadFrom_88 (by decide) ?_
                  exact ihJ193 0 j531 (by have e0 : (0 : Int32).toInt = 0 := rfl; have h9 : j531 = j192 := Int32.toInt_inj.mp (by omega); rw [h9]; omega) (by decide) (by omega) (Or.inr ⟨rfl, by unfold spG; rw [if_neg (by omega), ← hR8]⟩) (by omega) _ _ _ hw (lv_sub hl [0, 3, 4] rfl)
                · skip
                  have c555 : j531.toInt ≠ j192.toInt := i_eqF (X := j531.toInt) (Y := j192.toInt) rfl rfl c555
                  have hJ2 := spJ_s hJ (by omega) hst (by omega)
                  refine lv_iconst (v := 1) C.1 C.2.1 dX11_spreadFrom_82 (by decide) ?_
                  refine lv_goto (tgt := 87) C.1 C.2.1 dX11_spreadFrom_83 (by decide) ?_
                  refine lv_istore_n (lv' := [(3, .int 1), (5, .int j530), (4, .int j192), (2, .int j531), (0, .ref qm)]) C.1 C.2.1 dX11_spreadFrom_87 rfl hl (by decide) rfl (fun ls hl => ?_)
                  refine lv_goto (tgt := 17) C.1 C.2.1 dX11_spreadFrom_88 (by decide) ?_
                  exact ihJ193 1 j531 (by have e0 : (1 : Int32).toInt = 1 := rfl; have h9 := hJ2.2; omega) (by decide) (by omega) (Or.inl ⟨rfl, hq2, hJ2.1⟩) (by omega) _ _ _ hw (lv_sub hl [0, 3, 4] rfl)
              · skip
                have c554 : j530.toInt < v553.toInt := i_leF (X := v553.toInt) (Y := j530.toInt) rfl rfl c554
                refine lv_aload_n C.1 C.2.1 dX11_spreadFrom_38 rfl (lv_at hl 3 rfl) ?_
                refine x_get C hw iwX11 10 rfl 0 rfl 14 (by decide) kw1207 rfl dX11_spreadFrom_39 ?_
                refine lv_bipush (v := 56) C.1 C.2.1 dX11_spreadFrom_42 (by decide) ?_
                refine lv_iload C.1 C.2.1 dX11_spreadFrom_44 (lv_at hl 0 rfl) ?_
                refine lv_iadd C.1 C.2.1 dX11_spreadFrom_46 (x_genP (fun z : Int32 => z.toInt = 56 + j530.toInt) (i_add (X := 56) (Y := j530.toInt) rfl rfl (by omega) (by omega)) (fun v556 hv556 => ?_))
                refine x_iald (v := (qm_now_c v556.toNatClampNeg)) C hw 1 rfl (i_in (by omega) (by omega)) rfl dX11_spreadFrom_47 (x_genP (fun z : Int32 => z = qm_now_c (v556.toInt.toNat) ∧ z.toInt = (qm_now_c (v556.toInt.toNat)).toInt) ⟨rfl, rfl⟩ (fun v557 hv557 => ?_))
                have hv9 : v557 = (fun j9 => qm_now_c (56 + j9)) (j530.toInt).toNat := by rw [hv557.1]; show qm_now_c _ = qm_now_c (56 + _); congr 1; omega
                refine lv_iload C.1 C.2.1 dX11_spreadFrom_48 (lv_at hl 1 rfl) ?_
                refine lv_iand C.1 C.2.1 dX11_spreadFrom_50 (x_genP (fun z : Int32 => z = v557 &&& j192) rfl (fun v558 hv558 => ?_))
                have hz9 := and255 (x := v557) (w := j192) (by omega) (by omega) hv558
                refine x_calliS (As := [.int v558]) (rest := []) (wr := [(qm, .inr (10, [.int qm_thrown, .ref qm_tape, .int qm_taped, .int qm_size, .int qm_limit, .int qm_to, .int qm_from, .int qm_kind, .int qm_number, .int qm_sign, .int qm_fault, .int qm_place, .long qm_word, .int qm_told, .ref qm_now, .ref qm_read, .ref qm_kept, .ref qm_snaps, .ref qm_aside, .ref qm_name, .ref qm_readName, .ref qm_keptName, .ref qm_isKept, .ref qm_onces, .int qm_snapMany, .ref qm_order, .ref qm_ordered, .int qm_orderMany, .int qm_orderMost, .int qm_passing, .int qm_movedWho, .int qm_scratched, .ref qm_text, .int qm_texts, .int qm_seed, .ref qm_line, .ref qm_written, .int qm_lineMany, .int qm_hasWritten, .ref qm_node, .int qm_nodes, .int qm_onesMany, .int qm_within, .int qm_top])), (qm_now, eI G 339 qm_now_c)]) C hw (e_X11_bits v558 (by omega)) mwX11_bits kw1484 [] [0, 1] rfl rfl rfl rfl (by decide) rfl hl.1 rfl (Nat.le_of_ble_eq_true rfl) ⟨(Nat.le_of_ble_eq_true rfl), (Nat.le_of_ble_eq_true rfl)⟩ ⟨(Nat.le_of_ble_eq_true rfl), (Nat.le_of_ble_eq_true rfl)⟩ dX11_spreadFrom_51 (fun r559 u9 H locs hp9 hw => ?_)
                obtain ⟨x560, rfl, rfl, hf561, hf562⟩ := hp9
                have hw : Wd G s A [(qm, .inr (10, [.int qm_thrown, .ref qm_tape, .int qm_taped, .int qm_size, .int qm_limit, .int qm_to, .int qm_from, .int qm_kind, .int qm_number, .int qm_sign, .int qm_fault, .int qm_place, .long qm_word, .int qm_told, .ref qm_now, .ref qm_read, .ref qm_kept, .ref qm_snaps, .ref qm_aside, .ref qm_name, .ref qm_readName, .ref qm_keptName, .ref qm_isKept, .ref qm_onces, .int qm_snapMany, .ref qm_order, .ref qm_ordered, .int qm_orderMany, .int qm_orderMost, .int qm_passing, .int qm_movedWho, .int qm_scratched, .ref qm_text, .int qm_texts, .int qm_seed, .ref qm_line, .ref qm_written, .int qm_lineMany, .int qm_hasWritten, .ref qm_node, .int qm_nodes, .int qm_onesMany, .int qm_within, .int qm_top])), (qm_now, eI G 339 qm_now_c)] H _ := hw
                have hr9 : r559 = bcF v558 := Int32.toInt_inj.mp hf562
                refine lv_aload_n C.1 C.2.1 dX11_spreadFrom_54 rfl (lv_at hl 3 rfl) ?_
                refine x_get C hw iwX11 10 rfl 0 rfl 14 (by decide) kw1207 rfl dX11_spreadFrom_55 ?_
                refine lv_iconst (v := 4) C.1 C.2.1 dX11_spreadFrom_58 (by decide) ?_
                refine x_iald (v := (qm_now_c 4)) C hw 1 rfl (x_in rfl) rfl dX11_spreadFrom_59 (x_genP (fun z : Int32 => z = qm_now_c 4 ∧ z.toInt = (qm_now_c 4).toInt) ⟨rfl, rfl⟩ (fun v563 hv563 => ?_))
                refine lv_icmp_lt (tgt := 70) C.1 C.2.1 dX11_spreadFrom_60 (by decide) (fun c564 => ?_) (fun c564 => ?_)
                · skip
                  have c564 : r559.toInt < v563.toInt := i_ltT (X := r559.toInt) (Y := v563.toInt) rfl rfl c564
                  have bc564_v563 := i_bd v563
                  obtain ⟨v565, ev565⟩ : ∃ z : Int32, j530 + 1 = z := ⟨_, rfl⟩
                  have hv565 : v565.toInt = j530.toInt + 1 := by rw [← ev565]; exact i_add rfl rfl (by omega) (by omega)
                  refine lv_iinc (v := v565) (lv' := [(5, .int v565), (4, .int j192), (2, .int j531), (0, .ref qm)]) C.1 C.2.1 dX11_spreadFrom_70 hl (k := 0) rfl ev565 (by decide) rfl (fun ls hl => ?_)
                  refine lv_goto (tgt := 27) C.1 C.2.1 dX11_spreadFrom_73 (by decide) ?_
                  exact ihJ532 v565 j531 (by omega) (spA_n hM (by omega) hv9 hv558 hr9 (by omega) (by omega)) (by first | assumption | omega) (by omega) _ _ _ hw (lv_sub hl [0, 1, 2, 3] rfl)
                · skip
                  have c564 : v563.toInt ≤ r559.toInt := i_ltF (X := r559.toInt) (Y := v563.toInt) rfl rfl c564
                  have bc564_v563 := i_bd v563
                  refine lv_iload_n C.1 C.2.1 dX11_spreadFrom_63 rfl (lv_at hl 2 rfl) ?_
                  refine lv_iconst (v := 1) C.1 C.2.1 dX11_spreadFrom_64 (by decide) ?_
                  refine lv_iload C.1 C.2.1 dX11_spreadFrom_65 (lv_at hl 0 rfl) ?_
                  refine lv_ishl C.1 C.2.1 dX11_spreadFrom_67 (x_genP (fun z : Int32 => (1 ≤ z.toInt ∧ z.toInt ≤ 256) ∧ z = (1 : Int32) <<< (j530 &&& 31)) ⟨i_shl1 (by omega) (by omega), rfl⟩ (fun v566 hv566 => ?_))
                  refine lv_ior C.1 C.2.1 dX11_spreadFrom_68 (x_genP (fun z : Int32 => z = j531 ||| v566) rfl (fun v567 hv567 => ?_))
                  refine lv_istore_n (lv' := [(2, .int v567), (5, .int j530), (4, .int j192), (0, .ref qm)]) C.1 C.2.1 dX11_spreadFrom_69 rfl hl (by decide) rfl (fun ls hl => ?_)
                  obtain ⟨v568, ev568⟩ : ∃ z : Int32, j530 + 1 = z := ⟨_, rfl⟩
                  have hv568 : v568.toInt = j530.toInt + 1 := by rw [← ev568]; exact i_add rfl rfl (by omega) (by omega)
                  refine lv_iinc (v := v568) (lv' := [(5, .int v568), (2, .int v567), (4, .int j192), (0, .ref qm)]) C.1 C.2.1 dX11_spreadFrom_70 hl (k := 1) rfl ev568 (by decide) rfl (fun ls hl => ?_)
                  refine lv_goto (tgt := 27) C.1 C.2.1 dX11_spreadFrom_73 (by decide) ?_
                  exact ihJ532 v568 v567 (by omega) (spA_y hM (by omega) hv9 hv558 hr9 (by omega) hv566.2 hv567 (by omega)) (by first | assumption | omega) (by omega) _ _ _ hw (lv_sub hl [0, 2, 1, 3] rfl)
          exact loopJ532 _ 0 j192 (Nat.lt_succ_self _) (by have e0 : (0 : Int32).toInt = 0 := rfl; show _ = spA _ _ _ 0; rfl) (by have e0 : (0 : Int32).toInt = 0 := rfl; first | assumption | omega) (by decide) _ _ _ hw (lv_sub hl [0, 1, 3, 4] rfl)
    exact loopJ193 _ 1 a1 (Nat.lt_succ_self _) (by decide) (by omega) (Or.inl ⟨rfl, by omega, spJ_0 (by omega) (by omega)⟩) (by omega) _ _ _ hw (lv_sub hl [0, 1, 2] rfl)
set_option maxHeartbeats 4000000 in
set_option maxRecDepth 100000 in
theorem f_X11_spreads {l : Launch} {G : Gc} (qm : Nat) (a1 : Int32) (qm_thrown : Int32) (qm_tape : Nat) (qm_taped : Int32) (qm_size : Int32) (qm_limit : Int32) (qm_to : Int32) (qm_from : Int32) (qm_kind : Int32) (qm_number : Int32) (qm_sign : Int32) (qm_fault : Int32) (qm_place : Int32) (qm_word : Int64) (qm_told : Int32) (qm_now : Nat) (qm_read : Nat) (qm_kept : Nat) (qm_snaps : Nat) (qm_aside : Nat) (qm_name : Nat) (qm_readName : Nat) (qm_keptName : Nat) (qm_isKept : Nat) (qm_onces : Nat) (qm_snapMany : Int32) (qm_order : Nat) (qm_ordered : Nat) (qm_orderMany : Int32) (qm_orderMost : Int32) (qm_passing : Int32) (qm_movedWho : Int32) (qm_scratched : Int32) (qm_text : Nat) (qm_texts : Int32) (qm_seed : Int32) (qm_line : Nat) (qm_written : Nat) (qm_lineMany : Int32) (qm_hasWritten : Int32) (qm_node : Nat) (qm_nodes : Int32) (qm_onesMany : Int32) (qm_within : Int32) (qm_top : Int32) (qm_now_c : Nat → Int32) (hf_qm_now_c : slI qm_now_c) (hf1_qm_now_c : trI qm_now_c) : Ci l yX11_spreads cX11_spreads 2 (some .int) 2 0 0 G [.ref qm, .int a1] [(qm, .inr (10, [.int qm_thrown, .ref qm_tape, .int qm_taped, .int qm_size, .int qm_limit, .int qm_to, .int qm_from, .int qm_kind, .int qm_number, .int qm_sign, .int qm_fault, .int qm_place, .long qm_word, .int qm_told, .ref qm_now, .ref qm_read, .ref qm_kept, .ref qm_snaps, .ref qm_aside, .ref qm_name, .ref qm_readName, .ref qm_keptName, .ref qm_isKept, .ref qm_onces, .int qm_snapMany, .ref qm_order, .ref qm_ordered, .int qm_orderMany, .int qm_orderMost, .int qm_passing, .int qm_movedWho, .int qm_scratched, .ref qm_text, .int qm_texts, .int qm_seed, .ref qm_line, .ref qm_written, .int qm_lineMany, .int qm_hasWritten, .ref qm_node, .int qm_nodes, .int qm_onesMany, .int qm_within, .int qm_top])), (qm_now, eI G 339 qm_now_c)] (fun (r9 : Int32) (u9 : va_W) => ∃ (r_x : Int32), r9 = r_x ∧ u9 = [(qm, .inr (10, [.int 0, .ref qm_tape, .int qm_taped, .int qm_size, .int qm_limit, .int qm_to, .int qm_from, .int qm_kind, .int qm_number, .int qm_sign, .int qm_fault, .int qm_place, .long qm_word, .int qm_told, .ref qm_now, .ref qm_read, .ref qm_kept, .ref qm_snaps, .ref qm_aside, .ref qm_name, .ref qm_readName, .ref qm_keptName, .ref qm_isKept, .ref qm_onces, .int qm_snapMany, .ref qm_order, .ref qm_ordered, .int qm_orderMany, .int qm_orderMost, .int qm_passing, .int qm_movedWho, .int qm_scratched, .ref qm_text, .int qm_texts, .int qm_seed, .ref qm_line, .ref qm_written, .int qm_lineMany, .int qm_hasWritten, .ref qm_node, .int qm_nodes, .int qm_onesMany, .int qm_within, .int qm_top])), (qm_now, eI G 339 qm_now_c)] ∧ ((-1) ≤ r_x.toInt ∧ r_x.toInt ≤ 255) ∧ (r_x.toInt = spR (fun j9 => qm_now_c (56 + j9)) (qm_now_c 4).toInt (qm_now_c 1).toInt a1)) := by
  refine Ci.ofQ (by decide) (Nat.le_of_ble_eq_true rfl) ?_
  intro p e s m below meth c ls A args Q hQ B hw hl
  have C : CallFix p m c cX11_spreads 2 s args gw "LanternStateModel" := B.1
  have hl : lv_has ls 2 [(0, .ref qm), (1, .int a1)] := hl
  refine lv_aload_n C.1 C.2.1 dX11_spreads_0 rfl (lv_at hl 0 rfl) ?_
  refine lv_iconst (v := 0) C.1 C.2.1 dX11_spreads_1 (by decide) ?_
  refine x_put (w' := [(qm, .inr (10, [.int 0, .ref qm_tape, .int qm_taped, .int qm_size, .int qm_limit, .int qm_to, .int qm_from, .int qm_kind, .int qm_number, .int qm_sign, .int qm_fault, .int qm_place, .long qm_word, .int qm_told, .ref qm_now, .ref qm_read, .ref qm_kept, .ref qm_snaps, .ref qm_aside, .ref qm_name, .ref qm_readName, .ref qm_keptName, .ref qm_isKept, .ref qm_onces, .int qm_snapMany, .ref qm_order, .ref qm_ordered, .int qm_orderMany, .int qm_orderMost, .int qm_passing, .int qm_movedWho, .int qm_scratched, .ref qm_text, .int qm_texts, .int qm_seed, .ref qm_line, .ref qm_written, .int qm_lineMany, .int qm_hasWritten, .ref qm_node, .int qm_nodes, .int qm_onesMany, .int qm_within, .int qm_top])), (qm_now, eI G 339 qm_now_c)]) C hw iwX11 tyX11_ok nmX11 10 rfl 0 rfl 0 (by decide) kw1193 rfl rfl rfl (Nat.le_of_ble_eq_true rfl) rfl dX11_spreads_2 (fun H locs hw => ?_)
  refine lv_iload_n C.1 C.2.1 dX11_spreads_5 rfl (lv_at hl 1 rfl) ?_
  refine lv_if_lt (tgt := 21) C.1 C.2.1 dX11_spreads_6 (by decide) (fun c1 => ?_) (fun c1 => ?_)
  · skip
    have c1 : a1.toInt < 0 := i_ltT (X := a1.toInt) (Y := 0) rfl rfl c1
    have bc1_a1 := i_bd a1
    refine lv_iconst (v := (-1)) C.1 C.2.1 dX11_spreads_21 (by decide) ?_
    refine lv_goto (tgt := 30) C.1 C.2.1 dX11_spreads_22 (by decide) ?_
    exact x_retiQ hQ B hw ⟨(-1), rfl, rfl, (by decide), (by have e0 : ((-1) : Int32).toInt = (-1) := rfl; unfold spR; rw [if_pos (fun h9 => absurd h9.1 (by omega))]; all_goals omega)⟩ (Nat.le_of_ble_eq_true rfl) (Nat.le_of_ble_eq_true rfl) dX11_spreads_30
  · skip
    have c1 : 0 ≤ a1.toInt := i_ltF (X := a1.toInt) (Y := 0) rfl rfl c1
    have bc1_a1 := i_bd a1
    refine lv_iload_n C.1 C.2.1 dX11_spreads_9 rfl (lv_at hl 1 rfl) ?_
    refine lv_iconst (v := 1) C.1 C.2.1 dX11_spreads_10 (by decide) ?_
    refine lv_aload_n C.1 C.2.1 dX11_spreads_11 rfl (lv_at hl 0 rfl) ?_
    refine x_get C hw iwX11 10 rfl 0 rfl 14 (by decide) kw1207 rfl dX11_spreads_12 ?_
    refine lv_iconst (v := 1) C.1 C.2.1 dX11_spreads_15 (by decide) ?_
    have mm2 := hf_qm_now_c 1
    refine x_iald (v := (qm_now_c 1)) C hw 1 rfl (x_in rfl) rfl dX11_spreads_16 (x_genP (fun z : Int32 => (z.toInt = (qm_now_c 1).toInt ∧ 0 ≤ z.toInt ∧ z.toInt ≤ 8) ∧ z = qm_now_c 1 ∧ z.toInt = (qm_now_c 1).toInt) ⟨⟨rfl, by omega⟩, rfl, rfl⟩ (fun v3 hv3 => ?_))
    have hs1 := hf_qm_now_c 1
    refine lv_ishl C.1 C.2.1 dX11_spreads_17 (x_genP (fun z : Int32 => (1 ≤ z.toInt ∧ z.toInt ≤ 256) ∧ z = (1 : Int32) <<< (v3 &&& 31)) ⟨i_shl1 (by omega) (by omega), rfl⟩ (fun v4 hv4 => ?_))
    have hsl := shl_eq (by omega) (by omega) hv4.2
    have hpw := pw_le (he := (qm_now_c 1).toInt) (by omega) (by omega)
    refine lv_icmp_lt (tgt := 25) C.1 C.2.1 dX11_spreads_18 (by decide) (fun c5 => ?_) (fun c5 => ?_)
    · skip
      have c5 : a1.toInt < v4.toInt := i_ltT (X := a1.toInt) (Y := v4.toInt) rfl rfl c5
      have bc5_a1 := i_bd a1
      have hlt : a1.toInt < 2 ^ (qm_now_c 1).toInt.toNat := by rw [show (qm_now_c 1).toInt = v3.toInt by omega, ← hsl]; omega
      refine lv_aload_n C.1 C.2.1 dX11_spreads_25 rfl (lv_at hl 0 rfl) ?_
      refine lv_iload_n C.1 C.2.1 dX11_spreads_26 rfl (lv_at hl 1 rfl) ?_
      refine x_calliV (As := [.int a1]) (rest := []) (wr := []) C hw (e_X11_spreadFrom qm a1 0 qm_tape qm_taped qm_size qm_limit qm_to qm_from qm_kind qm_number qm_sign qm_fault qm_place qm_word qm_told qm_now qm_read qm_kept qm_snaps qm_aside qm_name qm_readName qm_keptName qm_isKept qm_onces qm_snapMany qm_order qm_ordered qm_orderMany qm_orderMost qm_passing qm_movedWho qm_scratched qm_text qm_texts qm_seed qm_line qm_written qm_lineMany qm_hasWritten qm_node qm_nodes qm_onesMany qm_within qm_top qm_now_c (by omega) hf_qm_now_c hf1_qm_now_c) mwX11_spreadFrom kw1537 [0, 1] [] rfl rfl rfl rfl (by decide) 0 rfl rfl rfl rfl hl.1 rfl (Nat.le_of_ble_eq_true rfl) ⟨(Nat.le_of_ble_eq_true rfl), (Nat.le_of_ble_eq_true rfl)⟩ ⟨(Nat.le_of_ble_eq_true rfl), (Nat.le_of_ble_eq_true rfl)⟩ dX11_spreads_27 (fun r6 u9 H locs hp9 hw => ?_)
      obtain ⟨x7, rfl, rfl, hf8, hf9⟩ := hp9
      have hw : Wd G s A [(qm, .inr (10, [.int 0, .ref qm_tape, .int qm_taped, .int qm_size, .int qm_limit, .int qm_to, .int qm_from, .int qm_kind, .int qm_number, .int qm_sign, .int qm_fault, .int qm_place, .long qm_word, .int qm_told, .ref qm_now, .ref qm_read, .ref qm_kept, .ref qm_snaps, .ref qm_aside, .ref qm_name, .ref qm_readName, .ref qm_keptName, .ref qm_isKept, .ref qm_onces, .int qm_snapMany, .ref qm_order, .ref qm_ordered, .int qm_orderMany, .int qm_orderMost, .int qm_passing, .int qm_movedWho, .int qm_scratched, .ref qm_text, .int qm_texts, .int qm_seed, .ref qm_line, .ref qm_written, .int qm_lineMany, .int qm_hasWritten, .ref qm_node, .int qm_nodes, .int qm_onesMany, .int qm_within, .int qm_top])), (qm_now, eI G 339 qm_now_c)] H _ := hw
      exact x_retiQ hQ B hw ⟨r6, rfl, rfl, (by omega), (by unfold spR; rw [if_neg (fun h9 => h9 ⟨by omega, hlt⟩)]; exact hf9)⟩ (Nat.le_of_ble_eq_true rfl) (Nat.le_of_ble_eq_true rfl) dX11_spreads_30
    · skip
      have c5 : v4.toInt ≤ a1.toInt := i_ltF (X := a1.toInt) (Y := v4.toInt) rfl rfl c5
      have bc5_a1 := i_bd a1
      have hlt : ¬ a1.toInt < 2 ^ (qm_now_c 1).toInt.toNat := by rw [show (qm_now_c 1).toInt = v3.toInt by omega, ← hsl]; omega
      refine lv_iconst (v := (-1)) C.1 C.2.1 dX11_spreads_21 (by decide) ?_
      refine lv_goto (tgt := 30) C.1 C.2.1 dX11_spreads_22 (by decide) ?_
      exact x_retiQ hQ B hw ⟨(-1), rfl, rfl, (by decide), (by have e0 : ((-1) : Int32).toInt = (-1) := rfl; unfold spR; rw [if_pos (fun h9 => hlt h9.2)]; all_goals omega)⟩ (Nat.le_of_ble_eq_true rfl) (Nat.le_of_ble_eq_true rfl) dX11_spreads_30
