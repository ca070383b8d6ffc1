-- needs: 4
theorem dX9_put_0 : decode cX9_put 0 = .ok (.bipush 24, 2) := by decide +kernel
theorem dX9_put_2 : decode cX9_put 2 = .ok (.istore_n 2, 1) := by decide +kernel
theorem dX9_put_3 : decode cX9_put 3 = .ok (.iload_n 2, 1) := by decide +kernel
theorem dX9_put_4 : decode cX9_put 4 = .ok (.ifCond .lt 42, 3) := by decide +kernel
theorem dX9_put_7 : decode cX9_put 7 = .ok (.aload_n 0, 1) := by decide +kernel
theorem dX9_put_8 : decode cX9_put 8 = .ok (.getfield 33, 3) := by decide +kernel
theorem dX9_put_11 : decode cX9_put 11 = .ok (.sipush 940, 3) := by decide +kernel
theorem dX9_put_14 : decode cX9_put 14 = .ok (.if_icmp .ge 26, 3) := by decide +kernel
theorem dX9_put_17 : decode cX9_put 17 = .ok (.aload_n 0, 1) := by decide +kernel
theorem dX9_put_18 : decode cX9_put 18 = .ok (.getfield 15, 3) := by decide +kernel
theorem dX9_put_21 : decode cX9_put 21 = .ok (.aload_n 0, 1) := by decide +kernel
theorem dX9_put_22 : decode cX9_put 22 = .ok (.getfield 33, 3) := by decide +kernel
theorem dX9_put_25 : decode cX9_put 25 = .ok (.iload_n 1, 1) := by decide +kernel
theorem dX9_put_26 : decode cX9_put 26 = .ok (.iload_n 2, 1) := by decide +kernel
theorem dX9_put_27 : decode cX9_put 27 = .ok (.iushr, 1) := by decide +kernel
theorem dX9_put_28 : decode cX9_put 28 = .ok (.i2b, 1) := by decide +kernel
theorem dX9_put_29 : decode cX9_put 29 = .ok (.bastore, 1) := by decide +kernel
theorem dX9_put_30 : decode cX9_put 30 = .ok (.aload_n 0, 1) := by decide +kernel
theorem dX9_put_31 : decode cX9_put 31 = .ok (.dup, 1) := by decide +kernel
theorem dX9_put_32 : decode cX9_put 32 = .ok (.getfield 33, 3) := by decide +kernel
theorem dX9_put_35 : decode cX9_put 35 = .ok (.iconst 1, 1) := by decide +kernel
theorem dX9_put_36 : decode cX9_put 36 = .ok (.iadd, 1) := by decide +kernel
theorem dX9_put_37 : decode cX9_put 37 = .ok (.putfield 33, 3) := by decide +kernel
theorem dX9_put_40 : decode cX9_put 40 = .ok (.iinc 2 (-8), 3) := by decide +kernel
theorem dX9_put_43 : decode cX9_put 43 = .ok (.goto (-40), 3) := by decide +kernel
theorem dX9_put_46 : decode cX9_put 46 = .ok (.return_, 1) := by decide +kernel
set_option maxHeartbeats 4000000 in
set_option maxRecDepth 100000 in
theorem s_X9_put {l : Launch} {G : Gc} (qt : Nat) (a1 : Int32) (qt_keyCodes : Nat) (qt_bytes : Nat) (qt_size : Int32) (qt_most : Int32) (qt_from : Int32) (qt_kind : Int32) (qt_place : Int32) (qt_value : Int32) (qt_code : Int64) (qt_key : Int32) (qt_fault : Int32) (qt_faultPlace : Int32) (qt_bytes_c : Nat → Int32) (hi_qt_size : 0 ≤ qt_size.toInt ∧ qt_size.toInt ≤ 940) : Cv l yX9_put cX9_put 3 0 0 0 G [.ref qt, .int a1] [(qt, .inr (8, [.ref qt_keyCodes, .ref qt_bytes, .int qt_size, .int qt_most, .int qt_from, .int qt_kind, .int qt_place, .int qt_value, .long qt_code, .int qt_key, .int qt_fault, .int qt_faultPlace])), (qt_bytes, eB G 940 qt_bytes_c)] (fun (u9 : va_W) => ∃ (x0_qt_size : Int32) (x1_qt_bytes_c : Nat → Int32), u9 = [(qt, .inr (8, [.ref qt_keyCodes, .ref qt_bytes, .int x0_qt_size, .int qt_most, .int qt_from, .int qt_kind, .int qt_place, .int qt_value, .long qt_code, .int qt_key, .int qt_fault, .int qt_faultPlace])), (qt_bytes, eB G 940 x1_qt_bytes_c)] ∧ (0 ≤ x0_qt_size.toInt ∧ x0_qt_size.toInt ≤ 940)) := by
  refine Cv.ofQ (by decide) (Nat.le_of_ble_eq_true rfl) ?_
  intro p e s m below meth c ls A args Q hQ B hw hl
  have C : CallFix p m c cX9_put 3 s args gw "LanternState$Tape" := B.1
  have hl : lv_has ls 3 [(0, .ref qt), (1, .int a1)] := hl
  refine lv_bipush (v := 24) C.1 C.2.1 dX9_put_0 (by decide) ?_
  refine lv_istore_n (lv' := [(2, .int 24), (0, .ref qt), (1, .int a1)]) C.1 C.2.1 dX9_put_2 rfl hl (by decide) rfl (fun ls hl => ?_)
  have loopJ73 : ∀ (n9 : Nat) (j70 : Int32) (j71 : Int32) (j72 : Nat → Int32), (j70.toInt + 2147483648).toNat < n9 → ((-8) ≤ j70.toInt ∧ j70.toInt ≤ 24) → (0 ≤ j71.toInt ∧ j71.toInt ≤ 940) → ∀ (H : Heap) (locs : List Loc) (ls : Array Slot), Wd G s A [(qt, .inr (8, [.ref qt_keyCodes, .ref qt_bytes, .int j71, .int qt_most, .int qt_from, .int qt_kind, .int qt_place, .int qt_value, .long qt_code, .int qt_key, .int qt_fault, .int qt_faultPlace])), (qt_bytes, eB G 940 j72)] H locs → lv_has ls 3 [(2, .int j70), (0, .ref qt), (1, .int a1)] → W p l e (rmD 0 0 0) s m args below meth c H locs 0 0 Q (F0 m 3 ls []) := by
    intro n9
    induction n9 with
    | zero => intro j70 j71 j72 h9; exact absurd h9 (Nat.not_lt_zero _)
    | succ n9 ihJ73 =>
      intro j70 j71 j72 h9J73 hJ73_0 hJ73_1 H locs ls hw hl
      have hbj70 := i_bd j70
      refine lv_iload_n C.1 C.2.1 dX9_put_3 rfl (lv_at hl 0 rfl) ?_
      refine lv_if_lt (tgt := 46) C.1 C.2.1 dX9_put_4 (by decide) (fun c84 => ?_) (fun c84 => ?_)
      · skip
        have c84 : j70.toInt < 0 := i_ltT (X := j70.toInt) (Y := 0) rfl rfl c84
        exact x_retvQ hQ B hw ⟨j71, j72, rfl, (by omega)⟩ (Nat.le_of_ble_eq_true rfl) (Nat.le_of_ble_eq_true rfl) dX9_put_46
      · skip
        have c84 : 0 ≤ j70.toInt := i_ltF (X := j70.toInt) (Y := 0) rfl rfl c84
        refine lv_aload_n C.1 C.2.1 dX9_put_7 rfl (lv_at hl 1 rfl) ?_
        refine x_get C hw iwX9 8 rfl 0 rfl 2 (by decide) kw91 rfl dX9_put_8 ?_
        refine lv_sipush (v := 940) C.1 C.2.1 dX9_put_11 (by decide) ?_
        have J92 : ∀ (j90 : Int32) (j91 : Nat → Int32), (1 ≤ j90.toInt ∧ j90.toInt ≤ 940) → ∀ (H : Heap) (locs : List Loc) (ls : Array Slot), Wd G s A [(qt, .inr (8, [.ref qt_keyCodes, .ref qt_bytes, .int j90, .int qt_most, .int qt_from, .int qt_kind, .int qt_place, .int qt_value, .long qt_code, .int qt_key, .int qt_fault, .int qt_faultPlace])), (qt_bytes, eB G 940 j91)] H locs → lv_has ls 3 [(2, .int j70), (0, .ref qt), (1, .int a1)] → W p l e (rmD 0 0 0) s m args below meth c H locs 0 0 Q (F0 m 40 ls []) := by
          intro j90 j91 hJ92_0 H locs ls hw hl
          obtain ⟨v94, ev94⟩ : ∃ z : Int32, j70 + (-8) = z := ⟨_, rfl⟩
          have hv94 : v94.toInt = j70.toInt + (-8) := by rw [← ev94]; exact i_add rfl rfl (by omega) (by omega)
          refine lv_iinc (v := v94) (lv' := [(2, .int v94), (0, .ref qt), (1, .int a1)]) C.1 C.2.1 dX9_put_40 hl (k := 0) rfl ev94 (by decide) rfl (fun ls hl => ?_)
          refine lv_goto (tgt := 3) C.1 C.2.1 dX9_put_43 (by decide) ?_
          exact ihJ73 v94 j90 j91 (by omega) (by omega) (by omega) _ _ _ hw (lv_sub hl [0, 1, 2] rfl)
        refine lv_icmp_ge (tgt := 40) C.1 C.2.1 dX9_put_14 (by decide) (fun c85 => ?_) (fun c85 => ?_)
        · skip
          have c85 : 940 ≤ j71.toInt := i_leT (X := 940) (Y := j71.toInt) rfl rfl c85
          exact J92 j71 j72  (by omega) _ _ _ hw (lv_sub hl [0, 1, 2] rfl)
        · skip
          have c85 : j71.toInt < 940 := i_leF (X := 940) (Y := j71.toInt) rfl rfl c85
          refine lv_aload_n C.1 C.2.1 dX9_put_17 rfl (lv_at hl 1 rfl) ?_
          refine x_get C hw iwX9 8 rfl 0 rfl 1 (by decide) kw89 rfl dX9_put_18 ?_
          refine lv_aload_n C.1 C.2.1 dX9_put_21 rfl (lv_at hl 1 rfl) ?_
          refine x_get C hw iwX9 8 rfl 0 rfl 2 (by decide) kw91 rfl dX9_put_22 ?_
          refine lv_iload_n C.1 C.2.1 dX9_put_25 rfl (lv_at hl 2 rfl) ?_
          refine lv_iload_n C.1 C.2.1 dX9_put_26 rfl (lv_at hl 0 rfl) ?_
          refine lv_iushr (v := ((a1.toUInt32 >>> (j70.toUInt32 &&& Int32.toUInt32 31)).toInt32)) C.1 C.2.1 dX9_put_27 rfl (x_gen (fun v95 => ?_))
          refine lv_i2b (v := v95.toInt8.toInt32) C.1 C.2.1 dX9_put_28 rfl (x_gen (fun v96 => ?_))
          obtain ⟨g97, eg97⟩ : ∃ z, upd j72 (j71.toNatClampNeg) (vp_nar .byte v96) = z := ⟨_, rfl⟩
          refine x_bast (f' := g97) (w' := [(qt, .inr (8, [.ref qt_keyCodes, .ref qt_bytes, .int j71, .int qt_most, .int qt_from, .int qt_kind, .int qt_place, .int qt_value, .long qt_code, .int qt_key, .int qt_fault, .int qt_faultPlace])), (qt_bytes, eB G 940 g97)]) C hw 1 rfl (i_in (by omega) (by omega)) eg97 rfl dX9_put_29 (fun H locs hw => ?_)
          refine lv_aload_n C.1 C.2.1 dX9_put_30 rfl (lv_at hl 1 rfl) ?_
          refine lv_dup C.1 C.2.1 dX9_put_31 rfl ?_
          refine x_get C hw iwX9 8 rfl 0 rfl 2 (by decide) kw91 rfl dX9_put_32 ?_
          refine lv_iconst (v := 1) C.1 C.2.1 dX9_put_35 (by decide) ?_
          refine lv_iadd C.1 C.2.1 dX9_put_36 (x_genP (fun z : Int32 => z.toInt = j71.toInt + 1) (i_add (X := j71.toInt) (Y := 1) rfl rfl (by omega) (by omega)) (fun v98 hv98 => ?_))
          refine x_put (w' := [(qt, .inr (8, [.ref qt_keyCodes, .ref qt_bytes, .int v98, .int qt_most, .int qt_from, .int qt_kind, .int qt_place, .int qt_value, .long qt_code, .int qt_key, .int qt_fault, .int qt_faultPlace])), (qt_bytes, eB G 940 g97)]) C hw iwX9 tyX9_ok nmX9 8 rfl 0 rfl 2 (by decide) kw91 rfl rfl rfl (Nat.le_of_ble_eq_true rfl) rfl dX9_put_37 (fun H locs hw => ?_)
          exact J92 v98 g97  (by omega) _ _ _ hw (lv_sub hl [0, 1, 2] rfl)
  exact loopJ73 _ 24 qt_size qt_bytes_c (Nat.lt_succ_self _) (by decide) (by omega) _ _ _ hw (lv_sub hl [0, 1, 2] rfl)
set_option maxHeartbeats 4000000 in
set_option maxRecDepth 100000 in
theorem s_X9_at {l : Launch} {G : Gc} (qt : Nat) (a1 : Int32) (qt_keyCodes : Nat) (qt_bytes : Nat) (qt_size : Int32) (qt_most : Int32) (qt_from : Int32) (qt_kind : Int32) (qt_place : Int32) (qt_value : Int32) (qt_code : Int64) (qt_key : Int32) (qt_fault : Int32) (qt_faultPlace : Int32) (qt_bytes_c : Nat → Int32) (hi_qt_size : 0 ≤ qt_size.toInt ∧ qt_size.toInt ≤ 940) : Ci l yX9_at cX9_at 2 (some .int) 0 0 0 G [.ref qt, .int a1] [(qt, .inr (8, [.ref qt_keyCodes, .ref qt_bytes, .int qt_size, .int qt_most, .int qt_from, .int qt_kind, .int qt_place, .int qt_value, .long qt_code, .int qt_key, .int qt_fault, .int qt_faultPlace])), (qt_bytes, eB G 940 qt_bytes_c)] (fun (r9 : Int32) (u9 : va_W) => ∃ (r_x : Int32), r9 = r_x ∧ u9 = [(qt, .inr (8, [.ref qt_keyCodes, .ref qt_bytes, .int qt_size, .int qt_most, .int qt_from, .int qt_kind, .int qt_place, .int qt_value, .long qt_code, .int qt_key, .int qt_fault, .int qt_faultPlace])), (qt_bytes, eB G 940 qt_bytes_c)] ∧ ((-1) ≤ r_x.toInt ∧ r_x.toInt ≤ 255)) := by
  refine Ci.ofQ (by decide) (Nat.le_of_ble_eq_true rfl) ?_
  intro p e s m below meth c ls A args Q hQ B hw hl
  have C : CallFix p m c cX9_at 2 s args gw "LanternState$Tape" := B.1
  have hl : lv_has ls 2 [(0, .ref qt), (1, .int a1)] := hl
  refine lv_iload_n C.1 C.2.1 dX9_at_0 rfl (lv_at hl 1 rfl) ?_
  refine lv_if_lt (tgt := 32) C.1 C.2.1 dX9_at_1 (by decide) (fun c1 => ?_) (fun c1 => ?_)
  · skip
    have c1 : a1.toInt < 0 := i_ltT (X := a1.toInt) (Y := 0) rfl rfl c1
    have bc1_a1 := i_bd a1
    refine lv_iconst (v := (-1)) C.1 C.2.1 dX9_at_32 (by decide) ?_
    exact x_retiQ hQ B hw ⟨(-1), rfl, rfl, (by decide)⟩ (Nat.le_of_ble_eq_true rfl) (Nat.le_of_ble_eq_true rfl) dX9_at_33
  · skip
    have c1 : 0 ≤ a1.toInt := i_ltF (X := a1.toInt) (Y := 0) rfl rfl c1
    have bc1_a1 := i_bd a1
    refine lv_iload_n C.1 C.2.1 dX9_at_4 rfl (lv_at hl 1 rfl) ?_
    refine lv_aload_n C.1 C.2.1 dX9_at_5 rfl (lv_at hl 0 rfl) ?_
    refine x_get C hw iwX9 8 rfl 0 rfl 2 (by decide) kw91 rfl dX9_at_6 ?_
    refine lv_icmp_ge (tgt := 32) C.1 C.2.1 dX9_at_9 (by decide) (fun c2 => ?_) (fun c2 => ?_)
    · skip
      have c2 : qt_size.toInt ≤ a1.toInt := i_leT (X := qt_size.toInt) (Y := a1.toInt) rfl rfl c2
      have bc2_a1 := i_bd a1
      refine lv_iconst (v := (-1)) C.1 C.2.1 dX9_at_32 (by decide) ?_
      exact x_retiQ hQ B hw ⟨(-1), rfl, rfl, (by decide)⟩ (Nat.le_of_ble_eq_true rfl) (Nat.le_of_ble_eq_true rfl) dX9_at_33
    · skip
      have c2 : a1.toInt < qt_size.toInt := i_leF (X := qt_size.toInt) (Y := a1.toInt) rfl rfl c2
      have bc2_a1 := i_bd a1
      refine lv_iload_n C.1 C.2.1 dX9_at_12 rfl (lv_at hl 1 rfl) ?_
      refine lv_sipush (v := 940) C.1 C.2.1 dX9_at_13 (by decide) ?_
      refine lv_icmp_ge (tgt := 32) C.1 C.2.1 dX9_at_16 (by decide) (fun c3 => ?_) (fun c3 => ?_)
      · skip
        have c3 : 940 ≤ a1.toInt := i_leT (X := 940) (Y := a1.toInt) rfl rfl c3
        exfalso; omega
      · skip
        have c3 : a1.toInt < 940 := i_leF (X := 940) (Y := a1.toInt) rfl rfl c3
        refine lv_aload_n C.1 C.2.1 dX9_at_19 rfl (lv_at hl 0 rfl) ?_
        refine x_get C hw iwX9 8 rfl 0 rfl 1 (by decide) kw89 rfl dX9_at_20 ?_
        refine lv_iload_n C.1 C.2.1 dX9_at_23 rfl (lv_at hl 1 rfl) ?_
        refine x_bald (v := (qt_bytes_c a1.toNatClampNeg)) C hw 1 rfl (i_in (by omega) (by omega)) rfl dX9_at_24 (x_gen (fun v4 => ?_))
        refine lv_sipush (v := 255) C.1 C.2.1 dX9_at_25 (by decide) ?_
        refine lv_iand C.1 C.2.1 dX9_at_28 (x_genP (fun z : Int32 => 0 ≤ z.toInt ∧ z.toInt ≤ 255) (i_andR 8 rfl (by decide) rfl) (fun v5 hv5 => ?_))
        refine lv_goto (tgt := 33) C.1 C.2.1 dX9_at_29 (by decide) ?_
        exact x_retiQ hQ B hw ⟨v5, rfl, rfl, (by omega)⟩ (Nat.le_of_ble_eq_true rfl) (Nat.le_of_ble_eq_true rfl) dX9_at_33
set_option maxHeartbeats 4000000 in
set_option maxRecDepth 100000 in
theorem s_X9_open {l : Launch} {G : Gc} (qt : Nat) (a1 : Int32) (qt_keyCodes : Nat) (qt_bytes : Nat) (qt_size : Int32) (qt_most : Int32) (qt_from : Int32) (qt_kind : Int32) (qt_place : Int32) (qt_value : Int32) (qt_code : Int64) (qt_key : Int32) (qt_fault : Int32) (qt_faultPlace : Int32)  : Cv l yX9_open cX9_open 2 0 0 0 G [.ref qt, .int a1] [(qt, .inr (8, [.ref qt_keyCodes, .ref qt_bytes, .int qt_size, .int qt_most, .int qt_from, .int qt_kind, .int qt_place, .int qt_value, .long qt_code, .int qt_key, .int qt_fault, .int qt_faultPlace]))] (fun (u9 : va_W) => u9 = [(qt, .inr (8, [.ref qt_keyCodes, .ref qt_bytes, .int qt_size, .int a1, .int 0, .int qt_kind, .int qt_place, .int qt_value, .long qt_code, .int qt_key, .int 0, .int 0]))]) := by
  refine Cv.ofQ (by decide) (Nat.le_of_ble_eq_true rfl) ?_
  intro p e s m below meth c ls A args Q hQ B hw hl
  have C : CallFix p m c cX9_open 2 s args gw "LanternState$Tape" := B.1
  have hl : lv_has ls 2 [(0, .ref qt), (1, .int a1)] := hl
  refine lv_aload_n C.1 C.2.1 dX9_open_0 rfl (lv_at hl 0 rfl) ?_
  refine lv_iload_n C.1 C.2.1 dX9_open_1 rfl (lv_at hl 1 rfl) ?_
  refine x_put (w' := [(qt, .inr (8, [.ref qt_keyCodes, .ref qt_bytes, .int qt_size, .int a1, .int qt_from, .int qt_kind, .int qt_place, .int qt_value, .long qt_code, .int qt_key, .int qt_fault, .int qt_faultPlace]))]) C hw iwX9 tyX9_ok nmX9 8 rfl 0 rfl 3 (by decide) kw92 rfl rfl rfl (Nat.le_of_ble_eq_true rfl) rfl dX9_open_2 (fun H locs hw => ?_)
  refine lv_aload_n C.1 C.2.1 dX9_open_5 rfl (lv_at hl 0 rfl) ?_
  refine lv_iconst (v := 0) C.1 C.2.1 dX9_open_6 (by decide) ?_
  refine x_put (w' := [(qt, .inr (8, [.ref qt_keyCodes, .ref qt_bytes, .int qt_size, .int a1, .int 0, .int qt_kind, .int qt_place, .int qt_value, .long qt_code, .int qt_key, .int qt_fault, .int qt_faultPlace]))]) C hw iwX9 tyX9_ok nmX9 8 rfl 0 rfl 4 (by decide) kw93 rfl rfl rfl (Nat.le_of_ble_eq_true rfl) rfl dX9_open_7 (fun H locs hw => ?_)
  refine lv_aload_n C.1 C.2.1 dX9_open_10 rfl (lv_at hl 0 rfl) ?_
  refine lv_iconst (v := 0) C.1 C.2.1 dX9_open_11 (by decide) ?_
  refine x_put (w' := [(qt, .inr (8, [.ref qt_keyCodes, .ref qt_bytes, .int qt_size, .int a1, .int 0, .int qt_kind, .int qt_place, .int qt_value, .long qt_code, .int qt_key, .int 0, .int qt_faultPlace]))]) C hw iwX9 tyX9_ok nmX9 8 rfl 0 rfl 10 (by decide) kw110 rfl rfl rfl (Nat.le_of_ble_eq_true rfl) rfl dX9_open_12 (fun H locs hw => ?_)
  refine lv_aload_n C.1 C.2.1 dX9_open_15 rfl (lv_at hl 0 rfl) ?_
  refine lv_iconst (v := 0) C.1 C.2.1 dX9_open_16 (by decide) ?_
  refine x_put (w' := [(qt, .inr (8, [.ref qt_keyCodes, .ref qt_bytes, .int qt_size, .int a1, .int 0, .int qt_kind, .int qt_place, .int qt_value, .long qt_code, .int qt_key, .int 0, .int 0]))]) C hw iwX9 tyX9_ok nmX9 8 rfl 0 rfl 11 (by decide) kw113 rfl rfl rfl (Nat.le_of_ble_eq_true rfl) rfl dX9_open_17 (fun H locs hw => ?_)
  exact x_retvQ hQ B hw rfl (Nat.le_of_ble_eq_true rfl) (Nat.le_of_ble_eq_true rfl) dX9_open_20
set_option maxHeartbeats 4000000 in
set_option maxRecDepth 100000 in
theorem s_X9_fail {l : Launch} {G : Gc} (qt : Nat) (a1 : Int32) (qt_keyCodes : Nat) (qt_bytes : Nat) (qt_size : Int32) (qt_most : Int32) (qt_from : Int32) (qt_kind : Int32) (qt_place : Int32) (qt_value : Int32) (qt_code : Int64) (qt_key : Int32) (qt_fault : Int32) (qt_faultPlace : Int32)  : Ci l yX9_fail cX9_fail 2 (some .boolean) 0 0 0 G [.ref qt, .int a1] [(qt, .inr (8, [.ref qt_keyCodes, .ref qt_bytes, .int qt_size, .int qt_most, .int qt_from, .int qt_kind, .int qt_place, .int qt_value, .long qt_code, .int qt_key, .int qt_fault, .int qt_faultPlace]))] (fun (r9 : Int32) (u9 : va_W) => ∃ (x0_qt_fault : Int32) (x1_qt_faultPlace : Int32), r9 = 0 ∧ u9 = [(qt, .inr (8, [.ref qt_keyCodes, .ref qt_bytes, .int qt_size, .int qt_most, .int qt_from, .int qt_kind, .int qt_place, .int qt_value, .long qt_code, .int qt_key, .int x0_qt_fault, .int x1_qt_faultPlace]))]) := by
  refine Ci.ofQ (by decide) (Nat.le_of_ble_eq_true rfl) ?_
  intro p e s m below meth c ls A args Q hQ B hw hl
  have C : CallFix p m c cX9_fail 2 s args gw "LanternState$Tape" := B.1
  have hl : lv_has ls 2 [(0, .ref qt), (1, .int a1)] := hl
  refine lv_aload_n C.1 C.2.1 dX9_fail_0 rfl (lv_at hl 0 rfl) ?_
  refine x_get C hw iwX9 8 rfl 0 rfl 10 (by decide) kw110 rfl dX9_fail_1 ?_
  refine lv_if_ne (tgt := 20) C.1 C.2.1 dX9_fail_4 (by decide) (fun c1 => ?_) (fun c1 => ?_)
  · skip
    have c1 : qt_fault.toInt ≠ 0 := i_eqF (X := qt_fault.toInt) (Y := 0) rfl rfl c1
    have bc1_qt_fault := i_bd qt_fault
    refine lv_iconst (v := 0) C.1 C.2.1 dX9_fail_20 (by decide) ?_
    exact x_retzQ hQ B hw rfl ⟨qt_fault, qt_faultPlace, rfl, rfl⟩ (Nat.le_of_ble_eq_true rfl) (Nat.le_of_ble_eq_true rfl) dX9_fail_21
  · skip
    have c1 : qt_fault.toInt = 0 := i_eqT (X := qt_fault.toInt) (Y := 0) rfl rfl c1
    have bc1_qt_fault := i_bd qt_fault
    refine lv_aload_n C.1 C.2.1 dX9_fail_7 rfl (lv_at hl 0 rfl) ?_
    refine lv_iload_n C.1 C.2.1 dX9_fail_8 rfl (lv_at hl 1 rfl) ?_
    refine x_put (w' := [(qt, .inr (8, [.ref qt_keyCodes, .ref qt_bytes, .int qt_size, .int qt_most, .int qt_from, .int qt_kind, .int qt_place, .int qt_value, .long qt_code, .int qt_key, .int a1, .int qt_faultPlace]))]) C hw iwX9 tyX9_ok nmX9 8 rfl 0 rfl 10 (by decide) kw110 rfl rfl rfl (Nat.le_of_ble_eq_true rfl) rfl dX9_fail_9 (fun H locs hw => ?_)
    refine lv_aload_n C.1 C.2.1 dX9_fail_12 rfl (lv_at hl 0 rfl) ?_
    refine lv_aload_n C.1 C.2.1 dX9_fail_13 rfl (lv_at hl 0 rfl) ?_
    refine x_get C hw iwX9 8 rfl 0 rfl 6 (by decide) kw98 rfl dX9_fail_14 ?_
    refine x_put (w' := [(qt, .inr (8, [.ref qt_keyCodes, .ref qt_bytes, .int qt_size, .int qt_most, .int qt_from, .int qt_kind, .int qt_place, .int qt_value, .long qt_code, .int qt_key, .int a1, .int qt_place]))]) C hw iwX9 tyX9_ok nmX9 8 rfl 0 rfl 11 (by decide) kw113 rfl rfl rfl (Nat.le_of_ble_eq_true rfl) rfl dX9_fail_17 (fun H locs hw => ?_)
    refine lv_iconst (v := 0) C.1 C.2.1 dX9_fail_20 (by decide) ?_
    exact x_retzQ hQ B hw rfl ⟨a1, qt_place, rfl, rfl⟩ (Nat.le_of_ble_eq_true rfl) (Nat.le_of_ble_eq_true rfl) dX9_fail_21
set_option maxHeartbeats 4000000 in
set_option maxRecDepth 100000 in
theorem s_X9_readRun {l : Launch} {G : Gc} (qt : Nat) (qt_keyCodes : Nat) (qt_bytes : Nat) (qt_size : Int32) (qt_most : Int32) (qt_from : Int32) (qt_kind : Int32) (qt_place : Int32) (qt_value : Int32) (qt_code : Int64) (qt_key : Int32) (qt_fault : Int32) (qt_faultPlace : Int32) (qt_keyCodes_c : Nat → Int64) (qt_bytes_c : Nat → Int32) (hi_qt_size : 0 ≤ qt_size.toInt ∧ qt_size.toInt ≤ 940) : Cv l yX9_readRun cX9_readRun 5 1 0 0 G [.ref qt] [(qt, .inr (8, [.ref qt_keyCodes, .ref qt_bytes, .int qt_size, .int qt_most, .int qt_from, .int qt_kind, .int qt_place, .int qt_value, .long qt_code, .int qt_key, .int qt_fault, .int qt_faultPlace])), (qt_keyCodes, eJ G 27 qt_keyCodes_c), (qt_bytes, eB G 940 qt_bytes_c)] (fun (u9 : va_W) => ∃ (x0_qt_from : Int32) (x1_qt_kind : Int32) (x2_qt_value : Int32) (x3_qt_code : Int64) (x4_qt_key : Int32), u9 = [(qt, .inr (8, [.ref qt_keyCodes, .ref qt_bytes, .int qt_size, .int qt_most, .int x0_qt_from, .int x1_qt_kind, .int qt_place, .int x2_qt_value, .long x3_qt_code, .int x4_qt_key, .int qt_fault, .int qt_faultPlace])), (qt_keyCodes, eJ G 27 qt_keyCodes_c), (qt_bytes, eB G 940 qt_bytes_c)] ∧ (1 ≤ x1_qt_kind.toInt ∧ x1_qt_kind.toInt ≤ 4)) := by
  refine Cv.ofQ (by decide) (Nat.le_of_ble_eq_true rfl) ?_
  intro p e s m below meth c ls A args Q hQ B hw hl
  have C : CallFix p m c cX9_readRun 5 s args gw "LanternState$Tape" := B.1
  have hl : lv_has ls 5 [(0, .ref qt)] := hl
  refine lv_iconst (v := 0) C.1 C.2.1 dX9_readRun_0 (by decide) ?_
  refine lv_istore_n (lv' := [(1, .int 0), (0, .ref qt)]) C.1 C.2.1 dX9_readRun_1 rfl hl (by decide) rfl (fun ls hl => ?_)
  refine lv_iconst (v := 0) C.1 C.2.1 dX9_readRun_2 (by decide) ?_
  refine lv_istore_n (lv' := [(2, .int 0), (1, .int 0), (0, .ref qt)]) C.1 C.2.1 dX9_readRun_3 rfl hl (by decide) rfl (fun ls hl => ?_)
  refine lv_iconst (v := 1) C.1 C.2.1 dX9_readRun_4 (by decide) ?_
  refine lv_istore_n (lv' := [(3, .int 1), (2, .int 0), (1, .int 0), (0, .ref qt)]) C.1 C.2.1 dX9_readRun_5 rfl hl (by decide) rfl (fun ls hl => ?_)
  have loopJ1012 : ∀ (n9 : Nat) (j1006 : Int32) (j1007 : Int32) (j1008 : Int32) (j1009 : Int32) (j1010 : Int32) (j1011 : Int64), (2 * (2147483647 - j1009.toInt) + j1006.toInt).toNat < n9 → (0 ≤ j1006.toInt ∧ j1006.toInt ≤ 1) → ∀ (H : Heap) (locs : List Loc) (ls : Array Slot), Wd G s A [(qt, .inr (8, [.ref qt_keyCodes, .ref qt_bytes, .int qt_size, .int qt_most, .int j1009, .int qt_kind, .int qt_place, .int j1010, .long j1011, .int qt_key, .int qt_fault, .int qt_faultPlace])), (qt_keyCodes, eJ G 27 qt_keyCodes_c), (qt_bytes, eB G 940 qt_bytes_c)] H locs → lv_has ls 5 [(3, .int j1006), (2, .int j1007), (1, .int j1008), (0, .ref qt)] → W p l e (rmD 1 0 0) s m args below meth c H locs 0 0 Q (F0 m 6 ls []) := by
    intro n9
    induction n9 with
    | zero => intro j1006 j1007 j1008 j1009 j1010 j1011 h9; exact absurd h9 (Nat.not_lt_zero _)
    | succ n9 ihJ1012 =>
      intro j1006 j1007 j1008 j1009 j1010 j1011 h9J1012 hJ1012_0 H locs ls hw hl
      have hbj1009 := i_bd j1009
      refine lv_iload_n C.1 C.2.1 dX9_readRun_6 rfl (lv_at hl 0 rfl) ?_
      have J1084 : ∀ (H : Heap) (locs : List Loc) (ls : Array Slot), Wd G s A [(qt, .inr (8, [.ref qt_keyCodes, .ref qt_bytes, .int qt_size, .int qt_most, .int j1009, .int qt_kind, .int qt_place, .int j1010, .long j1011, .int qt_key, .int qt_fault, .int qt_faultPlace])), (qt_keyCodes, eJ G 27 qt_keyCodes_c), (qt_bytes, eB G 940 qt_bytes_c)] H locs → lv_has ls 5 [(2, .int j1007), (1, .int j1008), (0, .ref qt)] → W p l e (rmD 1 0 0) s m args below meth c H locs 0 0 Q (F0 m 134 ls []) := by
        intro   H locs ls hw hl
        refine lv_iload_n C.1 C.2.1 dX9_readRun_134 rfl (lv_at hl 0 rfl) ?_
        have J1490 : ∀ (H : Heap) (locs : List Loc) (ls : Array Slot), Wd G s A [(qt, .inr (8, [.ref qt_keyCodes, .ref qt_bytes, .int qt_size, .int qt_most, .int j1009, .int qt_kind, .int qt_place, .int j1010, .long j1011, .int qt_key, .int qt_fault, .int qt_faultPlace])), (qt_keyCodes, eJ G 27 qt_keyCodes_c), (qt_bytes, eB G 940 qt_bytes_c)] H locs → lv_has ls 5 [(2, .int j1007), (1, .int j1008), (0, .ref qt)] → W p l e (rmD 1 0 0) s m args below meth c H locs 0 0 Q (F0 m 194 ls []) := by
          intro   H locs ls hw hl
          refine lv_aload_n C.1 C.2.1 dX9_readRun_194 rfl (lv_at hl 2 rfl) ?_
          refine lv_iload_n C.1 C.2.1 dX9_readRun_195 rfl (lv_at hl 1 rfl) ?_
          refine lv_if_ne (tgt := 208) C.1 C.2.1 dX9_readRun_196 (by decide) (fun c1493 => ?_) (fun c1493 => ?_)
          · skip
            have c1493 : j1008.toInt ≠ 0 := i_eqF (X := j1008.toInt) (Y := 0) rfl rfl c1493
            have bc1493_j1008 := i_bd j1008
            refine lv_iconst (v := 1) C.1 C.2.1 dX9_readRun_208 (by decide) ?_
            refine x_put (w' := [(qt, .inr (8, [.ref qt_keyCodes, .ref qt_bytes, .int qt_size, .int qt_most, .int j1009, .int 1, .int qt_place, .int j1010, .long j1011, .int qt_key, .int qt_fault, .int qt_faultPlace])), (qt_keyCodes, eJ G 27 qt_keyCodes_c), (qt_bytes, eB G 940 qt_bytes_c)]) C hw iwX9 tyX9_ok nmX9 8 rfl 0 rfl 5 (by decide) kw97 rfl rfl rfl (Nat.le_of_ble_eq_true rfl) rfl dX9_readRun_209 (fun H locs hw => ?_)
            exact x_retvQ hQ B hw ⟨j1009, 1, j1010, j1011, qt_key, rfl, (by decide)⟩ (Nat.le_of_ble_eq_true rfl) (Nat.le_of_ble_eq_true rfl) dX9_readRun_212
          · skip
            have c1493 : j1008.toInt = 0 := i_eqT (X := j1008.toInt) (Y := 0) rfl rfl c1493
            have bc1493_j1008 := i_bd j1008
            refine lv_iload_n C.1 C.2.1 dX9_readRun_199 rfl (lv_at hl 0 rfl) ?_
            refine lv_iconst (v := 3) C.1 C.2.1 dX9_readRun_200 (by decide) ?_
            refine lv_icmp_gt (tgt := 208) C.1 C.2.1 dX9_readRun_201 (by decide) (fun c1494 => ?_) (fun c1494 => ?_)
            · skip
              have c1494 : 3 < j1007.toInt := i_ltT (X := 3) (Y := j1007.toInt) rfl rfl c1494
              have bc1494_j1007 := i_bd j1007
              refine lv_iconst (v := 1) C.1 C.2.1 dX9_readRun_208 (by decide) ?_
              refine x_put (w' := [(qt, .inr (8, [.ref qt_keyCodes, .ref qt_bytes, .int qt_size, .int qt_most, .int j1009, .int 1, .int qt_place, .int j1010, .long j1011, .int qt_key, .int qt_fault, .int qt_faultPlace])), (qt_keyCodes, eJ G 27 qt_keyCodes_c), (qt_bytes, eB G 940 qt_bytes_c)]) C hw iwX9 tyX9_ok nmX9 8 rfl 0 rfl 5 (by decide) kw97 rfl rfl rfl (Nat.le_of_ble_eq_true rfl) rfl dX9_readRun_209 (fun H locs hw => ?_)
              exact x_retvQ hQ B hw ⟨j1009, 1, j1010, j1011, qt_key, rfl, (by decide)⟩ (Nat.le_of_ble_eq_true rfl) (Nat.le_of_ble_eq_true rfl) dX9_readRun_212
            · skip
              have c1494 : j1007.toInt ≤ 3 := i_ltF (X := 3) (Y := j1007.toInt) rfl rfl c1494
              have bc1494_j1007 := i_bd j1007
              refine lv_iconst (v := 4) C.1 C.2.1 dX9_readRun_204 (by decide) ?_
              refine lv_goto (tgt := 209) C.1 C.2.1 dX9_readRun_205 (by decide) ?_
              refine x_put (w' := [(qt, .inr (8, [.ref qt_keyCodes, .ref qt_bytes, .int qt_size, .int qt_most, .int j1009, .int 4, .int qt_place, .int j1010, .long j1011, .int qt_key, .int qt_fault, .int qt_faultPlace])), (qt_keyCodes, eJ G 27 qt_keyCodes_c), (qt_bytes, eB G 940 qt_bytes_c)]) C hw iwX9 tyX9_ok nmX9 8 rfl 0 rfl 5 (by decide) kw97 rfl rfl rfl (Nat.le_of_ble_eq_true rfl) rfl dX9_readRun_209 (fun H locs hw => ?_)
              exact x_retvQ hQ B hw ⟨j1009, 4, j1010, j1011, qt_key, rfl, (by decide)⟩ (Nat.le_of_ble_eq_true rfl) (Nat.le_of_ble_eq_true rfl) dX9_readRun_212
        refine lv_if_ne (tgt := 194) C.1 C.2.1 dX9_readRun_135 (by decide) (fun c1289 => ?_) (fun c1289 => ?_)
        · skip
          have c1289 : j1007.toInt ≠ 0 := i_eqF (X := j1007.toInt) (Y := 0) rfl rfl c1289
          have bc1289_j1007 := i_bd j1007
          exact J1490    _ _ _ hw (lv_sub hl [0, 1, 2] rfl)
        · skip
          have c1289 : j1007.toInt = 0 := i_eqT (X := j1007.toInt) (Y := 0) rfl rfl c1289
          have bc1289_j1007 := i_bd j1007
          refine lv_iload_n C.1 C.2.1 dX9_readRun_138 rfl (lv_at hl 1 rfl) ?_
          refine lv_bipush (v := 7) C.1 C.2.1 dX9_readRun_139 (by decide) ?_
          refine lv_icmp_gt (tgt := 194) C.1 C.2.1 dX9_readRun_141 (by decide) (fun c1495 => ?_) (fun c1495 => ?_)
          · skip
            have c1495 : 7 < j1008.toInt := i_ltT (X := 7) (Y := j1008.toInt) rfl rfl c1495
            have bc1495_j1008 := i_bd j1008
            exact J1490    _ _ _ hw (lv_sub hl [0, 1, 2] rfl)
          · skip
            have c1495 : j1008.toInt ≤ 7 := i_ltF (X := 7) (Y := j1008.toInt) rfl rfl c1495
            have bc1495_j1008 := i_bd j1008
            refine lv_aload_n C.1 C.2.1 dX9_readRun_144 rfl (lv_at hl 2 rfl) ?_
            refine lv_iconst (v := 2) C.1 C.2.1 dX9_readRun_145 (by decide) ?_
            refine x_put (w' := [(qt, .inr (8, [.ref qt_keyCodes, .ref qt_bytes, .int qt_size, .int qt_most, .int j1009, .int 2, .int qt_place, .int j1010, .long j1011, .int qt_key, .int qt_fault, .int qt_faultPlace])), (qt_keyCodes, eJ G 27 qt_keyCodes_c), (qt_bytes, eB G 940 qt_bytes_c)]) C hw iwX9 tyX9_ok nmX9 8 rfl 0 rfl 5 (by decide) kw97 rfl rfl rfl (Nat.le_of_ble_eq_true rfl) rfl dX9_readRun_146 (fun H locs hw => ?_)
            refine lv_iconst (v := 0) C.1 C.2.1 dX9_readRun_149 (by decide) ?_
            refine lv_istore (lv' := [(4, .int 0), (2, .int j1007), (1, .int j1008), (0, .ref qt)]) C.1 C.2.1 dX9_readRun_150 hl (by decide) rfl (fun ls hl => ?_)
            have loopJ1678 : ∀ (n9 : Nat) (j1675 : Int32) (j1676 : Int32) (j1677 : Int32), (2147483647 - j1675.toInt).toNat < n9 → (0 ≤ j1675.toInt ∧ j1675.toInt ≤ 27) → (2 ≤ j1676.toInt ∧ j1676.toInt ≤ 3) → ∀ (H : Heap) (locs : List Loc) (ls : Array Slot), Wd G s A [(qt, .inr (8, [.ref qt_keyCodes, .ref qt_bytes, .int qt_size, .int qt_most, .int j1009, .int j1676, .int qt_place, .int j1010, .long j1011, .int j1677, .int qt_fault, .int qt_faultPlace])), (qt_keyCodes, eJ G 27 qt_keyCodes_c), (qt_bytes, eB G 940 qt_bytes_c)] H locs → lv_has ls 5 [(4, .int j1675), (0, .ref qt)] → W p l e (rmD 1 0 0) s m args below meth c H locs 0 0 Q (F0 m 152 ls []) := by
              intro n9
              induction n9 with
              | zero => intro j1675 j1676 j1677 h9; exact absurd h9 (Nat.not_lt_zero _)
              | succ n9 ihJ1678 =>
                intro j1675 j1676 j1677 h9J1678 hJ1678_0 hJ1678_1 H locs ls hw hl
                have hbj1675 := i_bd j1675
                refine lv_iload C.1 C.2.1 dX9_readRun_152 (lv_at hl 0 rfl) ?_
                refine lv_bipush (v := 27) C.1 C.2.1 dX9_readRun_154 (by decide) ?_
                refine lv_icmp_ge (tgt := 191) C.1 C.2.1 dX9_readRun_156 (by decide) (fun c1687 => ?_) (fun c1687 => ?_)
                · skip
                  have c1687 : 27 ≤ j1675.toInt := i_leT (X := 27) (Y := j1675.toInt) rfl rfl c1687
                  refine lv_goto (tgt := 212) C.1 C.2.1 dX9_readRun_191 (by decide) ?_
                  exact x_retvQ hQ B hw ⟨j1009, j1676, j1010, j1011, j1677, rfl, (by omega)⟩ (Nat.le_of_ble_eq_true rfl) (Nat.le_of_ble_eq_true rfl) dX9_readRun_212
                · skip
                  have c1687 : j1675.toInt < 27 := i_leF (X := 27) (Y := j1675.toInt) rfl rfl c1687
                  refine lv_aload_n C.1 C.2.1 dX9_readRun_159 rfl (lv_at hl 1 rfl) ?_
                  refine x_get C hw iwX9 8 rfl 0 rfl 0 (by decide) kw88 rfl dX9_readRun_160 ?_
                  refine lv_iload C.1 C.2.1 dX9_readRun_163 (lv_at hl 0 rfl) ?_
                  refine x_lald (v := (qt_keyCodes_c j1675.toNatClampNeg)) C hw 1 rfl (i_in (by omega) (by omega)) rfl dX9_readRun_165 (x_genl (fun v1688 => ?_))
                  refine lv_aload_n C.1 C.2.1 dX9_readRun_166 rfl (lv_at hl 1 rfl) ?_
                  refine x_get C hw iwX9 8 rfl 0 rfl 8 (by decide) kw105 rfl dX9_readRun_167 ?_
                  refine W.lcmp C.1 C.2.1 dX9_readRun_170 (x_gen (fun v1689 => ?_))
                  have J1693 : ∀ (j1691 : Int32) (j1692 : Int32), (2 ≤ j1691.toInt ∧ j1691.toInt ≤ 3) → ∀ (H : Heap) (locs : List Loc) (ls : Array Slot), Wd G s A [(qt, .inr (8, [.ref qt_keyCodes, .ref qt_bytes, .int qt_size, .int qt_most, .int j1009, .int j1691, .int qt_place, .int j1010, .long j1011, .int j1692, .int qt_fault, .int qt_faultPlace])), (qt_keyCodes, eJ G 27 qt_keyCodes_c), (qt_bytes, eB G 940 qt_bytes_c)] H locs → lv_has ls 5 [(4, .int j1675), (0, .ref qt)] → W p l e (rmD 1 0 0) s m args below meth c H locs 0 0 Q (F0 m 185 ls []) := by
                    intro j1691 j1692 hJ1693_0 H locs ls hw hl
                    obtain ⟨v1695, ev1695⟩ : ∃ z : Int32, j1675 + 1 = z := ⟨_, rfl⟩
                    have hv1695 : v1695.toInt = j1675.toInt + 1 := by rw [← ev1695]; exact i_add rfl rfl (by omega) (by omega)
                    refine lv_iinc (v := v1695) (lv' := [(4, .int v1695), (0, .ref qt)]) C.1 C.2.1 dX9_readRun_185 hl (k := 0) rfl ev1695 (by decide) rfl (fun ls hl => ?_)
                    refine lv_goto (tgt := 152) C.1 C.2.1 dX9_readRun_188 (by decide) ?_
                    exact ihJ1678 v1695 j1691 j1692 (by omega) (by omega) (by omega) _ _ _ hw (lv_sub hl [0, 1] rfl)
                  refine lv_if_ne (tgt := 185) C.1 C.2.1 dX9_readRun_171 (by decide) (fun c1690 => ?_) (fun c1690 => ?_)
                  · skip
                    have c1690 : v1689.toInt ≠ 0 := i_eqF (X := v1689.toInt) (Y := 0) rfl rfl c1690
                    have bc1690_v1689 := i_bd v1689
                    exact J1693 j1676 j1677  (by omega) _ _ _ hw (lv_sub hl [0, 1] rfl)
                  · skip
                    have c1690 : v1689.toInt = 0 := i_eqT (X := v1689.toInt) (Y := 0) rfl rfl c1690
                    have bc1690_v1689 := i_bd v1689
                    refine lv_aload_n C.1 C.2.1 dX9_readRun_174 rfl (lv_at hl 1 rfl) ?_
                    refine lv_iconst (v := 3) C.1 C.2.1 dX9_readRun_175 (by decide) ?_
                    refine x_put (w' := [(qt, .inr (8, [.ref qt_keyCodes, .ref qt_bytes, .int qt_size, .int qt_most, .int j1009, .int 3, .int qt_place, .int j1010, .long j1011, .int j1677, .int qt_fault, .int qt_faultPlace])), (qt_keyCodes, eJ G 27 qt_keyCodes_c), (qt_bytes, eB G 940 qt_bytes_c)]) C hw iwX9 tyX9_ok nmX9 8 rfl 0 rfl 5 (by decide) kw97 rfl rfl rfl (Nat.le_of_ble_eq_true rfl) rfl dX9_readRun_176 (fun H locs hw => ?_)
                    refine lv_aload_n C.1 C.2.1 dX9_readRun_179 rfl (lv_at hl 1 rfl) ?_
                    refine lv_iload C.1 C.2.1 dX9_readRun_180 (lv_at hl 0 rfl) ?_
                    refine x_put (w' := [(qt, .inr (8, [.ref qt_keyCodes, .ref qt_bytes, .int qt_size, .int qt_most, .int j1009, .int 3, .int qt_place, .int j1010, .long j1011, .int j1675, .int qt_fault, .int qt_faultPlace])), (qt_keyCodes, eJ G 27 qt_keyCodes_c), (qt_bytes, eB G 940 qt_bytes_c)]) C hw iwX9 tyX9_ok nmX9 8 rfl 0 rfl 9 (by decide) kw109 rfl rfl rfl (Nat.le_of_ble_eq_true rfl) rfl dX9_readRun_182 (fun H locs hw => ?_)
                    exact J1693 3 j1675  (by decide) _ _ _ hw (lv_sub hl [0, 1] rfl)
            exact loopJ1678 _ 0 2 qt_key (Nat.lt_succ_self _) (by decide) (by decide) _ _ _ hw (lv_sub hl [0, 3] rfl)
      refine lv_if_eq (tgt := 134) C.1 C.2.1 dX9_readRun_7 (by decide) (fun c1052 => ?_) (fun c1052 => ?_)
      · skip
        have c1052 : j1006.toInt = 0 := i_eqT (X := j1006.toInt) (Y := 0) rfl rfl c1052
        exact J1084    _ _ _ hw (lv_sub hl [1, 2, 3] rfl)
      · skip
        have c1052 : j1006.toInt ≠ 0 := i_eqF (X := j1006.toInt) (Y := 0) rfl rfl c1052
        refine lv_aload_n C.1 C.2.1 dX9_readRun_10 rfl (lv_at hl 3 rfl) ?_
        refine x_get C hw iwX9 8 rfl 0 rfl 4 (by decide) kw93 rfl dX9_readRun_11 ?_
        refine lv_aload_n C.1 C.2.1 dX9_readRun_14 rfl (lv_at hl 3 rfl) ?_
        refine x_get C hw iwX9 8 rfl 0 rfl 2 (by decide) kw91 rfl dX9_readRun_15 ?_
        refine lv_icmp_ge (tgt := 134) C.1 C.2.1 dX9_readRun_18 (by decide) (fun c1696 => ?_) (fun c1696 => ?_)
        · skip
          have c1696 : qt_size.toInt ≤ j1009.toInt := i_leT (X := qt_size.toInt) (Y := j1009.toInt) rfl rfl c1696
          have bc1696_j1009 := i_bd j1009
          exact J1084    _ _ _ hw (lv_sub hl [1, 2, 3] rfl)
        · skip
          have c1696 : j1009.toInt < qt_size.toInt := i_leF (X := qt_size.toInt) (Y := j1009.toInt) rfl rfl c1696
          have bc1696_j1009 := i_bd j1009
          refine lv_aload_n C.1 C.2.1 dX9_readRun_21 rfl (lv_at hl 3 rfl) ?_
          refine lv_aload_n C.1 C.2.1 dX9_readRun_22 rfl (lv_at hl 3 rfl) ?_
          refine x_get C hw iwX9 8 rfl 0 rfl 4 (by decide) kw93 rfl dX9_readRun_23 ?_
          refine x_calliV (As := [.int j1009]) (rest := []) (wr := [(qt_keyCodes, eJ G 27 qt_keyCodes_c)]) C hw (s_X9_at qt j1009 qt_keyCodes qt_bytes qt_size qt_most j1009 qt_kind qt_place j1010 j1011 qt_key qt_fault qt_faultPlace qt_bytes_c (by omega)) mwX9_at kw530 [0, 2] [1] rfl rfl rfl rfl (by decide) 0 rfl rfl rfl rfl hl.1 rfl (Nat.le_of_ble_eq_true rfl) ⟨(Nat.le_of_ble_eq_true rfl), (Nat.le_of_ble_eq_true rfl)⟩ ⟨(Nat.le_of_ble_eq_true rfl), (Nat.le_of_ble_eq_true rfl)⟩ dX9_readRun_26 (fun r1697 u9 H locs hp9 hw => ?_)
          obtain ⟨x1698, rfl, rfl, hf1699⟩ := hp9
          have hw : Wd G s A [(qt_keyCodes, eJ G 27 qt_keyCodes_c), (qt, .inr (8, [.ref qt_keyCodes, .ref qt_bytes, .int qt_size, .int qt_most, .int j1009, .int qt_kind, .int qt_place, .int j1010, .long j1011, .int qt_key, .int qt_fault, .int qt_faultPlace])), (qt_bytes, eB G 940 qt_bytes_c)] H _ := hw
          refine lv_istore (lv' := [(4, .int r1697), (3, .int j1006), (2, .int j1007), (1, .int j1008), (0, .ref qt)]) C.1 C.2.1 dX9_readRun_29 hl (by decide) rfl (fun ls hl => ?_)
          refine lv_iload C.1 C.2.1 dX9_readRun_31 (lv_at hl 0 rfl) ?_
          refine lv_bipush (v := 97) C.1 C.2.1 dX9_readRun_33 (by decide) ?_
          have J1726 : ∀ (j1720 : Int32) (j1721 : Int32) (j1722 : Int32) (j1723 : Int32) (j1724 : Int32) (j1725 : Int64), (0 ≤ j1721.toInt ∧ j1721.toInt ≤ 1) → (j1723.toInt ≤ 940) → (2 * j1009.toInt - 1 < 2 * j1723.toInt - j1721.toInt) → ∀ (H : Heap) (locs : List Loc) (ls : Array Slot), Wd G s A [(qt_keyCodes, eJ G 27 qt_keyCodes_c), (qt, .inr (8, [.ref qt_keyCodes, .ref qt_bytes, .int qt_size, .int qt_most, .int j1723, .int qt_kind, .int qt_place, .int j1724, .long j1725, .int qt_key, .int qt_fault, .int qt_faultPlace])), (qt_bytes, eB G 940 qt_bytes_c)] H locs → lv_has ls 5 [(1, .int j1720), (3, .int j1721), (2, .int j1722), (0, .ref qt)] → W p l e (rmD 1 0 0) s m args below meth c H locs 0 0 Q (F0 m 131 ls []) := by
            intro j1720 j1721 j1722 j1723 j1724 j1725 hJ1726_0 hJ1726_1 hJ1726_2 H locs ls hw hl
            refine lv_goto (tgt := 6) C.1 C.2.1 dX9_readRun_131 (by decide) ?_
            have hw := hw.sub (w' := [(qt, .inr (8, [.ref qt_keyCodes, .ref qt_bytes, .int qt_size, .int qt_most, .int j1723, .int qt_kind, .int qt_place, .int j1724, .long j1725, .int qt_key, .int qt_fault, .int qt_faultPlace])), (qt_keyCodes, eJ G 27 qt_keyCodes_c), (qt_bytes, eB G 940 qt_bytes_c)]) [1, 0, 2] rfl rfl
            exact ihJ1012 j1721 j1722 j1720 j1723 j1724 j1725 (by omega) (by omega) _ _ _ hw (lv_sub hl [1, 2, 0, 3] rfl)
          have J1710 : ∀ (H : Heap) (locs : List Loc) (ls : Array Slot), Wd G s A [(qt_keyCodes, eJ G 27 qt_keyCodes_c), (qt, .inr (8, [.ref qt_keyCodes, .ref qt_bytes, .int qt_size, .int qt_most, .int j1009, .int qt_kind, .int qt_place, .int j1010, .long j1011, .int qt_key, .int qt_fault, .int qt_faultPlace])), (qt_bytes, eB G 940 qt_bytes_c)] H locs → lv_has ls 5 [(4, .int r1697), (3, .int j1006), (2, .int j1007), (1, .int j1008), (0, .ref qt)] → W p l e (rmD 1 0 0) s m args below meth c H locs 0 0 Q (F0 m 82 ls []) := by
            intro   H locs ls hw hl
            refine lv_iload C.1 C.2.1 dX9_readRun_82 (lv_at hl 0 rfl) ?_
            refine lv_bipush (v := 48) C.1 C.2.1 dX9_readRun_84 (by decide) ?_
            have J1735 : ∀ (H : Heap) (locs : List Loc) (ls : Array Slot), Wd G s A [(qt_keyCodes, eJ G 27 qt_keyCodes_c), (qt, .inr (8, [.ref qt_keyCodes, .ref qt_bytes, .int qt_size, .int qt_most, .int j1009, .int qt_kind, .int qt_place, .int j1010, .long j1011, .int qt_key, .int qt_fault, .int qt_faultPlace])), (qt_bytes, eB G 940 qt_bytes_c)] H locs → lv_has ls 5 [(2, .int j1007), (1, .int j1008), (0, .ref qt)] → W p l e (rmD 1 0 0) s m args below meth c H locs 0 0 Q (F0 m 129 ls []) := by
              intro   H locs ls hw hl
              refine lv_iconst (v := 0) C.1 C.2.1 dX9_readRun_129 (by decide) ?_
              refine lv_istore_n (lv' := [(3, .int 0), (2, .int j1007), (1, .int j1008), (0, .ref qt)]) C.1 C.2.1 dX9_readRun_130 rfl hl (by decide) rfl (fun ls hl => ?_)
              exact J1726 j1008 0 j1007 j1009 j1010 j1011  (by decide) (by omega) (by have e0 : (0 : Int32).toInt = 0 := rfl; omega) _ _ _ hw (lv_sub hl [2, 0, 1, 3] rfl)
            refine lv_icmp_lt (tgt := 129) C.1 C.2.1 dX9_readRun_86 (by decide) (fun c1727 => ?_) (fun c1727 => ?_)
            · skip
              have c1727 : r1697.toInt < 48 := i_ltT (X := r1697.toInt) (Y := 48) rfl rfl c1727
              exact J1735    _ _ _ hw (lv_sub hl [2, 3, 4] rfl)
            · skip
              have c1727 : 48 ≤ r1697.toInt := i_ltF (X := r1697.toInt) (Y := 48) rfl rfl c1727
              refine lv_iload C.1 C.2.1 dX9_readRun_89 (lv_at hl 0 rfl) ?_
              refine lv_bipush (v := 57) C.1 C.2.1 dX9_readRun_91 (by decide) ?_
              refine lv_icmp_gt (tgt := 129) C.1 C.2.1 dX9_readRun_93 (by decide) (fun c1736 => ?_) (fun c1736 => ?_)
              · skip
                have c1736 : 57 < r1697.toInt := i_ltT (X := 57) (Y := r1697.toInt) rfl rfl c1736
                exact J1735    _ _ _ hw (lv_sub hl [2, 3, 4] rfl)
              · skip
                have c1736 : r1697.toInt ≤ 57 := i_ltF (X := 57) (Y := r1697.toInt) rfl rfl c1736
                obtain ⟨v1737, ev1737⟩ : ∃ z : Int32, j1007 + 1 = z := ⟨_, rfl⟩
                refine lv_iinc (v := v1737) (lv' := [(2, .int v1737), (4, .int r1697), (3, .int j1006), (1, .int j1008), (0, .ref qt)]) C.1 C.2.1 dX9_readRun_96 hl (k := 2) rfl ev1737 (by decide) rfl (fun ls hl => ?_)
                refine lv_aload_n C.1 C.2.1 dX9_readRun_99 rfl (lv_at hl 4 rfl) ?_
                refine lv_aload_n C.1 C.2.1 dX9_readRun_100 rfl (lv_at hl 4 rfl) ?_
                refine x_get C hw iwX9 8 rfl 1 rfl 7 (by decide) kw101 rfl dX9_readRun_101 ?_
                refine lv_bipush (v := 10) C.1 C.2.1 dX9_readRun_104 (by decide) ?_
                refine lv_imul C.1 C.2.1 dX9_readRun_106 (x_gen (fun v1738 => ?_))
                refine lv_iload C.1 C.2.1 dX9_readRun_107 (lv_at hl 1 rfl) ?_
                refine lv_bipush (v := 48) C.1 C.2.1 dX9_readRun_109 (by decide) ?_
                refine lv_isub C.1 C.2.1 dX9_readRun_111 (x_genP (fun z : Int32 => z.toInt = r1697.toInt - 48) (i_sub (X := r1697.toInt) (Y := 48) rfl rfl (by omega) (by omega)) (fun v1739 hv1739 => ?_))
                refine lv_iadd C.1 C.2.1 dX9_readRun_112 (x_gen (fun v1740 => ?_))
                refine x_put (w' := [(qt_keyCodes, eJ G 27 qt_keyCodes_c), (qt, .inr (8, [.ref qt_keyCodes, .ref qt_bytes, .int qt_size, .int qt_most, .int j1009, .int qt_kind, .int qt_place, .int v1740, .long j1011, .int qt_key, .int qt_fault, .int qt_faultPlace])), (qt_bytes, eB G 940 qt_bytes_c)]) C hw iwX9 tyX9_ok nmX9 8 rfl 1 rfl 7 (by decide) kw101 rfl rfl rfl (Nat.le_of_ble_eq_true rfl) rfl dX9_readRun_113 (fun H locs hw => ?_)
                refine lv_aload_n C.1 C.2.1 dX9_readRun_116 rfl (lv_at hl 4 rfl) ?_
                refine lv_dup C.1 C.2.1 dX9_readRun_117 rfl ?_
                refine x_get C hw iwX9 8 rfl 1 rfl 4 (by decide) kw93 rfl dX9_readRun_118 ?_
                refine lv_iconst (v := 1) C.1 C.2.1 dX9_readRun_121 (by decide) ?_
                have bb1741 := i_bd j1009
                refine lv_iadd C.1 C.2.1 dX9_readRun_122 (x_genP (fun z : Int32 => z.toInt = j1009.toInt + 1) (i_add (X := j1009.toInt) (Y := 1) rfl rfl (by omega) (by omega)) (fun v1742 hv1742 => ?_))
                refine x_put (w' := [(qt_keyCodes, eJ G 27 qt_keyCodes_c), (qt, .inr (8, [.ref qt_keyCodes, .ref qt_bytes, .int qt_size, .int qt_most, .int v1742, .int qt_kind, .int qt_place, .int v1740, .long j1011, .int qt_key, .int qt_fault, .int qt_faultPlace])), (qt_bytes, eB G 940 qt_bytes_c)]) C hw iwX9 tyX9_ok nmX9 8 rfl 1 rfl 4 (by decide) kw93 rfl rfl rfl (Nat.le_of_ble_eq_true rfl) rfl dX9_readRun_123 (fun H locs hw => ?_)
                refine lv_goto (tgt := 131) C.1 C.2.1 dX9_readRun_126 (by decide) ?_
                exact J1726 j1008 j1006 v1737 v1742 v1740 j1011  (by omega) (by omega) (by omega) _ _ _ hw (lv_sub hl [3, 2, 0, 4] rfl)
          refine lv_icmp_lt (tgt := 82) C.1 C.2.1 dX9_readRun_35 (by decide) (fun c1700 => ?_) (fun c1700 => ?_)
          · skip
            have c1700 : r1697.toInt < 97 := i_ltT (X := r1697.toInt) (Y := 97) rfl rfl c1700
            exact J1710    _ _ _ hw (lv_sub hl [0, 1, 2, 3, 4] rfl)
          · skip
            have c1700 : 97 ≤ r1697.toInt := i_ltF (X := r1697.toInt) (Y := 97) rfl rfl c1700
            refine lv_iload C.1 C.2.1 dX9_readRun_38 (lv_at hl 0 rfl) ?_
            refine lv_bipush (v := 122) C.1 C.2.1 dX9_readRun_40 (by decide) ?_
            refine lv_icmp_gt (tgt := 82) C.1 C.2.1 dX9_readRun_42 (by decide) (fun c1743 => ?_) (fun c1743 => ?_)
            · skip
              have c1743 : 122 < r1697.toInt := i_ltT (X := 122) (Y := r1697.toInt) rfl rfl c1743
              exact J1710    _ _ _ hw (lv_sub hl [0, 1, 2, 3, 4] rfl)
            · skip
              have c1743 : r1697.toInt ≤ 122 := i_ltF (X := 122) (Y := r1697.toInt) rfl rfl c1743
              obtain ⟨v1744, ev1744⟩ : ∃ z : Int32, j1008 + 1 = z := ⟨_, rfl⟩
              refine lv_iinc (v := v1744) (lv' := [(1, .int v1744), (4, .int r1697), (3, .int j1006), (2, .int j1007), (0, .ref qt)]) C.1 C.2.1 dX9_readRun_45 hl (k := 3) rfl ev1744 (by decide) rfl (fun ls hl => ?_)
              refine lv_aload_n C.1 C.2.1 dX9_readRun_48 rfl (lv_at hl 4 rfl) ?_
              refine lv_aload_n C.1 C.2.1 dX9_readRun_49 rfl (lv_at hl 4 rfl) ?_
              refine x_get C hw iwX9 8 rfl 1 rfl 8 (by decide) kw105 rfl dX9_readRun_50 ?_
              refine lv_ldc2 (v := 32) C.1 C.2.1 C.2.2.2.1 (C.2.2.2.2 _ kw87) dX9_readRun_53 ?_
              refine lv_lmul C.1 C.2.1 dX9_readRun_56 (x_genl (fun v1745 => ?_))
              refine lv_iload C.1 C.2.1 dX9_readRun_57 (lv_at hl 1 rfl) ?_
              refine lv_bipush (v := 97) C.1 C.2.1 dX9_readRun_59 (by decide) ?_
              refine lv_isub C.1 C.2.1 dX9_readRun_61 (x_genP (fun z : Int32 => z.toInt = r1697.toInt - 97) (i_sub (X := r1697.toInt) (Y := 97) rfl rfl (by omega) (by omega)) (fun v1746 hv1746 => ?_))
              refine lv_iconst (v := 1) C.1 C.2.1 dX9_readRun_62 (by decide) ?_
              refine lv_iadd C.1 C.2.1 dX9_readRun_63 (x_genP (fun z : Int32 => z.toInt = v1746.toInt + 1) (i_add (X := v1746.toInt) (Y := 1) rfl rfl (by omega) (by omega)) (fun v1747 hv1747 => ?_))
              refine lv_i2l (v := v1747.toInt64) C.1 C.2.1 dX9_readRun_64 rfl (x_genl (fun v1748 => ?_))
              refine lv_ladd C.1 C.2.1 dX9_readRun_65 (x_genl (fun v1749 => ?_))
              refine x_put (w' := [(qt_keyCodes, eJ G 27 qt_keyCodes_c), (qt, .inr (8, [.ref qt_keyCodes, .ref qt_bytes, .int qt_size, .int qt_most, .int j1009, .int qt_kind, .int qt_place, .int j1010, .long v1749, .int qt_key, .int qt_fault, .int qt_faultPlace])), (qt_bytes, eB G 940 qt_bytes_c)]) C hw iwX9 tyX9_ok nmX9 8 rfl 1 rfl 8 (by decide) kw105 rfl rfl rfl (Nat.le_of_ble_eq_true rfl) rfl dX9_readRun_66 (fun H locs hw => ?_)
              refine lv_aload_n C.1 C.2.1 dX9_readRun_69 rfl (lv_at hl 4 rfl) ?_
              refine lv_dup C.1 C.2.1 dX9_readRun_70 rfl ?_
              refine x_get C hw iwX9 8 rfl 1 rfl 4 (by decide) kw93 rfl dX9_readRun_71 ?_
              refine lv_iconst (v := 1) C.1 C.2.1 dX9_readRun_74 (by decide) ?_
              have bb1750 := i_bd j1009
              refine lv_iadd C.1 C.2.1 dX9_readRun_75 (x_genP (fun z : Int32 => z.toInt = j1009.toInt + 1) (i_add (X := j1009.toInt) (Y := 1) rfl rfl (by omega) (by omega)) (fun v1751 hv1751 => ?_))
              refine x_put (w' := [(qt_keyCodes, eJ G 27 qt_keyCodes_c), (qt, .inr (8, [.ref qt_keyCodes, .ref qt_bytes, .int qt_size, .int qt_most, .int v1751, .int qt_kind, .int qt_place, .int j1010, .long v1749, .int qt_key, .int qt_fault, .int qt_faultPlace])), (qt_bytes, eB G 940 qt_bytes_c)]) C hw iwX9 tyX9_ok nmX9 8 rfl 1 rfl 4 (by decide) kw93 rfl rfl rfl (Nat.le_of_ble_eq_true rfl) rfl dX9_readRun_76 (fun H locs hw => ?_)
              refine lv_goto (tgt := 131) C.1 C.2.1 dX9_readRun_79 (by decide) ?_
              exact J1726 v1744 j1006 j1007 v1751 j1010 v1749  (by omega) (by omega) (by omega) _ _ _ hw (lv_sub hl [0, 2, 3, 4] rfl)
  exact loopJ1012 _ 1 0 0 qt_from qt_value qt_code (Nat.lt_succ_self _) (by decide) _ _ _ hw (lv_sub hl [0, 1, 2, 3] rfl)
set_option maxHeartbeats 4000000 in
set_option maxRecDepth 100000 in
theorem s_X9_next {l : Launch} {G : Gc} (qt : Nat) (qt_keyCodes : Nat) (qt_bytes : Nat) (qt_size : Int32) (qt_most : Int32) (qt_from : Int32) (qt_kind : Int32) (qt_place : Int32) (qt_value : Int32) (qt_code : Int64) (qt_key : Int32) (qt_fault : Int32) (qt_faultPlace : Int32) (qt_keyCodes_c : Nat → Int64) (qt_bytes_c : Nat → Int32) (hi_qt_size : 0 ≤ qt_size.toInt ∧ qt_size.toInt ≤ 940) : Cv l yX9_next cX9_next 2 2 0 0 G [.ref qt] [(qt, .inr (8, [.ref qt_keyCodes, .ref qt_bytes, .int qt_size, .int qt_most, .int qt_from, .int qt_kind, .int qt_place, .int qt_value, .long qt_code, .int qt_key, .int qt_fault, .int qt_faultPlace])), (qt_keyCodes, eJ G 27 qt_keyCodes_c), (qt_bytes, eB G 940 qt_bytes_c)] (fun (u9 : va_W) => ∃ (x0_qt_from : Int32) (x1_qt_kind : Int32) (x2_qt_place : Int32) (x3_qt_value : Int32) (x4_qt_code : Int64) (x5_qt_key : Int32), u9 = [(qt, .inr (8, [.ref qt_keyCodes, .ref qt_bytes, .int qt_size, .int qt_most, .int x0_qt_from, .int x1_qt_kind, .int x2_qt_place, .int x3_qt_value, .long x4_qt_code, .int x5_qt_key, .int qt_fault, .int qt_faultPlace])), (qt_keyCodes, eJ G 27 qt_keyCodes_c), (qt_bytes, eB G 940 qt_bytes_c)] ∧ (0 ≤ x1_qt_kind.toInt ∧ x1_qt_kind.toInt ≤ 5)) := by
  refine Cv.ofQ (by decide) (Nat.le_of_ble_eq_true rfl) ?_
  intro p e s m below meth c ls A args Q hQ B hw hl
  have C : CallFix p m c cX9_next 2 s args gw "LanternState$Tape" := B.1
  have hl : lv_has ls 2 [(0, .ref qt)] := hl
  refine lv_aload_n C.1 C.2.1 dX9_next_0 rfl (lv_at hl 0 rfl) ?_
  refine lv_aload_n C.1 C.2.1 dX9_next_1 rfl (lv_at hl 0 rfl) ?_
  refine x_get C hw iwX9 8 rfl 0 rfl 4 (by decide) kw93 rfl dX9_next_2 ?_
  refine x_calliV (As := [.int qt_from]) (rest := []) (wr := [(qt_keyCodes, eJ G 27 qt_keyCodes_c)]) C hw (s_X9_at qt qt_from qt_keyCodes qt_bytes qt_size qt_most qt_from qt_kind qt_place qt_value qt_code qt_key qt_fault qt_faultPlace qt_bytes_c (by omega)) mwX9_at kw530 [0, 2] [1] rfl rfl rfl rfl (by decide) 0 rfl rfl rfl rfl hl.1 rfl (Nat.le_of_ble_eq_true rfl) ⟨(Nat.le_of_ble_eq_true rfl), (Nat.le_of_ble_eq_true rfl)⟩ ⟨(Nat.le_of_ble_eq_true rfl), (Nat.le_of_ble_eq_true rfl)⟩ dX9_next_5 (fun r1 u9 H locs hp9 hw => ?_)
  obtain ⟨x2, rfl, rfl, hf3⟩ := hp9
  have hw : Wd G s A [(qt_keyCodes, eJ G 27 qt_keyCodes_c), (qt, .inr (8, [.ref qt_keyCodes, .ref qt_bytes, .int qt_size, .int qt_most, .int qt_from, .int qt_kind, .int qt_place, .int qt_value, .long qt_code, .int qt_key, .int qt_fault, .int qt_faultPlace])), (qt_bytes, eB G 940 qt_bytes_c)] H _ := hw
  refine lv_istore_n (lv' := [(1, .int r1), (0, .ref qt)]) C.1 C.2.1 dX9_next_8 rfl hl (by decide) rfl (fun ls hl => ?_)
  have loopJ16 : ∀ (n9 : Nat) (j14 : Int32) (j15 : Int32), (2147483647 - j15.toInt).toNat < n9 → ((-1) ≤ j14.toInt ∧ j14.toInt ≤ 255) → ∀ (H : Heap) (locs : List Loc) (ls : Array Slot), Wd G s A [(qt_keyCodes, eJ G 27 qt_keyCodes_c), (qt, .inr (8, [.ref qt_keyCodes, .ref qt_bytes, .int qt_size, .int qt_most, .int j15, .int qt_kind, .int qt_place, .int qt_value, .long qt_code, .int qt_key, .int qt_fault, .int qt_faultPlace])), (qt_bytes, eB G 940 qt_bytes_c)] H locs → lv_has ls 2 [(1, .int j14), (0, .ref qt)] → W p l e (rmD 2 0 0) s m args below meth c H locs 0 0 Q (F0 m 9 ls []) := by
    intro n9
    induction n9 with
    | zero => intro j14 j15 h9; exact absurd h9 (Nat.not_lt_zero _)
    | succ n9 ihJ16 =>
      intro j14 j15 h9J16 hJ16_0 H locs ls hw hl
      have hbj15 := i_bd j15
      refine lv_aload_n C.1 C.2.1 dX9_next_9 rfl (lv_at hl 1 rfl) ?_
      refine x_get C hw iwX9 8 rfl 1 rfl 4 (by decide) kw93 rfl dX9_next_10 ?_
      refine lv_aload_n C.1 C.2.1 dX9_next_13 rfl (lv_at hl 1 rfl) ?_
      refine x_get C hw iwX9 8 rfl 1 rfl 2 (by decide) kw91 rfl dX9_next_14 ?_
      have J38 : ∀ (H : Heap) (locs : List Loc) (ls : Array Slot), Wd G s A [(qt_keyCodes, eJ G 27 qt_keyCodes_c), (qt, .inr (8, [.ref qt_keyCodes, .ref qt_bytes, .int qt_size, .int qt_most, .int j15, .int qt_kind, .int qt_place, .int qt_value, .long qt_code, .int qt_key, .int qt_fault, .int qt_faultPlace])), (qt_bytes, eB G 940 qt_bytes_c)] H locs → lv_has ls 2 [(1, .int j14), (0, .ref qt)] → W p l e (rmD 2 0 0) s m args below meth c H locs 0 0 Q (F0 m 54 ls []) := by
        intro   H locs ls hw hl
        refine lv_aload_n C.1 C.2.1 dX9_next_54 rfl (lv_at hl 1 rfl) ?_
        refine lv_aload_n C.1 C.2.1 dX9_next_55 rfl (lv_at hl 1 rfl) ?_
        refine x_get C hw iwX9 8 rfl 1 rfl 4 (by decide) kw93 rfl dX9_next_56 ?_
        refine x_put (w' := [(qt_keyCodes, eJ G 27 qt_keyCodes_c), (qt, .inr (8, [.ref qt_keyCodes, .ref qt_bytes, .int qt_size, .int qt_most, .int j15, .int qt_kind, .int j15, .int qt_value, .long qt_code, .int qt_key, .int qt_fault, .int qt_faultPlace])), (qt_bytes, eB G 940 qt_bytes_c)]) C hw iwX9 tyX9_ok nmX9 8 rfl 1 rfl 6 (by decide) kw98 rfl rfl rfl (Nat.le_of_ble_eq_true rfl) rfl dX9_next_59 (fun H locs hw => ?_)
        refine lv_aload_n C.1 C.2.1 dX9_next_62 rfl (lv_at hl 1 rfl) ?_
        refine lv_iconst (v := 0) C.1 C.2.1 dX9_next_63 (by decide) ?_
        refine x_put (w' := [(qt_keyCodes, eJ G 27 qt_keyCodes_c), (qt, .inr (8, [.ref qt_keyCodes, .ref qt_bytes, .int qt_size, .int qt_most, .int j15, .int qt_kind, .int j15, .int 0, .long qt_code, .int qt_key, .int qt_fault, .int qt_faultPlace])), (qt_bytes, eB G 940 qt_bytes_c)]) C hw iwX9 tyX9_ok nmX9 8 rfl 1 rfl 7 (by decide) kw101 rfl rfl rfl (Nat.le_of_ble_eq_true rfl) rfl dX9_next_64 (fun H locs hw => ?_)
        refine lv_aload_n C.1 C.2.1 dX9_next_67 rfl (lv_at hl 1 rfl) ?_
        refine lv_lconst (v := 0) C.1 C.2.1 dX9_next_68 (by decide) ?_
        refine x_put (w' := [(qt_keyCodes, eJ G 27 qt_keyCodes_c), (qt, .inr (8, [.ref qt_keyCodes, .ref qt_bytes, .int qt_size, .int qt_most, .int j15, .int qt_kind, .int j15, .int 0, .long 0, .int qt_key, .int qt_fault, .int qt_faultPlace])), (qt_bytes, eB G 940 qt_bytes_c)]) C hw iwX9 tyX9_ok nmX9 8 rfl 1 rfl 8 (by decide) kw105 rfl rfl rfl (Nat.le_of_ble_eq_true rfl) rfl dX9_next_69 (fun H locs hw => ?_)
        refine lv_aload_n C.1 C.2.1 dX9_next_72 rfl (lv_at hl 1 rfl) ?_
        refine lv_iconst (v := (-1)) C.1 C.2.1 dX9_next_73 (by decide) ?_
        refine x_put (w' := [(qt_keyCodes, eJ G 27 qt_keyCodes_c), (qt, .inr (8, [.ref qt_keyCodes, .ref qt_bytes, .int qt_size, .int qt_most, .int j15, .int qt_kind, .int j15, .int 0, .long 0, .int (-1), .int qt_fault, .int qt_faultPlace])), (qt_bytes, eB G 940 qt_bytes_c)]) C hw iwX9 tyX9_ok nmX9 8 rfl 1 rfl 9 (by decide) kw109 rfl rfl rfl (Nat.le_of_ble_eq_true rfl) rfl dX9_next_74 (fun H locs hw => ?_)
        refine lv_aload_n C.1 C.2.1 dX9_next_77 rfl (lv_at hl 1 rfl) ?_
        refine x_get C hw iwX9 8 rfl 1 rfl 2 (by decide) kw91 rfl dX9_next_78 ?_
        refine lv_aload_n C.1 C.2.1 dX9_next_81 rfl (lv_at hl 1 rfl) ?_
        refine x_get C hw iwX9 8 rfl 1 rfl 3 (by decide) kw92 rfl dX9_next_82 ?_
        have J73 : ∀ (H : Heap) (locs : List Loc) (ls : Array Slot), Wd G s A [(qt_keyCodes, eJ G 27 qt_keyCodes_c), (qt, .inr (8, [.ref qt_keyCodes, .ref qt_bytes, .int qt_size, .int qt_most, .int j15, .int qt_kind, .int j15, .int 0, .long 0, .int (-1), .int qt_fault, .int qt_faultPlace])), (qt_bytes, eB G 940 qt_bytes_c)] H locs → lv_has ls 2 [(1, .int j14), (0, .ref qt)] → W p l e (rmD 2 0 0) s m args below meth c H locs 0 0 Q (F0 m 115 ls []) := by
          intro   H locs ls hw hl
          refine lv_aload_n C.1 C.2.1 dX9_next_115 rfl (lv_at hl 1 rfl) ?_
          refine x_get C hw iwX9 8 rfl 1 rfl 4 (by decide) kw93 rfl dX9_next_116 ?_
          refine lv_aload_n C.1 C.2.1 dX9_next_119 rfl (lv_at hl 1 rfl) ?_
          refine x_get C hw iwX9 8 rfl 1 rfl 2 (by decide) kw91 rfl dX9_next_120 ?_
          refine lv_icmp_lt (tgt := 134) C.1 C.2.1 dX9_next_123 (by decide) (fun c103 => ?_) (fun c103 => ?_)
          · skip
            have c103 : j15.toInt < qt_size.toInt := i_ltT (X := j15.toInt) (Y := qt_size.toInt) rfl rfl c103
            have bc103_j15 := i_bd j15
            refine lv_iload_n C.1 C.2.1 dX9_next_134 rfl (lv_at hl 0 rfl) ?_
            refine lv_bipush (v := 97) C.1 C.2.1 dX9_next_135 (by decide) ?_
            have J112 : ∀ (H : Heap) (locs : List Loc) (ls : Array Slot), Wd G s A [(qt_keyCodes, eJ G 27 qt_keyCodes_c), (qt, .inr (8, [.ref qt_keyCodes, .ref qt_bytes, .int qt_size, .int qt_most, .int j15, .int qt_kind, .int j15, .int 0, .long 0, .int (-1), .int qt_fault, .int qt_faultPlace])), (qt_bytes, eB G 940 qt_bytes_c)] H locs → lv_has ls 2 [(1, .int j14), (0, .ref qt)] → W p l e (rmD 2 0 0) s m args below meth c H locs 0 0 Q (F0 m 146 ls []) := by
              intro   H locs ls hw hl
              refine lv_iload_n C.1 C.2.1 dX9_next_146 rfl (lv_at hl 0 rfl) ?_
              refine lv_bipush (v := 48) C.1 C.2.1 dX9_next_147 (by decide) ?_
              have J140 : ∀ (H : Heap) (locs : List Loc) (ls : Array Slot), Wd G s A [(qt_keyCodes, eJ G 27 qt_keyCodes_c), (qt, .inr (8, [.ref qt_keyCodes, .ref qt_bytes, .int qt_size, .int qt_most, .int j15, .int qt_kind, .int j15, .int 0, .long 0, .int (-1), .int qt_fault, .int qt_faultPlace])), (qt_bytes, eB G 940 qt_bytes_c)] H locs → lv_has ls 2 [(1, .int j14), (0, .ref qt)] → W p l e (rmD 2 0 0) s m args below meth c H locs 0 0 Q (F0 m 165 ls []) := by
                intro   H locs ls hw hl
                refine lv_aload_n C.1 C.2.1 dX9_next_165 rfl (lv_at hl 1 rfl) ?_
                refine lv_iload_n C.1 C.2.1 dX9_next_166 rfl (lv_at hl 0 rfl) ?_
                refine lv_bipush (v := 59) C.1 C.2.1 dX9_next_167 (by decide) ?_
                have J158 : ∀ (j157 : Int32), (1 ≤ j157.toInt ∧ j157.toInt ≤ 5) → ∀ (H : Heap) (locs : List Loc) (ls : Array Slot), Wd G s A [(qt_keyCodes, eJ G 27 qt_keyCodes_c), (qt, .inr (8, [.ref qt_keyCodes, .ref qt_bytes, .int qt_size, .int qt_most, .int j15, .int qt_kind, .int j15, .int 0, .long 0, .int (-1), .int qt_fault, .int qt_faultPlace])), (qt_bytes, eB G 940 qt_bytes_c)] H locs → lv_has ls 2 [(1, .int j14), (0, .ref qt)] → W p l e (rmD 2 0 0) s m args below meth c H locs 0 0 Q (F0 m 195 ls [.int j157, .ref qt]) := by
                  intro j157 hJ158_0 H locs ls hw hl
                  refine x_put (w' := [(qt_keyCodes, eJ G 27 qt_keyCodes_c), (qt, .inr (8, [.ref qt_keyCodes, .ref qt_bytes, .int qt_size, .int qt_most, .int j15, .int j157, .int j15, .int 0, .long 0, .int (-1), .int qt_fault, .int qt_faultPlace])), (qt_bytes, eB G 940 qt_bytes_c)]) C hw iwX9 tyX9_ok nmX9 8 rfl 1 rfl 5 (by decide) kw97 rfl rfl rfl (Nat.le_of_ble_eq_true rfl) rfl dX9_next_195 (fun H locs hw => ?_)
                  refine lv_aload_n C.1 C.2.1 dX9_next_198 rfl (lv_at hl 1 rfl) ?_
                  refine lv_iload_n C.1 C.2.1 dX9_next_199 rfl (lv_at hl 0 rfl) ?_
                  refine x_put (w' := [(qt_keyCodes, eJ G 27 qt_keyCodes_c), (qt, .inr (8, [.ref qt_keyCodes, .ref qt_bytes, .int qt_size, .int qt_most, .int j15, .int j157, .int j15, .int j14, .long 0, .int (-1), .int qt_fault, .int qt_faultPlace])), (qt_bytes, eB G 940 qt_bytes_c)]) C hw iwX9 tyX9_ok nmX9 8 rfl 1 rfl 7 (by decide) kw101 rfl rfl rfl (Nat.le_of_ble_eq_true rfl) rfl dX9_next_200 (fun H locs hw => ?_)
                  refine lv_aload_n C.1 C.2.1 dX9_next_203 rfl (lv_at hl 1 rfl) ?_
                  refine lv_dup C.1 C.2.1 dX9_next_204 rfl ?_
                  refine x_get C hw iwX9 8 rfl 1 rfl 4 (by decide) kw93 rfl dX9_next_205 ?_
                  refine lv_iconst (v := 1) C.1 C.2.1 dX9_next_208 (by decide) ?_
                  have bb161 := i_bd j15
                  refine lv_iadd C.1 C.2.1 dX9_next_209 (x_genP (fun z : Int32 => z.toInt = j15.toInt + 1) (i_add (X := j15.toInt) (Y := 1) rfl rfl (by omega) (by omega)) (fun v162 hv162 => ?_))
                  refine x_put (w' := [(qt_keyCodes, eJ G 27 qt_keyCodes_c), (qt, .inr (8, [.ref qt_keyCodes, .ref qt_bytes, .int qt_size, .int qt_most, .int v162, .int j157, .int j15, .int j14, .long 0, .int (-1), .int qt_fault, .int qt_faultPlace])), (qt_bytes, eB G 940 qt_bytes_c)]) C hw iwX9 tyX9_ok nmX9 8 rfl 1 rfl 4 (by decide) kw93 rfl rfl rfl (Nat.le_of_ble_eq_true rfl) rfl dX9_next_210 (fun H locs hw => ?_)
                  have hw := hw.sub (w' := [(qt, .inr (8, [.ref qt_keyCodes, .ref qt_bytes, .int qt_size, .int qt_most, .int v162, .int j157, .int j15, .int j14, .long 0, .int (-1), .int qt_fault, .int qt_faultPlace])), (qt_keyCodes, eJ G 27 qt_keyCodes_c), (qt_bytes, eB G 940 qt_bytes_c)]) [1, 0, 2] rfl rfl
                  exact x_retvQ hQ B hw ⟨v162, j157, j15, j14, 0, (-1), rfl, (by omega)⟩ (Nat.le_of_ble_eq_true rfl) (Nat.le_of_ble_eq_true rfl) dX9_next_213
                have J156 : ∀ (H : Heap) (locs : List Loc) (ls : Array Slot), Wd G s A [(qt_keyCodes, eJ G 27 qt_keyCodes_c), (qt, .inr (8, [.ref qt_keyCodes, .ref qt_bytes, .int qt_size, .int qt_most, .int j15, .int qt_kind, .int j15, .int 0, .long 0, .int (-1), .int qt_fault, .int qt_faultPlace])), (qt_bytes, eB G 940 qt_bytes_c)] H locs → lv_has ls 2 [(1, .int j14), (0, .ref qt)] → W p l e (rmD 2 0 0) s m args below meth c H locs 0 0 Q (F0 m 190 ls [.ref qt]) := by
                  intro   H locs ls hw hl
                  refine lv_iconst (v := 5) C.1 C.2.1 dX9_next_190 (by decide) ?_
                  refine lv_goto (tgt := 195) C.1 C.2.1 dX9_next_191 (by decide) ?_
                  exact J158 5  (by decide) _ _ _ hw (lv_sub hl [0, 1] rfl)
                have J153 : ∀ (H : Heap) (locs : List Loc) (ls : Array Slot), Wd G s A [(qt_keyCodes, eJ G 27 qt_keyCodes_c), (qt, .inr (8, [.ref qt_keyCodes, .ref qt_bytes, .int qt_size, .int qt_most, .int j15, .int qt_kind, .int j15, .int 0, .long 0, .int (-1), .int qt_fault, .int qt_faultPlace])), (qt_bytes, eB G 940 qt_bytes_c)] H locs → lv_has ls 2 [(1, .int j14), (0, .ref qt)] → W p l e (rmD 2 0 0) s m args below meth c H locs 0 0 Q (F0 m 178 ls [.ref qt]) := by
                  intro   H locs ls hw hl
                  refine lv_iload_n C.1 C.2.1 dX9_next_178 rfl (lv_at hl 0 rfl) ?_
                  refine lv_bipush (v := 40) C.1 C.2.1 dX9_next_179 (by decide) ?_
                  refine lv_icmp_eq (tgt := 190) C.1 C.2.1 dX9_next_181 (by decide) (fun c163 => ?_) (fun c163 => ?_)
                  · skip
                    have c163 : j14.toInt = 40 := i_eqT (X := j14.toInt) (Y := 40) rfl rfl c163
                    exact J156    _ _ _ hw (lv_sub hl [0, 1] rfl)
                  · skip
                    have c163 : j14.toInt ≠ 40 := i_eqF (X := j14.toInt) (Y := 40) rfl rfl c163
                    refine lv_iload_n C.1 C.2.1 dX9_next_184 rfl (lv_at hl 0 rfl) ?_
                    refine lv_bipush (v := 41) C.1 C.2.1 dX9_next_185 (by decide) ?_
                    refine lv_icmp_ne (tgt := 194) C.1 C.2.1 dX9_next_187 (by decide) (fun c164 => ?_) (fun c164 => ?_)
                    · skip
                      have c164 : j14.toInt ≠ 41 := i_eqF (X := j14.toInt) (Y := 41) rfl rfl c164
                      refine lv_iconst (v := 1) C.1 C.2.1 dX9_next_194 (by decide) ?_
                      exact J158 1  (by decide) _ _ _ hw (lv_sub hl [0, 1] rfl)
                    · skip
                      have c164 : j14.toInt = 41 := i_eqT (X := j14.toInt) (Y := 41) rfl rfl c164
                      exact J156    _ _ _ hw (lv_sub hl [0, 1] rfl)
                refine lv_icmp_lt (tgt := 178) C.1 C.2.1 dX9_next_169 (by decide) (fun c151 => ?_) (fun c151 => ?_)
                · skip
                  have c151 : j14.toInt < 59 := i_ltT (X := j14.toInt) (Y := 59) rfl rfl c151
                  exact J153    _ _ _ hw (lv_sub hl [0, 1] rfl)
                · skip
                  have c151 : 59 ≤ j14.toInt := i_ltF (X := j14.toInt) (Y := 59) rfl rfl c151
                  refine lv_iload_n C.1 C.2.1 dX9_next_172 rfl (lv_at hl 0 rfl) ?_
                  refine lv_bipush (v := 62) C.1 C.2.1 dX9_next_173 (by decide) ?_
                  refine lv_icmp_le (tgt := 190) C.1 C.2.1 dX9_next_175 (by decide) (fun c165 => ?_) (fun c165 => ?_)
                  · skip
                    have c165 : j14.toInt ≤ 62 := i_leT (X := j14.toInt) (Y := 62) rfl rfl c165
                    exact J156    _ _ _ hw (lv_sub hl [0, 1] rfl)
                  · skip
                    have c165 : 62 < j14.toInt := i_leF (X := j14.toInt) (Y := 62) rfl rfl c165
                    exact J153    _ _ _ hw (lv_sub hl [0, 1] rfl)
              refine lv_icmp_lt (tgt := 165) C.1 C.2.1 dX9_next_149 (by decide) (fun c132 => ?_) (fun c132 => ?_)
              · skip
                have c132 : j14.toInt < 48 := i_ltT (X := j14.toInt) (Y := 48) rfl rfl c132
                exact J140    _ _ _ hw (lv_sub hl [0, 1] rfl)
              · skip
                have c132 : 48 ≤ j14.toInt := i_ltF (X := j14.toInt) (Y := 48) rfl rfl c132
                refine lv_iload_n C.1 C.2.1 dX9_next_152 rfl (lv_at hl 0 rfl) ?_
                refine lv_bipush (v := 57) C.1 C.2.1 dX9_next_153 (by decide) ?_
                refine lv_icmp_gt (tgt := 165) C.1 C.2.1 dX9_next_155 (by decide) (fun c166 => ?_) (fun c166 => ?_)
                · skip
                  have c166 : 57 < j14.toInt := i_ltT (X := 57) (Y := j14.toInt) rfl rfl c166
                  exact J140    _ _ _ hw (lv_sub hl [0, 1] rfl)
                · skip
                  have c166 : j14.toInt ≤ 57 := i_ltF (X := 57) (Y := j14.toInt) rfl rfl c166
                  refine lv_aload_n C.1 C.2.1 dX9_next_158 rfl (lv_at hl 1 rfl) ?_
                  refine x_callvV (As := []) (rest := []) (wr := []) C hw (s_X9_readRun qt qt_keyCodes qt_bytes qt_size qt_most j15 qt_kind j15 0 0 (-1) qt_fault qt_faultPlace qt_keyCodes_c qt_bytes_c (by omega)) mwX9_readRun kw534 [1, 0, 2] [] rfl rfl rfl rfl (by decide) 0 rfl rfl rfl rfl hl.1 rfl (Nat.le_of_ble_eq_true rfl) ⟨(Nat.le_of_ble_eq_true rfl), (Nat.le_of_ble_eq_true rfl)⟩ ⟨(Nat.le_of_ble_eq_true rfl), (Nat.le_of_ble_eq_true rfl)⟩ dX9_next_159 (fun  u9 H locs hp9 hw => ?_)
                  obtain ⟨x167, x168, x169, x170, x171, rfl, hf172⟩ := hp9
                  have hw : Wd G s A [(qt, .inr (8, [.ref qt_keyCodes, .ref qt_bytes, .int qt_size, .int qt_most, .int x167, .int x168, .int j15, .int x169, .long x170, .int x171, .int qt_fault, .int qt_faultPlace])), (qt_keyCodes, eJ G 27 qt_keyCodes_c), (qt_bytes, eB G 940 qt_bytes_c)] H _ := hw
                  refine lv_goto (tgt := 213) C.1 C.2.1 dX9_next_162 (by decide) ?_
                  exact x_retvQ hQ B hw ⟨x167, x168, j15, x169, x170, x171, rfl, (by omega)⟩ (Nat.le_of_ble_eq_true rfl) (Nat.le_of_ble_eq_true rfl) dX9_next_213
            refine lv_icmp_lt (tgt := 146) C.1 C.2.1 dX9_next_137 (by decide) (fun c104 => ?_) (fun c104 => ?_)
            · skip
              have c104 : j14.toInt < 97 := i_ltT (X := j14.toInt) (Y := 97) rfl rfl c104
              exact J112    _ _ _ hw (lv_sub hl [0, 1] rfl)
            · skip
              have c104 : 97 ≤ j14.toInt := i_ltF (X := j14.toInt) (Y := 97) rfl rfl c104
              refine lv_iload_n C.1 C.2.1 dX9_next_140 rfl (lv_at hl 0 rfl) ?_
              refine lv_bipush (v := 122) C.1 C.2.1 dX9_next_141 (by decide) ?_
              refine lv_icmp_le (tgt := 158) C.1 C.2.1 dX9_next_143 (by decide) (fun c173 => ?_) (fun c173 => ?_)
              · skip
                have c173 : j14.toInt ≤ 122 := i_leT (X := j14.toInt) (Y := 122) rfl rfl c173
                refine lv_aload_n C.1 C.2.1 dX9_next_158 rfl (lv_at hl 1 rfl) ?_
                refine x_callvV (As := []) (rest := []) (wr := []) C hw (s_X9_readRun qt qt_keyCodes qt_bytes qt_size qt_most j15 qt_kind j15 0 0 (-1) qt_fault qt_faultPlace qt_keyCodes_c qt_bytes_c (by omega)) mwX9_readRun kw534 [1, 0, 2] [] rfl rfl rfl rfl (by decide) 0 rfl rfl rfl rfl hl.1 rfl (Nat.le_of_ble_eq_true rfl) ⟨(Nat.le_of_ble_eq_true rfl), (Nat.le_of_ble_eq_true rfl)⟩ ⟨(Nat.le_of_ble_eq_true rfl), (Nat.le_of_ble_eq_true rfl)⟩ dX9_next_159 (fun  u9 H locs hp9 hw => ?_)
                obtain ⟨x174, x175, x176, x177, x178, rfl, hf179⟩ := hp9
                have hw : Wd G s A [(qt, .inr (8, [.ref qt_keyCodes, .ref qt_bytes, .int qt_size, .int qt_most, .int x174, .int x175, .int j15, .int x176, .long x177, .int x178, .int qt_fault, .int qt_faultPlace])), (qt_keyCodes, eJ G 27 qt_keyCodes_c), (qt_bytes, eB G 940 qt_bytes_c)] H _ := hw
                refine lv_goto (tgt := 213) C.1 C.2.1 dX9_next_162 (by decide) ?_
                exact x_retvQ hQ B hw ⟨x174, x175, j15, x176, x177, x178, rfl, (by omega)⟩ (Nat.le_of_ble_eq_true rfl) (Nat.le_of_ble_eq_true rfl) dX9_next_213
              · skip
                have c173 : 122 < j14.toInt := i_leF (X := j14.toInt) (Y := 122) rfl rfl c173
                exact J112    _ _ _ hw (lv_sub hl [0, 1] rfl)
          · skip
            have c103 : qt_size.toInt ≤ j15.toInt := i_ltF (X := j15.toInt) (Y := qt_size.toInt) rfl rfl c103
            have bc103_j15 := i_bd j15
            refine lv_aload_n C.1 C.2.1 dX9_next_126 rfl (lv_at hl 1 rfl) ?_
            refine lv_iconst (v := 0) C.1 C.2.1 dX9_next_127 (by decide) ?_
            refine x_put (w' := [(qt_keyCodes, eJ G 27 qt_keyCodes_c), (qt, .inr (8, [.ref qt_keyCodes, .ref qt_bytes, .int qt_size, .int qt_most, .int j15, .int 0, .int j15, .int 0, .long 0, .int (-1), .int qt_fault, .int qt_faultPlace])), (qt_bytes, eB G 940 qt_bytes_c)]) C hw iwX9 tyX9_ok nmX9 8 rfl 1 rfl 5 (by decide) kw97 rfl rfl rfl (Nat.le_of_ble_eq_true rfl) rfl dX9_next_128 (fun H locs hw => ?_)
            refine lv_goto (tgt := 213) C.1 C.2.1 dX9_next_131 (by decide) ?_
            have hw := hw.sub (w' := [(qt, .inr (8, [.ref qt_keyCodes, .ref qt_bytes, .int qt_size, .int qt_most, .int j15, .int 0, .int j15, .int 0, .long 0, .int (-1), .int qt_fault, .int qt_faultPlace])), (qt_keyCodes, eJ G 27 qt_keyCodes_c), (qt_bytes, eB G 940 qt_bytes_c)]) [1, 0, 2] rfl rfl
            exact x_retvQ hQ B hw ⟨j15, 0, j15, 0, 0, (-1), rfl, (by decide)⟩ (Nat.le_of_ble_eq_true rfl) (Nat.le_of_ble_eq_true rfl) dX9_next_213
        refine lv_icmp_le (tgt := 115) C.1 C.2.1 dX9_next_85 (by decide) (fun c71 => ?_) (fun c71 => ?_)
        · skip
          have c71 : qt_size.toInt ≤ qt_most.toInt := i_leT (X := qt_size.toInt) (Y := qt_most.toInt) rfl rfl c71
          have bc71_qt_most := i_bd qt_most
          exact J73    _ _ _ hw (lv_sub hl [0, 1] rfl)
        · skip
          have c71 : qt_most.toInt < qt_size.toInt := i_leF (X := qt_size.toInt) (Y := qt_most.toInt) rfl rfl c71
          have bc71_qt_most := i_bd qt_most
          refine lv_aload_n C.1 C.2.1 dX9_next_88 rfl (lv_at hl 1 rfl) ?_
          refine x_get C hw iwX9 8 rfl 1 rfl 4 (by decide) kw93 rfl dX9_next_89 ?_
          refine lv_aload_n C.1 C.2.1 dX9_next_92 rfl (lv_at hl 1 rfl) ?_
          refine x_get C hw iwX9 8 rfl 1 rfl 3 (by decide) kw92 rfl dX9_next_93 ?_
          refine lv_icmp_lt (tgt := 115) C.1 C.2.1 dX9_next_96 (by decide) (fun c180 => ?_) (fun c180 => ?_)
          · skip
            have c180 : j15.toInt < qt_most.toInt := i_ltT (X := j15.toInt) (Y := qt_most.toInt) rfl rfl c180
            have bc180_j15 := i_bd j15
            have bc180_qt_most := i_bd qt_most
            exact J73    _ _ _ hw (lv_sub hl [0, 1] rfl)
          · skip
            have c180 : qt_most.toInt ≤ j15.toInt := i_ltF (X := j15.toInt) (Y := qt_most.toInt) rfl rfl c180
            have bc180_j15 := i_bd j15
            have bc180_qt_most := i_bd qt_most
            refine lv_aload_n C.1 C.2.1 dX9_next_99 rfl (lv_at hl 1 rfl) ?_
            refine lv_iconst (v := 1) C.1 C.2.1 dX9_next_100 (by decide) ?_
            refine x_put (w' := [(qt_keyCodes, eJ G 27 qt_keyCodes_c), (qt, .inr (8, [.ref qt_keyCodes, .ref qt_bytes, .int qt_size, .int qt_most, .int j15, .int 1, .int j15, .int 0, .long 0, .int (-1), .int qt_fault, .int qt_faultPlace])), (qt_bytes, eB G 940 qt_bytes_c)]) C hw iwX9 tyX9_ok nmX9 8 rfl 1 rfl 5 (by decide) kw97 rfl rfl rfl (Nat.le_of_ble_eq_true rfl) rfl dX9_next_101 (fun H locs hw => ?_)
            refine lv_aload_n C.1 C.2.1 dX9_next_104 rfl (lv_at hl 1 rfl) ?_
            refine lv_aload_n C.1 C.2.1 dX9_next_105 rfl (lv_at hl 1 rfl) ?_
            refine x_get C hw iwX9 8 rfl 1 rfl 3 (by decide) kw92 rfl dX9_next_106 ?_
            refine x_put (w' := [(qt_keyCodes, eJ G 27 qt_keyCodes_c), (qt, .inr (8, [.ref qt_keyCodes, .ref qt_bytes, .int qt_size, .int qt_most, .int j15, .int 1, .int qt_most, .int 0, .long 0, .int (-1), .int qt_fault, .int qt_faultPlace])), (qt_bytes, eB G 940 qt_bytes_c)]) C hw iwX9 tyX9_ok nmX9 8 rfl 1 rfl 6 (by decide) kw98 rfl rfl rfl (Nat.le_of_ble_eq_true rfl) rfl dX9_next_109 (fun H locs hw => ?_)
            refine lv_goto (tgt := 213) C.1 C.2.1 dX9_next_112 (by decide) ?_
            have hw := hw.sub (w' := [(qt, .inr (8, [.ref qt_keyCodes, .ref qt_bytes, .int qt_size, .int qt_most, .int j15, .int 1, .int qt_most, .int 0, .long 0, .int (-1), .int qt_fault, .int qt_faultPlace])), (qt_keyCodes, eJ G 27 qt_keyCodes_c), (qt_bytes, eB G 940 qt_bytes_c)]) [1, 0, 2] rfl rfl
            exact x_retvQ hQ B hw ⟨j15, 1, qt_most, 0, 0, (-1), rfl, (by decide)⟩ (Nat.le_of_ble_eq_true rfl) (Nat.le_of_ble_eq_true rfl) dX9_next_213
      refine lv_icmp_ge (tgt := 54) C.1 C.2.1 dX9_next_17 (by decide) (fun c29 => ?_) (fun c29 => ?_)
      · skip
        have c29 : qt_size.toInt ≤ j15.toInt := i_leT (X := qt_size.toInt) (Y := j15.toInt) rfl rfl c29
        have bc29_j15 := i_bd j15
        exact J38    _ _ _ hw (lv_sub hl [0, 1] rfl)
      · skip
        have c29 : j15.toInt < qt_size.toInt := i_leF (X := qt_size.toInt) (Y := j15.toInt) rfl rfl c29
        have bc29_j15 := i_bd j15
        refine lv_iload_n C.1 C.2.1 dX9_next_20 rfl (lv_at hl 0 rfl) ?_
        refine lv_bipush (v := 32) C.1 C.2.1 dX9_next_21 (by decide) ?_
        have J183 : ∀ (H : Heap) (locs : List Loc) (ls : Array Slot), Wd G s A [(qt_keyCodes, eJ G 27 qt_keyCodes_c), (qt, .inr (8, [.ref qt_keyCodes, .ref qt_bytes, .int qt_size, .int qt_most, .int j15, .int qt_kind, .int qt_place, .int qt_value, .long qt_code, .int qt_key, .int qt_fault, .int qt_faultPlace])), (qt_bytes, eB G 940 qt_bytes_c)] H locs → lv_has ls 2 [(0, .ref qt)] → W p l e (rmD 2 0 0) s m args below meth c H locs 0 0 Q (F0 m 32 ls []) := by
          intro   H locs ls hw hl
          refine lv_aload_n C.1 C.2.1 dX9_next_32 rfl (lv_at hl 0 rfl) ?_
          refine lv_dup C.1 C.2.1 dX9_next_33 rfl ?_
          refine x_get C hw iwX9 8 rfl 1 rfl 4 (by decide) kw93 rfl dX9_next_34 ?_
          refine lv_iconst (v := 1) C.1 C.2.1 dX9_next_37 (by decide) ?_
          have bb189 := i_bd j15
          refine lv_iadd C.1 C.2.1 dX9_next_38 (x_genP (fun z : Int32 => z.toInt = j15.toInt + 1) (i_add (X := j15.toInt) (Y := 1) rfl rfl (by omega) (by omega)) (fun v190 hv190 => ?_))
          refine x_put (w' := [(qt_keyCodes, eJ G 27 qt_keyCodes_c), (qt, .inr (8, [.ref qt_keyCodes, .ref qt_bytes, .int qt_size, .int qt_most, .int v190, .int qt_kind, .int qt_place, .int qt_value, .long qt_code, .int qt_key, .int qt_fault, .int qt_faultPlace])), (qt_bytes, eB G 940 qt_bytes_c)]) C hw iwX9 tyX9_ok nmX9 8 rfl 1 rfl 4 (by decide) kw93 rfl rfl rfl (Nat.le_of_ble_eq_true rfl) rfl dX9_next_39 (fun H locs hw => ?_)
          refine lv_aload_n C.1 C.2.1 dX9_next_42 rfl (lv_at hl 0 rfl) ?_
          refine lv_aload_n C.1 C.2.1 dX9_next_43 rfl (lv_at hl 0 rfl) ?_
          refine x_get C hw iwX9 8 rfl 1 rfl 4 (by decide) kw93 rfl dX9_next_44 ?_
          refine x_calliV (As := [.int v190]) (rest := []) (wr := [(qt_keyCodes, eJ G 27 qt_keyCodes_c)]) C hw (s_X9_at qt v190 qt_keyCodes qt_bytes qt_size qt_most v190 qt_kind qt_place qt_value qt_code qt_key qt_fault qt_faultPlace qt_bytes_c (by omega)) mwX9_at kw530 [1, 2] [0] rfl rfl rfl rfl (by decide) 0 rfl rfl rfl rfl hl.1 rfl (Nat.le_of_ble_eq_true rfl) ⟨(Nat.le_of_ble_eq_true rfl), (Nat.le_of_ble_eq_true rfl)⟩ ⟨(Nat.le_of_ble_eq_true rfl), (Nat.le_of_ble_eq_true rfl)⟩ dX9_next_47 (fun r191 u9 H locs hp9 hw => ?_)
          obtain ⟨x192, rfl, rfl, hf193⟩ := hp9
          have hw : Wd G s A [(qt_keyCodes, eJ G 27 qt_keyCodes_c), (qt, .inr (8, [.ref qt_keyCodes, .ref qt_bytes, .int qt_size, .int qt_most, .int v190, .int qt_kind, .int qt_place, .int qt_value, .long qt_code, .int qt_key, .int qt_fault, .int qt_faultPlace])), (qt_bytes, eB G 940 qt_bytes_c)] H _ := hw
          refine lv_istore_n (lv' := [(1, .int r191), (0, .ref qt)]) C.1 C.2.1 dX9_next_50 rfl hl (by decide) rfl (fun ls hl => ?_)
          refine lv_goto (tgt := 9) C.1 C.2.1 dX9_next_51 (by decide) ?_
          exact ihJ16 r191 v190 (by omega) (by omega) _ _ _ hw (lv_sub hl [0, 1] rfl)
        refine lv_icmp_eq (tgt := 32) C.1 C.2.1 dX9_next_23 (by decide) (fun c181 => ?_) (fun c181 => ?_)
        · skip
          have c181 : j14.toInt = 32 := i_eqT (X := j14.toInt) (Y := 32) rfl rfl c181
          exact J183    _ _ _ hw (lv_sub hl [1] rfl)
        · skip
          have c181 : j14.toInt ≠ 32 := i_eqF (X := j14.toInt) (Y := 32) rfl rfl c181
          refine lv_iload_n C.1 C.2.1 dX9_next_26 rfl (lv_at hl 0 rfl) ?_
          refine lv_bipush (v := 10) C.1 C.2.1 dX9_next_27 (by decide) ?_
          refine lv_icmp_ne (tgt := 54) C.1 C.2.1 dX9_next_29 (by decide) (fun c194 => ?_) (fun c194 => ?_)
          · skip
            have c194 : j14.toInt ≠ 10 := i_eqF (X := j14.toInt) (Y := 10) rfl rfl c194
            exact J38    _ _ _ hw (lv_sub hl [0, 1] rfl)
          · skip
            have c194 : j14.toInt = 10 := i_eqT (X := j14.toInt) (Y := 10) rfl rfl c194
            exact J183    _ _ _ hw (lv_sub hl [1] rfl)
  exact loopJ16 _ r1 qt_from (Nat.lt_succ_self _) (by omega) _ _ _ hw (lv_sub hl [0, 1] rfl)
set_option maxHeartbeats 4000000 in
set_option maxRecDepth 100000 in
theorem s_X9_isSign {l : Launch} {G : Gc} (qt : Nat) (a1 : Int32) (qt_keyCodes : Nat) (qt_bytes : Nat) (qt_size : Int32) (qt_most : Int32) (qt_from : Int32) (qt_kind : Int32) (qt_place : Int32) (qt_value : Int32) (qt_code : Int64) (qt_key : Int32) (qt_fault : Int32) (qt_faultPlace : Int32)  : Ci l yX9_isSign cX9_isSign 2 (some .boolean) 0 0 0 G [.ref qt, .int a1] [(qt, .inr (8, [.ref qt_keyCodes, .ref qt_bytes, .int qt_size, .int qt_most, .int qt_from, .int qt_kind, .int qt_place, .int qt_value, .long qt_code, .int qt_key, .int qt_fault, .int qt_faultPlace]))] (fun (r9 : Int32) (u9 : va_W) => (r9 = 0 ∧ u9 = [(qt, .inr (8, [.ref qt_keyCodes, .ref qt_bytes, .int qt_size, .int qt_most, .int qt_from, .int qt_kind, .int qt_place, .int qt_value, .long qt_code, .int qt_key, .int qt_fault, .int qt_faultPlace]))]) ∨ (r9 = 1 ∧ u9 = [(qt, .inr (8, [.ref qt_keyCodes, .ref qt_bytes, .int qt_size, .int qt_most, .int qt_from, .int qt_kind, .int qt_place, .int qt_value, .long qt_code, .int qt_key, .int qt_fault, .int qt_faultPlace]))])) := by
  refine Ci.ofQ (by decide) (Nat.le_of_ble_eq_true rfl) ?_
  intro p e s m below meth c ls A args Q hQ B hw hl
  have C : CallFix p m c cX9_isSign 2 s args gw "LanternState$Tape" := B.1
  have hl : lv_has ls 2 [(0, .ref qt), (1, .int a1)] := hl
  refine lv_aload_n C.1 C.2.1 dX9_isSign_0 rfl (lv_at hl 0 rfl) ?_
  refine x_get C hw iwX9 8 rfl 0 rfl 5 (by decide) kw97 rfl dX9_isSign_1 ?_
  refine lv_iconst (v := 5) C.1 C.2.1 dX9_isSign_4 (by decide) ?_
  refine lv_icmp_ne (tgt := 20) C.1 C.2.1 dX9_isSign_5 (by decide) (fun c1 => ?_) (fun c1 => ?_)
  · skip
    have c1 : qt_kind.toInt ≠ 5 := i_eqF (X := qt_kind.toInt) (Y := 5) rfl rfl c1
    have bc1_qt_kind := i_bd qt_kind
    refine lv_iconst (v := 0) C.1 C.2.1 dX9_isSign_20 (by decide) ?_
    exact x_retzQ hQ B hw rfl (Or.inl ⟨rfl, rfl⟩) (Nat.le_of_ble_eq_true rfl) (Nat.le_of_ble_eq_true rfl) dX9_isSign_21
  · skip
    have c1 : qt_kind.toInt = 5 := i_eqT (X := qt_kind.toInt) (Y := 5) rfl rfl c1
    have bc1_qt_kind := i_bd qt_kind
    refine lv_aload_n C.1 C.2.1 dX9_isSign_8 rfl (lv_at hl 0 rfl) ?_
    refine x_get C hw iwX9 8 rfl 0 rfl 7 (by decide) kw101 rfl dX9_isSign_9 ?_
    refine lv_iload_n C.1 C.2.1 dX9_isSign_12 rfl (lv_at hl 1 rfl) ?_
    refine lv_icmp_ne (tgt := 20) C.1 C.2.1 dX9_isSign_13 (by decide) (fun c2 => ?_) (fun c2 => ?_)
    · skip
      have c2 : qt_value.toInt ≠ a1.toInt := i_eqF (X := qt_value.toInt) (Y := a1.toInt) rfl rfl c2
      have bc2_qt_value := i_bd qt_value
      have bc2_a1 := i_bd a1
      refine lv_iconst (v := 0) C.1 C.2.1 dX9_isSign_20 (by decide) ?_
      exact x_retzQ hQ B hw rfl (Or.inl ⟨rfl, rfl⟩) (Nat.le_of_ble_eq_true rfl) (Nat.le_of_ble_eq_true rfl) dX9_isSign_21
    · skip
      have c2 : qt_value.toInt = a1.toInt := i_eqT (X := qt_value.toInt) (Y := a1.toInt) rfl rfl c2
      have bc2_qt_value := i_bd qt_value
      have bc2_a1 := i_bd a1
      refine lv_iconst (v := 1) C.1 C.2.1 dX9_isSign_16 (by decide) ?_
      refine lv_goto (tgt := 21) C.1 C.2.1 dX9_isSign_17 (by decide) ?_
      exact x_retzQ hQ B hw rfl (Or.inr ⟨rfl, rfl⟩) (Nat.le_of_ble_eq_true rfl) (Nat.le_of_ble_eq_true rfl) dX9_isSign_21
set_option maxHeartbeats 4000000 in
set_option maxRecDepth 100000 in
theorem s_X9_takeNumber {l : Launch} {G : Gc} (qt : Nat) (a1 : Int32) (a2 : Int32) (qt_keyCodes : Nat) (qt_bytes : Nat) (qt_size : Int32) (qt_most : Int32) (qt_from : Int32) (qt_kind : Int32) (qt_place : Int32) (qt_value : Int32) (qt_code : Int64) (qt_key : Int32) (qt_fault : Int32) (qt_faultPlace : Int32) (qt_keyCodes_c : Nat → Int64) (qt_bytes_c : Nat → Int32) (hi_qt_size : 0 ≤ qt_size.toInt ∧ qt_size.toInt ≤ 940) : Ci l yX9_takeNumber cX9_takeNumber 3 (some .boolean) 3 0 0 G [.ref qt, .int a1, .int a2] [(qt, .inr (8, [.ref qt_keyCodes, .ref qt_bytes, .int qt_size, .int qt_most, .int qt_from, .int qt_kind, .int qt_place, .int qt_value, .long qt_code, .int qt_key, .int qt_fault, .int qt_faultPlace])), (qt_keyCodes, eJ G 27 qt_keyCodes_c), (qt_bytes, eB G 940 qt_bytes_c)] (fun (r9 : Int32) (u9 : va_W) => (∃ (x0_qt_from : Int32) (x1_qt_kind : Int32) (x2_qt_place : Int32) (x3_qt_value : Int32) (x4_qt_code : Int64) (x5_qt_key : Int32) (x6_qt_fault : Int32) (x7_qt_faultPlace : Int32), r9 = 0 ∧ u9 = [(qt, .inr (8, [.ref qt_keyCodes, .ref qt_bytes, .int qt_size, .int qt_most, .int x0_qt_from, .int x1_qt_kind, .int x2_qt_place, .int x3_qt_value, .long x4_qt_code, .int x5_qt_key, .int x6_qt_fault, .int x7_qt_faultPlace])), (qt_keyCodes, eJ G 27 qt_keyCodes_c), (qt_bytes, eB G 940 qt_bytes_c)] ∧ (0 ≤ x1_qt_kind.toInt ∧ x1_qt_kind.toInt ≤ 5)) ∨ (∃ (x0_qt_from : Int32) (x1_qt_kind : Int32) (x2_qt_place : Int32) (x3_qt_value : Int32) (x4_qt_code : Int64) (x5_qt_key : Int32), r9 = 1 ∧ u9 = [(qt, .inr (8, [.ref qt_keyCodes, .ref qt_bytes, .int qt_size, .int qt_most, .int x0_qt_from, .int x1_qt_kind, .int x2_qt_place, .int x3_qt_value, .long x4_qt_code, .int x5_qt_key, .int qt_fault, .int qt_faultPlace])), (qt_keyCodes, eJ G 27 qt_keyCodes_c), (qt_bytes, eB G 940 qt_bytes_c)] ∧ (4 ≤ x1_qt_kind.toInt ∧ x1_qt_kind.toInt ≤ 4))) := by
  refine Ci.ofQ (by decide) (Nat.le_of_ble_eq_true rfl) ?_
  intro p e s m below meth c ls A args Q hQ B hw hl
  have C : CallFix p m c cX9_takeNumber 3 s args gw "LanternState$Tape" := B.1
  have hl : lv_has ls 3 [(0, .ref qt), (1, .int a1), (2, .int a2)] := hl
  refine lv_aload_n C.1 C.2.1 dX9_takeNumber_0 rfl (lv_at hl 0 rfl) ?_
  refine x_callvV (As := []) (rest := []) (wr := []) C hw (s_X9_next qt qt_keyCodes qt_bytes qt_size qt_most qt_from qt_kind qt_place qt_value qt_code qt_key qt_fault qt_faultPlace qt_keyCodes_c qt_bytes_c (by omega)) mwX9_next kw554 [0, 1, 2] [] rfl rfl rfl rfl (by decide) 0 rfl rfl rfl rfl hl.1 rfl (Nat.le_of_ble_eq_true rfl) ⟨(Nat.le_of_ble_eq_true rfl), (Nat.le_of_ble_eq_true rfl)⟩ ⟨(Nat.le_of_ble_eq_true rfl), (Nat.le_of_ble_eq_true rfl)⟩ dX9_takeNumber_1 (fun  u9 H locs hp9 hw => ?_)
  obtain ⟨x1, x2, x3, x4, x5, x6, rfl, hf7⟩ := hp9
  have hw : Wd G s A [(qt, .inr (8, [.ref qt_keyCodes, .ref qt_bytes, .int qt_size, .int qt_most, .int x1, .int x2, .int x3, .int x4, .long x5, .int x6, .int qt_fault, .int qt_faultPlace])), (qt_keyCodes, eJ G 27 qt_keyCodes_c), (qt_bytes, eB G 940 qt_bytes_c)] H _ := hw
  refine lv_aload_n C.1 C.2.1 dX9_takeNumber_4 rfl (lv_at hl 0 rfl) ?_
  refine x_get C hw iwX9 8 rfl 0 rfl 5 (by decide) kw97 rfl dX9_takeNumber_5 ?_
  refine lv_iconst (v := 4) C.1 C.2.1 dX9_takeNumber_8 (by decide) ?_
  refine lv_icmp_eq (tgt := 18) C.1 C.2.1 dX9_takeNumber_9 (by decide) (fun c8 => ?_) (fun c8 => ?_)
  · skip
    have c8 : x2.toInt = 4 := i_eqT (X := x2.toInt) (Y := 4) rfl rfl c8
    refine lv_aload_n C.1 C.2.1 dX9_takeNumber_18 rfl (lv_at hl 0 rfl) ?_
    refine x_get C hw iwX9 8 rfl 0 rfl 7 (by decide) kw101 rfl dX9_takeNumber_19 ?_
    refine lv_iload_n C.1 C.2.1 dX9_takeNumber_22 rfl (lv_at hl 1 rfl) ?_
    have J11 : ∀ (H : Heap) (locs : List Loc) (ls : Array Slot), Wd G s A [(qt, .inr (8, [.ref qt_keyCodes, .ref qt_bytes, .int qt_size, .int qt_most, .int x1, .int x2, .int x3, .int x4, .long x5, .int x6, .int qt_fault, .int qt_faultPlace])), (qt_keyCodes, eJ G 27 qt_keyCodes_c), (qt_bytes, eB G 940 qt_bytes_c)] H locs → lv_has ls 3 [(0, .ref qt)] → W p l e (rmD 3 0 0) s m args below meth c H locs 0 0 Q (F0 m 34 ls []) := by
      intro   H locs ls hw hl
      refine lv_aload_n C.1 C.2.1 dX9_takeNumber_34 rfl (lv_at hl 0 rfl) ?_
      refine lv_iconst (v := 2) C.1 C.2.1 dX9_takeNumber_35 (by decide) ?_
      refine x_calliV (As := [.int 2]) (rest := []) (wr := [(qt_keyCodes, eJ G 27 qt_keyCodes_c), (qt_bytes, eB G 940 qt_bytes_c)]) C hw (s_X9_fail qt 2 qt_keyCodes qt_bytes qt_size qt_most x1 x2 x3 x4 x5 x6 qt_fault qt_faultPlace) mwX9_fail kw555 [0] [1, 2] rfl rfl rfl rfl (by decide) 0 rfl rfl rfl rfl hl.1 rfl (Nat.le_of_ble_eq_true rfl) ⟨(Nat.le_of_ble_eq_true rfl), (Nat.le_of_ble_eq_true rfl)⟩ ⟨(Nat.le_of_ble_eq_true rfl), (Nat.le_of_ble_eq_true rfl)⟩ dX9_takeNumber_36 (fun r15 u9 H locs hp9 hw => ?_)
      obtain ⟨x16, x17, rfl, rfl⟩ := hp9
      have hw : Wd G s A [(qt_keyCodes, eJ G 27 qt_keyCodes_c), (qt_bytes, eB G 940 qt_bytes_c), (qt, .inr (8, [.ref qt_keyCodes, .ref qt_bytes, .int qt_size, .int qt_most, .int x1, .int x2, .int x3, .int x4, .long x5, .int x6, .int x16, .int x17]))] H _ := hw
      refine lv_if_eq (tgt := 46) C.1 C.2.1 dX9_takeNumber_39 (by decide) (fun _ => ?_) (fun h9 => absurd (by decide) h9)
      refine lv_iconst (v := 0) C.1 C.2.1 dX9_takeNumber_46 (by decide) ?_
      have hw := hw.sub (w' := [(qt, .inr (8, [.ref qt_keyCodes, .ref qt_bytes, .int qt_size, .int qt_most, .int x1, .int x2, .int x3, .int x4, .long x5, .int x6, .int x16, .int x17])), (qt_keyCodes, eJ G 27 qt_keyCodes_c), (qt_bytes, eB G 940 qt_bytes_c)]) [2, 0, 1] rfl rfl
      exact x_retzQ hQ B hw rfl (Or.inl ⟨x1, x2, x3, x4, x5, x6, x16, x17, rfl, rfl, (by omega)⟩) (Nat.le_of_ble_eq_true rfl) (Nat.le_of_ble_eq_true rfl) dX9_takeNumber_47
    refine lv_icmp_lt (tgt := 34) C.1 C.2.1 dX9_takeNumber_23 (by decide) (fun c9 => ?_) (fun c9 => ?_)
    · skip
      have c9 : x4.toInt < a1.toInt := i_ltT (X := x4.toInt) (Y := a1.toInt) rfl rfl c9
      have bc9_x4 := i_bd x4
      have bc9_a1 := i_bd a1
      exact J11    _ _ _ hw (lv_sub hl [0] rfl)
    · skip
      have c9 : a1.toInt ≤ x4.toInt := i_ltF (X := x4.toInt) (Y := a1.toInt) rfl rfl c9
      have bc9_x4 := i_bd x4
      have bc9_a1 := i_bd a1
      refine lv_aload_n C.1 C.2.1 dX9_takeNumber_26 rfl (lv_at hl 0 rfl) ?_
      refine x_get C hw iwX9 8 rfl 0 rfl 7 (by decide) kw101 rfl dX9_takeNumber_27 ?_
      refine lv_iload_n C.1 C.2.1 dX9_takeNumber_30 rfl (lv_at hl 2 rfl) ?_
      refine lv_icmp_le (tgt := 42) C.1 C.2.1 dX9_takeNumber_31 (by decide) (fun c18 => ?_) (fun c18 => ?_)
      · skip
        have c18 : x4.toInt ≤ a2.toInt := i_leT (X := x4.toInt) (Y := a2.toInt) rfl rfl c18
        have bc18_x4 := i_bd x4
        have bc18_a2 := i_bd a2
        refine lv_iconst (v := 1) C.1 C.2.1 dX9_takeNumber_42 (by decide) ?_
        refine lv_goto (tgt := 47) C.1 C.2.1 dX9_takeNumber_43 (by decide) ?_
        exact x_retzQ hQ B hw rfl (Or.inr ⟨x1, x2, x3, x4, x5, x6, rfl, rfl, (by omega)⟩) (Nat.le_of_ble_eq_true rfl) (Nat.le_of_ble_eq_true rfl) dX9_takeNumber_47
      · skip
        have c18 : a2.toInt < x4.toInt := i_leF (X := x4.toInt) (Y := a2.toInt) rfl rfl c18
        have bc18_x4 := i_bd x4
        have bc18_a2 := i_bd a2
        exact J11    _ _ _ hw (lv_sub hl [0] rfl)
  · skip
    have c8 : x2.toInt ≠ 4 := i_eqF (X := x2.toInt) (Y := 4) rfl rfl c8
    refine lv_aload_n C.1 C.2.1 dX9_takeNumber_12 rfl (lv_at hl 0 rfl) ?_
    refine lv_iconst (v := 1) C.1 C.2.1 dX9_takeNumber_13 (by decide) ?_
    refine x_calliV (As := [.int 1]) (rest := []) (wr := [(qt_keyCodes, eJ G 27 qt_keyCodes_c), (qt_bytes, eB G 940 qt_bytes_c)]) C hw (s_X9_fail qt 1 qt_keyCodes qt_bytes qt_size qt_most x1 x2 x3 x4 x5 x6 qt_fault qt_faultPlace) mwX9_fail kw555 [0] [1, 2] rfl rfl rfl rfl (by decide) 0 rfl rfl rfl rfl hl.1 rfl (Nat.le_of_ble_eq_true rfl) ⟨(Nat.le_of_ble_eq_true rfl), (Nat.le_of_ble_eq_true rfl)⟩ ⟨(Nat.le_of_ble_eq_true rfl), (Nat.le_of_ble_eq_true rfl)⟩ dX9_takeNumber_14 (fun r19 u9 H locs hp9 hw => ?_)
    obtain ⟨x20, x21, rfl, rfl⟩ := hp9
    have hw : Wd G s A [(qt_keyCodes, eJ G 27 qt_keyCodes_c), (qt_bytes, eB G 940 qt_bytes_c), (qt, .inr (8, [.ref qt_keyCodes, .ref qt_bytes, .int qt_size, .int qt_most, .int x1, .int x2, .int x3, .int x4, .long x5, .int x6, .int x20, .int x21]))] H _ := hw
    have hw := hw.sub (w' := [(qt, .inr (8, [.ref qt_keyCodes, .ref qt_bytes, .int qt_size, .int qt_most, .int x1, .int x2, .int x3, .int x4, .long x5, .int x6, .int x20, .int x21])), (qt_keyCodes, eJ G 27 qt_keyCodes_c), (qt_bytes, eB G 940 qt_bytes_c)]) [2, 0, 1] rfl rfl
    exact x_retzQ hQ B hw rfl (Or.inl ⟨x1, x2, x3, x4, x5, x6, x20, x21, rfl, rfl, (by omega)⟩) (Nat.le_of_ble_eq_true rfl) (Nat.le_of_ble_eq_true rfl) dX9_takeNumber_17
set_option maxHeartbeats 4000000 in
set_option maxRecDepth 100000 in
theorem s_X9_takeName {l : Launch} {G : Gc} (qt : Nat) (qt_keyCodes : Nat) (qt_bytes : Nat) (qt_size : Int32) (qt_most : Int32) (qt_from : Int32) (qt_kind : Int32) (qt_place : Int32) (qt_value : Int32) (qt_code : Int64) (qt_key : Int32) (qt_fault : Int32) (qt_faultPlace : Int32) (qt_keyCodes_c : Nat → Int64) (qt_bytes_c : Nat → Int32) (hi_qt_size : 0 ≤ qt_size.toInt ∧ qt_size.toInt ≤ 940) : Ci l yX9_takeName cX9_takeName 1 (some .boolean) 3 0 0 G [.ref qt] [(qt, .inr (8, [.ref qt_keyCodes, .ref qt_bytes, .int qt_size, .int qt_most, .int qt_from, .int qt_kind, .int qt_place, .int qt_value, .long qt_code, .int qt_key, .int qt_fault, .int qt_faultPlace])), (qt_keyCodes, eJ G 27 qt_keyCodes_c), (qt_bytes, eB G 940 qt_bytes_c)] (fun (r9 : Int32) (u9 : va_W) => (∃ (x0_qt_from : Int32) (x1_qt_kind : Int32) (x2_qt_place : Int32) (x3_qt_value : Int32) (x4_qt_code : Int64) (x5_qt_key : Int32) (x6_qt_fault : Int32) (x7_qt_faultPlace : Int32), r9 = 0 ∧ u9 = [(qt, .inr (8, [.ref qt_keyCodes, .ref qt_bytes, .int qt_size, .int qt_most, .int x0_qt_from, .int x1_qt_kind, .int x2_qt_place, .int x3_qt_value, .long x4_qt_code, .int x5_qt_key, .int x6_qt_fault, .int x7_qt_faultPlace])), (qt_keyCodes, eJ G 27 qt_keyCodes_c), (qt_bytes, eB G 940 qt_bytes_c)] ∧ (0 ≤ x1_qt_kind.toInt ∧ x1_qt_kind.toInt ≤ 5)) ∨ (∃ (x0_qt_from : Int32) (x1_qt_kind : Int32) (x2_qt_place : Int32) (x3_qt_value : Int32) (x4_qt_code : Int64) (x5_qt_key : Int32), r9 = 1 ∧ u9 = [(qt, .inr (8, [.ref qt_keyCodes, .ref qt_bytes, .int qt_size, .int qt_most, .int x0_qt_from, .int x1_qt_kind, .int x2_qt_place, .int x3_qt_value, .long x4_qt_code, .int x5_qt_key, .int qt_fault, .int qt_faultPlace])), (qt_keyCodes, eJ G 27 qt_keyCodes_c), (qt_bytes, eB G 940 qt_bytes_c)] ∧ (2 ≤ x1_qt_kind.toInt ∧ x1_qt_kind.toInt ≤ 2))) := by
  refine Ci.ofQ (by decide) (Nat.le_of_ble_eq_true rfl) ?_
  intro p e s m below meth c ls A args Q hQ B hw hl
  have C : CallFix p m c cX9_takeName 1 s args gw "LanternState$Tape" := B.1
  have hl : lv_has ls 1 [(0, .ref qt)] := hl
  refine lv_aload_n C.1 C.2.1 dX9_takeName_0 rfl (lv_at hl 0 rfl) ?_
  refine x_callvV (As := []) (rest := []) (wr := []) C hw (s_X9_next qt qt_keyCodes qt_bytes qt_size qt_most qt_from qt_kind qt_place qt_value qt_code qt_key qt_fault qt_faultPlace qt_keyCodes_c qt_bytes_c (by omega)) mwX9_next kw554 [0, 1, 2] [] rfl rfl rfl rfl (by decide) 0 rfl rfl rfl rfl hl.1 rfl (Nat.le_of_ble_eq_true rfl) ⟨(Nat.le_of_ble_eq_true rfl), (Nat.le_of_ble_eq_true rfl)⟩ ⟨(Nat.le_of_ble_eq_true rfl), (Nat.le_of_ble_eq_true rfl)⟩ dX9_takeName_1 (fun  u9 H locs hp9 hw => ?_)
  obtain ⟨x1, x2, x3, x4, x5, x6, rfl, hf7⟩ := hp9
  have hw : Wd G s A [(qt, .inr (8, [.ref qt_keyCodes, .ref qt_bytes, .int qt_size, .int qt_most, .int x1, .int x2, .int x3, .int x4, .long x5, .int x6, .int qt_fault, .int qt_faultPlace])), (qt_keyCodes, eJ G 27 qt_keyCodes_c), (qt_bytes, eB G 940 qt_bytes_c)] H _ := hw
  refine lv_aload_n C.1 C.2.1 dX9_takeName_4 rfl (lv_at hl 0 rfl) ?_
  refine x_get C hw iwX9 8 rfl 0 rfl 5 (by decide) kw97 rfl dX9_takeName_5 ?_
  refine lv_iconst (v := 2) C.1 C.2.1 dX9_takeName_8 (by decide) ?_
  refine lv_icmp_eq (tgt := 20) C.1 C.2.1 dX9_takeName_9 (by decide) (fun c8 => ?_) (fun c8 => ?_)
  · skip
    have c8 : x2.toInt = 2 := i_eqT (X := x2.toInt) (Y := 2) rfl rfl c8
    refine lv_iconst (v := 1) C.1 C.2.1 dX9_takeName_20 (by decide) ?_
    refine lv_goto (tgt := 25) C.1 C.2.1 dX9_takeName_21 (by decide) ?_
    exact x_retzQ hQ B hw rfl (Or.inr ⟨x1, x2, x3, x4, x5, x6, rfl, rfl, (by omega)⟩) (Nat.le_of_ble_eq_true rfl) (Nat.le_of_ble_eq_true rfl) dX9_takeName_25
  · skip
    have c8 : x2.toInt ≠ 2 := i_eqF (X := x2.toInt) (Y := 2) rfl rfl c8
    refine lv_aload_n C.1 C.2.1 dX9_takeName_12 rfl (lv_at hl 0 rfl) ?_
    refine lv_iconst (v := 1) C.1 C.2.1 dX9_takeName_13 (by decide) ?_
    refine x_calliV (As := [.int 1]) (rest := []) (wr := [(qt_keyCodes, eJ G 27 qt_keyCodes_c), (qt_bytes, eB G 940 qt_bytes_c)]) C hw (s_X9_fail qt 1 qt_keyCodes qt_bytes qt_size qt_most x1 x2 x3 x4 x5 x6 qt_fault qt_faultPlace) mwX9_fail kw555 [0] [1, 2] rfl rfl rfl rfl (by decide) 0 rfl rfl rfl rfl hl.1 rfl (Nat.le_of_ble_eq_true rfl) ⟨(Nat.le_of_ble_eq_true rfl), (Nat.le_of_ble_eq_true rfl)⟩ ⟨(Nat.le_of_ble_eq_true rfl), (Nat.le_of_ble_eq_true rfl)⟩ dX9_takeName_14 (fun r9 u9 H locs hp9 hw => ?_)
    obtain ⟨x10, x11, rfl, rfl⟩ := hp9
    have hw : Wd G s A [(qt_keyCodes, eJ G 27 qt_keyCodes_c), (qt_bytes, eB G 940 qt_bytes_c), (qt, .inr (8, [.ref qt_keyCodes, .ref qt_bytes, .int qt_size, .int qt_most, .int x1, .int x2, .int x3, .int x4, .long x5, .int x6, .int x10, .int x11]))] H _ := hw
    refine lv_if_eq (tgt := 24) C.1 C.2.1 dX9_takeName_17 (by decide) (fun _ => ?_) (fun h9 => absurd (by decide) h9)
    refine lv_iconst (v := 0) C.1 C.2.1 dX9_takeName_24 (by decide) ?_
    have hw := hw.sub (w' := [(qt, .inr (8, [.ref qt_keyCodes, .ref qt_bytes, .int qt_size, .int qt_most, .int x1, .int x2, .int x3, .int x4, .long x5, .int x6, .int x10, .int x11])), (qt_keyCodes, eJ G 27 qt_keyCodes_c), (qt_bytes, eB G 940 qt_bytes_c)]) [2, 0, 1] rfl rfl
    exact x_retzQ hQ B hw rfl (Or.inl ⟨x1, x2, x3, x4, x5, x6, x10, x11, rfl, rfl, (by omega)⟩) (Nat.le_of_ble_eq_true rfl) (Nat.le_of_ble_eq_true rfl) dX9_takeName_25
set_option maxHeartbeats 4000000 in
set_option maxRecDepth 100000 in
theorem s_X9_takeSeat {l : Launch} {G : Gc} (qt : Nat) (qt_keyCodes : Nat) (qt_bytes : Nat) (qt_size : Int32) (qt_most : Int32) (qt_from : Int32) (qt_kind : Int32) (qt_place : Int32) (qt_value : Int32) (qt_code : Int64) (qt_key : Int32) (qt_fault : Int32) (qt_faultPlace : Int32) (qt_keyCodes_c : Nat → Int64) (qt_bytes_c : Nat → Int32) (hi_qt_size : 0 ≤ qt_size.toInt ∧ qt_size.toInt ≤ 940) : Ci l yX9_takeSeat cX9_takeSeat 1 (some .boolean) 3 0 0 G [.ref qt] [(qt, .inr (8, [.ref qt_keyCodes, .ref qt_bytes, .int qt_size, .int qt_most, .int qt_from, .int qt_kind, .int qt_place, .int qt_value, .long qt_code, .int qt_key, .int qt_fault, .int qt_faultPlace])), (qt_keyCodes, eJ G 27 qt_keyCodes_c), (qt_bytes, eB G 940 qt_bytes_c)] (fun (r9 : Int32) (u9 : va_W) => (∃ (x0_qt_from : Int32) (x1_qt_kind : Int32) (x2_qt_place : Int32) (x3_qt_value : Int32) (x4_qt_code : Int64) (x5_qt_key : Int32) (x6_qt_fault : Int32) (x7_qt_faultPlace : Int32), r9 = 0 ∧ u9 = [(qt, .inr (8, [.ref qt_keyCodes, .ref qt_bytes, .int qt_size, .int qt_most, .int x0_qt_from, .int x1_qt_kind, .int x2_qt_place, .int x3_qt_value, .long x4_qt_code, .int x5_qt_key, .int x6_qt_fault, .int x7_qt_faultPlace])), (qt_keyCodes, eJ G 27 qt_keyCodes_c), (qt_bytes, eB G 940 qt_bytes_c)] ∧ (0 ≤ x1_qt_kind.toInt ∧ x1_qt_kind.toInt ≤ 5)) ∨ (∃ (x0_qt_from : Int32) (x1_qt_kind : Int32) (x2_qt_place : Int32) (x3_qt_value : Int32) (x4_qt_code : Int64) (x5_qt_key : Int32), r9 = 1 ∧ u9 = [(qt, .inr (8, [.ref qt_keyCodes, .ref qt_bytes, .int qt_size, .int qt_most, .int x0_qt_from, .int x1_qt_kind, .int x2_qt_place, .int x3_qt_value, .long x4_qt_code, .int x5_qt_key, .int qt_fault, .int qt_faultPlace])), (qt_keyCodes, eJ G 27 qt_keyCodes_c), (qt_bytes, eB G 940 qt_bytes_c)] ∧ (0 ≤ x1_qt_kind.toInt ∧ x1_qt_kind.toInt ≤ 5) ∧ (9 ≤ x5_qt_key.toInt ∧ x5_qt_key.toInt ≤ 10))) := by
  refine Ci.ofQ (by decide) (Nat.le_of_ble_eq_true rfl) ?_
  intro p e s m below meth c ls A args Q hQ B hw hl
  have C : CallFix p m c cX9_takeSeat 1 s args gw "LanternState$Tape" := B.1
  have hl : lv_has ls 1 [(0, .ref qt)] := hl
  refine lv_aload_n C.1 C.2.1 dX9_takeSeat_0 rfl (lv_at hl 0 rfl) ?_
  refine x_callvV (As := []) (rest := []) (wr := []) C hw (s_X9_next qt qt_keyCodes qt_bytes qt_size qt_most qt_from qt_kind qt_place qt_value qt_code qt_key qt_fault qt_faultPlace qt_keyCodes_c qt_bytes_c (by omega)) mwX9_next kw554 [0, 1, 2] [] rfl rfl rfl rfl (by decide) 0 rfl rfl rfl rfl hl.1 rfl (Nat.le_of_ble_eq_true rfl) ⟨(Nat.le_of_ble_eq_true rfl), (Nat.le_of_ble_eq_true rfl)⟩ ⟨(Nat.le_of_ble_eq_true rfl), (Nat.le_of_ble_eq_true rfl)⟩ dX9_takeSeat_1 (fun  u9 H locs hp9 hw => ?_)
  obtain ⟨x1, x2, x3, x4, x5, x6, rfl, hf7⟩ := hp9
  have hw : Wd G s A [(qt, .inr (8, [.ref qt_keyCodes, .ref qt_bytes, .int qt_size, .int qt_most, .int x1, .int x2, .int x3, .int x4, .long x5, .int x6, .int qt_fault, .int qt_faultPlace])), (qt_keyCodes, eJ G 27 qt_keyCodes_c), (qt_bytes, eB G 940 qt_bytes_c)] H _ := hw
  refine lv_aload_n C.1 C.2.1 dX9_takeSeat_4 rfl (lv_at hl 0 rfl) ?_
  refine x_get C hw iwX9 8 rfl 0 rfl 9 (by decide) kw109 rfl dX9_takeSeat_5 ?_
  refine lv_bipush (v := 9) C.1 C.2.1 dX9_takeSeat_8 (by decide) ?_
  refine lv_icmp_eq (tgt := 30) C.1 C.2.1 dX9_takeSeat_10 (by decide) (fun c8 => ?_) (fun c8 => ?_)
  · skip
    have c8 : x6.toInt = 9 := i_eqT (X := x6.toInt) (Y := 9) rfl rfl c8
    have bc8_x6 := i_bd x6
    refine lv_iconst (v := 1) C.1 C.2.1 dX9_takeSeat_30 (by decide) ?_
    refine lv_goto (tgt := 35) C.1 C.2.1 dX9_takeSeat_31 (by decide) ?_
    exact x_retzQ hQ B hw rfl (Or.inr ⟨x1, x2, x3, x4, x5, x6, rfl, rfl, (by omega), (by omega)⟩) (Nat.le_of_ble_eq_true rfl) (Nat.le_of_ble_eq_true rfl) dX9_takeSeat_35
  · skip
    have c8 : x6.toInt ≠ 9 := i_eqF (X := x6.toInt) (Y := 9) rfl rfl c8
    have bc8_x6 := i_bd x6
    refine lv_aload_n C.1 C.2.1 dX9_takeSeat_13 rfl (lv_at hl 0 rfl) ?_
    refine x_get C hw iwX9 8 rfl 0 rfl 9 (by decide) kw109 rfl dX9_takeSeat_14 ?_
    refine lv_bipush (v := 10) C.1 C.2.1 dX9_takeSeat_17 (by decide) ?_
    refine lv_icmp_eq (tgt := 30) C.1 C.2.1 dX9_takeSeat_19 (by decide) (fun c9 => ?_) (fun c9 => ?_)
    · skip
      have c9 : x6.toInt = 10 := i_eqT (X := x6.toInt) (Y := 10) rfl rfl c9
      have bc9_x6 := i_bd x6
      refine lv_iconst (v := 1) C.1 C.2.1 dX9_takeSeat_30 (by decide) ?_
      refine lv_goto (tgt := 35) C.1 C.2.1 dX9_takeSeat_31 (by decide) ?_
      exact x_retzQ hQ B hw rfl (Or.inr ⟨x1, x2, x3, x4, x5, x6, rfl, rfl, (by omega), (by omega)⟩) (Nat.le_of_ble_eq_true rfl) (Nat.le_of_ble_eq_true rfl) dX9_takeSeat_35
    · skip
      have c9 : x6.toInt ≠ 10 := i_eqF (X := x6.toInt) (Y := 10) rfl rfl c9
      have bc9_x6 := i_bd x6
      refine lv_aload_n C.1 C.2.1 dX9_takeSeat_22 rfl (lv_at hl 0 rfl) ?_
      refine lv_iconst (v := 1) C.1 C.2.1 dX9_takeSeat_23 (by decide) ?_
      refine x_calliV (As := [.int 1]) (rest := []) (wr := [(qt_keyCodes, eJ G 27 qt_keyCodes_c), (qt_bytes, eB G 940 qt_bytes_c)]) C hw (s_X9_fail qt 1 qt_keyCodes qt_bytes qt_size qt_most x1 x2 x3 x4 x5 x6 qt_fault qt_faultPlace) mwX9_fail kw555 [0] [1, 2] rfl rfl rfl rfl (by decide) 0 rfl rfl rfl rfl hl.1 rfl (Nat.le_of_ble_eq_true rfl) ⟨(Nat.le_of_ble_eq_true rfl), (Nat.le_of_ble_eq_true rfl)⟩ ⟨(Nat.le_of_ble_eq_true rfl), (Nat.le_of_ble_eq_true rfl)⟩ dX9_takeSeat_24 (fun r10 u9 H locs hp9 hw => ?_)
      obtain ⟨x11, x12, rfl, rfl⟩ := hp9
      have hw : Wd G s A [(qt_keyCodes, eJ G 27 qt_keyCodes_c), (qt_bytes, eB G 940 qt_bytes_c), (qt, .inr (8, [.ref qt_keyCodes, .ref qt_bytes, .int qt_size, .int qt_most, .int x1, .int x2, .int x3, .int x4, .long x5, .int x6, .int x11, .int x12]))] H _ := hw
      refine lv_if_eq (tgt := 34) C.1 C.2.1 dX9_takeSeat_27 (by decide) (fun _ => ?_) (fun h9 => absurd (by decide) h9)
      refine lv_iconst (v := 0) C.1 C.2.1 dX9_takeSeat_34 (by decide) ?_
      have hw := hw.sub (w' := [(qt, .inr (8, [.ref qt_keyCodes, .ref qt_bytes, .int qt_size, .int qt_most, .int x1, .int x2, .int x3, .int x4, .long x5, .int x6, .int x11, .int x12])), (qt_keyCodes, eJ G 27 qt_keyCodes_c), (qt_bytes, eB G 940 qt_bytes_c)]) [2, 0, 1] rfl rfl
      exact x_retzQ hQ B hw rfl (Or.inl ⟨x1, x2, x3, x4, x5, x6, x11, x12, rfl, rfl, (by omega)⟩) (Nat.le_of_ble_eq_true rfl) (Nat.le_of_ble_eq_true rfl) dX9_takeSeat_35
set_option maxHeartbeats 4000000 in
set_option maxRecDepth 100000 in
theorem s_X9_takeLineEnd {l : Launch} {G : Gc} (qt : Nat) (qt_keyCodes : Nat) (qt_bytes : Nat) (qt_size : Int32) (qt_most : Int32) (qt_from : Int32) (qt_kind : Int32) (qt_place : Int32) (qt_value : Int32) (qt_code : Int64) (qt_key : Int32) (qt_fault : Int32) (qt_faultPlace : Int32) (qt_keyCodes_c : Nat → Int64) (qt_bytes_c : Nat → Int32) (hi_qt_size : 0 ≤ qt_size.toInt ∧ qt_size.toInt ≤ 940) : Ci l yX9_takeLineEnd cX9_takeLineEnd 1 (some .boolean) 3 0 0 G [.ref qt] [(qt, .inr (8, [.ref qt_keyCodes, .ref qt_bytes, .int qt_size, .int qt_most, .int qt_from, .int qt_kind, .int qt_place, .int qt_value, .long qt_code, .int qt_key, .int qt_fault, .int qt_faultPlace])), (qt_keyCodes, eJ G 27 qt_keyCodes_c), (qt_bytes, eB G 940 qt_bytes_c)] (fun (r9 : Int32) (u9 : va_W) => (∃ (x0_qt_from : Int32) (x1_qt_kind : Int32) (x2_qt_place : Int32) (x3_qt_value : Int32) (x4_qt_code : Int64) (x5_qt_key : Int32) (x6_qt_fault : Int32) (x7_qt_faultPlace : Int32), r9 = 0 ∧ u9 = [(qt, .inr (8, [.ref qt_keyCodes, .ref qt_bytes, .int qt_size, .int qt_most, .int x0_qt_from, .int x1_qt_kind, .int x2_qt_place, .int x3_qt_value, .long x4_qt_code, .int x5_qt_key, .int x6_qt_fault, .int x7_qt_faultPlace])), (qt_keyCodes, eJ G 27 qt_keyCodes_c), (qt_bytes, eB G 940 qt_bytes_c)] ∧ (0 ≤ x1_qt_kind.toInt ∧ x1_qt_kind.toInt ≤ 5)) ∨ (∃ (x0_qt_from : Int32) (x1_qt_kind : Int32) (x2_qt_place : Int32) (x3_qt_value : Int32) (x4_qt_code : Int64) (x5_qt_key : Int32), r9 = 1 ∧ u9 = [(qt, .inr (8, [.ref qt_keyCodes, .ref qt_bytes, .int qt_size, .int qt_most, .int x0_qt_from, .int x1_qt_kind, .int x2_qt_place, .int x3_qt_value, .long x4_qt_code, .int x5_qt_key, .int qt_fault, .int qt_faultPlace])), (qt_keyCodes, eJ G 27 qt_keyCodes_c), (qt_bytes, eB G 940 qt_bytes_c)] ∧ (0 ≤ x1_qt_kind.toInt ∧ x1_qt_kind.toInt ≤ 5))) := by
  refine Ci.ofQ (by decide) (Nat.le_of_ble_eq_true rfl) ?_
  intro p e s m below meth c ls A args Q hQ B hw hl
  have C : CallFix p m c cX9_takeLineEnd 1 s args gw "LanternState$Tape" := B.1
  have hl : lv_has ls 1 [(0, .ref qt)] := hl
  refine lv_aload_n C.1 C.2.1 dX9_takeLineEnd_0 rfl (lv_at hl 0 rfl) ?_
  refine x_callvV (As := []) (rest := []) (wr := []) C hw (s_X9_next qt qt_keyCodes qt_bytes qt_size qt_most qt_from qt_kind qt_place qt_value qt_code qt_key qt_fault qt_faultPlace qt_keyCodes_c qt_bytes_c (by omega)) mwX9_next kw554 [0, 1, 2] [] rfl rfl rfl rfl (by decide) 0 rfl rfl rfl rfl hl.1 rfl (Nat.le_of_ble_eq_true rfl) ⟨(Nat.le_of_ble_eq_true rfl), (Nat.le_of_ble_eq_true rfl)⟩ ⟨(Nat.le_of_ble_eq_true rfl), (Nat.le_of_ble_eq_true rfl)⟩ dX9_takeLineEnd_1 (fun  u9 H locs hp9 hw => ?_)
  obtain ⟨x1, x2, x3, x4, x5, x6, rfl, hf7⟩ := hp9
  have hw : Wd G s A [(qt, .inr (8, [.ref qt_keyCodes, .ref qt_bytes, .int qt_size, .int qt_most, .int x1, .int x2, .int x3, .int x4, .long x5, .int x6, .int qt_fault, .int qt_faultPlace])), (qt_keyCodes, eJ G 27 qt_keyCodes_c), (qt_bytes, eB G 940 qt_bytes_c)] H _ := hw
  refine lv_aload_n C.1 C.2.1 dX9_takeLineEnd_4 rfl (lv_at hl 0 rfl) ?_
  refine lv_bipush (v := 59) C.1 C.2.1 dX9_takeLineEnd_5 (by decide) ?_
  refine x_calliV (As := [.int 59]) (rest := []) (wr := [(qt_keyCodes, eJ G 27 qt_keyCodes_c), (qt_bytes, eB G 940 qt_bytes_c)]) C hw (s_X9_isSign qt 59 qt_keyCodes qt_bytes qt_size qt_most x1 x2 x3 x4 x5 x6 qt_fault qt_faultPlace) mwX9_isSign kw618 [0] [1, 2] rfl rfl rfl rfl (by decide) 0 rfl rfl rfl rfl hl.1 rfl (Nat.le_of_ble_eq_true rfl) ⟨(Nat.le_of_ble_eq_true rfl), (Nat.le_of_ble_eq_true rfl)⟩ ⟨(Nat.le_of_ble_eq_true rfl), (Nat.le_of_ble_eq_true rfl)⟩ dX9_takeLineEnd_7 (fun r8 u9 H locs hp9 hw => ?_)
  rcases hp9 with ⟨rfl, rfl⟩ | ⟨rfl, rfl⟩
  · skip
    have hw : Wd G s A [(qt_keyCodes, eJ G 27 qt_keyCodes_c), (qt_bytes, eB G 940 qt_bytes_c), (qt, .inr (8, [.ref qt_keyCodes, .ref qt_bytes, .int qt_size, .int qt_most, .int x1, .int x2, .int x3, .int x4, .long x5, .int x6, .int qt_fault, .int qt_faultPlace]))] H _ := hw
    refine lv_if_ne (tgt := 21) C.1 C.2.1 dX9_takeLineEnd_10 (by decide) (fun h9 => absurd (by decide) h9) (fun _ => ?_)
    refine lv_aload_n C.1 C.2.1 dX9_takeLineEnd_13 rfl (lv_at hl 0 rfl) ?_
    refine lv_iconst (v := 1) C.1 C.2.1 dX9_takeLineEnd_14 (by decide) ?_
    refine x_calliV (As := [.int 1]) (rest := []) (wr := [(qt_keyCodes, eJ G 27 qt_keyCodes_c), (qt_bytes, eB G 940 qt_bytes_c)]) C hw (s_X9_fail qt 1 qt_keyCodes qt_bytes qt_size qt_most x1 x2 x3 x4 x5 x6 qt_fault qt_faultPlace) mwX9_fail kw555 [2] [0, 1] rfl rfl rfl rfl (by decide) 0 rfl rfl rfl rfl hl.1 rfl (Nat.le_of_ble_eq_true rfl) ⟨(Nat.le_of_ble_eq_true rfl), (Nat.le_of_ble_eq_true rfl)⟩ ⟨(Nat.le_of_ble_eq_true rfl), (Nat.le_of_ble_eq_true rfl)⟩ dX9_takeLineEnd_15 (fun r9 u9 H locs hp9 hw => ?_)
    obtain ⟨x10, x11, rfl, rfl⟩ := hp9
    have hw : Wd G s A [(qt_keyCodes, eJ G 27 qt_keyCodes_c), (qt_bytes, eB G 940 qt_bytes_c), (qt, .inr (8, [.ref qt_keyCodes, .ref qt_bytes, .int qt_size, .int qt_most, .int x1, .int x2, .int x3, .int x4, .long x5, .int x6, .int x10, .int x11]))] H _ := hw
    refine lv_if_eq (tgt := 25) C.1 C.2.1 dX9_takeLineEnd_18 (by decide) (fun _ => ?_) (fun h9 => absurd (by decide) h9)
    refine lv_iconst (v := 0) C.1 C.2.1 dX9_takeLineEnd_25 (by decide) ?_
    have hw := hw.sub (w' := [(qt, .inr (8, [.ref qt_keyCodes, .ref qt_bytes, .int qt_size, .int qt_most, .int x1, .int x2, .int x3, .int x4, .long x5, .int x6, .int x10, .int x11])), (qt_keyCodes, eJ G 27 qt_keyCodes_c), (qt_bytes, eB G 940 qt_bytes_c)]) [2, 0, 1] rfl rfl
    exact x_retzQ hQ B hw rfl (Or.inl ⟨x1, x2, x3, x4, x5, x6, x10, x11, rfl, rfl, (by omega)⟩) (Nat.le_of_ble_eq_true rfl) (Nat.le_of_ble_eq_true rfl) dX9_takeLineEnd_26
  · skip
    have hw : Wd G s A [(qt_keyCodes, eJ G 27 qt_keyCodes_c), (qt_bytes, eB G 940 qt_bytes_c), (qt, .inr (8, [.ref qt_keyCodes, .ref qt_bytes, .int qt_size, .int qt_most, .int x1, .int x2, .int x3, .int x4, .long x5, .int x6, .int qt_fault, .int qt_faultPlace]))] H _ := hw
    refine lv_if_ne (tgt := 21) C.1 C.2.1 dX9_takeLineEnd_10 (by decide) (fun _ => ?_) (fun h9 => absurd h9 (by decide))
    refine lv_iconst (v := 1) C.1 C.2.1 dX9_takeLineEnd_21 (by decide) ?_
    refine lv_goto (tgt := 26) C.1 C.2.1 dX9_takeLineEnd_22 (by decide) ?_
    have hw := hw.sub (w' := [(qt, .inr (8, [.ref qt_keyCodes, .ref qt_bytes, .int qt_size, .int qt_most, .int x1, .int x2, .int x3, .int x4, .long x5, .int x6, .int qt_fault, .int qt_faultPlace])), (qt_keyCodes, eJ G 27 qt_keyCodes_c), (qt_bytes, eB G 940 qt_bytes_c)]) [2, 0, 1] rfl rfl
    exact x_retzQ hQ B hw rfl (Or.inr ⟨x1, x2, x3, x4, x5, x6, rfl, rfl, (by omega)⟩) (Nat.le_of_ble_eq_true rfl) (Nat.le_of_ble_eq_true rfl) dX9_takeLineEnd_26
set_option maxHeartbeats 4000000 in
set_option maxRecDepth 100000 in
theorem s_X9_takeKey {l : Launch} {G : Gc} (qt : Nat) (a1 : Int32) (qt_keyCodes : Nat) (qt_bytes : Nat) (qt_size : Int32) (qt_most : Int32) (qt_from : Int32) (qt_kind : Int32) (qt_place : Int32) (qt_value : Int32) (qt_code : Int64) (qt_key : Int32) (qt_fault : Int32) (qt_faultPlace : Int32) (qt_keyCodes_c : Nat → Int64) (qt_bytes_c : Nat → Int32) (hi_qt_size : 0 ≤ qt_size.toInt ∧ qt_size.toInt ≤ 940) : Ci l yX9_takeKey cX9_takeKey 2 (some .boolean) 3 0 0 G [.ref qt, .int a1] [(qt, .inr (8, [.ref qt_keyCodes, .ref qt_bytes, .int qt_size, .int qt_most, .int qt_from, .int qt_kind, .int qt_place, .int qt_value, .long qt_code, .int qt_key, .int qt_fault, .int qt_faultPlace])), (qt_keyCodes, eJ G 27 qt_keyCodes_c), (qt_bytes, eB G 940 qt_bytes_c)] (fun (r9 : Int32) (u9 : va_W) => (∃ (x0_qt_from : Int32) (x1_qt_kind : Int32) (x2_qt_place : Int32) (x3_qt_value : Int32) (x4_qt_code : Int64) (x5_qt_key : Int32) (x6_qt_fault : Int32) (x7_qt_faultPlace : Int32), r9 = 0 ∧ u9 = [(qt, .inr (8, [.ref qt_keyCodes, .ref qt_bytes, .int qt_size, .int qt_most, .int x0_qt_from, .int x1_qt_kind, .int x2_qt_place, .int x3_qt_value, .long x4_qt_code, .int x5_qt_key, .int x6_qt_fault, .int x7_qt_faultPlace])), (qt_keyCodes, eJ G 27 qt_keyCodes_c), (qt_bytes, eB G 940 qt_bytes_c)] ∧ (0 ≤ x1_qt_kind.toInt ∧ x1_qt_kind.toInt ≤ 5)) ∨ (∃ (x0_qt_from : Int32) (x1_qt_kind : Int32) (x2_qt_place : Int32) (x3_qt_value : Int32) (x4_qt_code : Int64) (x5_qt_key : Int32), r9 = 1 ∧ u9 = [(qt, .inr (8, [.ref qt_keyCodes, .ref qt_bytes, .int qt_size, .int qt_most, .int x0_qt_from, .int x1_qt_kind, .int x2_qt_place, .int x3_qt_value, .long x4_qt_code, .int x5_qt_key, .int qt_fault, .int qt_faultPlace])), (qt_keyCodes, eJ G 27 qt_keyCodes_c), (qt_bytes, eB G 940 qt_bytes_c)] ∧ (0 ≤ x1_qt_kind.toInt ∧ x1_qt_kind.toInt ≤ 5))) := by
  refine Ci.ofQ (by decide) (Nat.le_of_ble_eq_true rfl) ?_
  intro p e s m below meth c ls A args Q hQ B hw hl
  have C : CallFix p m c cX9_takeKey 2 s args gw "LanternState$Tape" := B.1
  have hl : lv_has ls 2 [(0, .ref qt), (1, .int a1)] := hl
  refine lv_aload_n C.1 C.2.1 dX9_takeKey_0 rfl (lv_at hl 0 rfl) ?_
  refine x_callvV (As := []) (rest := []) (wr := []) C hw (s_X9_next qt qt_keyCodes qt_bytes qt_size qt_most qt_from qt_kind qt_place qt_value qt_code qt_key qt_fault qt_faultPlace qt_keyCodes_c qt_bytes_c (by omega)) mwX9_next kw554 [0, 1, 2] [] rfl rfl rfl rfl (by decide) 0 rfl rfl rfl rfl hl.1 rfl (Nat.le_of_ble_eq_true rfl) ⟨(Nat.le_of_ble_eq_true rfl), (Nat.le_of_ble_eq_true rfl)⟩ ⟨(Nat.le_of_ble_eq_true rfl), (Nat.le_of_ble_eq_true rfl)⟩ dX9_takeKey_1 (fun  u9 H locs hp9 hw => ?_)
  obtain ⟨x1, x2, x3, x4, x5, x6, rfl, hf7⟩ := hp9
  have hw : Wd G s A [(qt, .inr (8, [.ref qt_keyCodes, .ref qt_bytes, .int qt_size, .int qt_most, .int x1, .int x2, .int x3, .int x4, .long x5, .int x6, .int qt_fault, .int qt_faultPlace])), (qt_keyCodes, eJ G 27 qt_keyCodes_c), (qt_bytes, eB G 940 qt_bytes_c)] H _ := hw
  refine lv_aload_n C.1 C.2.1 dX9_takeKey_4 rfl (lv_at hl 0 rfl) ?_
  refine x_get C hw iwX9 8 rfl 0 rfl 9 (by decide) kw109 rfl dX9_takeKey_5 ?_
  refine lv_iload_n C.1 C.2.1 dX9_takeKey_8 rfl (lv_at hl 1 rfl) ?_
  refine lv_icmp_eq (tgt := 20) C.1 C.2.1 dX9_takeKey_9 (by decide) (fun c8 => ?_) (fun c8 => ?_)
  · skip
    have c8 : x6.toInt = a1.toInt := i_eqT (X := x6.toInt) (Y := a1.toInt) rfl rfl c8
    have bc8_x6 := i_bd x6
    have bc8_a1 := i_bd a1
    refine lv_iconst (v := 1) C.1 C.2.1 dX9_takeKey_20 (by decide) ?_
    refine lv_goto (tgt := 25) C.1 C.2.1 dX9_takeKey_21 (by decide) ?_
    exact x_retzQ hQ B hw rfl (Or.inr ⟨x1, x2, x3, x4, x5, x6, rfl, rfl, (by omega)⟩) (Nat.le_of_ble_eq_true rfl) (Nat.le_of_ble_eq_true rfl) dX9_takeKey_25
  · skip
    have c8 : x6.toInt ≠ a1.toInt := i_eqF (X := x6.toInt) (Y := a1.toInt) rfl rfl c8
    have bc8_x6 := i_bd x6
    have bc8_a1 := i_bd a1
    refine lv_aload_n C.1 C.2.1 dX9_takeKey_12 rfl (lv_at hl 0 rfl) ?_
    refine lv_iconst (v := 1) C.1 C.2.1 dX9_takeKey_13 (by decide) ?_
    refine x_calliV (As := [.int 1]) (rest := []) (wr := [(qt_keyCodes, eJ G 27 qt_keyCodes_c), (qt_bytes, eB G 940 qt_bytes_c)]) C hw (s_X9_fail qt 1 qt_keyCodes qt_bytes qt_size qt_most x1 x2 x3 x4 x5 x6 qt_fault qt_faultPlace) mwX9_fail kw555 [0] [1, 2] rfl rfl rfl rfl (by decide) 0 rfl rfl rfl rfl hl.1 rfl (Nat.le_of_ble_eq_true rfl) ⟨(Nat.le_of_ble_eq_true rfl), (Nat.le_of_ble_eq_true rfl)⟩ ⟨(Nat.le_of_ble_eq_true rfl), (Nat.le_of_ble_eq_true rfl)⟩ dX9_takeKey_14 (fun r9 u9 H locs hp9 hw => ?_)
    obtain ⟨x10, x11, rfl, rfl⟩ := hp9
    have hw : Wd G s A [(qt_keyCodes, eJ G 27 qt_keyCodes_c), (qt_bytes, eB G 940 qt_bytes_c), (qt, .inr (8, [.ref qt_keyCodes, .ref qt_bytes, .int qt_size, .int qt_most, .int x1, .int x2, .int x3, .int x4, .long x5, .int x6, .int x10, .int x11]))] H _ := hw
    refine lv_if_eq (tgt := 24) C.1 C.2.1 dX9_takeKey_17 (by decide) (fun _ => ?_) (fun h9 => absurd (by decide) h9)
    refine lv_iconst (v := 0) C.1 C.2.1 dX9_takeKey_24 (by decide) ?_
    have hw := hw.sub (w' := [(qt, .inr (8, [.ref qt_keyCodes, .ref qt_bytes, .int qt_size, .int qt_most, .int x1, .int x2, .int x3, .int x4, .long x5, .int x6, .int x10, .int x11])), (qt_keyCodes, eJ G 27 qt_keyCodes_c), (qt_bytes, eB G 940 qt_bytes_c)]) [2, 0, 1] rfl rfl
    exact x_retzQ hQ B hw rfl (Or.inl ⟨x1, x2, x3, x4, x5, x6, x10, x11, rfl, rfl, (by omega)⟩) (Nat.le_of_ble_eq_true rfl) (Nat.le_of_ble_eq_true rfl) dX9_takeKey_25
